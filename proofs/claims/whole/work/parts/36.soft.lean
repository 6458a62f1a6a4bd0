/-! ===== the relation kept: records, counts and ready ticks alone; one bag moved ===== -/
set_option maxHeartbeats 2000000 in
theorem soft_RW {μ μ' ν : zM} {i j : Nat} {S : zSt} {w w' : Nat → Int32} {B t hd C now O : Nat} {st : Nat → Nat} {Q : Nat → List Nat} (hS : okS S) (h : RW μ ν i j S w B t hd C now O st Q) (fr : FrW i μ μ')
    (xk : ∀ k z, k ≠ 57 → k ≠ 59 → ¬ (40 ≤ k ∧ k ≤ 42) → μ'.1 k i z = μ.1 k i z) (xh : ∀ k z, 40 ≤ k → k ≤ 42 → μ'.1 k (2 * i + 1) z = μ.1 k (2 * i + 1) z)
    (xr : ∀ p, p < sn S → rcR (μ'.1 40 (2 * i) (zslot (sn S) t p)) (μ'.1 42 (2 * i) (zslot (sn S) t p)) (μ'.1 41 (2 * i) (zslot (sn S) t p)) (w' (150 + p)) (w' (210 + p)) (w' (270 + p)) (w' (330 + p)))
    (xc : ∀ k, k < 8 → w' (3 + k) = μ'.1 57 i k) (xd : ∀ p, p < sn S → μ'.1 59 i p = w' (15 + p))
    (wk : ∀ k, ¬ (3 ≤ k ∧ k < 11) → ¬ (15 ≤ k ∧ k < 75) → ¬ (150 ≤ k ∧ k < 390) → w' k = w k) : RW μ' ν i j S w' B t hd C now O st Q := by
  obtain ⟨⟨h1, h2, h3, h4, h5, h6, h7, h8, h9, h10, h11, h12, h13⟩, hring, hcon, hbag, hlb, hque, ⟨hrd, hw6, hw4⟩, hO, hO2, hord⟩ := h
  have hn3 := hS.1
  have hn6 := hS.2.1
  have wb : ∀ b c, c < 8 → w' (400 + 8 * b + c) = w (400 + 8 * b + c) := fun b c hc => wk _ (by omega) (by omega) (by omega)
  have wb0 : ∀ b, w' (400 + 8 * b) = w (400 + 8 * b) := fun b => wb b 0 (by decide)
  have w9 : ∀ p, p < 60 → w' (90 + p) = w (90 + p) := fun p hp => wk _ (by omega) (by omega) (by omega)
  have e9 : ∀ z, μ'.1 9 i z = μ.1 9 i z := fun z => xk 9 z (by decide) (by decide) (by decide)
  refine ⟨⟨by rw [fr.1]; exact h1, h2, by rw [e9]; exact h3, h4, by rw [e9]; exact h5, by rw [wk 0 (by decide) (by decide) (by decide)]; exact h6, h7, by rw [e9]; exact h8, fun k hk => by rw [wk _ (by omega) (by omega) (by omega)]; exact h9 k hk, xc, h11, by rw [xk 0 0 (by decide) (by decide) (by decide)]; exact h12, by rw [wk 1 (by decide) (by decide) (by decide)]; exact h13⟩, fun p hp => ⟨?_, xr p hp⟩, fun p hp r hr hpr => ?_, fun b hb => ?_, fun b hb => ?_, fun q hq => ?_, ⟨xd, fun k hk => ?_, fun k hk => ?_⟩, hO, by rw [wk 2 (by decide) (by decide) (by decide)]; exact hO2, fun b hb => ?_⟩
  · rw [xk 58 _ (by decide) (by decide) (by decide), w9 p (by omega)]
    exact (hring p hp).1
  · rw [w9 p (by omega)] at hpr
    obtain ⟨c1, c2, c3⟩ := hcon p hp r hr hpr
    exact ⟨c1, c2, by rw [wb r 1 (by decide)]; exact c3⟩
  · obtain ⟨g0, g1, g2, g3, g4, g5, g6, g7, g8⟩ := hbag b hb
    refine ⟨g0, by rw [xk 26 _ (by decide) (by decide) (by decide)]; exact g1, by rw [wb0]; exact g2, fun hs => ?_, fun hs => by rw [wb b 1 (by decide)]; exact g4 hs, fun a1 a2 a3 => by rw [wb b 1 (by decide), xk 27 _ (by decide) (by decide) (by decide)]; exact g5 a1 a2 a3, fun hs => ?_, fun hs => ?_, fun hs => ?_⟩
    · obtain ⟨p, f1, f2, f3, f4⟩ := g3 hs
      exact ⟨p, f1, by rw [wb b 1 (by decide)]; exact f2, by rw [xk 27 _ (by decide) (by decide) (by decide)]; exact f3, by rw [w9 p (by omega)]; exact f4⟩
    · rw [xh 40 b (by decide) (by decide), xh 41 b (by decide) (by decide), xh 42 b (by decide) (by decide), wb b 3 (by decide), wb b 4 (by decide), wb b 5 (by decide)]; exact g6 hs
    · rw [xh 40 b (by decide) (by decide), xh 41 b (by decide) (by decide), xh 42 b (by decide) (by decide)]; exact g7 hs
    · rw [wb b 6 (by decide), wb b 7 (by decide), xk 28 _ (by decide) (by decide) (by decide), xk 29 _ (by decide) (by decide) (by decide)]; exact g8 hs
  · obtain ⟨f1, f2, f3⟩ := hlb b hb
    exact ⟨fun c hc => by rw [xk (21 + c) b (by omega) (by omega) (by omega)]; exact f1 c hc, by rw [xk 21 b (by decide) (by decide) (by decide)]; exact f2, by rw [xk 23 b (by decide) (by decide) (by decide)]; exact f3⟩
  · obtain ⟨ra, rb, rc⟩ := hque q hq
    refine ⟨QX_congr (fun k s k1 k2 => xk k s (by omega) (by omega) (by omega)) ra, fun b => ?_, ?_⟩
    · unfold inM
      rw [wb0, wb b 1 (by decide)]
      exact rb b
    · refine rc.imp (fun {a c} hac => ?_)
      unfold ordM at hac ⊢
      rw [wb a 2 (by decide), wb c 2 (by decide)]
      exact hac
  · have := hS.2.2.2.2.2.2.2.1 6
    rw [xk 60 _ (by decide) (by decide) (by decide), wk _ (by omega) (by omega) (by omega)]; exact hw6 k hk
  · have := hS.2.2.2.2.2.2.2.1 4
    rw [xk 60 _ (by decide) (by decide) (by decide), xk 61 _ (by decide) (by decide) (by decide), wk _ (by omega) (by omega) (by omega), wk _ (by omega) (by omega) (by omega)]; exact hw4 k hk
  · obtain ⟨o, f1, f2⟩ := hord b hb
    refine ⟨o, f1, ?_⟩
    unfold ordM at f2 ⊢
    rw [wb b 2 (by decide)]
    exact f2
/-- one bag b goes to state s1; a queue loses it or gets it as its last -/
def quMv (Q Q' : Nat → List Nat) (S : zSt) (w' : Nat → Int32) (b q : Nat) : Prop := (b ∉ Q' q ∧ (Q' q).Sublist (Q q) ∧ (∀ b', b' ∈ Q q → b' ≠ b → b' ∈ Q' q) ∧ ¬ inM w' (nI (stOf (ssrt S q))) (nI (plOf S q)) b) ∨ (Q' q = Q q ++ [b] ∧ b ∉ Q q ∧ inM w' (nI (stOf (ssrt S q))) (nI (plOf S q)) b)
set_option maxHeartbeats 2000000 in
theorem move_RW {μ μ' ν ν' : zM} {i j : Nat} {S : zSt} {w w' : Nat → Int32} {B t hd C now O : Nat} {st : Nat → Nat} {Q Q' : Nat → List Nat} {b C' s1 : Nat} (hS : okS S) (h : RW μ ν i j S w B t hd C now O st Q) (fr : FrW i μ μ') (hB : B < 1000000000) (hb : b < C') (hC' : C' ≤ 100) (hCC : C ≤ C') (hbC : ∀ b', b' < C' → b' ≠ b → b' < C)
    (x9 : ∀ z, μ'.1 9 i z = μ.1 9 i z) (x0 : μ'.1 0 i 0 = nI C') (w1 : w' 1 = nI C') (xc : ∀ k, k < 8 → w' (3 + k) = μ'.1 57 i k) (xring : ringR μ' i (sn S) t w')
    (xrd : ∀ p, p < sn S → ∀ r, r < 100 → r ≠ b → (w' (90 + p) = nI r ↔ w (90 + p) = nI r)) (xrb : ∀ p, p < sn S → w' (90 + p) = nI b → s1 = 1 ∧ w' (400 + 8 * b + 1) = nI p) (xb : bagR μ' i (sn S) t b w' s1)
    (xs : ∀ k z, 26 ≤ k → k ≤ 29 → z ≠ b → μ'.1 k i z = μ.1 k i z) (xh : ∀ k z, 40 ≤ k → k ≤ 42 → z ≠ b → μ'.1 k (2 * i + 1) z = μ.1 k (2 * i + 1) z) (xl : ∀ k z, 21 ≤ k → k ≤ 25 → z ≠ b → μ'.1 k i z = μ.1 k i z) (xν : ∀ k z, 68 ≤ k → k ≤ 72 → z ≠ b → ν'.1 k 0 z = ν.1 k 0 z) (xlb : lblR μ' ν' i b)
    (wb : ∀ b' c, b' ≠ b → c < 8 → w' (400 + 8 * b' + c) = w (400 + 8 * b' + c)) (wl : ∀ k, k = 0 ∨ (11 ≤ k ∧ k < 15) → w' k = w k)
    (xq : ∀ q, keeps S q → QX μ' i q (Q' q) ∧ quMv Q Q' S w' b q)
    (xrw : (∀ p, p < sn S → μ'.1 59 i p = w' (15 + p)) ∧ (∀ k, k < scnt S 6 → μ'.1 60 i (spos S 6 k) = w' (79 + k)) ∧ (∀ k, k < scnt S 4 → μ'.1 60 i (spos S 4 k) = w' (75 + k) ∧ ∃ v, 1 ≤ v ∧ v ≤ 3 ∧ μ'.1 61 i (spos S 4 k) = nI v ∧ w' (77 + k) = nI (v - 1)))
    (wo : w' (400 + 8 * b + 2) = w 2) (wo2 : w' 2 = w 2 + 1) : RW μ' ν' i j S w' (B + 1) t hd C' now (O + 1) (stUp st b s1) Q' := by
  obtain ⟨⟨h1, h2, h3, h4, h5, h6, h7, h8, h9, h10, h11, h12, h13⟩, hring, hcon, hbag, hlb, hque, ⟨hrd, hw6, hw4⟩, hO, hO2, hord⟩ := h
  have hn3 := hS.1
  have hn6 := hS.2.1
  have wb0 : ∀ b', b' ≠ b → w' (400 + 8 * b') = w (400 + 8 * b') := fun b' e => wb b' 0 e (by decide)
  have hst' : ∀ b', b' ≠ b → stUp st b s1 b' = st b' := fun b' a => if_neg a
  have hstb' : stUp st b s1 b = s1 := if_pos rfl
  refine ⟨⟨by rw [fr.1]; exact h1, h2, by rw [x9]; exact h3, h4, by rw [x9]; exact h5, by rw [wl 0 (by decide)]; exact h6, h7, by rw [x9]; exact h8, fun k hk => by rw [wl _ (by omega)]; exact h9 k hk, xc, hC', x0, w1⟩, xring, fun p hp r hr hpr => ?_, fun b' hb' => ?_, fun b' hb' => ?_, fun q hq => ?_, xrw, by omega, by rw [wo2, hO2, nI_1], fun b' hb' => ?_⟩
  · by_cases e : r = b
    · subst e
      obtain ⟨c1, c2⟩ := xrb p hp hpr
      exact ⟨hb, hstb'.trans c1, c2⟩
    · obtain ⟨c1, c2, c3⟩ := hcon p hp r hr ((xrd p hp r hr e).mp hpr)
      exact ⟨by omega, by rw [hst' r e]; exact c2, by rw [wb r 1 e (by decide)]; exact c3⟩
  · by_cases e : b' = b
    · subst e
      rw [hstb']
      exact xb
    · have hb'C := hbC b' hb' e
      rw [hst' b' e]
      obtain ⟨g0, g1, g2, g3, g4, g5, g6, g7, g8⟩ := hbag b' hb'C
      refine ⟨g0, by rw [xs 26 _ (by decide) (by decide) e]; exact g1, by rw [wb0 b' e]; exact g2, fun hs => ?_, fun hs => by rw [wb b' 1 e (by decide)]; exact g4 hs, fun a1 a2 a3 => by rw [wb b' 1 e (by decide), xs 27 _ (by decide) (by decide) e]; exact g5 a1 a2 a3, fun hs => ?_, fun hs => ?_, fun hs => ?_⟩
      · obtain ⟨p, f1, f2, f3, f4⟩ := g3 hs
        exact ⟨p, f1, by rw [wb b' 1 e (by decide)]; exact f2, by rw [xs 27 _ (by decide) (by decide) e]; exact f3, (xrd p f1 b' (by omega) e).mpr f4⟩
      · rw [xh 40 b' (by decide) (by decide) e, xh 41 b' (by decide) (by decide) e, xh 42 b' (by decide) (by decide) e, wb b' 3 e (by decide), wb b' 4 e (by decide), wb b' 5 e (by decide)]; exact g6 hs
      · rw [xh 40 b' (by decide) (by decide) e, xh 41 b' (by decide) (by decide) e, xh 42 b' (by decide) (by decide) e]; exact g7 hs
      · rw [wb b' 6 e (by decide), wb b' 7 e (by decide), xs 28 _ (by decide) (by decide) e, xs 29 _ (by decide) (by decide) e]; exact g8 hs
  · by_cases e : b' = b
    · subst e
      exact xlb
    · obtain ⟨f1, f2, f3⟩ := hlb b' (hbC b' hb' e)
      exact ⟨fun c hc => by rw [xl (21 + c) b' (by omega) (by omega) e, xν (68 + c) b' (by omega) (by omega) e]; exact f1 c hc, by rw [xl 21 b' (by decide) (by decide) e]; exact f2, by rw [xl 23 b' (by decide) (by decide) e]; exact f3⟩
  · obtain ⟨y1, y2⟩ := xq q hq
    obtain ⟨ra, rb, rc⟩ := hque q hq
    have hin : ∀ b' x y, b' ≠ b → (inM w' x y b' ↔ inM w x y b') := fun b' x y e => by unfold inM; rw [wb0 b' e, wb b' 1 e (by decide)]
    have hor : ∀ a, a ≠ b → ordM w' a = ordM w a := fun a e => by unfold ordM; rw [wb a 2 e (by decide)]
    rcases y2 with ⟨z1, z2, z3, z4⟩ | ⟨z1, z2, z3⟩
    · refine ⟨y1, fun b' => ?_, ?_⟩
      · by_cases e : b' = b
        · subst e
          exact ⟨fun y => absurd y z1, fun y => absurd y.2 z4⟩
        · rw [hin b' _ _ e]
          refine ⟨fun y => ?_, fun y => z3 b' ((rb b').mpr ⟨hbC b' y.1 e, y.2⟩) e⟩
          have := (rb b').mp (z2.subset y)
          exact ⟨by omega, this.2⟩
      · refine (rc.sublist z2).imp_of_mem (fun {a c} ha hc hac => ?_)
        rw [hor a (fun y => z1 (by rw [← y]; exact ha)), hor c (fun y => z1 (by rw [← y]; exact hc))]
        exact hac
    · rw [z1] at y1 ⊢
      refine ⟨y1, fun b' => ?_, ?_⟩
      · by_cases e : b' = b
        · subst e
          exact ⟨fun _ => ⟨hb, z3⟩, fun _ => by simp⟩
        · rw [hin b' _ _ e, List.mem_append, List.mem_singleton]
          refine ⟨fun y => ?_, fun y => Or.inl ((rb b').mpr ⟨hbC b' y.1 e, y.2⟩)⟩
          have := (rb b').mp (y.resolve_right e)
          exact ⟨by omega, this.2⟩
      · unfold byOrd
        rw [List.pairwise_append]
        refine ⟨rc.imp_of_mem (fun {a c} ha hc hac => ?_), List.pairwise_singleton _ _, fun a ha c hc => ?_⟩
        · rw [hor a (fun y => z2 (by rw [← y]; exact ha)), hor c (fun y => z2 (by rw [← y]; exact hc))]
          exact hac
        · rw [List.mem_singleton.mp hc, hor a (fun y => z2 (by rw [← y]; exact ha))]
          obtain ⟨o, f1, f2⟩ := hord a ((rb a).mp ha).1
          rw [f2, show ordM w' b = nI O from wo.trans hO2]
          exact nI_lt f1 (by omega)
  · by_cases e : b' = b
    · subst e
      exact ⟨O, by omega, wo.trans hO2⟩
    · obtain ⟨o, f1, f2⟩ := hord b' (hbC b' hb' e)
      refine ⟨o, by omega, ?_⟩
      unfold ordM at f2 ⊢
      rw [wb b' 2 e (by decide)]
      exact f2
