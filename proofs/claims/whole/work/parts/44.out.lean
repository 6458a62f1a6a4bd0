/-! ===== a bag leaves a queue: the relation kept ===== -/
set_option maxHeartbeats 2000000 in
theorem work_RW {μ μ' ν : zM} {i j : Nat} {S : zSt} {w w' : Nat → Int32} {B t hd C now O : Nat} {st : Nat → Nat} {Q : Nat → List Nat} (hS : okS S) (h : RW μ ν i j S w B t hd C now O st Q) (fr : FrW i μ μ') (xk : ∀ k a z, k ≠ 60 → k ≠ 61 → μ'.1 k a z = μ.1 k a z) (wk : ∀ x, ¬ (75 ≤ x ∧ x < 90) → w' x = w x)
    (x6 : ∀ k, k < scnt S 6 → μ'.1 60 i (spos S 6 k) = w' (79 + k)) (x4 : ∀ k, k < scnt S 4 → μ'.1 60 i (spos S 4 k) = w' (75 + k) ∧ ∃ v, 1 ≤ v ∧ v ≤ 3 ∧ μ'.1 61 i (spos S 4 k) = nI v ∧ w' (77 + k) = nI (v - 1)) : RW μ' ν i j S w' B t hd C now O st Q := by
  obtain ⟨⟨h1, h2, h3, h4, h5, h6, h7, h8, h9, h10, h11, h12, h13⟩, hring, hcon, hbag, hlb, hque, ⟨hrd, hw6, hw4⟩, hO, hO2, hord⟩ := h
  have hn3 := hS.1
  have hn6 := hS.2.1
  have wb : ∀ b c, c < 8 → w' (400 + 8 * b + c) = w (400 + 8 * b + c) := fun b c hc => wk _ (by omega)
  have wb0 : ∀ b, w' (400 + 8 * b) = w (400 + 8 * b) := fun b => wb b 0 (by decide)
  have e9 : ∀ z, μ'.1 9 i z = μ.1 9 i z := fun z => xk 9 i z (by decide) (by decide)
  refine ⟨⟨by rw [fr.1]; exact h1, h2, by rw [e9]; exact h3, h4, by rw [e9]; exact h5, by rw [wk 0 (by omega)]; exact h6, h7, by rw [e9]; exact h8, fun k hk => by rw [wk _ (by omega)]; exact h9 k hk, fun k hk => by rw [wk _ (by omega), xk 57 i k (by decide) (by decide)]; exact h10 k hk, h11, by rw [xk 0 i 0 (by decide) (by decide)]; exact h12, by rw [wk 1 (by omega)]; exact h13⟩, fun p hp => ?_, fun p hp r hr hpr => ?_, fun b hb => ?_, fun b hb => ?_, fun q hq => ?_, ⟨fun p hp => ?_, x6, x4⟩, hO, by rw [wk 2 (by omega)]; exact hO2, fun b hb => ?_⟩
  · rw [xk 58 _ _ (by decide) (by decide), xk 40 _ _ (by decide) (by decide), xk 41 _ _ (by decide) (by decide), xk 42 _ _ (by decide) (by decide), wk (90 + p) (by omega), wk (150 + p) (by omega), wk (210 + p) (by omega), wk (270 + p) (by omega), wk (330 + p) (by omega)]
    exact hring p hp
  · rw [wk (90 + p) (by omega)] at hpr
    obtain ⟨c1, c2, c3⟩ := hcon p hp r hr hpr
    exact ⟨c1, c2, by rw [wb r 1 (by decide)]; exact c3⟩
  · obtain ⟨g0, g1, g2, g3, g4, g5, g6, g7, g8⟩ := hbag b hb
    refine ⟨g0, by rw [xk 26 _ _ (by decide) (by decide)]; exact g1, by rw [wb0]; exact g2, fun hs => ?_, fun hs => by rw [wb b 1 (by decide)]; exact g4 hs, fun a1 a2 a3 => by rw [wb b 1 (by decide), xk 27 _ _ (by decide) (by decide)]; exact g5 a1 a2 a3, fun hs => ?_, fun hs => ?_, fun hs => ?_⟩
    · obtain ⟨p, f1, f2, f3, f4⟩ := g3 hs
      exact ⟨p, f1, by rw [wb b 1 (by decide)]; exact f2, by rw [xk 27 _ _ (by decide) (by decide)]; exact f3, by rw [wk (90 + p) (by omega)]; exact f4⟩
    · rw [xk 40 _ _ (by decide) (by decide), xk 41 _ _ (by decide) (by decide), xk 42 _ _ (by decide) (by decide), wb b 3 (by decide), wb b 4 (by decide), wb b 5 (by decide)]; exact g6 hs
    · rw [xk 40 _ _ (by decide) (by decide), xk 41 _ _ (by decide) (by decide), xk 42 _ _ (by decide) (by decide)]; exact g7 hs
    · rw [wb b 6 (by decide), wb b 7 (by decide), xk 28 _ _ (by decide) (by decide), xk 29 _ _ (by decide) (by decide)]; exact g8 hs
  · obtain ⟨f1, f2, f3⟩ := hlb b hb
    exact ⟨fun c hc => by rw [xk (21 + c) _ b (by omega) (by omega)]; exact f1 c hc, by rw [xk 21 _ b (by decide) (by decide)]; exact f2, by rw [xk 23 _ b (by decide) (by decide)]; exact f3⟩
  · obtain ⟨ra, rb, rc⟩ := hque q hq
    refine ⟨QX_congr (fun k s k1 k2 => xk k _ s (by omega) (by omega)) ra, fun b => ?_, ?_⟩
    · unfold inM
      rw [wb0, wb b 1 (by decide)]
      exact rb b
    · refine rc.imp (fun {a c} hac => ?_)
      unfold ordM at hac ⊢
      rw [wb a 2 (by decide), wb c 2 (by decide)]
      exact hac
  · rw [xk 59 _ _ (by decide) (by decide), wk _ (by omega)]; exact hrd p hp
  · obtain ⟨o, f1, f2⟩ := hord b hb
    refine ⟨o, f1, ?_⟩
    unfold ordM at f2 ⊢
    rw [wb b 2 (by decide)]
    exact f2
theorem spos_ne {S : zSt} (hS : okS S) {s k s' k' : Nat} (h1 : 1 ≤ s) (h6 : s ≤ 6) (hk : k < scnt S s) (h1' : 1 ≤ s') (h6' : s' ≤ 6) (hk' : k' < scnt S s') (hne : ¬ (s = s' ∧ k = k')) : spos S s k ≠ spos S s' k' := by
  intro z
  obtain ⟨a1, a2, a3⟩ := hS.2.2.2.2.2.2.2.2.1 s k h1 h6 hk
  obtain ⟨b1, b2, b3⟩ := hS.2.2.2.2.2.2.2.2.1 s' k' h1' h6' hk'
  rw [z] at a2 a3
  exact hne ⟨a2.symm.trans b2, a3.symm.trans b3⟩
theorem cnt_two {S : zSt} (hS : okS S) : scnt S 4 ≤ 2 ∧ scnt S 5 ≤ 2 ∧ scnt S 6 ≤ 2 := hS.2.2.2.2.2.2.2.2.2.2.2.2
theorem work6_RW {μ ν : zM} {i j : Nat} {S : zSt} {w : Nat → Int32} {B t hd C now O : Nat} {st : Nat → Nat} {Q : Nat → List Nat} {k : Nat} (hS : okS S) (h : RW μ ν i j S w B t hd C now O st Q) (hk : k < scnt S 6) (v : Int32) :
    RW (mS μ 60 i (spos S 6 k) v) ν i j S (upd w (79 + k) v) B t hd C now O st Q := by
  obtain ⟨c4, c5, c6⟩ := cnt_two hS
  refine work_RW hS h (FrW.mS FrW.rf (by unfold isW; omega)) (fun a b z k1 k2 => mS_k _ _ _ _ _ _ _ _ k1) (fun x hx => upd_ne _ _ (by omega)) (fun k' hk' => ?_) (fun k' hk' => ?_)
  · by_cases e : k' = k
    · subst e
      rw [mS_same, upd_at]
    · rw [mS_n _ _ _ _ _ _ _ _ (spos_ne hS (by decide) (by decide) hk' (by decide) (by decide) hk (fun z => e z.2)), upd_ne _ _ (by omega)]
      exact h.2.2.2.2.2.2.1.2.1 k' hk'
  · rw [mS_n _ _ _ _ _ _ _ _ (spos_ne hS (by decide) (by decide) hk' (by decide) (by decide) hk (fun z => absurd z.1 (by decide))), mS_k _ _ _ _ _ _ _ _ (by decide), upd_ne _ _ (by omega), upd_ne _ _ (by omega)]
    exact h.2.2.2.2.2.2.1.2.2 k' hk'
theorem work4_RW {μ ν : zM} {i j : Nat} {S : zSt} {w : Nat → Int32} {B t hd C now O : Nat} {st : Nat → Nat} {Q : Nat → List Nat} {k : Nat} (hS : okS S) (h : RW μ ν i j S w B t hd C now O st Q) (hk : k < scnt S 4) (v : Int32) :
    RW (mS μ 60 i (spos S 4 k) v) ν i j S (upd w (75 + k) v) B t hd C now O st Q := by
  obtain ⟨c4, c5, c6⟩ := cnt_two hS
  refine work_RW hS h (FrW.mS FrW.rf (by unfold isW; omega)) (fun a b z k1 k2 => mS_k _ _ _ _ _ _ _ _ k1) (fun x hx => upd_ne _ _ (by omega)) (fun k' hk' => ?_) (fun k' hk' => ?_)
  · rw [mS_n _ _ _ _ _ _ _ _ (spos_ne hS (by decide) (by decide) hk' (by decide) (by decide) hk (fun z => absurd z.1 (by decide))), upd_ne _ _ (by omega)]
    exact h.2.2.2.2.2.2.1.2.1 k' hk'
  · obtain ⟨g1, g2⟩ := h.2.2.2.2.2.2.1.2.2 k' hk'
    rw [mS_k _ _ _ _ _ 61 _ _ (by decide), upd_ne _ _ (show 77 + k' ≠ 75 + k by omega)]
    refine ⟨?_, g2⟩
    by_cases e : k' = k
    · subst e
      rw [mS_same, upd_at]
    · rw [mS_n _ _ _ _ _ _ _ _ (spos_ne hS (by decide) (by decide) hk' (by decide) (by decide) hk (fun z => e z.2)), upd_ne _ _ (by omega)]
      exact g1
theorem level_RW {μ ν : zM} {i j : Nat} {S : zSt} {w : Nat → Int32} {B t hd C now O : Nat} {st : Nat → Nat} {Q : Nat → List Nat} {k : Nat} (hS : okS S) (h : RW μ ν i j S w B t hd C now O st Q) (hk : k < scnt S 4) {v : Nat} (h1 : 1 ≤ v) (h3 : v ≤ 3) {x y : Int32} (hx : x = nI v) (hy : y = nI (v - 1)) :
    RW (mS μ 61 i (spos S 4 k) x) ν i j S (upd w (77 + k) y) B t hd C now O st Q := by
  obtain ⟨c4, c5, c6⟩ := cnt_two hS
  subst hx; subst hy
  refine work_RW hS h (FrW.mS FrW.rf (by unfold isW; omega)) (fun a b z k1 k2 => mS_k _ _ _ _ _ _ _ _ k2) (fun x hx => upd_ne _ _ (by omega)) (fun k' hk' => ?_) (fun k' hk' => ?_)
  · rw [mS_k _ _ _ _ _ _ _ _ (by decide), upd_ne _ _ (by omega)]
    exact h.2.2.2.2.2.2.1.2.1 k' hk'
  · obtain ⟨g1, g2⟩ := h.2.2.2.2.2.2.1.2.2 k' hk'
    rw [mS_k _ _ _ _ _ 60 _ _ (by decide), upd_ne _ _ (show 75 + k' ≠ 77 + k by omega)]
    refine ⟨g1, ?_⟩
    by_cases e : k' = k
    · subst e
      exact ⟨v, h1, h3, mS_same _ _ _ _ _, upd_at _ _ _⟩
    · rw [mS_n _ _ _ _ _ _ _ _ (spos_ne hS (by decide) (by decide) hk' (by decide) (by decide) hk (fun z => e z.2)), upd_ne _ _ (by omega)]
      exact g2
set_option maxHeartbeats 2000000 in
theorem out_RW {μ μ' ν : zM} {i j : Nat} {S : zSt} {w w' : Nat → Int32} {B t hd C now O : Nat} {st : Nat → Nat} {Q Q' : Nat → List Nat} {q b s1 : Nat} (hS : okS S) (h : RW μ ν i j S w B t hd C now O st Q) (hB : B < 1000000000) (hk : keeps S q) (hb : b ∈ Q q) (hs1 : s1 ≠ 1) (fr : FrW i μ μ')
    (x8 : ∀ k z, k = 9 ∨ k = 0 ∨ (21 ≤ k ∧ k ≤ 25) ∨ (58 ≤ k ∧ k ≤ 61) → μ'.1 k i z = μ.1 k i z) (xr : ∀ k z, 40 ≤ k → k ≤ 42 → μ'.1 k (2 * i) z = μ.1 k (2 * i) z) (xc : ∀ k, k < 8 → w' (3 + k) = μ'.1 57 i k) (xb : bagR μ' i (sn S) t b w' s1)
    (x7 : ∀ k z, 26 ≤ k → k ≤ 29 → z ≠ b → μ'.1 k i z = μ.1 k i z) (x6 : ∀ k z, 40 ≤ k → k ≤ 42 → z ≠ b → μ'.1 k (2 * i + 1) z = μ.1 k (2 * i + 1) z) (w0 : ∀ x, x ≠ 2 → ¬ (3 ≤ x ∧ x < 11) → ¬ (400 + 8 * b ≤ x ∧ x < 408 + 8 * b) → w' x = w x) (wo : w' (400 + 8 * b + 2) = w 2) (wo2 : w' 2 = w 2 + 1)
    (xq : ∀ q', keeps S q' → QX μ' i q' (Q' q') ∧ quMv Q Q' S w' b q') : RW μ' ν i j S w' (B + 1) t hd C now (O + 1) (stUp st b s1) Q' := by
  have hn3 := hS.1
  have hn6 := hS.2.1
  obtain ⟨hbC, hstb⟩ := st_que hS h hk hb
  have hC := h.1.2.2.2.2.2.2.2.2.2.2.1
  have hne1 : st b ≠ 1 := by rw [hstb]; exact stOf_ne1 hk
  have wring : ∀ x, 90 ≤ x → x < 390 → w' x = w x := fun x a c => w0 _ (by omega) (by omega) (by omega)
  refine move_RW hS h fr hB hbC hC (Nat.le_refl C) (fun b' hb' _ => hb') (fun z => x8 9 z (by omega)) (by rw [x8 0 0 (by omega)]; exact h.1.2.2.2.2.2.2.2.2.2.2.2.1) (by rw [w0 1 (by omega) (by omega) (by omega)]; exact h.1.2.2.2.2.2.2.2.2.2.2.2.2) xc (fun p hp => ?_) (fun p hp r' hr' hne => by rw [wring (90 + p) (by omega) (by omega)]) (fun p hp hpr => ?_) xb x7 x6 (fun k z a b _ => x8 k z (by omega)) (fun _ _ _ _ _ => rfl) ?_ (fun b' c hb' hc => w0 _ (by omega) (by omega) (by omega)) (fun k hk' => w0 _ (by omega) (by omega) (by omega)) xq ⟨fun p hp => ?_, fun k hk' => ?_, fun k hk' => ?_⟩ wo wo2
  · rw [x8 58 _ (by omega), xr 40 _ (by decide) (by decide), xr 41 _ (by decide) (by decide), xr 42 _ (by decide) (by decide), wring (90 + p) (by omega) (by omega), wring (150 + p) (by omega) (by omega), wring (210 + p) (by omega) (by omega), wring (270 + p) (by omega) (by omega), wring (330 + p) (by omega) (by omega)]
    exact h.2.1 p hp
  · rw [wring (90 + p) (by omega) (by omega)] at hpr
    exact absurd (h.2.2.1 p hp b (by omega) hpr).2.1 hne1
  · obtain ⟨f1, f2, f3⟩ := h.2.2.2.2.1 b hbC
    exact ⟨fun c hc => by rw [x8 (21 + c) b (by omega)]; exact f1 c hc, by rw [x8 21 b (by omega)]; exact f2, by rw [x8 23 b (by omega)]; exact f3⟩
  · rw [x8 59 p (by omega), w0 _ (by omega) (by omega) (by omega)]
    exact h.2.2.2.2.2.2.1.1 p hp
  · have := cnt_two hS
    rw [x8 60 _ (by omega), w0 _ (by omega) (by omega) (by omega)]
    exact h.2.2.2.2.2.2.1.2.1 k hk'
  · have := cnt_two hS
    rw [x8 60 _ (by omega), x8 61 _ (by omega), w0 (75 + k) (by omega) (by omega) (by omega), w0 (77 + k) (by omega) (by omega) (by omega)]
    exact h.2.2.2.2.2.2.1.2.2 k hk'
/-- set aside or seized -/
theorem gone_RW {μ μ' ν : zM} {i j : Nat} {S : zSt} {w w' : Nat → Int32} {B t hd C now O : Nat} {st : Nat → Nat} {Q : Nat → List Nat} {q b s1 : Nat} {l : List Nat} (hS : okS S) (h : RW μ ν i j S w B t hd C now O st Q) (hB : B < 1000000000) (hk : keeps S q) (hQ : Q q = b :: l) (hs1 : s1 = 8 ∨ s1 = 9) (fr : FrW i μ μ')
    (x8 : ∀ k z, k = 9 ∨ k = 0 ∨ (21 ≤ k ∧ k ≤ 25) ∨ (58 ≤ k ∧ k ≤ 61) → μ'.1 k i z = μ.1 k i z) (xr : ∀ k z, 40 ≤ k → k ≤ 42 → μ'.1 k (2 * i) z = μ.1 k (2 * i) z) (xc : ∀ k, k < 8 → w' (3 + k) = μ'.1 57 i k) (e26 : μ'.1 26 i b = nI s1)
    (x7 : ∀ k z, 26 ≤ k → k ≤ 29 → z ≠ b → μ'.1 k i z = μ.1 k i z) (x6 : ∀ k z, 40 ≤ k → k ≤ 42 → z ≠ b → μ'.1 k (2 * i + 1) z = μ.1 k (2 * i + 1) z) (w0 : ∀ x, x ≠ 2 → ¬ (3 ≤ x ∧ x < 11) → ¬ (400 + 8 * b ≤ x ∧ x < 408 + 8 * b) → w' x = w x) (wst : w' (400 + 8 * b) = nI s1) (wpl : w' (400 + 8 * b + 1) = -2) (wo : w' (400 + 8 * b + 2) = w 2) (wo2 : w' 2 = w 2 + 1)
    (x1 : QX μ' i q l) (x2 : ∀ q', keeps S q' → q' ≠ q → QX μ' i q' (Q q')) : RW μ' ν i j S w' (B + 1) t hd C now (O + 1) (stUp st b s1) (quUp Q q l) := by
  have hb : b ∈ Q q := by rw [hQ]; exact List.mem_cons_self
  have hnd := (h.2.2.2.2.2.1 q hk).1.2.2.2.2.2
  rw [hQ] at hnd
  have hbl := (List.nodup_cons.mp hnd).1
  refine out_RW hS h hB hk hb (by omega) fr x8 xr xc ⟨by omega, e26, wst, fun z => by omega, fun _ => wpl, fun _ z1 z2 => by omega, fun z => by omega, fun z => by omega, fun z => by omega⟩ x7 x6 w0 wo wo2 (fun q' hq' => ?_)
  have s2 := stOf_le hS q'
  have hnone := in_none hS (w' := w') (b := b) (s := s1) hq' wst (by omega) (by omega)
  by_cases e : q' = q
  · subst e
    have eq : quUp Q q' l q' = l := if_pos rfl
    rw [eq]
    refine ⟨x1, Or.inl ?_⟩
    rw [eq, hQ]
    exact ⟨hbl, List.sublist_cons_self _ _, fun b' z1 z2 => (List.mem_cons.mp z1).resolve_left z2, hnone⟩
  · have eq : quUp Q q l q' = Q q' := if_neg e
    rw [eq]
    refine ⟨x2 q' hq' e, Or.inl ?_⟩
    rw [eq]
    exact ⟨fun z => que_disj hS h hk hq' e b z hb, List.Sublist.refl _, fun _ z _ => z, hnone⟩
/-- to an exit -/
theorem exit_RW {μ μ' ν : zM} {i j : Nat} {S : zSt} {w w' : Nat → Int32} {B t hd C now O : Nat} {st : Nat → Nat} {Q : Nat → List Nat} {q b e : Nat} {l : List Nat} (hS : okS S) (h : RW μ ν i j S w B t hd C now O st Q) (hB : B < 1000000000) (hk : keeps S q) (hb : b ∈ Q q) (hq7 : ssrt S q ≠ 7) (he : keeps S e) (he7 : ssrt S e = 7) (fr : FrW i μ μ')
    (x8 : ∀ k z, k = 9 ∨ k = 0 ∨ (21 ≤ k ∧ k ≤ 25) ∨ (58 ≤ k ∧ k ≤ 61) → μ'.1 k i z = μ.1 k i z) (xr : ∀ k z, 40 ≤ k → k ≤ 42 → μ'.1 k (2 * i) z = μ.1 k (2 * i) z) (xc : ∀ k, k < 8 → w' (3 + k) = μ'.1 57 i k) (e26 : μ'.1 26 i b = nI 7) (e27 : μ'.1 27 i b = nI e)
    (x7 : ∀ k z, 26 ≤ k → k ≤ 29 → z ≠ b → μ'.1 k i z = μ.1 k i z) (x6 : ∀ k z, 40 ≤ k → k ≤ 42 → z ≠ b → μ'.1 k (2 * i + 1) z = μ.1 k (2 * i + 1) z) (w0 : ∀ x, x ≠ 2 → ¬ (3 ≤ x ∧ x < 11) → ¬ (400 + 8 * b ≤ x ∧ x < 408 + 8 * b) → w' x = w x) (wst : w' (400 + 8 * b) = nI 7) (wpl : w' (400 + 8 * b + 1) = nI e) (wo : w' (400 + 8 * b + 2) = w 2) (wo2 : w' 2 = w 2 + 1)
    (hl : isLb (μ'.1 40 (2 * i + 1) b)) (w3 : w' (400 + 8 * b + 3) = μ'.1 40 (2 * i + 1) b) (w4 : w' (400 + 8 * b + 4) = μ'.1 42 (2 * i + 1) b) (h01 : is01 (μ'.1 42 (2 * i + 1) b)) (w5 : w' (400 + 8 * b + 5) = μ'.1 41 (2 * i + 1) b)
    (hbl : b ∉ l) (hsub : l.Sublist (Q q)) (hl2 : ∀ b', b' ∈ Q q → b' ≠ b → b' ∈ l)
    (x1 : QX μ' i q l) (xe : QX μ' i e (Q e ++ [b])) (x2 : ∀ q', keeps S q' → q' ≠ q → q' ≠ e → QX μ' i q' (Q q')) : RW μ' ν i j S w' (B + 1) t hd C now (O + 1) (stUp st b 7) (quUp (quUp Q q l) e (Q e ++ [b])) := by
  have hn6 := hS.2.1
  have heq : e ≠ q := fun z => hq7 (by rw [← z]; exact he7)
  have hes : stOf (ssrt S e) = 7 := by rw [he7]; rfl
  have hep : plOf S e = e := if_pos he7
  refine out_RW hS h hB hk hb (by decide) fr x8 xr xc ⟨by decide, e26, wst, fun z => by omega, fun z => by omega, fun _ _ _ => ⟨by rw [wpl, e27], e, by have := he.1; omega, e27⟩, fun _ => ⟨hl, w3, ⟨w4, h01⟩, w5⟩, fun z => by omega, fun z => by omega⟩ x7 x6 w0 wo wo2 (fun q' hq' => ?_)
  by_cases ee : q' = e
  · subst ee
    have eq : quUp (quUp Q q l) q' (Q q' ++ [b]) q' = Q q' ++ [b] := if_pos rfl
    rw [eq]
    refine ⟨xe, Or.inr ⟨eq, fun z => que_disj hS h hk hq' heq b z hb, ?_⟩⟩
    rw [hes, hep]
    exact ⟨wst, wpl⟩
  · have eq0 : quUp (quUp Q q l) e (Q e ++ [b]) q' = quUp Q q l q' := if_neg ee
    have hnone := in_one hS (w' := w') (b := b) he hq' (by rw [hes]; exact wst) (by rw [hep]; exact wpl) ee
    rw [eq0]
    by_cases e1 : q' = q
    · subst e1
      have eq : quUp Q q' l q' = l := if_pos rfl
      rw [eq]
      refine ⟨x1, Or.inl ?_⟩
      rw [eq0, eq]
      exact ⟨hbl, hsub, hl2, hnone⟩
    · have eq : quUp Q q l q' = Q q' := if_neg e1
      rw [eq]
      refine ⟨x2 q' hq' e1 ee, Or.inl ?_⟩
      rw [eq0, eq]
      exact ⟨fun z => que_disj hS h hk hq' e1 b z hb, List.Sublist.refl _, fun _ z _ => z, hnone⟩
/-- the class's side of a way to an exit -/
theorem pX9_sendToExit {μ : zM} {i j q e b : Nat} {l : List Nat} (hj : μ.2.1 9 i 0 = j) (hj2 : j < 2) (h47 : μ.1 47 j q = nI e) (hq : q < 60) (he : e < 60) (hb : b < 100) (hQ : QX μ i e l) (hbl : b ∉ l) (hlen : l.length < 200) :
    ∃ μ', tX9_sendToExit_0 i (nI q) (nI b) μ = some (none, μ') ∧ FrW i μ μ' ∧ QX μ' i e (l ++ [b]) ∧ (∀ q' l', q' ≠ e → QX μ i q' l' → (∀ a ∈ l', a ∉ l ∧ a ≠ b) → QX μ' i q' l') ∧ (∀ k a z, ¬ (36 ≤ k ∧ k ≤ 39) → k ≠ 26 → k ≠ 27 → μ'.1 k a z = μ.1 k a z) ∧ (∀ z, μ'.1 26 i z = upd (μ.1 26 i) b 7 z) ∧ (∀ z, μ'.1 27 i z = upd (μ.1 27 i) b (nI e) z) := by
  have hQ1 : ∀ q' l', QX μ i q' l' → QX (mS (mS μ 26 i b 7) 27 i b (nI e)) i q' l' := fun q' l' h => QX_congr (fun k z k1 k2 => by
    rw [mS_k _ _ _ _ _ _ _ _ (by omega), mS_k _ _ _ _ _ _ _ _ (by omega)]) h
  obtain ⟨ν, e1, fr, hq1, hq2⟩ := pX3_add (hQ1 e l hQ) rfl he rfl hb hbl hlen
  have eν : ∀ k a z, ¬ (36 ≤ k ∧ k ≤ 39) → ν.1 k a z = _ := fun k a z hk => fr.2 k a z (fun h => hk ⟨h.1, h.2.1⟩)
  refine ⟨ν, ?_, ?_, hq1, fun q' l' hne hQ' hd => hq2 q' l' hne (hQ1 q' l' hQ') hd, fun k a z k1 k2 k3 => ?_, fun z => ?_, fun z => ?_⟩
  · rw [eX9_sendToExit_0, hj, zif_pos hj2, qI_in (zS_47 j) rfl hq (by decide), Option.bind_some, h47, eX9_sendToExit_10, pX0_put rfl hb, zU_some, e1, zU_some]
  · refine FrW.tr (FrW.mS (FrW.mS FrW.rf ?_) ?_) (FrW.ofQ fr) <;> unfold isW <;> omega
  · rw [eν _ _ _ k1, mS_k _ _ _ _ _ _ _ _ k3, mS_k _ _ _ _ _ _ _ _ k2]
  · rw [eν _ _ _ (by omega)]
    simp [mS_1, upd]
  · rw [eν _ _ _ (by omega)]
    simp [mS_1, upd]
