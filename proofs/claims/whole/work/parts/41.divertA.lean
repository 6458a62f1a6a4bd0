/-! ===== a bag goes off the ring into a queue: the relation kept ===== -/
theorem st_que {μ ν : zM} {i j : Nat} {S : zSt} {w : Nat → Int32} {B t hd C now O : Nat} {st : Nat → Nat} {Q : Nat → List Nat} (hS : okS S) (h : RW μ ν i j S w B t hd C now O st Q) {q a : Nat} (hq : keeps S q) (ha : a ∈ Q q) : a < C ∧ st a = stOf (ssrt S q) := by
  have h1 := ((h.2.2.2.2.2.1 q hq).2.1 a).mp ha
  have s1 := stOf_le hS q
  have hb := h.2.2.2.1 a h1.1
  have h0 := hb.1
  exact ⟨h1.1, (nI_eq (by omega) (by omega)).mp (hb.2.2.1.symm.trans h1.2.1)⟩
theorem que_disj {μ ν : zM} {i j : Nat} {S : zSt} {w : Nat → Int32} {B t hd C now O : Nat} {st : Nat → Nat} {Q : Nat → List Nat} (hS : okS S) (h : RW μ ν i j S w B t hd C now O st Q) {q q' : Nat} (hq : keeps S q) (hq' : keeps S q') (hne : q' ≠ q) : ∀ a, a ∈ Q q' → a ∉ Q q := by
  intro a ha hb
  have h1 := ((h.2.2.2.2.2.1 q' hq').2.1 a).mp ha
  have h2 := ((h.2.2.2.2.2.1 q hq).2.1 a).mp hb
  have s1 := stOf_le hS q
  have s2 := stOf_le hS q'
  have e1 := (nI_eq (by omega) (by omega)).mp (h1.2.1.symm.trans h2.2.1)
  have p1 := plOf_lt hS hq
  have p2 := plOf_lt hS hq'
  have e2 := (nI_eq (by omega) (by omega)).mp (h1.2.2.symm.trans h2.2.2)
  exact hne (keep_inj hS hq' hq e1 e2)
/-- a queue has the state and the place of its bags alone -/
theorem in_one {S : zSt} (hS : okS S) {w' : Nat → Int32} {q q' b : Nat} (hq : keeps S q) (hq' : keeps S q') (h1 : w' (400 + 8 * b) = nI (stOf (ssrt S q))) (h2 : w' (400 + 8 * b + 1) = nI (plOf S q)) (hne : q' ≠ q) : ¬ inM w' (nI (stOf (ssrt S q'))) (nI (plOf S q')) b := by
  intro z
  have s1 := stOf_le hS q
  have s2 := stOf_le hS q'
  have e1 := (nI_eq (by omega) (by omega)).mp (z.1.symm.trans h1)
  have p1 := plOf_lt hS hq
  have p2 := plOf_lt hS hq'
  have e2 := (nI_eq (by omega) (by omega)).mp (z.2.symm.trans h2)
  exact hne (keep_inj hS hq' hq e1 e2)
/-- a state that no queue has -/
theorem in_none {S : zSt} (hS : okS S) {w' : Nat → Int32} {q' b s : Nat} (hq' : keeps S q') (h1 : w' (400 + 8 * b) = nI s) (hs : s ≤ 9) (hne : s ≠ stOf (ssrt S q')) : ¬ inM w' (nI (stOf (ssrt S q'))) (nI (plOf S q')) b := by
  intro z
  have s2 := stOf_le hS q'
  exact hne ((nI_eq (by omega) (by omega)).mp (h1.symm.trans z.1))
theorem mS_comm {μ : zM} {k i n k' i' n' : Nat} {v v' : Int32} (h : k ≠ k') : mS (mS μ k i n v) k' i' n' v' = mS (mS μ k' i' n' v') k i n v := by
  refine Prod.ext ?_ rfl
  funext a b c
  rw [mS_1, mS_1, mS_1, mS_1]
  by_cases h1 : a = k ∧ b = i ∧ c = n
  · have h2 : ¬ (a = k' ∧ b = i' ∧ c = n') := fun z => h (h1.1.symm.trans z.1)
    rw [if_neg h2, if_pos h1, if_pos h1]
  · by_cases h2 : a = k' ∧ b = i' ∧ c = n'
    · rw [if_pos h2, if_neg h1, if_pos h2]
    · rw [if_neg h2, if_neg h1, if_neg h1, if_neg h2]
theorem ready_RW {μ ν : zM} {i j : Nat} {S : zSt} {w : Nat → Int32} {B t hd C now O : Nat} {st : Nat → Nat} {Q : Nat → List Nat} {p : Nat} (hS : okS S) (h : RW μ ν i j S w B t hd C now O st Q) (hp : p < sn S) (v : Int32) :
    RW (mS μ 59 i p v) ν i j S (upd w (15 + p) v) B t hd C now O st Q := by
  have hn6 := hS.2.1
  refine soft_RW hS h (FrW.mS FrW.rf ?_) (fun k' z a b c => ?_) (fun k' z a b => ?_) (fun p' hp' => ?_) (fun k' hk' => ?_) (fun p' hp' => ?_) (fun k' a b c => ?_)
  · unfold isW; omega
  · rw [mS_k _ _ _ _ _ _ _ _ (by omega)]
  · rw [mS_k _ _ _ _ _ _ _ _ (by omega)]
  · rw [upd_ne _ _ (by omega), upd_ne _ _ (by omega), upd_ne _ _ (by omega), upd_ne _ _ (by omega), mS_k _ _ _ _ _ _ _ _ (by decide), mS_k _ _ _ _ _ _ _ _ (by decide), mS_k _ _ _ _ _ _ _ _ (by decide)]
    exact (h.2.1 p' hp').2
  · rw [upd_ne _ _ (by omega), mS_k _ _ _ _ _ _ _ _ (by decide)]
    exact h.1.2.2.2.2.2.2.2.2.2.1 k' hk'
  · by_cases e : p' = p
    · subst e
      rw [mS_same, upd_at]
    · rw [mS_n _ _ _ _ _ _ _ _ e, upd_ne _ _ (by omega)]
      exact h.2.2.2.2.2.2.1.1 p' hp'
  · exact upd_ne _ _ (by omega)
set_option maxHeartbeats 2000000 in
theorem intake_RW {μ μ' ν : zM} {i j : Nat} {S : zSt} {w w' : Nat → Int32} {B t hd C now O : Nat} {st : Nat → Nat} {Q : Nat → List Nat} {q r : Nat} (hS : okS S) (h : RW μ ν i j S w B t hd C now O st Q) (hB : B < 1000000000) (hk : keeps S q) (h3 : 3 ≤ ssrt S q) (h6 : ssrt S q ≤ 6) (hr : r < 100) (hwr : w (90 + q) = nI r)
    (fr : FrW i μ μ') (x1 : QX μ' i q (Q q ++ [r])) (x2 : ∀ q' l', q' ≠ q → QX μ i q' l' → (∀ a ∈ l', a ∉ Q q ∧ a ≠ r) → QX μ' i q' l') (x3 : ∀ z, μ'.1 58 i z = upd (μ.1 58 i) (zslot (sn S) t q) (-1) z) (x4 : ∀ z, μ'.1 40 (2 * i) z = upd (μ.1 40 (2 * i)) (zslot (sn S) t q) (-2) z) (x5 : ∀ k z, k = 41 ∨ k = 42 → μ'.1 k (2 * i) z = μ.1 k (2 * i) z)
    (x6 : ∀ k z, 40 ≤ k → k ≤ 42 → z ≠ r → μ'.1 k (2 * i + 1) z = μ.1 k (2 * i + 1) z) (x7 : ∀ k z, 26 ≤ k → k ≤ 29 → z ≠ r → μ'.1 k i z = μ.1 k i z) (x8 : ∀ k z, k = 9 ∨ k = 0 ∨ (21 ≤ k ∧ k ≤ 25) ∨ (59 ≤ k ∧ k ≤ 61) → μ'.1 k i z = μ.1 k i z) (xc : ∀ k, k < 8 → w' (3 + k) = μ'.1 57 i k)
    (xb : bagR μ' i (sn S) t r w' (stOf (ssrt S q))) (wq : w' (90 + q) = -2) (wr : w' (150 + q) = 0) (wst : w' (400 + 8 * r) = nI (stOf (ssrt S q))) (wpl : w' (400 + 8 * r + 1) = nI (snum S q)) (wo : w' (400 + 8 * r + 2) = w 2) (wo2 : w' 2 = w 2 + 1)
    (w0 : ∀ x, x ≠ 2 → ¬ (3 ≤ x ∧ x < 11) → x ≠ 90 + q → x ≠ 150 + q → x ≠ 210 + q → x ≠ 270 + q → x ≠ 330 + q → ¬ (400 + 8 * r ≤ x ∧ x < 408 + 8 * r) → w' x = w x) :
    RW μ' ν i j S w' (B + 1) t hd C now (O + 1) (stUp st r (stOf (ssrt S q))) (quUp Q q (Q q ++ [r])) := by
  have hn3 := hS.1
  have hn6 := hS.2.1
  have ht : t < sn S := h.1.2.1
  obtain ⟨hrC, hst1, hrp⟩ := h.2.2.1 q hk.1 r hr hwr
  have hC := h.1.2.2.2.2.2.2.2.2.2.2.1
  have hqn := hk.1
  have hpl : plOf S q = snum S q := if_neg (by omega)
  have hne1 := stOf_ne1 hk
  have hnot : ∀ q', keeps S q' → r ∉ Q q' := fun q' hq' z => stOf_ne1 hq' ((st_que hS h hq' z).2.symm.trans hst1)
  have wring : ∀ p, p < sn S → p ≠ q → w' (90 + p) = w (90 + p) := fun p hp e => w0 _ (by omega) (by omega) (by omega) (by omega) (by omega) (by omega) (by omega) (by omega)
  have m2n : ∀ r', r' < 100 → ¬ (-2 : Int32) = nI r' := fun r' hr' z => by
    have := nI_pos (n := r') (by omega)
    rw [← z] at this
    exact this m2_lt
  refine move_RW hS h fr hB hrC hC (Nat.le_refl C) (fun b' hb' _ => hb') (fun z => x8 9 z (by omega)) (by rw [x8 0 0 (by omega)]; exact h.1.2.2.2.2.2.2.2.2.2.2.2.1) (by rw [w0 1 (by omega) (by omega) (by omega) (by omega) (by omega) (by omega) (by omega) (by omega)]; exact h.1.2.2.2.2.2.2.2.2.2.2.2.2) xc ?_ (fun p hp r' hr' hne => ?_) (fun p hp hpr => ?_) xb x7 x6 (fun k z a b _ => x8 k z (by omega)) (fun _ _ _ _ _ => rfl) ?_ (fun b' c hb' hc => w0 _ (by omega) (by omega) (by omega) (by omega) (by omega) (by omega) (by omega) (by omega)) (fun k hk' => w0 _ (by omega) (by omega) (by omega) (by omega) (by omega) (by omega) (by omega) (by omega)) (fun q' hq' => ?_) ⟨fun p hp => ?_, fun k hk' => ?_, fun k hk' => ?_⟩ wo wo2
  · intro p hp
    by_cases e : p = q
    · subst e
      rw [x3, x4, upd_at, upd_at, wq, wr]
      exact ⟨Or.inl ⟨rfl, rfl⟩, Or.inl ⟨rfl, rfl⟩⟩
    · have hz := zslot_ne ht hp hk.1 e
      rw [x3, x4, x5 41 _ (Or.inl rfl), x5 42 _ (Or.inr rfl), upd_ne _ _ hz, upd_ne _ _ hz, wring p hp e, w0 (150 + p) (by omega) (by omega) (by omega) (by omega) (by omega) (by omega) (by omega) (by omega), w0 (210 + p) (by omega) (by omega) (by omega) (by omega) (by omega) (by omega) (by omega) (by omega), w0 (270 + p) (by omega) (by omega) (by omega) (by omega) (by omega) (by omega) (by omega) (by omega), w0 (330 + p) (by omega) (by omega) (by omega) (by omega) (by omega) (by omega) (by omega) (by omega)]
      exact h.2.1 p hp
  · by_cases e : p = q
    · subst e
      rw [wq, hwr]
      exact ⟨fun z => absurd z (m2n r' hr'), fun z => absurd ((nI_eq (by omega) (by omega)).mp z) (fun y => hne y.symm)⟩
    · rw [wring p hp e]
  · by_cases e : p = q
    · subst e
      rw [wq] at hpr
      exact absurd hpr (m2n r hr)
    · rw [wring p hp e] at hpr
      have c3 := (h.2.2.1 p hp r hr hpr).2.2
      exact absurd ((nI_eq (by omega) (by have := hk.1; omega)).mp (c3.symm.trans hrp)) e
  · obtain ⟨f1, f2, f3⟩ := h.2.2.2.2.1 r hrC
    exact ⟨fun c hc => by rw [x8 (21 + c) r (by omega)]; exact f1 c hc, by rw [x8 21 r (by omega)]; exact f2, by rw [x8 23 r (by omega)]; exact f3⟩
  · by_cases e : q' = q
    · subst e
      rw [show quUp Q q' (Q q' ++ [r]) q' = Q q' ++ [r] from if_pos rfl]
      refine ⟨x1, Or.inr ⟨if_pos rfl, hnot q' hq', wst, ?_⟩⟩
      rw [hpl]; exact wpl
    · have eq : quUp Q q (Q q ++ [r]) q' = Q q' := if_neg e
      rw [eq]
      refine ⟨x2 q' _ e (h.2.2.2.2.2.1 q' hq').1 (fun a ha => ⟨que_disj hS h hk hq' e a ha, fun z => hnot q' hq' (by rw [← z]; exact ha)⟩), Or.inl ?_⟩
      rw [eq]
      exact ⟨hnot q' hq', List.Sublist.refl _, fun _ z _ => z, in_one hS hk hq' wst (by rw [hpl]; exact wpl) e⟩
  · rw [x8 59 p (by omega), w0 _ (by omega) (by omega) (by omega) (by omega) (by omega) (by omega) (by omega) (by omega)]
    exact h.2.2.2.2.2.2.1.1 p hp
  · have := hS.2.2.2.2.2.2.2.1 6
    rw [x8 60 _ (by omega), w0 _ (by omega) (by omega) (by omega) (by omega) (by omega) (by omega) (by omega) (by omega)]
    exact h.2.2.2.2.2.2.1.2.1 k hk'
  · have := hS.2.2.2.2.2.2.2.1 4
    rw [x8 60 _ (by omega), x8 61 _ (by omega), w0 (75 + k) (by omega) (by omega) (by omega) (by omega) (by omega) (by omega) (by omega) (by omega), w0 (77 + k) (by omega) (by omega) (by omega) (by omega) (by omega) (by omega) (by omega) (by omega)]
    exact h.2.2.2.2.2.2.1.2.2 k hk'
/-- the class's side: a bag goes off the belt, its record with it, and to the end of a queue -/
theorem pX4_toHeld {μ : zM} {i s b : Nat} (hs : s < 60) (hb : b < 100) : tX4_moveIn_0 (2 * i + 1) (nI b) (2 * i) (nI s) μ = some (none, mS (mS (mS (mS μ 40 (2 * i + 1) b (μ.1 40 (2 * i) s)) 41 (2 * i + 1) b (μ.1 41 (2 * i) s)) 42 (2 * i + 1) b (μ.1 42 (2 * i) s)) 40 (2 * i) s (-2)) := by
  rw [eX4_moveIn_0, qI_in (bel_40 i) rfl hs (by decide), Option.bind_some, wI_in (hel_40 i) rfl hb (by decide), Option.bind_some, qI_in (bel_41 i) rfl hs (by decide), Option.bind_some, wI_in (hel_41 i) rfl hb (by decide), Option.bind_some, qI_in (bel_42 i) rfl hs (by decide), Option.bind_some, wI_in (hel_42 i) rfl hb (by decide), Option.bind_some, wI_in (bel_40 i) rfl hs (by decide), Option.bind_some, mS_k _ _ _ _ _ _ _ _ (by decide), mS_k _ _ _ _ _ _ _ _ (by decide), mS_k _ _ _ _ _ _ _ _ (by decide)]
set_option maxHeartbeats 1000000 in
theorem pX9_div_in {μ : zM} {i q s r : Nat} {l : List Nat} (hq : q < 60) (hs : s < 60) (hr : r < 100) (hQ : QX μ i q l) (hrl : r ∉ l) (hlen : l.length < 200) :
    ∃ μ', (∀ K : zM → Option (Option zV × zM), ((wI μ (58, i) (nI s) (-1)).bind fun m4 => zU (tX4_moveIn_0 (2 * i + 1) (nI r) (2 * i) (nI s) m4) fun m5 => zU (tX3_add_0 i (nI q) (nI r) m5) K) = K μ') ∧ FrW i μ μ' ∧ QX μ' i q (l ++ [r]) ∧ (∀ q' l', q' ≠ q → QX μ i q' l' → (∀ a ∈ l', a ∉ l ∧ a ≠ r) → QX μ' i q' l') ∧
      (∀ z, μ'.1 58 i z = upd (μ.1 58 i) s (-1) z) ∧ (∀ z, μ'.1 40 (2 * i) z = upd (μ.1 40 (2 * i)) s (-2) z) ∧ (∀ k z, k = 41 ∨ k = 42 → μ'.1 k (2 * i) z = μ.1 k (2 * i) z) ∧ (∀ k z, 40 ≤ k → k ≤ 42 → μ'.1 k (2 * i + 1) z = upd (μ.1 k (2 * i + 1)) r (μ.1 k (2 * i) s) z) ∧ (∀ k z, k ≠ 58 → ¬ (36 ≤ k ∧ k ≤ 42) → μ'.1 k i z = μ.1 k i z) := by
  have hQ1 : ∀ q' l', QX μ i q' l' → QX (mS (mS (mS (mS (mS μ 58 i s (-1)) 40 (2 * i + 1) r ((mS μ 58 i s (-1)).1 40 (2 * i) s)) 41 (2 * i + 1) r ((mS μ 58 i s (-1)).1 41 (2 * i) s)) 42 (2 * i + 1) r ((mS μ 58 i s (-1)).1 42 (2 * i) s)) 40 (2 * i) s (-2)) i q' l' := fun q' l' h => QX_congr (fun k z k1 k2 => by
    rw [mS_k _ _ _ _ _ _ _ _ (by omega), mS_k _ _ _ _ _ _ _ _ (by omega), mS_k _ _ _ _ _ _ _ _ (by omega), mS_k _ _ _ _ _ _ _ _ (by omega), mS_k _ _ _ _ _ _ _ _ (by omega)]) h
  obtain ⟨ν, e1, fr, hq1, hq2⟩ := pX3_add (hQ1 q l hQ) rfl hq rfl hr hrl hlen
  have eν : ∀ k a z, ¬ (36 ≤ k ∧ k ≤ 39) → ν.1 k a z = _ := fun k a z hk => fr.2 k a z (fun h => hk ⟨h.1, h.2.1⟩)
  refine ⟨ν, fun K => ?_, ?_, hq1, fun q' l' hne hQ' hd => hq2 q' l' hne (hQ1 q' l' hQ') hd, fun z => ?_, fun z => ?_, fun k z hk => ?_, fun k z k1 k2 => ?_, fun k z k1 k2 => ?_⟩
  · rw [wI_in (zS_58 i) rfl hs (by decide), Option.bind_some, pX4_toHeld hs hr, zU_some, e1, zU_some]
  · refine FrW.tr (FrW.mS (FrW.mS (FrW.mS (FrW.mS (FrW.mS FrW.rf ?_) ?_) ?_) ?_) ?_) (FrW.ofQ fr) <;> unfold isW <;> omega
  · rw [eν _ _ _ (by omega)]
    simp [mS_1, upd]
  · rw [eν _ _ _ (by omega)]
    simp [mS_1, upd]
  · rw [eν _ _ _ (by omega)]
    rcases hk with rfl | rfl <;> simp [mS_1]
  · rw [eν _ _ _ (by omega)]
    rcases (by omega : k = 40 ∨ k = 41 ∨ k = 42) with rfl | rfl | rfl <;> simp [mS_1, upd]
  · rw [eν _ _ _ (by omega), mS_k _ _ _ _ _ _ _ _ (by omega), mS_k _ _ _ _ _ _ _ _ (by omega), mS_k _ _ _ _ _ _ _ _ (by omega), mS_k _ _ _ _ _ _ _ _ (by omega), mS_k _ _ _ _ _ _ _ _ (by omega)]
