/-! ===== rows copied: worlds of the class ===== -/
/-- a memory with another row -/
def mR (μ : zM) (k i : Nat) (f : Nat → Int32) : zM := (zupR μ.1 (k, i) f, μ.2)
theorem mR_1 (μ : zM) (k i : Nat) (f : Nat → Int32) (k' i' z : Nat) : (mR μ k i f).1 k' i' z = if k' = k ∧ i' = i then f z else μ.1 k' i' z := rfl
theorem mR_at (μ : zM) (k i : Nat) (f : Nat → Int32) (z : Nat) : (mR μ k i f).1 k i z = f z := by rw [mR_1, if_pos ⟨rfl, rfl⟩]
theorem mR_ne (μ : zM) (k i : Nat) (f : Nat → Int32) (k' i' z : Nat) (h : ¬ (k' = k ∧ i' = i)) : (mR μ k i f).1 k' i' z = μ.1 k' i' z := by rw [mR_1, if_neg h]
theorem mR_2 (μ : zM) (k i : Nat) (f : Nat → Int32) : (mR μ k i f).2 = μ.2 := rfl
theorem mW_R (μ : zM) (f : Nat → Int32) : mW μ f = mR μ 65 0 f := rfl
theorem qC_in {μ : zM} {k a b N : Nat} {q0 q1 : zH} {x : Int32} {M0 M1 : Nat} (h0 : zS k b = .inr (0, M0, q0)) (h1 : zS k a = .inr (0, M1, q1)) (hx : x = nI N) (hN0 : N ≤ M0) (hN1 : N ≤ M1) (hM : N < 2 ^ 31) : qC μ (k, b) (k, a) 0 0 x = some (mR μ k a (fun z => if z < N then μ.1 k b z else μ.1 k a z)) := by
  subst hx
  rw [qC_eq]
  unfold zcpy
  simp only [h0, h1]
  have e0 : (0 : Int32).toNatClampNeg = 0 := by decide
  rw [e0, nI_clamp hM, if_neg (by
    intro z
    rcases z with z | z | z | z | z
    · exact absurd z (by decide)
    · exact absurd z (by decide)
    · exact nI_pos hM z
    · omega
    · omega)]
  refine congrArg some (Prod.ext ?_ rfl)
  funext k' i' z
  show (if k' = k ∧ i' = a then _ else _) = (if k' = k ∧ i' = a then _ else _)
  by_cases h : k' = k ∧ i' = a
  · rw [if_pos h, if_pos h]
    unfold va_cpy
    by_cases hz : z < N
    · rw [if_pos ⟨by omega, by omega⟩, if_pos hz]
      show μ.1 k b (0 + (z - 0)) = μ.1 k b z
      rw [Nat.zero_add, Nat.sub_zero]
    · rw [if_neg (by omega), if_neg hz]
  · rw [if_neg h, if_neg h]
/-- a list of rows (kind, number, other number, from, to) copied -/
def CI (L : List (Nat × Nat × Nat × Nat × Nat)) (μ0 μ : zM) : Prop := (∀ e ∈ L, ∀ z, e.2.2.2.1 ≤ z → z < e.2.2.2.2 → μ.1 e.1 e.2.1 z = μ0.1 e.1 e.2.2.1 z) ∧ (∀ k x z, (∀ e ∈ L, ¬ (e.1 = k ∧ e.2.1 = x)) → μ.1 k x z = μ0.1 k x z)
theorem CI.copy {L : List (Nat × Nat × Nat × Nat × Nat)} {μ0 μ : zM} (h : CI L μ0 μ) {k a b N : Nat} {q0 q1 : zH} {x : Int32} {M0 M1 : Nat} (h0 : zS k b = .inr (0, M0, q0)) (h1 : zS k a = .inr (0, M1, q1)) (hx : x = nI N) (hN0 : N ≤ M0) (hN1 : N ≤ M1) (hM : N < 2 ^ 31) (hs : ∀ e ∈ L, ¬ (e.1 = k ∧ e.2.1 = b)) (ht : ∀ e ∈ L, ¬ (e.1 = k ∧ e.2.1 = a)) :
    ∃ μ', qC μ (k, b) (k, a) 0 0 x = some μ' ∧ μ'.2 = μ.2 ∧ CI ((k, a, b, 0, N) :: L) μ0 μ' := by
  refine ⟨_, qC_in h0 h1 hx hN0 hN1 hM, rfl, fun e he z z1 z2 => ?_, fun k' x' z hn => ?_⟩
  · rcases List.mem_cons.mp he with e1 | e1
    · subst e1
      show (mR μ k a _).1 k a z = μ0.1 k b z
      rw [mR_at, if_pos z2]
      exact h.2 k b z hs
    · rw [mR_ne _ _ _ _ _ _ _ (ht e e1)]
      exact h.1 e e1 z z1 z2
  · have hne := hn (k, a, b, 0, N) List.mem_cons_self
    rw [mR_ne _ _ _ _ _ _ _ (fun z => hne ⟨z.1.symm, z.2.symm⟩)]
    exact h.2 k' x' z (fun e he => hn e (List.mem_cons_of_mem _ he))
theorem CI.set {L : List (Nat × Nat × Nat × Nat × Nat)} {μ0 μ : zM} (h : CI L μ0 μ) {k a b n : Nat} {v : Int32} (hv : v = μ0.1 k b n) (ht : ∀ e ∈ L, e.1 = k → e.2.1 = a → e.2.2.2.2 ≤ n) :
    CI ((k, a, b, n, n + 1) :: L) μ0 (mS μ k a n v) := by
  refine ⟨fun e he z z1 z2 => ?_, fun k' x' z hn => ?_⟩
  · rcases List.mem_cons.mp he with e1 | e1
    · subst e1
      have : z = n := by simp at z1 z2; omega
      subst this
      exact (mS_same _ _ _ _ _).trans hv
    · rw [mS_1, if_neg (fun y => by have := ht e e1 y.1 y.2.1; omega)]
      exact h.1 e e1 z z1 z2
  · have hne := hn (k, a, b, n, n + 1) List.mem_cons_self
    rw [mS_1, if_neg (fun y => hne ⟨y.1.symm, y.2.1.symm⟩)]
    exact h.2 k' x' z (fun e he => hn e (List.mem_cons_of_mem _ he))
/-- world a of one memory is world b of another -/
def cpR (μ μ' : zM) (a b : Nat) : Prop := μ'.2.1 9 a 0 = μ.2.1 9 b 0 ∧ μ'.1 0 a 0 = μ.1 0 b 0 ∧ (∀ z, 1 ≤ z → z < 4 → μ'.1 9 a z = μ.1 9 b z) ∧ (∀ z, z < 8 → μ'.1 57 a z = μ.1 57 b z) ∧ (∀ k z, (58 ≤ k ∧ k ≤ 61) ∨ (36 ≤ k ∧ k ≤ 38) → z < 60 → μ'.1 k a z = μ.1 k b z) ∧ (∀ k z, k = 39 ∨ (21 ≤ k ∧ k ≤ 29) → z < 100 → μ'.1 k a z = μ.1 k b z) ∧
  (∀ k z, 40 ≤ k → k ≤ 42 → z < 60 → μ'.1 k (2 * a) z = μ.1 k (2 * b) z) ∧ (∀ k z, 40 ≤ k → k ≤ 42 → z < 100 → μ'.1 k (2 * a + 1) z = μ.1 k (2 * b + 1) z)
theorem QX_cp {μ μ' : zM} {a b q : Nat} {l : List Nat} (c : cpR μ μ' a b) (hq : q < 60) (h : QX μ b q l) : QX μ' a q l := by
  obtain ⟨g1, g2, g3, g4, g5, g6⟩ := h
  exact ⟨(c.2.2.2.2.1 36 q (by omega) hq).trans g1, (c.2.2.2.2.1 37 q (by omega) hq).trans g2, (c.2.2.2.2.1 38 q (by omega) hq).trans g3, chn_congr (fun a ha => c.2.2.2.2.2.1 39 a (by omega) (g5 a ha)) g4, g5, g6⟩
set_option maxHeartbeats 1000000 in
theorem RW.cp {μ μ' ν : zM} {a b j : Nat} {S : zSt} {w : Nat → Int32} {B t hd C now O : Nat} {st : Nat → Nat} {Q : Nat → List Nat} (hS : okS S) (h : RW μ ν b j S w B t hd C now O st Q) (c : cpR μ μ' a b) : RW μ' ν a j S w B t hd C now O st Q := by
  obtain ⟨⟨h1, h2, h3, h4, h5, h6, h7, h8, h9, h10, h11, h12, h13⟩, hring, hcon, hbag, hlb, hque, ⟨hrd, hw6, hw4⟩, hO, hO2, hord⟩ := h
  have cQ : ∀ q l, q < 60 → QX μ b q l → QX μ' a q l := fun q l hq => QX_cp c hq
  obtain ⟨c1, c2, c3, c4, c5, c6, c7, c8⟩ := c
  have hn3 := hS.1
  have hn6 := hS.2.1
  have hzs : ∀ p, zslot (sn S) t p < 60 := fun p => by have := zslot_lt (n := sn S) (t := t) (p := p) (by omega); omega
  refine ⟨⟨c1.trans h1, h2, (c3 2 (by decide) (by decide)).trans h3, h4, (c3 1 (by decide) (by decide)).trans h5, h6, h7, (c3 3 (by decide) (by decide)).trans h8, h9, fun k hk => (h10 k hk).trans (c4 k hk).symm, h11, c2.trans h12, h13⟩, fun p hp => ?_, hcon, fun b' hb' => ?_, fun b' hb' => ?_, fun q hq => ?_, ⟨fun p hp => ?_, fun k hk => ?_, fun k hk => ?_⟩, hO, hO2, hord⟩
  · rw [c5 58 _ (by omega) (hzs p), c7 40 _ (by decide) (by decide) (hzs p), c7 41 _ (by decide) (by decide) (hzs p), c7 42 _ (by decide) (by decide) (hzs p)]
    exact hring p hp
  · have hb1 : b' < 100 := by omega
    obtain ⟨g0, g1, g2, g3, g4, g5, g6, g7, g8⟩ := hbag b' hb'
    refine ⟨g0, (c6 26 _ (by omega) hb1).trans g1, g2, fun hs => ?_, g4, fun a1 a2 a3 => ?_, fun hs => ?_, fun hs => ?_, fun hs => ?_⟩
    · rw [c6 27 _ (by omega) hb1]; exact g3 hs
    · rw [c6 27 _ (by omega) hb1]; exact g5 a1 a2 a3
    · rw [c8 40 _ (by decide) (by decide) hb1, c8 41 _ (by decide) (by decide) hb1, c8 42 _ (by decide) (by decide) hb1]; exact g6 hs
    · rw [c8 40 _ (by decide) (by decide) hb1, c8 41 _ (by decide) (by decide) hb1, c8 42 _ (by decide) (by decide) hb1]; exact g7 hs
    · rw [c6 28 _ (by omega) hb1, c6 29 _ (by omega) hb1]; exact g8 hs
  · have hb1 : b' < 100 := by omega
    obtain ⟨f1, f2, f3⟩ := hlb b' hb'
    exact ⟨fun c hc => by rw [c6 (21 + c) _ (by omega) hb1]; exact f1 c hc, by rw [c6 21 _ (by omega) hb1]; exact f2, by rw [c6 23 _ (by omega) hb1]; exact f3⟩
  · obtain ⟨ra, rb, rc⟩ := hque q hq
    have hqn := hq.1
    exact ⟨cQ q _ (by omega) ra, rb, rc⟩
  · rw [c5 59 _ (by omega) (by omega)]; exact hrd p hp
  · have := (hS.2.2.2.2.2.2.2.2.1 6 k (by decide) (by decide) hk).1
    rw [c5 60 _ (by omega) (by omega)]; exact hw6 k hk
  · have := (hS.2.2.2.2.2.2.2.2.1 4 k (by decide) (by decide) hk).1
    rw [c5 60 _ (by omega) (by omega), c5 61 _ (by omega) (by omega)]; exact hw4 k hk
/-- nothing but world a changed, its setup too -/
def FrC (a : Nat) (μ μ' : zM) : Prop := (∀ k x n, ¬ (k = 9 ∧ x = a ∧ n = 0) → μ'.2.1 k x n = μ.2.1 k x n) ∧ μ'.2.2 = μ.2.2 ∧ ∀ k x s, ¬ isW a k x → μ'.1 k x s = μ.1 k x s
theorem qP_set {μ : zM} {a j : Nat} (hj : j < 2) : qP μ (9, a) 0 (.inr (.inr (5, j))) = some (μ.1, zupN μ.2.1 (9, a) 0 j, μ.2.2) := by
  rw [qP_eq]
  show (if 5 = 5 ∧ j < 2 then _ else _) = _
  rw [if_pos ⟨rfl, hj⟩]
theorem qL_in {k i N : Nat} {q : zH} (h : zS k i = .inr (0, N, q)) : qL (k, i) = some (nI N) := by
  rw [qL_eq]
  unfold zlen
  simp only [h]
  rfl
theorem zS_37' (i : Nat) : zS 37 i = .inr (0, 60, (0, 0)) := rfl
set_option maxHeartbeats 4000000 in
theorem pX9_copyFrom {μ : zM} {a b j : Nat} (hab : a ≠ b) (hj : μ.2.1 9 b 0 = j) (hj2 : j < 2) : ∃ μ', tX9_copyFrom_0 a b μ = some (none, μ') ∧ FrC a μ μ' ∧ cpR μ μ' a b := by
  have h0 : CI [] μ ((μ.1, zupN μ.2.1 (9, a) 0 j, μ.2.2) : zM) := ⟨fun e he => (by cases he), fun k x z _ => rfl⟩
  rw [eX9_copyFrom_0, hj, zif_pos hj2, qP_set hj2, Option.bind_some]
  generalize hm0 : ((μ.1, zupN μ.2.1 (9, a) 0 j, μ.2.2) : zM) = m0 at h0 ⊢
  simp only [zlet_eq]
  have e2 : m0.2 = (zupN μ.2.1 (9, a) 0 j, μ.2.2) := by rw [← hm0]
  have h1 := h0.set (k := 9) (a := a) (b := b) (n := 1) (v := m0.1 9 b 1) (h0.2 9 b 1 (fun e he => by cases he)) (fun e he => by cases he)
  generalize hm1 : mS m0 9 a 1 (m0.1 9 b 1) = m1 at h1 ⊢
  have e21 : m1.2 = m0.2 := by rw [← hm1]; rfl
  have h2 := h1.set (k := 9) (a := a) (b := b) (n := 2) (v := m1.1 9 b 2) (h1.2 9 b 2 (by simp [hab])) (by simp)
  generalize hm2 : mS m1 9 a 2 (m1.1 9 b 2) = m2 at h2 ⊢
  have e22 : m2.2 = m0.2 := by rw [← hm2, ← e21]; rfl
  have h3 := h2.set (k := 9) (a := a) (b := b) (n := 3) (v := m2.1 9 b 3) (h2.2 9 b 3 (by simp [hab])) (by simp)
  generalize hm3 : mS m2 9 a 3 (m2.1 9 b 3) = m3 at h3 ⊢
  have e23 : m3.2 = m0.2 := by rw [← hm3, ← e22]; rfl
  obtain ⟨m4, q4, e24, h4⟩ := h3.copy (k := 57) (a := a) (b := b) (x := 8) (zS_57 b) (zS_57 a) (N := 8) rfl (by decide) (by decide) (by decide) (by simp) (by simp)
  obtain ⟨m5, q5, e25, h5⟩ := h4.copy (k := 58) (a := a) (b := b) (x := 60) (zS_58 b) (zS_58 a) (N := 60) rfl (by decide) (by decide) (by decide) (by simp) (by simp)
  obtain ⟨m6, q6, e26, h6⟩ := h5.copy (k := 40) (a := 2 * a) (b := 2 * b) (x := nI 60) (bel_40 b) (bel_40 a) (N := 60) rfl (by decide) (by decide) (by decide) (by simp) (by simp)
  obtain ⟨m7, q7, e27, h7⟩ := h6.copy (k := 41) (a := 2 * a) (b := 2 * b) (x := nI 60) (bel_41 b) (bel_41 a) (N := 60) rfl (by decide) (by decide) (by decide) (by simp) (by simp)
  obtain ⟨m8, q8, e28, h8⟩ := h7.copy (k := 42) (a := 2 * a) (b := 2 * b) (x := nI 60) (bel_42 b) (bel_42 a) (N := 60) rfl (by decide) (by decide) (by decide) (by simp) (by simp)
  have hab1 : ¬ 2 * a = 2 * b + 1 := by omega
  have hab2 : ¬ 2 * a = 2 * a + 1 := by omega
  have hab3 : ¬ a = b := hab
  obtain ⟨m9, q9, e29, h9⟩ := h8.copy (k := 40) (a := 2 * a + 1) (b := 2 * b + 1) (x := nI 100) (hel_40 b) (hel_40 a) (N := 100) rfl (by decide) (by decide) (by decide) (by simp [hab1]) (by simp)
  obtain ⟨m10, q10, e210, h10⟩ := h9.copy (k := 41) (a := 2 * a + 1) (b := 2 * b + 1) (x := nI 100) (hel_41 b) (hel_41 a) (N := 100) rfl (by decide) (by decide) (by decide) (by simp [hab1]) (by simp)
  obtain ⟨m11, q11, e211, h11⟩ := h10.copy (k := 42) (a := 2 * a + 1) (b := 2 * b + 1) (x := nI 100) (hel_42 b) (hel_42 a) (N := 100) rfl (by decide) (by decide) (by decide) (by simp [hab1]) (by simp)
  obtain ⟨m12, q12, e212, h12⟩ := h11.copy (k := 36) (a := a) (b := b) (x := 60) (zS_36 b) (zS_36 a) (N := 60) rfl (by decide) (by decide) (by decide) (by simp) (by simp)
  obtain ⟨m13, q13, e213, h13⟩ := h12.copy (k := 37) (a := a) (b := b) (x := 60) (zS_37' b) (zS_37' a) (N := 60) rfl (by decide) (by decide) (by decide) (by simp) (by simp)
  obtain ⟨m14, q14, e214, h14⟩ := h13.copy (k := 38) (a := a) (b := b) (x := 60) (zS_38 b) (zS_38 a) (N := 60) rfl (by decide) (by decide) (by decide) (by simp) (by simp)
  obtain ⟨m15, q15, e215, h15⟩ := h14.copy (k := 39) (a := a) (b := b) (x := 100) (zS_39 b) (zS_39 a) (N := 100) rfl (by decide) (by decide) (by decide) (by simp) (by simp)
  have h16 := h15.set (k := 0) (a := a) (b := b) (n := 0) (v := m15.1 0 b 0) (h15.2 0 b 0 (by simp)) (by simp)
  generalize hm16 : mS m15 0 a 0 (m15.1 0 b 0) = m16 at h16
  have e216 : m16.2 = m15.2 := by rw [← hm16]; rfl
  obtain ⟨m17, q17, e217, h17⟩ := h16.copy (k := 21) (a := a) (b := b) (x := 100) (zS_21 b) (zS_21 a) (N := 100) rfl (by decide) (by decide) (by decide) (by simp) (by simp)
  obtain ⟨m18, q18, e218, h18⟩ := h17.copy (k := 22) (a := a) (b := b) (x := 100) (zS_22 b) (zS_22 a) (N := 100) rfl (by decide) (by decide) (by decide) (by simp) (by simp)
  obtain ⟨m19, q19, e219, h19⟩ := h18.copy (k := 23) (a := a) (b := b) (x := 100) (zS_23 b) (zS_23 a) (N := 100) rfl (by decide) (by decide) (by decide) (by simp) (by simp)
  obtain ⟨m20, q20, e220, h20⟩ := h19.copy (k := 24) (a := a) (b := b) (x := 100) (zS_24 b) (zS_24 a) (N := 100) rfl (by decide) (by decide) (by decide) (by simp) (by simp)
  obtain ⟨m21, q21, e221, h21⟩ := h20.copy (k := 25) (a := a) (b := b) (x := 100) (zS_25 b) (zS_25 a) (N := 100) rfl (by decide) (by decide) (by decide) (by simp) (by simp)
  obtain ⟨m22, q22, e222, h22⟩ := h21.copy (k := 26) (a := a) (b := b) (x := 100) (zS_26 b) (zS_26 a) (N := 100) rfl (by decide) (by decide) (by decide) (by simp) (by simp)
  obtain ⟨m23, q23, e223, h23⟩ := h22.copy (k := 27) (a := a) (b := b) (x := 100) (zS_27 b) (zS_27 a) (N := 100) rfl (by decide) (by decide) (by decide) (by simp) (by simp)
  obtain ⟨m24, q24, e224, h24⟩ := h23.copy (k := 28) (a := a) (b := b) (x := 100) (zS_28 b) (zS_28 a) (N := 100) rfl (by decide) (by decide) (by decide) (by simp) (by simp)
  obtain ⟨m25, q25, e225, h25⟩ := h24.copy (k := 29) (a := a) (b := b) (x := 100) (zS_29 b) (zS_29 a) (N := 100) rfl (by decide) (by decide) (by decide) (by simp) (by simp)
  obtain ⟨m26, q26, e226, h26⟩ := h25.copy (k := 59) (a := a) (b := b) (x := 60) (zS_59 b) (zS_59 a) (N := 60) rfl (by decide) (by decide) (by decide) (by simp) (by simp)
  obtain ⟨m27, q27, e227, h27⟩ := h26.copy (k := 60) (a := a) (b := b) (x := 60) (zS_60 b) (zS_60 a) (N := 60) rfl (by decide) (by decide) (by decide) (by simp) (by simp)
  obtain ⟨m28, q28, e228, h28⟩ := h27.copy (k := 61) (a := a) (b := b) (x := 60) (zS_61 b) (zS_61 a) (N := 60) rfl (by decide) (by decide) (by decide) (by simp) (by simp)
  have e2f : m28.2 = m0.2 := by rw [e228, e227, e226, e225, e224, e223, e222, e221, e220, e219, e218, e217, e216, e215, e214, e213, e212, e211, e210, e29, e28, e27, e26, e25, e24, e23]
  refine ⟨m28, ?_, ⟨fun k x n hn => ?_, ?_, fun k x s hs => ?_⟩, ?_⟩
  · rw [q4, Option.bind_some, q5, Option.bind_some, eX4_copyFrom_0, qL_in (bel_40 a), Option.bind_some, q6, Option.bind_some, qL_in (bel_41 a), Option.bind_some, q7, Option.bind_some, qL_in (bel_42 a), Option.bind_some, q8, Option.bind_some, zU_some, eX4_copyFrom_0, qL_in (hel_40 a), Option.bind_some, q9, Option.bind_some, qL_in (hel_41 a), Option.bind_some, q10, Option.bind_some, qL_in (hel_42 a), Option.bind_some, q11, Option.bind_some, zU_some, eX3_copyFrom_0, q12, Option.bind_some, q13, Option.bind_some, q14, Option.bind_some, q15, Option.bind_some, zU_some, eX0_copyFrom_0, zlet_eq, hm16, q17, Option.bind_some, q18, Option.bind_some, q19, Option.bind_some, q20, Option.bind_some, q21, Option.bind_some, q22, Option.bind_some, q23, Option.bind_some, eX0_copyFrom_114, q24, Option.bind_some, q25, Option.bind_some, zU_some, q26, Option.bind_some, eX9_copyFrom_122, q27, Option.bind_some, q28, Option.bind_some]
  · rw [e2f, e2]
    exact if_neg hn
  · rw [e2f, e2]
  · refine h28.2 k x s (fun e he => ?_)
    unfold isW at hs
    simp only [List.mem_cons, List.not_mem_nil, or_false] at he
    rcases he with rfl | rfl | rfl | rfl | rfl | rfl | rfl | rfl | rfl | rfl | rfl | rfl | rfl | rfl | rfl | rfl | rfl | rfl | rfl | rfl | rfl | rfl | rfl | rfl | rfl | rfl | rfl | rfl <;> (simp only; omega)
  · have hget := h28.1
    refine ⟨?_, ?_, fun z z1 z2 => ?_, fun z z1 => ?_, fun k z hk z1 => ?_, fun k z hk z1 => ?_, fun k z k1 k2 z1 => ?_, fun k z k1 k2 z1 => ?_⟩
    · rw [e2f, e2, hj]
      exact if_pos ⟨rfl, rfl, rfl⟩
    · exact hget (0, a, b, 0, 1) (by simp) 0 (Nat.le_refl 0) (Nat.lt_succ_self 0)
    · rcases (by omega : z = 1 ∨ z = 2 ∨ z = 3) with rfl | rfl | rfl
      · exact hget (9, a, b, 1, 2) (by simp) 1 (Nat.le_refl 1) (Nat.lt_succ_self 1)
      · exact hget (9, a, b, 2, 3) (by simp) 2 (Nat.le_refl 2) (Nat.lt_succ_self 2)
      · exact hget (9, a, b, 3, 4) (by simp) 3 (Nat.le_refl 3) (Nat.lt_succ_self 3)
    · exact hget (57, a, b, 0, 8) (by simp) z (Nat.zero_le _) z1
    · rcases (by omega : k = 58 ∨ k = 59 ∨ k = 60 ∨ k = 61 ∨ k = 36 ∨ k = 37 ∨ k = 38) with rfl | rfl | rfl | rfl | rfl | rfl | rfl
      · exact hget (58, a, b, 0, 60) (by simp) z (Nat.zero_le _) z1
      · exact hget (59, a, b, 0, 60) (by simp) z (Nat.zero_le _) z1
      · exact hget (60, a, b, 0, 60) (by simp) z (Nat.zero_le _) z1
      · exact hget (61, a, b, 0, 60) (by simp) z (Nat.zero_le _) z1
      · exact hget (36, a, b, 0, 60) (by simp) z (Nat.zero_le _) z1
      · exact hget (37, a, b, 0, 60) (by simp) z (Nat.zero_le _) z1
      · exact hget (38, a, b, 0, 60) (by simp) z (Nat.zero_le _) z1
    · rcases (by omega : k = 39 ∨ k = 21 ∨ k = 22 ∨ k = 23 ∨ k = 24 ∨ k = 25 ∨ k = 26 ∨ k = 27 ∨ k = 28 ∨ k = 29) with rfl | rfl | rfl | rfl | rfl | rfl | rfl | rfl | rfl | rfl
      · exact hget (39, a, b, 0, 100) (by simp) z (Nat.zero_le _) z1
      · exact hget (21, a, b, 0, 100) (by simp) z (Nat.zero_le _) z1
      · exact hget (22, a, b, 0, 100) (by simp) z (Nat.zero_le _) z1
      · exact hget (23, a, b, 0, 100) (by simp) z (Nat.zero_le _) z1
      · exact hget (24, a, b, 0, 100) (by simp) z (Nat.zero_le _) z1
      · exact hget (25, a, b, 0, 100) (by simp) z (Nat.zero_le _) z1
      · exact hget (26, a, b, 0, 100) (by simp) z (Nat.zero_le _) z1
      · exact hget (27, a, b, 0, 100) (by simp) z (Nat.zero_le _) z1
      · exact hget (28, a, b, 0, 100) (by simp) z (Nat.zero_le _) z1
      · exact hget (29, a, b, 0, 100) (by simp) z (Nat.zero_le _) z1
    · rcases (by omega : k = 40 ∨ k = 41 ∨ k = 42) with rfl | rfl | rfl
      · exact hget (40, 2 * a, 2 * b, 0, 60) (by simp) z (Nat.zero_le _) z1
      · exact hget (41, 2 * a, 2 * b, 0, 60) (by simp) z (Nat.zero_le _) z1
      · exact hget (42, 2 * a, 2 * b, 0, 60) (by simp) z (Nat.zero_le _) z1
    · rcases (by omega : k = 40 ∨ k = 41 ∨ k = 42) with rfl | rfl | rfl
      · exact hget (40, 2 * a + 1, 2 * b + 1, 0, 100) (by simp) z (Nat.zero_le _) z1
      · exact hget (41, 2 * a + 1, 2 * b + 1, 0, 100) (by simp) z (Nat.zero_le _) z1
      · exact hget (42, 2 * a + 1, 2 * b + 1, 0, 100) (by simp) z (Nat.zero_le _) z1
