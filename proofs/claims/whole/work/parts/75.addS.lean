/-! ===== a setup with one more device ===== -/
/-- the longest clause of a sort -/
def bnd (s : Nat) : Nat := if s = 1 then 9 else if s = 2 then 11 else if s = 3 then 26 else if s = 4 then 50 else if s = 5 then 34 else 44
def sb (ds : Nat → Nat) : Nat → Nat
  | 0 => 0
  | x + 1 => sb ds x + bnd (ds x)
theorem sb_eq {f g : Nat → Nat} : ∀ d, (∀ x, x < d → f x = g x) → sb f d = sb g d := by
  intro d
  induction d with
  | zero => exact fun _ => rfl
  | succ d ih =>
    intro h
    show sb f d + bnd (f d) = sb g d + bnd (g d)
    rw [ih (fun x hx => h x (by omega)), h d (by omega)]
def SU (u : Nat → Int32) (S : zSt) (D : zDv) (lim : Int32) (d : Nat) (dv : Nat → Nat → Nat) (ds dk : Nat → Nat) : Prop :=
  u 0 = nI (sn S) ∧ u 1 = nI d ∧ u 2 = nI (swd S) ∧ u 3 = lim ∧ (∀ p, p < 60 → u (20 + p) = nI (ssrt S p)) ∧ (∀ s, 1 ≤ s → s ≤ 6 → u (10 + s) = nI (scnt S s)) ∧ (∀ p, 1 ≤ ssrt S p → ssrt S p ≤ 6 → u (80 + p) = nI (snum S p)) ∧
  (∀ s k, 1 ≤ s → s ≤ 6 → k < scnt S s → (dv s k < d ∧ ds (dv s k) = s ∧ dk (dv s k) = k) ∧ u (340 + 6 * s + k) = nI (dv s k) ∧ (3 ≤ s → u (140 + 8 * dv s k + 2) = nI (D s k 0) ∧ u (140 + 8 * dv s k + 3) = nI (D s k 1)) ∧ (s = 4 → ∀ l, 1 ≤ l → l ≤ 3 → u (140 + 8 * dv s k + 3 + l) = nI (D s k (1 + l))) ∧ (s = 6 → u (140 + 8 * dv s k + 4) = nI (D s k 2)) ∧ (4 ≤ s → u (140 + 8 * dv s k + 7) = nI (D s k 5))) ∧
  (∀ x, x < d → (1 ≤ ds x ∧ ds x ≤ 6 ∧ dk x < scnt S (ds x) ∧ dv (ds x) (dk x) = x) ∧ u (140 + 8 * x) = nI (ds x) ∧ u (140 + 8 * x + 1) = nI (spos S (ds x) (dk x))) ∧
  (u 4 = nI (sF S) ∧ ∀ c f, c < 4 → f < sF S → u (290 + 4 * f + c) = sT S c f) ∧ d = scnt S 1 + scnt S 2 + scnt S 3 + scnt S 4 + scnt S 5 + scnt S 6 ∧ sb ds d = 9 * scnt S 1 + 11 * scnt S 2 + 26 * scnt S 3 + 50 * scnt S 4 + 34 * scnt S 5 + 44 * scnt S 6
def RD (μ ν : zM) (j : Nat) (S : zSt) (D : zDv) (lim : Int32) (d : Nat) (dv : Nat → Nat → Nat) (ds dk : Nat → Nat) : Prop := okS S ∧ okD S D ∧ SX μ j S D lim ∧ SU (ν.1 64 0) S D lim d dv ds dk ∧ (μ.1 5 j 13 = nI d ∧ μ.1 5 j 15 = 0) ∧ ∀ x, x < d → μ.1 51 j x = nI (spos S (ds x) (dk x))
def addS (S : zSt) (s p k ex : Nat) : zSt := (sn S, swd S, sF S, sT S, (fun t => if t = s then k + 1 else scnt S t), (fun t q => if t = s ∧ q = k then p else spos S t q), (fun q => if q = p then s else if 4 ≤ s ∧ q = ex then 7 else ssrt S q), fun q => if q = p then k else snum S q)
def addD (D : zDv) (s k : Nat) (g : Nat → Nat) : zDv := fun t q x => if t = s ∧ q = k then g x else D t q x
theorem addS_cnt (S : zSt) (s p k ex t : Nat) : scnt (addS S s p k ex) t = if t = s then k + 1 else scnt S t := rfl
theorem addS_pos (S : zSt) (s p k ex t q : Nat) : spos (addS S s p k ex) t q = if t = s ∧ q = k then p else spos S t q := rfl
theorem addS_srt (S : zSt) (s p k ex q : Nat) : ssrt (addS S s p k ex) q = if q = p then s else if 4 ≤ s ∧ q = ex then 7 else ssrt S q := rfl
theorem addS_num (S : zSt) (s p k ex q : Nat) : snum (addS S s p k ex) q = if q = p then k else snum S q := rfl
/-- what a new device must be -/
def NEW (S : zSt) (s p k ex : Nat) : Prop := (1 ≤ s ∧ s ≤ 6) ∧ k = scnt S s ∧ (s ≤ 2 → k < 3) ∧ (s = 3 → k < 6) ∧ (4 ≤ s → k < 2) ∧ (p < sn S ∧ ssrt S p = 0) ∧ (4 ≤ s → ex < sn S ∧ ex ≠ p ∧ ssrt S ex = 0)
theorem NEW.old {S : zSt} {s p k ex : Nat} (hS : okS S) (h : NEW S s p k ex) {t q : Nat} (h1 : 1 ≤ t) (h6 : t ≤ 6) (hq : q < scnt S t) : ¬ (t = s ∧ q = k) ∧ spos S t q ≠ p ∧ ¬ (4 ≤ s ∧ spos S t q = ex) := by
  obtain ⟨n1, n2, n3, n4, n5, n6, n7⟩ := h
  have g := hS.2.2.2.2.2.2.2.2.1 t q h1 h6 hq
  refine ⟨fun z => ?_, fun z => ?_, fun z => ?_⟩
  · rw [z.1, z.2] at hq
    omega
  · rw [z] at g
    omega
  · rw [z.2] at g
    have := n7 z.1
    omega
theorem addS_ok {S : zSt} {s p k ex : Nat} (hS : okS S) (h : NEW S s p k ex) : okS (addS S s p k ex) := by
  have hN := h
  obtain ⟨n1, n2, n3, n4, n5, n6, n7⟩ := h
  have hS' := hS
  obtain ⟨a1, a2, a3, a4, a5, a6, a7, a8, a9, a10, a11, a12, a13, a14, a15⟩ := hS'
  have a83 := a8 3
  refine ⟨a1, a2, a3, a4, a5, fun q => ?_, fun q hq => ?_, fun t => ?_, fun t q t1 t6 hq => ?_, fun q q1 q6 => ?_, ?_, ?_, ?_, ?_, ?_⟩
  · rw [addS_srt]
    split
    · omega
    · split
      · omega
      · exact a6 q
  · have hq : sn S ≤ q := hq
    rw [addS_srt, if_neg (by omega), if_neg (fun z => by have := n7 z.1; omega)]
    exact a7 q hq
  · rw [addS_cnt]
    split
    · next e =>
      subst e
      have := a8 t
      rcases (by omega : t ≤ 2 ∨ t = 3 ∨ 4 ≤ t) with y | y | y
      · have := n3 y; omega
      · have := n4 y; omega
      · have := n5 y; omega
    · exact a8 t
  · rw [addS_cnt] at hq
    rw [addS_pos]
    by_cases e : t = s ∧ q = k
    · rw [if_pos e, addS_srt, if_pos rfl, addS_num, if_pos rfl]
      exact ⟨n6.1, e.1.symm, e.2.symm⟩
    · rw [if_neg e]
      have hq' : q < scnt S t := by
        by_cases e2 : t = s
        · rw [if_pos e2] at hq
          rw [e2]
          omega
        · rw [if_neg e2] at hq
          exact hq
      obtain ⟨o1, o2, o3⟩ := hN.old hS t1 t6 hq'
      rw [addS_srt, if_neg o2, if_neg o3, addS_num, if_neg o2]
      exact a9 t q t1 t6 hq'
  · rw [addS_srt] at q1 q6 ⊢
    rw [addS_num]
    by_cases e : q = p
    · rw [if_pos e, if_pos e, addS_cnt, if_pos rfl, addS_pos, if_pos ⟨rfl, rfl⟩]
      exact ⟨by omega, e.symm⟩
    · rw [if_neg e] at q1 q6 ⊢
      rw [if_neg e]
      by_cases e2 : 4 ≤ s ∧ q = ex
      · rw [if_pos e2] at q6
        omega
      · rw [if_neg e2] at q1 q6 ⊢
        obtain ⟨c1, c2⟩ := a10 q q1 q6
        rw [addS_cnt, addS_pos]
        have o1 := (hN.old hS q1 q6 c1).1
        rw [if_neg o1]
        refine ⟨?_, c2⟩
        split
        · next e3 => rw [e3] at c1; omega
        · exact c1
  all_goals
    rw [addS_cnt]
    split
    · omega
    · omega
theorem addD_ok {S : zSt} {D : zDv} {s p k ex : Nat} {g : Nat → Nat} (hS : okS S) (hD : okD S D) (h : NEW S s p k ex) (hg : 3 ≤ s → 1 ≤ g 0 ∧ g 0 ≤ 20 ∧ 1 ≤ g 1 ∧ g 1 ≤ 9 ∧ (s = 4 → ∀ l, 1 ≤ l → l ≤ 3 → 1 ≤ g (1 + l) ∧ g (1 + l) ≤ 99) ∧ (s = 6 → 1 ≤ g 2 ∧ g 2 ≤ 99)) (h5 : g 5 = ex) : okD (addS S s p k ex) (addD D s k g) := by
  intro t q t3 t6 hq
  have ha : ∀ x, addD D s k g t q x = if t = s ∧ q = k then g x else D t q x := fun x => rfl
  rw [addS_cnt] at hq
  by_cases e : t = s ∧ q = k
  · simp only [ha, if_pos e]
    obtain ⟨y1, y2, y3, y4, y5, y6⟩ := hg (by omega)
    refine ⟨y1, y2, y3, y4, fun z => y5 (by omega), fun z => y6 (by omega), fun z => ?_⟩
    have := h.2.2.2.2.2.2 (by omega)
    rw [h5, addS_srt, if_neg this.2.1, if_pos ⟨by omega, rfl⟩]
    exact ⟨this.1, rfl⟩
  · have hq' : q < scnt S t := by
      by_cases e2 : t = s
      · rw [if_pos e2] at hq
        have := h.2.1
        rw [e2]
        omega
      · rw [if_neg e2] at hq
        exact hq
    simp only [ha, if_neg e]
    obtain ⟨y1, y2, y3, y4, y5, y6, y7⟩ := hD t q t3 t6 hq'
    refine ⟨y1, y2, y3, y4, y5, y6, fun z => ?_⟩
    obtain ⟨z1, z2⟩ := y7 z
    refine ⟨z1, ?_⟩
    rw [addS_srt]
    split
    · next e3 => rw [e3] at z2; have := h.2.2.2.2.2.1; omega
    · split
      · rfl
      · exact z2
theorem RD_add {μ0 ν0 μ ν : zM} {j s p k d r w t1 t2 t3 ex : Nat} {S : zSt} {D : zDv} {lim : Int32} {dv : Nat → Nat → Nat} {ds dk : Nat → Nat} (h : RD μ0 ν0 j S D lim d dv ds dk) (hN : NEW S s p k ex) (g1 : 3 ≤ s → 1 ≤ r ∧ r ≤ 20 ∧ 1 ≤ w ∧ w ≤ 9) (g2 : s = 4 → (1 ≤ t1 ∧ t1 ≤ 99) ∧ (1 ≤ t2 ∧ t2 ≤ 99) ∧ 1 ≤ t3 ∧ t3 ≤ 99) (g3 : s = 6 → 1 ≤ t1 ∧ t1 ≤ 99) (hC : DC μ0 μ j s p k d r w t1 t2 t3 ex 4) (hF : DF ν0 ν s p k d r w t1 t2 t3 ex) (hd : d < 18) : ∃ D' dv' ds' dk', RD μ ν j (addS S s p k ex) D' lim (d + 1) dv' ds' dk' := by
  obtain ⟨hS, hD, ⟨x1, x2, x3, x4, ⟨x5a, x5b, x5c⟩, x6, x7, x8, x9⟩, hU, h13, h51⟩ := h
  have hN' := hN
  obtain ⟨n1, n2, n3, n4, n5, n6, n7⟩ := hN'
  have hk6 : k < 6 := by omega
  have hn60 := hS.2.1
  let g : Nat → Nat := fun x => if x = 0 then r else if x = 1 then w else if x = 2 then t1 else if x = 3 then t2 else if x = 4 then t3 else ex
  have hS' := addS_ok hS hN
  refine ⟨addD D s k g, fun t q => if t = s ∧ q = k then d else dv t q, fun x => if x = d then s else ds x, fun x => if x = d then k else dk x, hS', ?_, ?_, ?_, ?_, fun x hx => ?_⟩
  · refine addD_ok hS hD hN (fun z => ?_) rfl
    refine ⟨(g1 z).1, (g1 z).2.1, (g1 z).2.2.1, (g1 z).2.2.2, fun e l l1 l3 => ?_, fun e => g3 e⟩
    rcases (by omega : l = 1 ∨ l = 2 ∨ l = 3) with rfl | rfl | rfl
    · exact (g2 e).1
    · exact (g2 e).2.1
    · exact (g2 e).2.2
  · obtain ⟨c1, c2, c3, c4, c5, c6, c7, c8, c9, c10, c11, c12, c13⟩ := hC
    refine ⟨x1, by rw [c6, if_neg (by decide)]; exact x2, by rw [c6, if_neg (by decide)]; exact x3, by rw [c6, if_neg (by decide)]; exact x4, ⟨x5a, by rw [c7 1 _ (Or.inl rfl)]; exact x5b, fun c f hc hf => by rw [c7 _ _ (Or.inr (by omega))]; exact x5c c f hc hf⟩, fun q hq => ?_, fun t t1' t6 => ?_, fun t q t1' t6 hq => ?_, fun t q t3' t6 hq => ?_⟩
    · rw [c1, addS_srt]
      by_cases e : q = p
      · rw [if_pos e, if_pos e]
      · rw [if_neg e, if_neg e]
        by_cases e2 : 4 ≤ s ∧ q = ex
        · rw [if_pos ⟨⟨e2.1, by decide⟩, e2.2⟩, if_pos e2]; rfl
        · rw [if_neg (by omega), if_neg e2]
          exact x6 q hq
    · rw [c3, addS_cnt]
      by_cases e : t = s
      · rw [if_pos e, if_pos e]
      · rw [if_neg e, if_neg e]
        exact x7 t t1' t6
    · rw [c4 t q t6, addS_pos, c2]
      rw [addS_cnt] at hq
      by_cases e : t = s ∧ q = k
      · rw [if_pos e, if_pos e, if_pos rfl, e.2]
        exact ⟨rfl, rfl⟩
      · have hq' : q < scnt S t := by
          by_cases e2 : t = s
          · rw [if_pos e2] at hq; rw [e2]; omega
          · rw [if_neg e2] at hq; exact hq
        rw [if_neg e, if_neg e, if_neg (hN.old hS t1' t6 hq').2.1]
        exact x8 t q t1' t6 hq'
    · have ha : ∀ x, addD D s k g t q x = if t = s ∧ q = k then g x else D t q x := fun x => rfl
      rw [addS_pos]
      rw [addS_cnt] at hq
      simp only [ha]
      by_cases e : t = s ∧ q = k
      · simp only [if_pos e]
        refine ⟨(c9 (by decide) (by omega)).1, (c9 (by decide) (by omega)).2, fun z l l1 l3 => ?_, fun z => c11 (by decide) (by omega), fun z => c12 (by decide) (by omega)⟩
        obtain ⟨y1, y2, y3⟩ := c10 (by decide) (by omega)
        rcases (by omega : l = 1 ∨ l = 2 ∨ l = 3) with rfl | rfl | rfl
        · exact y1
        · exact y2
        · exact y3
      · have hq' : q < scnt S t := by
          by_cases e2 : t = s
          · rw [if_pos e2] at hq; rw [e2]; omega
          · rw [if_neg e2] at hq; exact hq
        simp only [if_neg e]
        obtain ⟨y1, y2, y3, y4⟩ := c8 _ (hN.old hS (by omega) t6 hq').2.1
        rw [y1, y2, y3]
        obtain ⟨v1, v2, v3, v4, v5⟩ := x9 t q t3' t6 hq'
        exact ⟨v1, v2, fun z l l1 l3 => by rw [y4]; exact v3 z l l1 l3, fun z => by rw [y4]; exact v4 z, v5⟩
  · obtain ⟨ν1, ⟨m1, m2, m3, m4, m5, m6⟩, -, hf⟩ := hF
    obtain ⟨u0, u1, u2, u3, u4, u5, u6, u7, u8, u9, u10⟩ := hU
    have z1 : ∀ z, z ≠ 140 + 8 * d → z ≠ 140 + 8 * d + 1 → z ≠ 340 + 6 * s + k → z ≠ 10 + s → z ≠ 1 → ν.1 64 0 z = ν1.1 64 0 z := fun z a b c e f => by rw [hf, if_neg a, if_neg b, if_neg c, if_neg e, if_neg f]
    have z2 : ∀ z, z ≠ 340 + 6 * s + k → z ≠ 10 + s → z ≠ 1 → (z < 140 + 8 * d ∨ 140 + 8 * d + 8 ≤ z) → z ≠ 20 + p → z ≠ 80 + p → ¬ (4 ≤ s ∧ z = 20 + ex) → ¬ (4 ≤ s ∧ z = 80 + ex) → ν.1 64 0 z = ν0.1 64 0 z := fun z a b c e f g h i => by
      rw [z1 z (by omega) (by omega) a b c, m1 z e, if_neg f, if_neg g, if_neg (by omega), if_neg (by omega)]
    have ex60 : 4 ≤ s → ex < 60 := fun z => by have := n7 z; omega
    refine ⟨?_, ?_, ?_, ?_, fun q hq => ?_, fun t t1' t6 => ?_, fun q q1 q6 => ?_, fun t q t1' t6 hq => ?_, fun x hx => ?_, ⟨?_, fun c f hc hf' => ?_⟩, ?_⟩
    · rw [z2 0 (by omega) (by omega) (by omega) (by omega) (by omega) (by omega) (by omega) (by omega)]; exact u0
    · rw [hf, if_neg (by omega), if_neg (by omega), if_neg (by omega), if_neg (by omega), if_pos rfl]
    · rw [z2 2 (by omega) (by omega) (by omega) (by omega) (by omega) (by omega) (by omega) (by omega)]; exact u2
    · rw [z2 3 (by omega) (by omega) (by omega) (by omega) (by omega) (by omega) (by omega) (by omega)]; exact u3
    · rw [z1 _ (by omega) (by omega) (by omega) (by omega) (by omega), m1 _ (by omega), addS_srt]
      by_cases e : q = p
      · rw [if_pos (by omega), if_pos e]
      · rw [if_neg (by omega), if_neg (by omega), if_neg e]
        by_cases e2 : 4 ≤ s ∧ q = ex
        · rw [if_pos (by omega), if_pos e2]; rfl
        · rw [if_neg (by omega), if_neg (by have := fun y => ex60 y; omega), if_neg e2]
          exact u4 q hq
    · rw [addS_cnt]
      by_cases e : t = s
      · rw [if_pos e, hf, if_neg (by omega), if_neg (by omega), if_neg (by omega), if_pos (by omega)]
      · rw [if_neg e, z2 _ (by omega) (by omega) (by omega) (by omega) (by omega) (by omega) (by omega) (by omega)]
        exact u5 t t1' t6
    · have hq60 : q < 60 := by
        have := hS'.2.2.2.2.2.2.1 q
        have hsn : sn (addS S s p k ex) = sn S := rfl
        by_cases e : q < sn S
        · omega
        · rw [this (by omega)] at q1
          omega
      rw [addS_srt] at q1 q6
      rw [addS_num]
      by_cases e : q = p
      · rw [if_pos e, z1 _ (by omega) (by omega) (by omega) (by omega) (by omega), m1 _ (by omega), if_neg (by omega), if_pos (by omega)]
      · rw [if_neg e] at q1 q6 ⊢
        by_cases e2 : 4 ≤ s ∧ q = ex
        · rw [if_pos e2] at q6
          omega
        · rw [if_neg e2] at q1 q6
          rw [z2 _ (by omega) (by omega) (by omega) (by omega) (by omega) (by omega) (by have := fun y => ex60 y; omega) (by omega)]
          exact u6 q q1 q6
    · have ha : ∀ x, addD D s k g t q x = if t = s ∧ q = k then g x else D t q x := fun x => rfl
      rw [addS_cnt] at hq
      simp only [ha]
      by_cases e : t = s ∧ q = k
      · simp only [if_pos e]
        refine ⟨⟨by omega, ?_, ?_⟩, ?_, fun z => ?_, fun z l l1 l3 => ?_, fun z => ?_, fun z => ?_⟩
        · simp; exact e.1.symm
        · simp; exact e.2.symm
        · rw [hf, if_neg (by omega), if_neg (by omega), if_pos (by omega)]
        · rw [z1 _ (by omega) (by omega) (by omega) (by omega) (by omega), z1 _ (by omega) (by omega) (by omega) (by omega) (by omega)]
          exact m2 (by decide) (by omega)
        · rw [z1 _ (by omega) (by omega) (by omega) (by omega) (by omega)]
          obtain ⟨y1, y2, y3⟩ := m3 (by decide) (by omega)
          rcases (by omega : l = 1 ∨ l = 2 ∨ l = 3) with rfl | rfl | rfl
          · exact y1
          · exact y2
          · exact y3
        · rw [z1 _ (by omega) (by omega) (by omega) (by omega) (by omega)]
          exact m4 (by decide) (by omega)
        · rw [z1 _ (by omega) (by omega) (by omega) (by omega) (by omega)]
          exact m5 (by decide) (by omega)
      · have hq' : q < scnt S t := by
          by_cases e2 : t = s
          · rw [if_pos e2] at hq; rw [e2]; omega
          · rw [if_neg e2] at hq; exact hq
        simp only [if_neg e]
        obtain ⟨⟨v1, v2, v3⟩, v4, v5, v6, v7, v8⟩ := u7 t q t1' t6 hq'
        have hqc := hS.2.2.2.2.2.2.2.1 t
        refine ⟨⟨by omega, by rw [if_neg (by omega)]; exact v2, by rw [if_neg (by omega)]; exact v3⟩, ?_, fun z => ?_, fun z l l1 l3 => ?_, fun z => ?_, fun z => ?_⟩
        · rw [z2 _ (by omega) (by omega) (by omega) (by omega) (by omega) (by omega) (by have := fun y => ex60 y; omega) (by have := fun y => ex60 y; omega)]
          exact v4
        · rw [z2 _ (by omega) (by omega) (by omega) (by omega) (by omega) (by omega) (by have := fun y => ex60 y; omega) (by have := fun y => ex60 y; omega), z2 _ (by omega) (by omega) (by omega) (by omega) (by omega) (by omega) (by have := fun y => ex60 y; omega) (by have := fun y => ex60 y; omega)]
          exact v5 z
        · rw [z2 _ (by omega) (by omega) (by omega) (by omega) (by omega) (by omega) (by have := fun y => ex60 y; omega) (by have := fun y => ex60 y; omega)]
          exact v6 z l l1 l3
        · rw [z2 _ (by omega) (by omega) (by omega) (by omega) (by omega) (by omega) (by have := fun y => ex60 y; omega) (by have := fun y => ex60 y; omega)]
          exact v7 z
        · rw [z2 _ (by omega) (by omega) (by omega) (by omega) (by omega) (by omega) (by have := fun y => ex60 y; omega) (by have := fun y => ex60 y; omega)]
          exact v8 z
    · by_cases e : x = d
      · simp only [if_pos e]
        refine ⟨⟨n1.1, n1.2, ?_, ?_⟩, ?_, ?_⟩
        · rw [addS_cnt, if_pos rfl]; omega
        · simp; exact e.symm
        · rw [hf, if_pos (by omega)]
        · rw [hf, if_neg (by omega), if_pos (by omega), addS_pos, if_pos ⟨rfl, rfl⟩]
      · simp only [if_neg e]
        obtain ⟨⟨w1, w2, w3, w4⟩, w5, w6⟩ := u8 x (by omega)
        have o := hN.old hS w1 w2 w3
        refine ⟨⟨w1, w2, ?_, ?_⟩, ?_, ?_⟩
        · rw [addS_cnt]
          split
          · next e3 => rw [e3] at w3; omega
          · exact w3
        · rw [if_neg o.1]; exact w4
        · rw [z2 _ (by omega) (by omega) (by omega) (by omega) (by omega) (by omega) (by have := fun y => ex60 y; omega) (by have := fun y => ex60 y; omega)]
          exact w5
        · rw [z2 _ (by omega) (by omega) (by omega) (by omega) (by omega) (by omega) (by have := fun y => ex60 y; omega) (by have := fun y => ex60 y; omega), addS_pos, if_neg o.1]
          exact w6
    · rw [z2 4 (by omega) (by omega) (by omega) (by omega) (by omega) (by omega) (by omega) (by omega)]; exact u9.1
    · have hf10 : f < 10 := by
        have : f < sF S := hf'
        omega
      rw [z2 _ (by omega) (by omega) (by omega) (by omega) (by omega) (by omega) (by have := fun y => ex60 y; omega) (by have := fun y => ex60 y; omega)]
      exact u9.2 c f hc hf'
    · have hsb : sb (fun x => if x = d then s else ds x) (d + 1) = sb ds d + bnd s := by
        show sb (fun x => if x = d then s else ds x) d + bnd (if d = d then s else ds d) = _
        rw [if_pos rfl, sb_eq (f := fun x => if x = d then s else ds x) (g := ds) d (fun x hx => if_neg (by omega))]
      rw [hsb]
      simp only [addS_cnt]
      rcases (by omega : s = 1 ∨ s = 2 ∨ s = 3 ∨ s = 4 ∨ s = 5 ∨ s = 6) with rfl | rfl | rfl | rfl | rfl | rfl <;> simp [bnd] <;> omega
  · exact ⟨by rw [hC.2.2.2.2.2.1, if_pos rfl], by rw [hC.2.2.2.2.2.1, if_neg (by decide)]; exact h13.2⟩
  · rw [hC.2.2.2.2.1, addS_pos]
    obtain ⟨u0, u1, u2, u3, u4, u5, u6, u7, u8, u9, u10⟩ := hU
    by_cases e : x = d
    · simp [if_pos e]
    · simp only [if_neg e]
      obtain ⟨⟨w1, w2, w3, w4⟩, w5, w6⟩ := u8 x (by omega)
      rw [if_neg (hN.old hS w1 w2 w3).1]
      exact h51 x (by omega)
