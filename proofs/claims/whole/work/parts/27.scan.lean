/-! ===== the reference's queues: bags of a state and place, by their order ===== -/
theorem pM_ofBag {μ : zM} {b c : Nat} {x y : Int32} (hx : x = nI b) (hb : b < 100) (hy : y = nI c) (hc : c < 8) : tX11_ofBag_0 x y μ = some (some (.inl (μ.1 65 0 (400 + 8 * b + c))), μ) := by
  subst hx; subst hy
  have e : (400 + (8 * nI b)) + nI c = nI (400 + 8 * b + c) := by
    rw [show (8 : Int32) = nI 8 from rfl, show (400 : Int32) = nI 400 from rfl, pk_mul, nI_add, nI_add]
  rw [eX11_ofBag_0, e, qI_in (zS_65 0) rfl (show 400 + 8 * b + c < 1200 by omega) (by decide), Option.bind_some]
/-- bag b has state x and place y -/
def inM (w : Nat → Int32) (x y : Int32) (b : Nat) : Prop := w (400 + 8 * b) = x ∧ w (400 + 8 * b + 1) = y
noncomputable def cntP (P : Nat → Prop) : Nat → Nat
  | 0 => 0
  | k + 1 => cntP P k + zif (P k) 1 0
theorem cntP_le (P : Nat → Prop) : ∀ k, cntP P k ≤ k
  | 0 => Nat.le_refl _
  | k + 1 => by
    have := cntP_le P k
    unfold cntP
    by_cases hp : P k
    · rw [zif_pos hp]; omega
    · rw [zif_neg hp]; omega
theorem cntP_list (P : Nat → Prop) : ∀ (k : Nat) (l : List Nat), l.Nodup → (∀ b, b ∈ l ↔ b < k ∧ P b) → cntP P k = l.length
  | 0, l, _, h => by
    cases l with
    | nil => rfl
    | cons a l => exact absurd ((h a).mp List.mem_cons_self).1 (by omega)
  | k + 1, l, hn, h => by
    by_cases hp : P k
    · have hk : k ∈ l := (h k).mpr ⟨by omega, hp⟩
      have h2 := cntP_list P k (l.erase k) (hn.erase k) (fun b => by
        rw [hn.mem_erase_iff, h b]
        constructor
        · rintro ⟨a, b1, b2⟩; exact ⟨by omega, b2⟩
        · rintro ⟨a, b1⟩; exact ⟨by omega, by omega, b1⟩)
      unfold cntP
      rw [zif_pos hp, h2, List.length_erase_of_mem hk]
      have : 0 < l.length := List.length_pos_of_mem hk
      omega
    · have h2 := cntP_list P k l hn (fun b => by
        rw [h b]
        constructor
        · rintro ⟨a, b1⟩
          refine ⟨?_, b1⟩
          rcases Nat.lt_or_ge b k with z | z
          · exact z
          · exact absurd b1 (by rw [show b = k by omega]; exact hp)
        · rintro ⟨a, b1⟩; exact ⟨by omega, b1⟩)
      unfold cntP
      rw [zif_neg hp, h2, Nat.add_zero]
theorem cntP_succ (P : Nat → Prop) (k : Nat) : cntP P (k + 1) = cntP P k + zif (P k) 1 0 := rfl
theorem pM_many_loop {μ : zM} {C : Nat} (hC : μ.1 65 0 1 = nI C) (hC1 : C ≤ 100) (x y : Int32) : ∀ (m k n : Nat), k + m = C → m < n → tX11_manyIn_5 n x y (nI (cntP (inM (μ.1 65 0) x y) k)) (nI k) μ = some (some (.inl (nI (cntP (inM (μ.1 65 0) x y) C))), μ)
  | 0, k, n, hk, hn => by
    obtain ⟨n, rfl⟩ : ∃ q, n = q + 1 := ⟨n - 1, by omega⟩
    rw [eX11_manyIn_5, qI_in (x := 1) (p := 1) (zS_65 0) rfl (by decide) (by decide), Option.bind_some, hC, zif_neg (nI_nlt (by omega) (by omega)), show k = C by omega]
  | m + 1, k, n, hk, hn => by
    obtain ⟨n, rfl⟩ : ∃ q, n = q + 1 := ⟨n - 1, by omega⟩
    have ih := pM_many_loop hC hC1 x y m (k + 1) n (by omega) (by omega)
    rw [eX11_manyIn_5, qI_in (x := 1) (p := 1) (zS_65 0) rfl (by decide) (by decide), Option.bind_some, hC, zif_pos (nI_lt (by omega) (by omega)), pM_ofBag (c := 0) (y := 0) rfl (by omega) rfl (by decide), zI_some, pM_ofBag (c := 1) (y := 1) rfl (by omega) rfl (by decide), zI_some]
    simp only [eX11_manyIn_44, eX11_manyIn_43, eX11_manyIn_46, eX11_manyIn_49, nI_1]
    rw [cntP_succ] at ih
    have e0 : ∀ z : Int32, z + 0 = z := fun z => Int32.add_zero z
    by_cases a : μ.1 65 0 (400 + 8 * k + 0) = x
    · rw [zif_pos a]
      by_cases b : μ.1 65 0 (400 + 8 * k + 1) = y
      · rw [zif_pos (show inM (μ.1 65 0) x y k from ⟨a, b⟩)] at ih
        rw [zif_pos b]
        exact ih
      · rw [zif_neg (show ¬ inM (μ.1 65 0) x y k from fun z => b z.2), Nat.add_zero] at ih
        rw [zif_neg b, e0]
        exact ih
    · rw [zif_neg (show ¬ inM (μ.1 65 0) x y k from fun z => a z.1), Nat.add_zero] at ih
      rw [zif_neg a, e0]
      exact ih
theorem pM_manyIn {μ : zM} {C : Nat} (hC : μ.1 65 0 1 = nI C) (hC1 : C ≤ 100) (x y : Int32) {l : List Nat} (hn : l.Nodup) (hl : ∀ b, b ∈ l ↔ b < C ∧ inM (μ.1 65 0) x y b) : tX11_manyIn_0 x y μ = some (some (.inl (nI l.length)), μ) := by
  rw [eX11_manyIn_0, eX11_manyIn_2]
  have h := pM_many_loop hC hC1 x y C 0 zN (by omega) (by rw [zN_eq]; omega)
  rw [cntP_list _ C l hn hl] at h
  exact h
/-- the order of a bag -/
def ordM (w : Nat → Int32) (b : Nat) : Int32 := w (400 + 8 * b + 2)
def fstOK (w : Nat → Int32) (x y : Int32) (k : Nat) (z : Int32) : Prop := (z = -2 ∧ ∀ b, b < k → ¬ inM w x y b) ∨ ∃ a, a < k ∧ inM w x y a ∧ z = nI a ∧ ∀ b, b < k → inM w x y b → b ≠ a → ¬ ordM w b < ordM w a
theorem pM_first_loop {μ : zM} {C : Nat} (hC : μ.1 65 0 1 = nI C) (hC1 : C ≤ 100) (x y : Int32) : ∀ (m k n : Nat) (z : Int32), k + m = C → m < n → fstOK (μ.1 65 0) x y k z → ∃ z', tX11_firstIn_6 n x y z (nI k) μ = some (some (.inl z'), μ) ∧ fstOK (μ.1 65 0) x y C z'
  | 0, k, n, z, hk, hn, hz => by
    obtain ⟨n, rfl⟩ : ∃ q, n = q + 1 := ⟨n - 1, by omega⟩
    refine ⟨z, ?_, by rw [show C = k by omega]; exact hz⟩
    rw [eX11_firstIn_6, qI_in (x := 1) (p := 1) (zS_65 0) rfl (by decide) (by decide), Option.bind_some, hC, zif_neg (nI_nlt (by omega) (by omega))]
  | m + 1, k, n, z, hk, hn, hz => by
    obtain ⟨n, rfl⟩ : ∃ q, n = q + 1 := ⟨n - 1, by omega⟩
    have ih := fun z => pM_first_loop hC hC1 x y m (k + 1) n z (by omega) (by omega)
    have skip : ¬ inM (μ.1 65 0) x y k → fstOK (μ.1 65 0) x y (k + 1) z := by
      intro hp
      have split : ∀ b, b < k + 1 → inM (μ.1 65 0) x y b → b < k := fun b hb hi => by
        rcases Nat.lt_or_ge b k with q | q
        · exact q
        · exact absurd hi (by rw [show b = k by omega]; exact hp)
      rcases hz with ⟨e, h⟩ | ⟨a, h1, h2, h3, h4⟩
      · exact Or.inl ⟨e, fun b hb hi => h b (split b hb hi) hi⟩
      · exact Or.inr ⟨a, by omega, h2, h3, fun b hb hi => h4 b (split b hb hi) hi⟩
    have q43 : tX11_firstIn_43 n x y z (nI k) μ = tX11_firstIn_6 n x y z (nI (k + 1)) μ := by
      rw [eX11_firstIn_43, eX11_firstIn_44, eX11_firstIn_46, zif_pos rfl, eX11_firstIn_74, eX11_firstIn_77, nI_1]
    rw [eX11_firstIn_6, qI_in (x := 1) (p := 1) (zS_65 0) rfl (by decide) (by decide), Option.bind_some, hC, zif_pos (nI_lt (by omega) (by omega)), pM_ofBag (c := 0) (y := 0) rfl (by omega) rfl (by decide), zI_some, pM_ofBag (c := 1) (y := 1) rfl (by omega) rfl (by decide), zI_some, q43]
    by_cases a : μ.1 65 0 (400 + 8 * k + 0) = x
    · rw [zif_pos a]
      by_cases b : μ.1 65 0 (400 + 8 * k + 1) = y
      · rw [zif_pos b, eX11_firstIn_44, eX11_firstIn_46, zif_neg one_ne0]
        simp only [eX11_firstIn_71, eX11_firstIn_74, eX11_firstIn_77, nI_1]
        have hp : inM (μ.1 65 0) x y k := ⟨a, b⟩
        rcases hz with ⟨e, h⟩ | ⟨c, h1, h2, h3, h4⟩
        · rw [e, zif_pos m2_lt]
          exact ih _ (Or.inr ⟨k, by omega, hp, rfl, fun b hb hi hne => absurd hi (h b (by omega))⟩)
        · rw [h3, zif_neg (nI_pos (by omega)), pM_ofBag (c := 2) (y := 2) rfl (by omega) rfl (by decide), zI_some, pM_ofBag (c := 2) (y := 2) rfl (by omega) rfl (by decide), zI_some]
          by_cases o : μ.1 65 0 (400 + 8 * k + 2) < μ.1 65 0 (400 + 8 * c + 2)
          · rw [zif_pos o]
            refine ih _ (Or.inr ⟨k, by omega, hp, rfl, fun b hb hi hne => ?_⟩)
            by_cases hbc : b = c
            · subst hbc
              exact Int32.lt_asymm o
            · intro hlt
              exact h4 b (by omega) hi hbc (Int32.lt_trans hlt o)
          · rw [zif_neg o]
            refine ih _ (Or.inr ⟨c, by omega, h2, rfl, fun b hb hi hne => ?_⟩)
            rcases Nat.lt_or_ge b k with q | q
            · exact h4 b q hi hne
            · rw [show b = k by omega]; exact o
      · rw [zif_neg b]
        exact ih _ (skip (fun z => b z.2))
    · rw [zif_neg a]
      exact ih _ (skip (fun z => a z.1))
/-- the list by order -/
def byOrd (w : Nat → Int32) (l : List Nat) : Prop := l.Pairwise (fun a b => ordM w a < ordM w b)
theorem pM_firstIn {μ : zM} {C : Nat} (hC : μ.1 65 0 1 = nI C) (hC1 : C ≤ 100) (x y : Int32) {l : List Nat} (hs : byOrd (μ.1 65 0) l) (hl : ∀ b, b ∈ l ↔ b < C ∧ inM (μ.1 65 0) x y b) : tX11_firstIn_0 x y μ = some (some (.inl (oN (-2) id l.head?)), μ) := by
  rw [eX11_firstIn_0, eX11_firstIn_3]
  obtain ⟨z', e, h⟩ := pM_first_loop hC hC1 x y C 0 zN (-2) (by omega) (by rw [zN_eq]; omega) (Or.inl ⟨rfl, fun b hb => absurd hb (by omega)⟩)
  rw [show (0 : Int32) = nI 0 from rfl, e]
  rcases h with ⟨e1, h⟩ | ⟨a, h1, h2, h3, h4⟩
  · cases l with
    | nil => rw [e1]; rfl
    | cons b l => exact absurd ((hl b).mp List.mem_cons_self).2 (h b ((hl b).mp List.mem_cons_self).1)
  · cases l with
    | nil => exact absurd ((hl a).mpr ⟨h1, h2⟩) (by simp)
    | cons b l =>
      have hb := (hl b).mp List.mem_cons_self
      by_cases hab : b = a
      · rw [h3, hab]; rfl
      · have ha : a ∈ l := by
          rcases List.mem_cons.mp ((hl a).mpr ⟨h1, h2⟩) with z | z
          · exact absurd z.symm hab
          · exact z
        exact absurd ((List.pairwise_cons.mp hs).1 a ha) (h4 b hb.1 hb.2 hab)
