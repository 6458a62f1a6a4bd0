/-! ===== flights: lookups of both sides, tied to one table T (column, flight) of F flights ===== -/
def flFrom (num : Nat → Int32) (y : Int32) : Nat → Nat → Option Nat
  | 0, _ => none
  | m + 1, a => if num a = y then some a else flFrom num y m (a + 1)
theorem flFrom_succ (num : Nat → Int32) (y : Int32) (m a : Nat) : flFrom num y (m + 1) a = if num a = y then some a else flFrom num y m (a + 1) := rfl
def flOf (T : Nat → Nat → Int32) (F : Nat) (x : Int32) : Option Nat := flFrom (T 0) (x / 1000) F 0
def fX (o : Option Nat) : Int32 := match o with
  | none => -1
  | some f => nI f
def fMo (o : Option Nat) : Int32 := match o with
  | none => -2
  | some f => nI f
theorem flFrom_lt {num : Nat → Int32} {y : Int32} : ∀ (m a f : Nat), flFrom num y m a = some f → a ≤ f ∧ f < a + m ∧ num f = y
  | 0, a, f, h => by cases h
  | m + 1, a, f, h => by
    unfold flFrom at h
    split at h
    · next e => cases h; exact ⟨Nat.le_refl _, by omega, e⟩
    · have := flFrom_lt m (a + 1) f h
      exact ⟨by omega, by omega, this.2.2⟩
theorem flFrom_none {num : Nat → Int32} {y : Int32} : ∀ (m a : Nat), (∀ f, a ≤ f → f < a + m → num f ≠ y) → flFrom num y m a = none
  | 0, a, _ => rfl
  | m + 1, a, h => by
    unfold flFrom
    rw [if_neg (h a (Nat.le_refl _) (by omega))]
    exact flFrom_none m (a + 1) (fun f h1 h2 => h f (by omega) (by omega))
/-- the table in the class's setup j, and in the reference -/
def FlX (μ : zM) (j F : Nat) (T : Nat → Nat → Int32) : Prop := F ≤ 10 ∧ μ.1 1 j 0 = nI F ∧ ∀ c f, c < 4 → f < F → μ.1 (31 + c) j f = T c f
def FlM (μ : zM) (F : Nat) (T : Nat → Nat → Int32) : Prop := F ≤ 10 ∧ μ.1 63 0 4 = nI F ∧ ∀ c f, c < 4 → f < F → μ.1 63 0 (290 + 4 * f + c) = T c f
/-- what a table holds: numbers 1 .. 999, chutes, openings before closings -/
def FlT (F : Nat) (T : Nat → Nat → Int32) : Prop := ∀ f, f < F → (∃ q, 1 ≤ q ∧ q ≤ 999 ∧ T 0 f = nI q) ∧ (∃ q, q < 6 ∧ T 1 f = nI q) ∧ (∃ o c, o < c ∧ c ≤ 99999 ∧ T 2 f = nI o ∧ T 3 f = nI c)
theorem zS_31 (i : Nat) : zS 31 i = .inr (0, 10, (0, 0)) := rfl
theorem zS_63 (i : Nat) : zS 63 i = .inr (0, 400, (0, 0)) := rfl
theorem i1000 : (1000 : Int32) = nI 1000 := by decide
theorem i1000_ne : ¬ (1000 : Int32) = 0 := by decide
theorem pX1_of_loop {μ : zM} {j F : Nat} {T : Nat → Nat → Int32} (h : FlX μ j F T) (y : Int32) : ∀ (m a n : Nat), a + m = F → m < n → tX1_ofLabel_8 n j y (nI a) μ = some (some (.inl (fX (flFrom (T 0) y m a))), μ)
  | 0, a, n, ha, hn => by
    obtain ⟨n, rfl⟩ : ∃ k, n = k + 1 := ⟨n - 1, by omega⟩
    rw [eX1_ofLabel_8, h.2.1, zif_neg (nI_nlt (by omega) (by have := h.1; omega))]
    rfl
  | m + 1, a, n, ha, hn => by
    obtain ⟨n, rfl⟩ : ∃ k, n = k + 1 := ⟨n - 1, by omega⟩
    have hF := h.1
    rw [eX1_ofLabel_8, h.2.1, zif_pos (nI_lt (by omega) (by omega)), qI_in (zS_31 j) rfl (show a < 10 by omega) (by decide), Option.bind_some, h.2.2 0 a (by omega) (by omega), eX1_ofLabel_31, nI_1, zif_eq]
    unfold flFrom
    split
    · rfl
    · exact pX1_of_loop h y m (a + 1) n (by omega) (by omega)
theorem pX1_ofLabel {μ : zM} {j F : Nat} {T : Nat → Nat → Int32} (h : FlX μ j F T) (x : Int32) : tX1_ofLabel_0 j x μ = some (some (.inl (fX (flOf T F x))), μ) := by
  have hF := h.1
  rw [eX1_ofLabel_0, zif_neg i1000_ne, eX1_ofLabel_6]
  exact pX1_of_loop h (x / 1000) F 0 zN (by omega) (by rw [zN_eq]; omega)
theorem pM_ofFlight {μ : zM} {F : Nat} {T : Nat → Nat → Int32} (h : FlM μ F T) {f c : Nat} (hf : f < F) (hc : c < 4) {x y : Int32} (hx : x = nI f) (hy : y = nI c) : tX11_ofFlight_0 x y μ = some (some (.inl (T c f)), μ) := by
  have hF := h.1
  subst hx; subst hy
  have e : (290 + (4 * nI f)) + nI c = nI (290 + 4 * f + c) := by
    rw [show (4 : Int32) = nI 4 by decide, show (290 : Int32) = nI 290 by decide, pk_mul, nI_add, nI_add]
  rw [eX11_ofFlight_0, e, qI_in (zS_63 0) rfl (show 290 + 4 * f + c < 400 by omega) (by decide), Option.bind_some, h.2.2 c f hc hf]
theorem pM_by_loop {μ : zM} {F : Nat} {T : Nat → Nat → Int32} (h : FlM μ F T) (x : Int32) : ∀ (m a n : Nat), a + m = F → m < n → tX11_flightBy_2 n x (nI a) μ = some (some (.inl (fMo (if x < 1000 then none else flFrom (T 0) (x / 1000) m a))), μ)
  | 0, a, n, ha, hn => by
    obtain ⟨n, rfl⟩ : ∃ k, n = k + 1 := ⟨n - 1, by omega⟩
    have hF := h.1
    rw [eX11_flightBy_2, qI_in (x := 4) (p := 4) (zS_63 0) rfl (by decide) (by decide), Option.bind_some, h.2.1, zif_neg (nI_nlt (by omega) (by omega))]
    split <;> rfl
  | m + 1, a, n, ha, hn => by
    obtain ⟨n, rfl⟩ : ∃ k, n = k + 1 := ⟨n - 1, by omega⟩
    have hF := h.1
    rw [eX11_flightBy_2, qI_in (x := 4) (p := 4) (zS_63 0) rfl (by decide) (by decide), Option.bind_some, h.2.1, zif_pos (nI_lt (by omega) (by omega)), eX11_flightBy_35, eX11_flightBy_38, nI_1]
    have ih := pM_by_loop h x m (a + 1) n (by omega) (by omega)
    by_cases hx : x < 1000
    · rw [zif_pos hx, ih, if_pos hx, if_pos hx]
    · rw [zif_neg hx, zif_neg i1000_ne, pM_ofFlight h (f := a) (c := 0) (y := 0) (by omega) (by omega) rfl rfl, zI_some, eX11_flightBy_35, eX11_flightBy_38, nI_1, ih, if_neg hx, if_neg hx, zif_eq, flFrom_succ]
      by_cases he : T 0 a = x / 1000
      · rw [if_pos he.symm, if_pos he]
        rfl
      · rw [if_neg (fun q => he q.symm), if_neg he]
/-- a label that a record or a bag may have -/
def isLb (x : Int32) : Prop := x = 0 ∨ x = -1 ∨ ∃ q, 1000 ≤ q ∧ q ≤ 999999 ∧ x = nI q
theorem lb_small {x : Int32} (h : isLb x) (hx : x < 1000) : x / 1000 = 0 := by
  rcases h with rfl | rfl | ⟨q, h1, h2, rfl⟩
  · decide
  · decide
  · rw [i1000] at hx
    exact absurd hx (nI_nlt h1 (by omega))
theorem flOf_small {F : Nat} {T : Nat → Nat → Int32} (hT : FlT F T) {x : Int32} (h : isLb x) (hx : x < 1000) : flOf T F x = none := by
  unfold flOf
  rw [lb_small h hx]
  refine flFrom_none F 0 (fun f _ hf => ?_)
  obtain ⟨q, h1, h2, h3⟩ := (hT f (by omega)).1
  rw [h3]
  exact nI_ne0 (by omega) (by omega)
theorem pM_flightBy {μ : zM} {F : Nat} {T : Nat → Nat → Int32} (h : FlM μ F T) (hT : FlT F T) {x : Int32} (hx : isLb x) : tX11_flightBy_0 x μ = some (some (.inl (fMo (flOf T F x))), μ) := by
  have hF := h.1
  have e := pM_by_loop h x F 0 zN (by omega) (by rw [zN_eq]; omega)
  rw [eX11_flightBy_0]
  refine Eq.trans e ?_
  by_cases hs : x < 1000
  · rw [if_pos hs, flOf_small hT hx hs]
  · rw [if_neg hs]
    rfl
theorem flOf_lt {F : Nat} {T : Nat → Nat → Int32} {x : Int32} {f : Nat} (h : flOf T F x = some f) : f < F := by
  have := flFrom_lt F 0 f h
  omega
