/-! ===== what clear() and begin(..) do to a memory ===== -/
def STg (i : Nat) (μ : zM) : Prop := (μ.1 5 i 0 = 10 ∧ μ.1 5 i 1 = 1 ∧ μ.1 5 i 2 = 3 ∧ μ.1 1 i 0 = 0) ∧ (∀ z, z < 60 → μ.1 43 i z = 0) ∧ (∀ z, z < 7 → μ.1 49 i z = 0) ∧ μ.1 5 i 13 = 0 ∧ μ.1 5 i 15 = 0
theorem X_clear (j : Nat) (μ : zM) : ∃ μ', gX5_clear [.inr (.inr (5, j))] μ = some (none, μ') ∧ STg j μ' ∧ μ'.2 = μ.2 ∧ ∀ k x z, ¬ (x = j ∧ (k = 5 ∨ k = 1 ∨ k = 43 ∨ k = 49)) → μ'.1 k x z = μ.1 k x z := by
  obtain ⟨c8, hc8⟩ : ∃ c8 : zM, c8 = mS (mS (fil (fil (mS (mS (mS (mS μ 5 j 0 10) 5 j 1 1) 5 j 2 3) 1 j 0 0) 43 j 60 0) 49 j 7 0) 5 j 13 0) 5 j 15 0 := ⟨_, rfl⟩
  have eC : tX5_clear_0 j μ = some (none, c8) := by
    rw [eX5_clear_0, zlet_eq, zlet_eq, zlet_eq, zlet_eq, pJ_fill (zS_43 j) (by decide) (by decide), zU_some, pJ_fill (zS_49 j) (by decide) (by decide), zU_some, zlet_eq, zlet_eq, hc8]
  have r8 : ∀ k i z, c8.1 k i z = if k = 5 ∧ i = j ∧ z = 15 then 0 else if k = 5 ∧ i = j ∧ z = 13 then 0 else if k = 49 ∧ i = j ∧ z < 7 then 0 else if k = 43 ∧ i = j ∧ z < 60 then 0 else if k = 1 ∧ i = j ∧ z = 0 then 0 else if k = 5 ∧ i = j ∧ z = 2 then 3 else if k = 5 ∧ i = j ∧ z = 1 then 1 else if k = 5 ∧ i = j ∧ z = 0 then 10 else μ.1 k i z := fun k i z => by
    rw [hc8]
    simp only [mS_1, fil_1]
  refine ⟨c8, (uX5_clear j μ).trans eC, ⟨⟨?_, ?_, ?_, ?_⟩, fun z hz => ?_, fun z hz => ?_, ?_, ?_⟩, by rw [hc8]; rfl, fun k x z n => ?_⟩
  · rw [r8]; simp
  · rw [r8]; simp
  · rw [r8]; simp
  · rw [r8]; simp
  · rw [r8]; simp [hz]
  · rw [r8]; simp [hz]
  · rw [r8]; simp
  · rw [r8]; simp
  · rw [r8, if_neg (by omega), if_neg (by omega), if_neg (by omega), if_neg (by omega), if_neg (by omega), if_neg (by omega), if_neg (by omega), if_neg (by omega)]
theorem X_beginG (i j : Nat) (μ : zM) (hj : j < 2) : ∃ μ', gX9_begin [.inr (.inr (9, i)), .inr (.inr (5, j))] μ = some (none, μ') ∧ (i = 0 → BEG μ') ∧ μ'.2.1 = zupN μ.2.1 (9, i) 0 j ∧ μ'.2.2 = μ.2.2 ∧ ∀ k x z, ¬ isW i k x → μ'.1 k x z = μ.1 k x z := by
  by_cases hi : i = 0
  · subst hi
    obtain ⟨μ', e1, e2, e3, e4, e5⟩ := X_begin (μ := μ) hj
    exact ⟨μ', (uX9_begin 0 j μ).trans e1, fun _ => e2, e3, e4, e5⟩
  · have s0 : zS 40 (2 * i) = .inr (0, 60, (0, 0)) := by rw [zS_40, if_pos (by omega)]
    have s1 : zS 40 (2 * i + 1) = .inr (0, 100, (0, 0)) := by rw [zS_40, if_neg (by omega)]
    let m0 : zM := (μ.1, zupN μ.2.1 (9, i) 0 j, μ.2.2)
    have e : tX9_begin_0 i j μ = some (none, fil (fil (fil (fil (fil (fil (fil (fil (fil (fil (mS (mS (mS (mS m0 9 i 1 0) 9 i 2 0) 9 i 3 15) 0 i 0 0) 40 (2 * i) 60 (-2)) 40 (2 * i + 1) 100 (-2)) 36 i 60 (-1)) 37 i 60 (-1)) 38 i 60 0) 57 i 8 0) 58 i 60 (-1)) 59 i 60 0) 60 i 60 0) 61 i 60 1) := by
      rw [eX9_begin_0, qP_set hj, Option.bind_some, zlet_eq, zlet_eq, zlet_eq, zlet_eq, eX4_removeAll_0, pJ_fill s0 (by decide) (by decide), zU_some, zU_some, eX4_removeAll_0, pJ_fill s1 (by decide) (by decide), zU_some, zU_some, eX3_removeAll_0, pJ_fill (zS_36 i) (by decide) (by decide), zU_some, pJ_fill (zS_37 i) (by decide) (by decide), zU_some, pJ_fill (zS_38 i) (by decide) (by decide), zU_some, zU_some, pJ_fill (zS_57 i) (by decide) (by decide), zU_some, pJ_fill (zS_58 i) (by decide) (by decide), zU_some, pJ_fill (zS_59 i) (by decide) (by decide), zU_some, pJ_fill (zS_60 i) (by decide) (by decide), zU_some, pJ_fill (zS_61 i) (by decide) (by decide), zU_some]
    refine ⟨_, (uX9_begin i j μ).trans e, fun h => absurd h hi, rfl, rfl, fun k x z n => ?_⟩
    unfold isW at n
    simp only [mS_1, fil_1]
    rw [if_neg (by omega), if_neg (by omega), if_neg (by omega), if_neg (by omega), if_neg (by omega), if_neg (by omega), if_neg (by omega), if_neg (by omega), if_neg (by omega), if_neg (by omega), if_neg (by omega), if_neg (by omega), if_neg (by omega), if_neg (by omega)]
set_option maxRecDepth 20000 in
theorem wj_clear : Cond.methodLink RX5 51 yX5_clear ∈ zW := zW_in (i := 233) rfl rfl
set_option maxRecDepth 20000 in
theorem wj_begin : Cond.methodLink RX9 53 yX9_begin ∈ zW := zW_in (i := 422) rfl rfl
