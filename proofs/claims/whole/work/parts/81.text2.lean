def solid (l : List Int32) : Prop := ∃ l' v, l = l' ++ [v] ∧ ¬ v = 59
def XS (μ0 μ : zM) (l : List Int32) : Prop := XO μ0 μ l ∧ solid l
theorem solid_app {l k : List Int32} (h : solid k) : solid (l ++ k) := by
  obtain ⟨k', v, e, hv⟩ := h
  exact ⟨l ++ k', v, by rw [e, List.append_assoc], hv⟩
theorem solid_dgs (v : Nat) : ∀ q, solid (dgs v q)
  | 0 => ⟨[], nI (48 + v % 10), rfl, nI_ne (b := 59) (by omega) (by decide) (by omega)⟩
  | q + 1 => by
    have := solid_app (l := [nI (48 + v / 10 ^ (q + 1) % 10)]) (solid_dgs v q)
    exact this
theorem solid_word : ∀ i, i < 17 → solid (zTxB i) := by
  intro i hi
  have h : ∀ i, i < 17 → zTxB i = (zTxB i).take (zTxL i - 1) ++ [(zTxB i).getD (zTxL i - 1) 0] ∧ ¬ (zTxB i).getD (zTxL i - 1) 0 = 59 := by decide
  exact ⟨_, _, (h i hi).1, (h i hi).2⟩
theorem dig_b (d : Nat) (hd : d < 10) : (nI (48 + d)).toInt8.toInt32 = nI (48 + d) := by
  have : ∀ d, d < 10 → (nI (48 + d)).toInt8.toInt32 = nI (48 + d) := by decide
  exact this d hd
theorem X_chars {μ0 : zM} {i : Nat} (hi : i < 17) : ∀ (m a f : Nat) (μ : zM) (l : List Int32), a + m = zTxL i → m < f → XO μ0 μ (l ++ (zTxB i).take a) → l.length + 8 ≤ 1024 → ∃ μ', tX8_addName_6 f i (nI a) μ = some (none, μ') ∧ XO μ0 μ' (l ++ zTxB i) := by
  have h8 := zTxL_lt i
  have hln := zTxB_len i (by omega)
  intro m
  induction m with
  | zero =>
    intro a f μ l h1 h2 h3 h4
    obtain ⟨f, rfl⟩ : ∃ g, f = g + 1 := ⟨f - 1, by omega⟩
    refine ⟨μ, by rw [eX8_addName_6, pJ_length, zI_some, zif_neg (nI_nlt (by omega) (by omega))], ?_⟩
    rw [show a = (zTxB i).length by omega, List.take_length] at h3
    exact h3
  | succ m ih =>
    intro a f μ l h1 h2 h3 h4
    obtain ⟨f, rfl⟩ : ∃ g, f = g + 1 := ⟨f - 1, by omega⟩
    have ht : ((zTxB i).take a).length ≤ 7 := by rw [List.length_take]; omega
    obtain ⟨μ1, e1, e2⟩ := h3.add (by rw [List.length_append]; omega) (tx_dec i (by omega) a (by omega)).2.2
    obtain ⟨μ', e3, e4⟩ := ih (a + 1) f μ1 l (by omega) (by omega) (by
      rw [List.take_add_one, ← List.append_assoc]
      rw [List.getElem?_eq_getElem (show a < (zTxB i).length by omega)]
      rw [List.getD_eq_getElem?_getD, List.getElem?_eq_getElem (show a < (zTxB i).length by omega)] at e2
      exact e2) h4
    refine ⟨μ', ?_, e4⟩
    rw [eX8_addName_6, pJ_length, zI_some, zif_pos (nI_lt (show a < zTxL i by omega) (by omega)), pJ_charAt (by omega) (by omega), zI_some, e1, zU_some, eX8_addName_26, nI_1, e3]
theorem X_digits {μ0 : zM} {v : Nat} (hv : v ≤ 99999) : ∀ (q f : Nat) (μ : zM) (l : List Int32), q ≤ np v → q + 1 < f → XO μ0 μ l → l.length + q + 1 ≤ 1024 → ∃ μ', tX8_addValue_8 f (nI v) (nI (10 ^ q)) μ = some (none, μ') ∧ XO μ0 μ' (l ++ dgs v q) := by
  have z10 : ¬ (10 : Int32) = 0 := by decide
  have hn := np_le v
  have one : ∀ (q f : Nat) (μ : zM), q ≤ np v → tX8_addValue_8 (f + 1) (nI v) (nI (10 ^ q)) μ = tX8_addValue_23 f (nI v) (nI (10 ^ q)) μ := fun q f μ hq => by
    have p1 := p10 (show q ≤ 4 by omega)
    have p2 := p10_pos q
    rw [eX8_addValue_8, zif_neg (show ¬ nI (10 ^ q) < 1 from nI_nlt (b := 1) (by omega) (by omega))]
    rcases (np_ge hv (show q ≤ 4 by omega)).mpr hq with g | g
    · rw [zif_neg (show ¬ nI v < nI (10 ^ q) from nI_nlt (by omega) (by omega))]
    · rw [g, zif_pos (show nI (10 ^ 0) = 1 from rfl), zif_same]
  intro q
  induction q with
  | zero =>
    intro f μ l hq hf ho hl
    obtain ⟨f, rfl⟩ : ∃ g, f = g + 1 + 1 := ⟨f - 2, by omega⟩
    obtain ⟨μ', e1, e2⟩ := ho.add (by omega) (dig_b (v / 10 ^ 0 % 10) (by omega))
    refine ⟨μ', ?_, ?_⟩
    · rw [one 0 _ _ hq, eX8_addValue_23, zif_neg (show ¬ nI (10 ^ 0) = 0 by decide), zif_neg z10, dig_eq hv (by decide), e1, zU_some, eX8_addValue_36, zif_neg z10, eX8_addValue_41, show nI (10 ^ 0) / 10 = 0 by decide, eX8_addValue_8, zif_pos (by decide)]
    · rw [show v / 10 ^ 0 = v by simp] at e2
      exact e2
  | succ q ih =>
    intro f μ l hq hf ho hl
    obtain ⟨f, rfl⟩ : ∃ g, f = g + 1 := ⟨f - 1, by omega⟩
    have h1 := p10 (show q + 1 ≤ 4 by omega)
    have h2 := p10_pos (q + 1)
    obtain ⟨μ1, e1, e2⟩ := ho.add (by omega) (dig_b (v / 10 ^ (q + 1) % 10) (by omega))
    obtain ⟨μ', e3, e4⟩ := ih f μ1 _ (by omega) (by omega) e2 (by simp; omega)
    refine ⟨μ', ?_, ?_⟩
    · rw [one _ _ _ hq, eX8_addValue_23, zif_neg (show ¬ nI (10 ^ (q + 1)) = 0 from nI_ne (b := 0) (by omega) (by decide) (by omega)), zif_neg z10, dig_eq hv (by omega), e1, zU_some, eX8_addValue_36, zif_neg z10, eX8_addValue_41, show nI (10 ^ (q + 1)) / 10 = nI (10 ^ q) by
        rw [show (10 : Int32) = nI 10 from rfl, pk_div (by omega) (by decide) (by decide)]
        congr 1
        rw [Nat.pow_succ]
        omega]
      exact e3
    · rw [List.append_assoc] at e4
      exact e4
theorem X_value {μ0 μ : zM} {l : List Int32} {v : Nat} {x : Int32} (h : XS μ0 μ l) (hx : x = nI v) (hv : v ≤ 99999) (hl : l.length + 2 + np v ≤ 1024) : ∃ μ', tX8_addValue_0 x μ = some (none, μ') ∧ XS μ0 μ' (l ++ [32] ++ numL v) := by
  subst hx
  obtain ⟨ho, l', y, rfl, hy⟩ := h
  have hn := np_le v
  have hll : (l' ++ [y]).length = l'.length + 1 := by simp
  obtain ⟨μ1, e1, e2⟩ := X_sep1 ho hy (by omega)
  have sk : ∀ m q f, np v + m = q → q ≤ 4 → m < f → tX8_addValue_8 f (nI v) (nI (10 ^ q)) μ1 = tX8_addValue_8 (f - m) (nI v) (nI (10 ^ np v)) μ1 := by
    intro m
    induction m with
    | zero =>
      intro q f h1 h2 h3
      rw [show q = np v by omega]
      rfl
    | succ m ih =>
      intro q f h1 h2 h3
      obtain ⟨f, rfl⟩ : ∃ g, f = g + 1 := ⟨f - 1, by omega⟩
      obtain ⟨q, rfl⟩ : ∃ g, q = g + 1 := ⟨q - 1, by omega⟩
      have p1 := p10 h2
      have p2 := p10_pos (q + 1)
      have hlt : v < 10 ^ (q + 1) ∧ 10 ^ (q + 1) ≠ 1 := by
        have := fun z => (np_ge hv h2).mp z
        have hh : v < 10 ^ (q + 1) := by
          by_cases g : v < 10 ^ (q + 1)
          · exact g
          · have := (np_ge hv h2).mp (Or.inl g)
            omega
        refine ⟨hh, ?_⟩
        rw [Nat.pow_succ]
        omega
      rw [eX8_addValue_8, zif_neg (show ¬ nI (10 ^ (q + 1)) < 1 from nI_nlt (b := 1) (by omega) (by omega)), zif_pos (nI_lt hlt.1 (by omega)), zif_neg (show ¬ nI (10 ^ (q + 1)) = 1 from nI_ne (b := 1) (by omega) (by decide) hlt.2), eX8_addValue_36, zif_neg (show ¬ (10 : Int32) = 0 by decide), eX8_addValue_41, show nI (10 ^ (q + 1)) / 10 = nI (10 ^ q) by
        rw [show (10 : Int32) = nI 10 from rfl, pk_div (by omega) (by decide) (by decide)]
        congr 1
        rw [Nat.pow_succ]
        omega, ih q f (by omega) (by omega) (by omega)]
      congr 1
      omega
  obtain ⟨μ', e3, e4⟩ := X_digits hv (np v) (zN - (4 - np v)) μ1 _ (Nat.le_refl _) (by rw [zN_eq]; omega) e2 (by simp; omega)
  refine ⟨μ', ?_, e4, solid_app (solid_dgs v _)⟩
  rw [eX8_addValue_0, e1, zU_some, show tX8_addValue_8 zN (nI v) 10000 μ1 = tX8_addValue_8 zN (nI v) (nI (10 ^ 4)) μ1 from rfl, sk (4 - np v) 4 zN (by omega) (by decide) (by rw [zN_eq]; omega), e3]
theorem X_name1 {μ0 μ : zM} {l : List Int32} {i : Nat} (hi : i < 17) (h : XS μ0 μ l) (hl : l.length + 9 ≤ 1024) : ∃ μ', tX8_addName_0 i μ = some (none, μ') ∧ XS μ0 μ' (l ++ [32] ++ zTxB i) := by
  obtain ⟨ho, l', y, rfl, hy⟩ := h
  have hll : (l' ++ [y]).length = l'.length + 1 := by simp
  obtain ⟨μ1, e1, e2⟩ := X_sep1 ho hy (by omega)
  obtain ⟨μ', e3, e4⟩ := X_chars hi (zTxL i) 0 zN μ1 (l' ++ [y] ++ [32]) (by omega) (by rw [zN_eq]; have := zTxL_lt i; omega) (by rw [List.take_zero, List.append_nil]; exact e2) (by simp; omega)
  exact ⟨μ', by rw [eX8_addName_0, e1, zU_some]; exact e3, e4, solid_app (solid_word i hi)⟩
theorem X_name0 {μ0 μ : zM} {l : List Int32} {i : Nat} (hi : i < 17) (h : XO μ0 μ l) (hf : fresh l) (hl : l.length + 8 ≤ 1024) : ∃ μ', tX8_addName_0 i μ = some (none, μ') ∧ XS μ0 μ' (l ++ zTxB i) := by
  obtain ⟨μ', e3, e4⟩ := X_chars hi (zTxL i) 0 zN μ l (by omega) (by rw [zN_eq]; have := zTxL_lt i; omega) (by rw [List.take_zero, List.append_nil]; exact h) hl
  exact ⟨μ', by rw [eX8_addName_0, X_sep0 h hf (by omega), zU_some]; exact e3, e4, solid_app (solid_word i hi)⟩
theorem X_named1 {μ0 μ : zM} {l : List Int32} {i v : Nat} {x : Int32} (hi : i < 17) (h : XS μ0 μ l) (hx : x = nI v) (hv : v ≤ 99999) (hl : l.length + (nm i v).length ≤ 1024 ∧ l.length + 12 + np v ≤ 1024) : ∃ μ', tX8_addNamed_0 i x μ = some (none, μ') ∧ XS μ0 μ' (l ++ nm i v) := by
  have h8 := zTxL_lt i
  have h8' := zTxB_len i (by omega)
  obtain ⟨μ1, e1, e2⟩ := X_name1 hi h (by omega)
  obtain ⟨μ2, e3, e4⟩ := X_value e2 hx hv (by simp; omega)
  refine ⟨μ2, by rw [eX8_addNamed_0, e1, zU_some, e3, zU_some], ?_⟩
  unfold nm
  simpa [List.append_assoc] using e4
theorem X_named0 {μ0 μ : zM} {l : List Int32} {i v : Nat} {x : Int32} (hi : i < 17) (h : XO μ0 μ l) (hf : fresh l) (hx : x = nI v) (hv : v ≤ 99999) (hl : l.length + 12 + np v ≤ 1024) : ∃ μ', tX8_addNamed_0 i x μ = some (none, μ') ∧ XS μ0 μ' (l ++ (zTxB i ++ [32] ++ numL v)) := by
  have h8 := zTxL_lt i
  have h8' := zTxB_len i (by omega)
  obtain ⟨μ1, e1, e2⟩ := X_name0 hi h hf (by omega)
  obtain ⟨μ2, e3, e4⟩ := X_value e2 hx hv (by simp; omega)
  refine ⟨μ2, by rw [eX8_addNamed_0, e1, zU_some, e3, zU_some], ?_⟩
  simpa [List.append_assoc] using e4
theorem X_endc {μ0 μ : zM} {l : List Int32} (h : XO μ0 μ l) (hl : l.length < 1024) : ∃ μ', tX8_endClause_0 μ = some (none, μ') ∧ XO μ0 μ' (l ++ [59]) := by
  obtain ⟨μ', e1, e2⟩ := h.add hl (v := 59) (by decide)
  exact ⟨μ', by rw [eX8_endClause_0, e1, zU_some], e2⟩
theorem nm_len {i v : Nat} (hi : i < 18) : (nm i v).length = zTxL i + np v + 3 := by
  unfold nm
  simp [zTxB_len i hi, numL_len]
  omega
