/-! ===== the text of a setup: signs, words, numbers ===== -/
def np (v : Nat) : Nat := if v < 10 then 0 else if v < 100 then 1 else if v < 1000 then 2 else if v < 10000 then 3 else 4
def dgs (v : Nat) : Nat → List Int32
  | 0 => [nI (48 + v % 10)]
  | p + 1 => nI (48 + v / 10 ^ (p + 1) % 10) :: dgs v p
def numL (v : Nat) : List Int32 := dgs v (np v)
theorem dgs_len (v : Nat) : ∀ p, (dgs v p).length = p + 1
  | 0 => rfl
  | p + 1 => by
    show (dgs v p).length + 1 = _
    rw [dgs_len v p]
theorem numL_len (v : Nat) : (numL v).length = np v + 1 := dgs_len v _
theorem np_le (v : Nat) : np v ≤ 4 := by
  unfold np
  split
  · omega
  · split
    · omega
    · split
      · omega
      · split <;> omega
theorem np_2 {v : Nat} (h : v ≤ 99) : np v ≤ 1 := by
  unfold np
  split
  · omega
  · rw [if_pos (by omega)]
    omega
theorem np_1 {v : Nat} (h : v ≤ 9) : np v = 0 := by
  unfold np
  rw [if_pos (by omega)]
theorem np_3 {v : Nat} (h : v ≤ 999) : np v ≤ 2 := by
  unfold np
  split
  · omega
  · split
    · omega
    · rw [if_pos (by omega)]
      omega
/-- a power no greater than the number -/
theorem np_iff {v q : Nat} (hv : v ≤ 99999) (hq : q ≤ 4) : 9 < v / 10 ^ q ↔ q < np v := by
  unfold np
  rcases (by omega : q = 0 ∨ q = 1 ∨ q = 2 ∨ q = 3 ∨ q = 4) with rfl | rfl | rfl | rfl | rfl
  all_goals
    simp only [Nat.reducePow]
    split
    · omega
    · split
      · omega
      · split
        · omega
        · split <;> omega
theorem np_ge {v q : Nat} (hv : v ≤ 99999) (hq : q ≤ 4) : (¬ v < 10 ^ q ∨ q = 0) ↔ q ≤ np v := by
  by_cases h0 : q = 0
  · subst h0
    exact ⟨fun _ => Nat.zero_le _, fun _ => Or.inr rfl⟩
  have e : (¬ v < 10 ^ q ∨ q = 0) ↔ ¬ v < 10 ^ q := ⟨fun z => z.resolve_right h0, Or.inl⟩
  rw [e]
  unfold np
  rcases (by omega : q = 1 ∨ q = 2 ∨ q = 3 ∨ q = 4) with rfl | rfl | rfl | rfl
  all_goals
    simp only [Nat.reducePow]
    split
    · omega
    · split
      · omega
      · split
        · omega
        · split <;> omega
theorem p10 {q : Nat} (h : q ≤ 4) : 10 ^ q ≤ 10000 := by
  rcases (by omega : q = 0 ∨ q = 1 ∨ q = 2 ∨ q = 3 ∨ q = 4) with rfl | rfl | rfl | rfl | rfl <;> decide
theorem p10_pos (q : Nat) : 0 < 10 ^ q := Nat.pow_pos (by decide)
theorem dig_eq {v q : Nat} (hv : v ≤ 99999) (hq : q ≤ 4) : (48 : Int32) + (nI v / nI (10 ^ q) - nI v / nI (10 ^ q) / 10 * 10) = nI (48 + v / 10 ^ q % 10) := by
  have h1 := p10 hq
  have h2 := p10_pos q
  have h3 : v / 10 ^ q ≤ v := Nat.div_le_self _ _
  rw [pk_div (by omega) (by omega) (by omega)]
  generalize v / 10 ^ q = t at *
  rw [show (10 : Int32) = nI 10 from rfl, pk_div (by omega) (by decide) (by decide), pk_mul, pk_sub (by omega), show (48 : Int32) = nI 48 from rfl, nI_add]
  have : 48 + (t - t / 10 * 10) = 48 + t % 10 := by omega
  rw [this]
/-! the reference says -/
theorem M_dgs {ν0 : zM} {v : Nat} (hv : v ≤ 99999) : ∀ (q f : Nat) (ν : zM) (l : List Int32), q ≤ 4 → q + 1 < f → OUT ν0 ν l → l.length + 5 ≤ 2400 - q → ∃ ν', tX11_saysNumber_24 f (nI v) (nI (10 ^ q)) ν = some (none, ν') ∧ OUT ν0 ν' (l ++ dgs v q) := by
  have z10 : ¬ (10 : Int32) = 0 := by decide
  intro q
  induction q with
  | zero =>
    intro f ν l hq hf ho hl
    obtain ⟨f, rfl⟩ : ∃ g, f = g + 1 + 1 := ⟨f - 2, by omega⟩
    obtain ⟨ν', e1, e2⟩ := ho.says (by omega) (nI (48 + v / 10 ^ 0 % 10))
    refine ⟨ν', ?_, ?_⟩
    · rw [eX11_saysNumber_24, zif_pos (show (0 : Int32) < nI (10 ^ 0) by decide), zif_neg (show ¬ nI (10 ^ 0) = 0 by decide), zif_neg z10, dig_eq hv (by decide), e1, zU_some, zif_neg z10, eX11_saysNumber_46, show nI (10 ^ 0) / 10 = 0 by decide, eX11_saysNumber_24, zif_neg (by decide)]
    · rw [show v / 10 ^ 0 = v by simp] at e2
      exact e2
  | succ q ih =>
    intro f ν l hq hf ho hl
    obtain ⟨f, rfl⟩ : ∃ g, f = g + 1 := ⟨f - 1, by omega⟩
    have h1 := p10 hq
    have h2 := p10_pos (q + 1)
    obtain ⟨ν1, e1, e2⟩ := ho.says (by omega) (nI (48 + v / 10 ^ (q + 1) % 10))
    obtain ⟨ν', e3, e4⟩ := ih f ν1 _ (by omega) (by omega) e2 (by simp; omega)
    refine ⟨ν', ?_, ?_⟩
    · rw [eX11_saysNumber_24, zif_pos (show (0 : Int32) < nI (10 ^ (q + 1)) from nI_lt (a := 0) (by omega) (by omega)), zif_neg (show ¬ nI (10 ^ (q + 1)) = 0 from nI_ne (b := 0) (by omega) (by decide) (by omega)), zif_neg z10, dig_eq hv hq, e1, zU_some, zif_neg z10, eX11_saysNumber_46, show nI (10 ^ (q + 1)) / 10 = nI (10 ^ q) by
        rw [show (10 : Int32) = nI 10 from rfl, pk_div (by omega) (by decide) (by decide)]
        congr 1
        rw [Nat.pow_succ]
        omega]
      exact e3
    · rw [List.append_assoc] at e4
      exact e4
theorem M_num {ν0 ν : zM} {l : List Int32} {v : Nat} {x : Int32} (hx : x = nI v) (hv : v ≤ 99999) (ho : OUT ν0 ν l) (hl : l.length + 10 ≤ 2400) : ∃ ν', tX11_saysNumber_0 x ν = some (none, ν') ∧ OUT ν0 ν' (l ++ [32] ++ numL v) := by
  subst hx
  have lp : ∀ m q f, q + m = np v → m < f → tX11_saysNumber_2 f (nI v) (nI (10 ^ q)) ν = zU (tX11_says_0 32 ν) fun μ1 => tX11_saysNumber_24 zN (nI v) (nI (10 ^ np v)) μ1 := by
    intro m
    have hn := np_le v
    induction m with
    | zero =>
      intro q f h1 h2
      obtain ⟨f, rfl⟩ : ∃ g, f = g + 1 := ⟨f - 1, by omega⟩
      have : q = np v := by omega
      subst this
      have p1 := p10 hn
      have p2 := p10_pos (np v)
      have hle : v / 10 ^ np v ≤ v := Nat.div_le_self _ _
      rw [eX11_saysNumber_2, zif_neg (show ¬ nI (10 ^ np v) = 0 from nI_ne (b := 0) (by omega) (by decide) (by omega)), pk_div (by omega) (by omega) (by omega), zif_neg (show ¬ (9 : Int32) < nI (v / 10 ^ np v) from fun z => by
        have := (nI_ltI (a := 9) (by decide) (by omega)).mp z
        have := (np_iff hv hn).mp this
        omega)]
    | succ m ih =>
      intro q f h1 h2
      obtain ⟨f, rfl⟩ : ∃ g, f = g + 1 := ⟨f - 1, by omega⟩
      have p1 := p10 (show q ≤ 4 by omega)
      have p2 := p10_pos q
      have hle : v / 10 ^ q ≤ v := Nat.div_le_self _ _
      rw [eX11_saysNumber_2, zif_neg (show ¬ nI (10 ^ q) = 0 from nI_ne (b := 0) (by omega) (by decide) (by omega)), pk_div (by omega) (by omega) (by omega), zif_pos (show (9 : Int32) < nI (v / 10 ^ q) from (nI_ltI (a := 9) (by decide) (by omega)).mpr ((np_iff hv (by omega)).mpr (by omega))), eX11_saysNumber_15, show (10 : Int32) = nI 10 from rfl, pk_mul, show 10 ^ q * 10 = 10 ^ (q + 1) from (Nat.pow_succ 10 q).symm]
      exact ih (q + 1) f (by omega) (by omega)
  have hn := np_le v
  obtain ⟨ν1, e1, e2⟩ := ho.says (by omega) 32
  obtain ⟨ν', e3, e4⟩ := M_dgs hv (np v) zN ν1 _ hn (by rw [zN_eq]; omega) e2 (by simp; omega)
  refine ⟨ν', ?_, e4⟩
  rw [eX11_saysNumber_0, show tX11_saysNumber_2 zN (nI v) 1 ν = tX11_saysNumber_2 zN (nI v) (nI (10 ^ 0)) ν from rfl, lp (np v) 0 zN (by omega) (by rw [zN_eq]; omega), e1, zU_some, e3]
def gr (i k : Nat) : Int32 := ((Int64.ofNat (wCode i) >>> ((nI (5 * k)).toInt64 &&& 63)) &&& 31).toInt32
def wl (i : Nat) : Nat → List Int32
  | 0 => []
  | k + 1 => (if 0 < gr i k then [96 + gr i k] else []) ++ wl i k
theorem wl_dec : ∀ i, i < 17 → wl i 8 = zTxB i := by decide
theorem wl_len (i : Nat) : ∀ k, (wl i k).length ≤ k
  | 0 => Nat.le_refl _
  | k + 1 => by
    have := wl_len i k
    show ((if 0 < gr i k then [96 + gr i k] else []) ++ wl i k).length ≤ _
    rw [List.length_append]
    split <;> simp <;> omega
theorem M_word {ν0 ν : zM} {l : List Int32} {i : Nat} {w : Int64} (hi : i < 17) (hw : w = Int64.ofNat (wCode i)) (ho : OUT ν0 ν l) (hl : l.length + 10 ≤ 2400) : ∃ ν', tX11_saysWord_0 w ν = some (none, ν') ∧ OUT ν0 ν' (l ++ zTxB i) := by
  subst hw
  have lp : ∀ k f (ν : zM) (l : List Int32), k ≤ 8 → k < f → OUT ν0 ν l → l.length + k ≤ 2400 → ∃ ν', tX11_saysWord_3 f (Int64.ofNat (wCode i)) (if k = 0 then -5 else nI (5 * (k - 1))) ν = some (none, ν') ∧ OUT ν0 ν' (l ++ wl i k) := by
    intro k
    induction k with
    | zero =>
      intro f ν l hk hf ho hl
      obtain ⟨f, rfl⟩ : ∃ g, f = g + 1 := ⟨f - 1, by omega⟩
      refine ⟨ν, ?_, by show OUT ν0 ν (l ++ []); rw [List.append_nil]; exact ho⟩
      rw [if_pos rfl, eX11_saysWord_3, zif_pos (by decide)]
    | succ k ih =>
      intro f ν l hk hf ho hl
      obtain ⟨f, rfl⟩ : ∃ g, f = g + 1 := ⟨f - 1, by omega⟩
      have hs : nI (5 * k) + -5 = if k = 0 then -5 else nI (5 * (k - 1)) := by
        rcases (by omega : k = 0 ∨ k = 1 ∨ k = 2 ∨ k = 3 ∨ k = 4 ∨ k = 5 ∨ k = 6 ∨ k = 7) with rfl | rfl | rfl | rfl | rfl | rfl | rfl | rfl <;> decide
      have hw : wl i (k + 1) = (if 0 < gr i k then [96 + gr i k] else []) ++ wl i k := rfl
      rw [if_neg (by omega), show k + 1 - 1 = k from rfl, eX11_saysWord_3, zif_neg (nI_pos (by omega)), eX11_saysWord_17, show ((Int64.ofNat (wCode i) >>> ((nI (5 * k)).toInt64 &&& 63)) &&& 31).toInt32 = gr i k from rfl, hw]
      by_cases g : 0 < gr i k
      · obtain ⟨ν1, e1, e2⟩ := ho.says (by omega) (96 + gr i k)
        obtain ⟨ν', e3, e4⟩ := ih f ν1 _ (by omega) (by omega) e2 (by simp; omega)
        refine ⟨ν', ?_, ?_⟩
        · rw [zif_pos g, e1, zU_some, eX11_saysWord_31, eX11_saysWord_34, hs, e3]
        · rw [if_pos g]
          rw [List.append_assoc] at e4
          exact e4
      · obtain ⟨ν', e3, e4⟩ := ih f ν l (by omega) (by omega) ho (by omega)
        refine ⟨ν', ?_, ?_⟩
        · rw [zif_neg g, eX11_saysWord_31, eX11_saysWord_34, hs, e3]
        · rw [if_neg g]
          exact e4
  obtain ⟨ν', e1, e2⟩ := lp 8 zN ν l (by decide) (by rw [zN_eq]; decide) ho (by omega)
  rw [wl_dec i hi] at e2
  exact ⟨ν', by rw [eX11_saysWord_0]; exact e1, e2⟩
def nm (i v : Nat) : List Int32 := [32] ++ zTxB i ++ [32] ++ numL v
theorem zTxB_len (i : Nat) (hi : i < 18) : (zTxB i).length = zTxL i := by
  have : ∀ i, i < 18 → (zTxB i).length = zTxL i := by decide
  exact this i hi
theorem M_both {ν0 ν : zM} {l : List Int32} {i v : Nat} {w : Int64} {x : Int32} (hi : i < 17) (hw : w = Int64.ofNat (wCode i)) (hx : x = nI v) (hv : v ≤ 99999) (ho : OUT ν0 ν l) (hl : l.length + 20 ≤ 2400) : ∃ ν', tX11_saysBoth_0 w x ν = some (none, ν') ∧ OUT ν0 ν' (l ++ nm i v) := by
  have h8 := zTxL_lt i
  have h8' := zTxB_len i (by omega)
  obtain ⟨ν1, e1, e2⟩ := ho.says (by omega) 32
  obtain ⟨ν2, e3, e4⟩ := M_word hi hw e2 (by simp; omega)
  obtain ⟨ν3, e5, e6⟩ := M_num hx hv e4 (by simp; omega)
  refine ⟨ν3, by rw [eX11_saysBoth_0, e1, zU_some, e3, zU_some, e5, zU_some], ?_⟩
  unfold nm
  simpa [List.append_assoc] using e6
/-! the class writes -/
def XO (μ0 μ : zM) (l : List Int32) : Prop := μ.1 8 0 1 = nI l.length ∧ (∀ z, z < l.length → μ.1 56 0 z = l.getD z 0) ∧ μ.2 = μ0.2 ∧ ∀ k i z, ¬ (k = 8 ∧ i = 0 ∧ z = 1) → ¬ (k = 56 ∧ i = 0) → μ.1 k i z = μ0.1 k i z
theorem zS_56 (i : Nat) : zS 56 i = .inr (1, 1024, (0, 0)) := rfl
theorem XO.add {μ0 μ : zM} {l : List Int32} (h : XO μ0 μ l) (hl : l.length < 1024) {v : Int32} (hv : v.toInt8.toInt32 = v) : ∃ μ', tX8_addSign_0 v μ = some (none, μ') ∧ XO μ0 μ' (l ++ [v]) := by
  obtain ⟨h1, h2, h3, h4⟩ := h
  refine ⟨mS (mS μ 56 0 l.length v) 8 0 1 (nI (l.length + 1)), ?_, ?_, fun z hz => ?_, h3, fun k i z n1 n2 => ?_⟩
  · rw [eX8_addSign_0, h1, zif_pos (show nI l.length < 1024 from nI_lt (b := 1024) hl (by decide)), wB_in (zS_56 0) rfl hl (by decide), Option.bind_some, zlet_eq, mS_k _ _ _ _ _ _ _ _ (by decide), h1, nI_1, eX8_addSign_31, hv, hv]
  · rw [mS_same]
    simp
  · rw [mS_k _ _ _ _ _ _ _ _ (by decide)]
    simp at hz
    by_cases e : z = l.length
    · subst e
      rw [mS_same]
      simp [List.getD_eq_getElem?_getD]
    · rw [mS_n _ _ _ _ _ _ _ _ e, h2 z (by omega)]
      simp [List.getD_eq_getElem?_getD, List.getElem?_append_left (show z < l.length by omega)]
  · rw [mS_1, if_neg n1, mS_1, if_neg (fun q => n2 ⟨q.1, q.2.1⟩)]
    exact h4 k i z n1 n2
/-- no space at the beginning and behind a clause -/
def fresh (l : List Int32) : Prop := l = [] ∨ ∃ l', l = l' ++ [59]
theorem X_sep0 {μ0 μ : zM} {l : List Int32} (h : XO μ0 μ l) (hf : fresh l) (hl : l.length ≤ 1024) : tX8_separate_0 μ = some (none, μ) := by
  rw [eX8_separate_0, h.1, eX8_separate_39]
  rcases hf with rfl | ⟨l', rfl⟩
  · rw [zif_neg (by decide)]
  · have hlen : (l' ++ [(59 : Int32)]).length = l'.length + 1 := by simp
    rw [hlen] at hl ⊢
    rw [zif_pos (show (0 : Int32) < nI (l'.length + 1) from nI_lt (a := 0) (by omega) (by omega)), zif_neg (show ¬ (1024 : Int32) < nI (l'.length + 1) from nI_nlt (a := 1024) (b := l'.length + 1) hl (by decide)), nI_pred, qB_in (zS_56 0) rfl (by omega) (by decide), Option.bind_some, h.2.1 _ (by rw [hlen]; omega)]
    rw [zif_pos (by simp [List.getD_eq_getElem?_getD])]
theorem X_sep1 {μ0 μ : zM} {l : List Int32} {v : Int32} (h : XO μ0 μ (l ++ [v])) (hv : ¬ v = 59) (hl : l.length + 1 < 1024) : ∃ μ', tX8_separate_0 μ = some (none, μ') ∧ XO μ0 μ' (l ++ [v] ++ [32]) := by
  have hlen : (l ++ [v]).length = l.length + 1 := by simp
  obtain ⟨μ', e1, e2⟩ := h.add (by omega) (v := 32) (by decide)
  refine ⟨μ', ?_, e2⟩
  rw [eX8_separate_0, h.1, eX8_separate_39, hlen, zif_pos (show (0 : Int32) < nI (l.length + 1) from nI_lt (a := 0) (by omega) (by omega)), zif_neg (show ¬ (1024 : Int32) < nI (l.length + 1) from nI_nlt (a := 1024) (b := l.length + 1) (by omega) (by decide)), nI_pred, qB_in (zS_56 0) rfl (by omega) (by decide), Option.bind_some, h.2.1 _ (by rw [hlen]; omega), zif_neg (by simp [List.getD_eq_getElem?_getD]; exact hv), e1, zU_some, eX8_separate_39]
