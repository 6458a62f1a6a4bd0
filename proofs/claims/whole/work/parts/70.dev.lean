/-! ===== a device's clause ===== -/
theorem xv_at {μ ν : zM} (h : TOKP μ ν) : (∃ v, μ.1 7 0 4 = v ∧ ν.1 11 0 7 = 2 ∧ ν.1 11 0 8 = v) ∨ (μ.1 7 0 4 = -1 ∧ ¬ ν.1 11 0 7 = 2) := by
  obtain ⟨b, L, s, e, κ, h1, h2, h3, h4, h5, h6, h7⟩ := h
  have hk : κ < 5 := by
    obtain ⟨-, -, t3⟩ := h2
    omega
  by_cases g : κ = 2
  · left
    refine ⟨xvl b s e κ, h5.2.2, by rw [h6.2.2.1, g]; rfl, ?_⟩
    unfold xvl
    rw [if_pos g]
    exact h6.2.2.2.1 g
  · right
    refine ⟨by rw [h5.2.2]; unfold xvl; rw [if_neg g], by rw [h6.2.2.1]; exact nI_ne (b := 2) (by omega) (by decide) g⟩
theorem P_free {μ ν : zM} {j n : Nat} (h : TOKP μ ν) (hj : μ.2.1 6 0 1 = j) (hj2 : j < 2) (hx : μ.1 5 j 0 = nI n) (hm : ν.1 64 0 0 = nI n) (hn : 1 ≤ n ∧ n ≤ 60) (hs : ∀ z, z < n → μ.1 43 j z = ν.1 64 0 (20 + z)) : (∃ p μ' ν', tX6_readFreePosition_0 μ = some (some (.inl (nI p)), μ') ∧ tX11_freePosition_0 ν = some (some (.inl (nI p)), ν') ∧ p < n ∧ μ.1 43 j p = 0 ∧ TOKP μ' ν' ∧ XF μ μ' ∧ MF ν ν') ∨ (∃ v ν', tX6_readFreePosition_0 μ = some (some (.inl (-1)), μ) ∧ tX11_freePosition_0 ν = some (some (.inl v), ν') ∧ BAD μ ν' ∧ MG ν ν') := by
  obtain ⟨νn, n1, n2, n3⟩ := P_takesnot h
  have hasP : ∀ v : Int32, tX5_hasPosition_0 j v μ = some (some (.inl (zif (v < 0 ∨ ¬ v < nI n) 0 1)), μ) := fun v => by
    rw [eX5_hasPosition_0, hx, eX5_hasPosition_16, eX5_hasPosition_17, eX5_hasPosition_17, zif_pos nar_0, zif_pos nar_1]
    by_cases a : v < 0
    · rw [zif_pos a, zif_pos (Or.inl a)]
    · rw [zif_neg a]
      by_cases c : v < nI n
      · rw [zif_pos c, zif_neg (show ¬ (v < 0 ∨ ¬ v < nI n) from fun z => z.elim a (fun y => y c))]
      · rw [zif_neg c, zif_pos (Or.inr c)]
  have m64 : ∀ x, tX11_freePosition_64 x ν = some (some (.inl x), νn) := fun x => by rw [eX11_freePosition_64, eX11_freePosition_65, n1, zU_some]
  rw [eX6_readFreePosition_0, eX6_readFreePosition_8, hj, zif_pos hj2, hasP, zI_some, eX6_readFreePosition_31, eX11_freePosition_0, eX11_freePosition_5, m64, qI_in (x := 0) (p := 0) (zS_64 0) rfl (by decide) (by decide), Option.bind_some, hm, pM_in rfl i0_64 rfl, zI_some, m64]
  rcases xv_at h with ⟨v, v1, v2, v3⟩ | ⟨v1, v2⟩
  · rw [v1, v3, zif_pos v2]
    by_cases g : v < 0 ∨ ¬ v < nI n
    · right
      exact ⟨v, νn, by rw [zif_pos g, zif_pos rfl], by rw [zif_pos ((in_pred (by omega)).mpr g), zif_pos rfl], n2, n3⟩
    · have g1 : ¬ v < 0 := fun z => g (Or.inl z)
      obtain ⟨p, hp, e⟩ := nI_of g1
      have hpn : p < n := by
        by_cases c : p < n
        · exact c
        · exact absurd (Or.inr (by rw [e]; exact nI_nlt (by omega) hp)) g
      rw [zif_neg g, zif_neg (by decide), hj, zif_pos hj2, zif_neg (fun z => g ((in_pred (by omega)).mp z)), zif_neg (by decide), pM_in rfl i0_64 i59_64, zI_some, e, zif_neg (show ¬ (nI p < 0 ∨ (59 : Int32) < nI p) from fun z => z.elim (fun y => g1 (e ▸ y)) (fun y => by
        have := (nI_ltI (a := 59) (by decide) hp).mp y
        omega)), zif_neg (show ¬ (1 : Int32) = 0 by decide), qI_in (zS_43 j) rfl (by omega) (by decide), Option.bind_some, eX11_freePosition_55, show (20 : Int32) = nI 20 from rfl, nI_add, qI_in (zS_64 0) rfl (by omega) (by decide), Option.bind_some, ← hs p hpn, m64]
      by_cases q : μ.1 43 j p = 0
      · left
        obtain ⟨μ', ν', t1, t2, t3⟩ := P_takes h
        exact ⟨p, μ', ν', by rw [zif_pos q, t1, zU_some], by rw [zif_pos q, eX11_freePosition_65, t2, zU_some], hpn, q, t3⟩
      · right
        exact ⟨nI p, νn, by rw [zif_neg q], by rw [zif_neg q], n2, n3⟩
  · right
    exact ⟨ν.1 11 0 8, νn, by rw [v1, zif_pos (Or.inl m1_lt), zif_pos rfl], by rw [zif_neg v2], n2, n3⟩
/-- the cells of the class's setup j -/
def isSj (j k i : Nat) : Prop := (i = j ∧ (k = 5 ∨ k = 1 ∨ (31 ≤ k ∧ k ≤ 34) ∨ (43 ≤ k ∧ k ≤ 52))) ∨ (k = 53 ∧ i / 4 = j) ∨ (k = 54 ∧ i / 7 = j)
def XG (j : Nat) (μ μ' : zM) : Prop := μ'.2 = μ.2 ∧ ∀ k i z, k ≠ 7 → ¬ isSj j k i → μ'.1 k i z = μ.1 k i z
theorem XG.r {j : Nat} (μ : zM) : XG j μ μ := ⟨rfl, fun _ _ _ _ _ => rfl⟩
theorem XG.t {j : Nat} {a b c : zM} (h : XG j a b) (g : XG j b c) : XG j a c := ⟨g.1.trans h.1, fun k i z n m => (g.2 k i z n m).trans (h.2 k i z n m)⟩
theorem XF.g {j : Nat} {a b : zM} (h : XF a b) : XG j a b := ⟨h.1, fun k i z n _ => h.2 k i z (by omega)⟩
theorem XG.s {j : Nat} {a b : zM} (h : XG j a b) {k i z : Nat} {v : Int32} (hk : isSj j k i) : XG j a (mS b k i z v) := ⟨h.1, fun k' i' z' n m => by rw [mS_1, if_neg (fun q => m (by rw [q.1, q.2.1]; exact hk))]; exact h.2 k' i' z' n m⟩
/-- the class's cells while a device is read -/
def DC (μ0 μ : zM) (j s p k d r w t1 t2 t3 ex i : Nat) : Prop :=
  (∀ z, μ.1 43 j z = if z = p then nI s else if (4 ≤ s ∧ 4 ≤ i) ∧ z = ex then 7 else μ0.1 43 j z) ∧
  (∀ z, μ.1 44 j z = if z = p then nI k else μ0.1 44 j z) ∧
  (∀ t, μ.1 49 j t = if t = s then nI (k + 1) else μ0.1 49 j t) ∧
  (∀ t q, t ≤ 6 → μ.1 54 (7 * j + t) q = if t = s ∧ q = k then nI p else μ0.1 54 (7 * j + t) q) ∧
  (∀ x, μ.1 51 j x = if x = d then nI p else μ0.1 51 j x) ∧
  (∀ z, μ.1 5 j z = if z = 13 then nI (d + 1) else μ0.1 5 j z) ∧
  (∀ c z, c = 1 ∨ (31 ≤ c ∧ c ≤ 34) → μ.1 c j z = μ0.1 c j z) ∧
  (∀ z, z ≠ p → μ.1 45 j z = μ0.1 45 j z ∧ μ.1 46 j z = μ0.1 46 j z ∧ μ.1 47 j z = μ0.1 47 j z ∧ ∀ l, μ.1 53 l z = μ0.1 53 l z) ∧
  (1 ≤ i → 3 ≤ s → μ.1 45 j p = nI r ∧ μ.1 46 j p = nI w) ∧ (2 ≤ i → s = 4 → μ.1 53 (4 * j + 1) p = nI t1 ∧ μ.1 53 (4 * j + 2) p = nI t2 ∧ μ.1 53 (4 * j + 3) p = nI t3) ∧ (3 ≤ i → s = 6 → μ.1 53 (4 * j + 1) p = nI t1) ∧ (4 ≤ i → 4 ≤ s → μ.1 47 j p = nI ex) ∧ XG j μ0 μ
/-- the reference's -/
def DM (ν0 ν : zM) (s p k d r w t1 t2 t3 ex i : Nat) : Prop :=
  (∀ z, z < 140 + 8 * d ∨ 140 + 8 * d + 8 ≤ z → ν.1 64 0 z = if z = 20 + p then nI s else if z = 80 + p then nI k else if (4 ≤ s ∧ 4 ≤ i) ∧ z = 20 + ex then 7 else if (4 ≤ s ∧ 4 ≤ i) ∧ z = 80 + ex then 0 else ν0.1 64 0 z) ∧
  (1 ≤ i → 3 ≤ s → ν.1 64 0 (140 + 8 * d + 2) = nI r ∧ ν.1 64 0 (140 + 8 * d + 3) = nI w) ∧ (2 ≤ i → s = 4 → ν.1 64 0 (140 + 8 * d + 4) = nI t1 ∧ ν.1 64 0 (140 + 8 * d + 5) = nI t2 ∧ ν.1 64 0 (140 + 8 * d + 6) = nI t3) ∧ (3 ≤ i → s = 6 → ν.1 64 0 (140 + 8 * d + 4) = nI t1) ∧ (4 ≤ i → 4 ≤ s → ν.1 64 0 (140 + 8 * d + 7) = nI ex) ∧ MG ν0 ν
theorem DC.f {μ0 μ μ' : zM} {j s p k d r w t1 t2 t3 ex i : Nat} (h : DC μ0 μ j s p k d r w t1 t2 t3 ex i) (f : XF μ μ') : DC μ0 μ' j s p k d r w t1 t2 t3 ex i := by
  obtain ⟨h1, h2, h3, h4, h5, h6, h7, h8, h9, h10, h11, h12, h13⟩ := h
  have e : ∀ k i z, k ≠ 7 → μ'.1 k i z = μ.1 k i z := fun k i z n => f.2 k i z (by omega)
  refine ⟨fun z => by rw [e _ _ _ (by decide)]; exact h1 z, fun z => by rw [e _ _ _ (by decide)]; exact h2 z, fun z => by rw [e _ _ _ (by decide)]; exact h3 z, fun t q ht => by rw [e _ _ _ (by decide)]; exact h4 t q ht, fun z => by rw [e _ _ _ (by decide)]; exact h5 z, fun z => by rw [e _ _ _ (by decide)]; exact h6 z, fun c z hc => by rw [e _ _ _ (by omega)]; exact h7 c z hc, fun z hz => ?_, ?_, ?_, ?_, ?_, h13.t f.g⟩
  · rw [e _ _ _ (by decide), e _ _ _ (by decide), e _ _ _ (by decide)]
    exact ⟨(h8 z hz).1, (h8 z hz).2.1, (h8 z hz).2.2.1, fun l => by rw [e _ _ _ (by decide)]; exact (h8 z hz).2.2.2 l⟩
  · rw [e _ _ _ (by decide), e _ _ _ (by decide)]; exact h9
  · rw [e _ _ _ (by decide), e _ _ _ (by decide), e _ _ _ (by decide)]; exact h10
  · rw [e _ _ _ (by decide)]; exact h11
  · rw [e _ _ _ (by decide)]; exact h12
theorem DM.f {ν0 ν ν' : zM} {s p k d r w t1 t2 t3 ex i : Nat} (h : DM ν0 ν s p k d r w t1 t2 t3 ex i) (f : MF ν ν') : DM ν0 ν' s p k d r w t1 t2 t3 ex i := by
  obtain ⟨h1, h2, h3, h4, h5, h6⟩ := h
  have e : ∀ z, ν'.1 64 0 z = ν.1 64 0 z := fun z => f.2.1 _ _ _ (by omega)
  refine ⟨fun z hz => by rw [e]; exact h1 z hz, by rw [e, e]; exact h2, by rw [e, e, e]; exact h3, by rw [e]; exact h4, by rw [e]; exact h5, h6.t f.g⟩
/-- what is written when the clause ends -/
def DF (ν0 ν : zM) (s p k d r w t1 t2 t3 ex : Nat) : Prop := ∃ ν1, DM ν0 ν1 s p k d r w t1 t2 t3 ex 4 ∧ MG ν0 ν ∧ ∀ z, ν.1 64 0 z = if z = 140 + 8 * d then nI s else if z = 140 + 8 * d + 1 then nI p else if z = 340 + 6 * s + k then nI d else if z = 10 + s then nI (k + 1) else if z = 1 then nI (d + 1) else ν1.1 64 0 z
def DOK (μ0 ν0 μ ν : zM) (j s p k d n : Nat) : Prop := ∃ r w t1 t2 t3 ex, (3 ≤ s → 1 ≤ r ∧ r ≤ 20 ∧ 1 ≤ w ∧ w ≤ 9) ∧ (s = 4 → (1 ≤ t1 ∧ t1 ≤ 99) ∧ (1 ≤ t2 ∧ t2 ≤ 99) ∧ 1 ≤ t3 ∧ t3 ≤ 99) ∧ (s = 6 → 1 ≤ t1 ∧ t1 ≤ 99) ∧ (4 ≤ s → ex < n ∧ ex ≠ p ∧ μ0.1 43 j ex = 0) ∧ TOKP μ ν ∧ DC μ0 μ j s p k d r w t1 t2 t3 ex 4 ∧ DF ν0 ν s p k d r w t1 t2 t3 ex
def DOUT (X M : Option (Option zV × zM)) (μ0 ν0 : zM) (j s p k d n : Nat) : Prop := (∃ μ' ν', X = some (some (.inl 1), μ') ∧ M = some (none, ν') ∧ DOK μ0 ν0 μ' ν' j s p k d n) ∨ (∃ μ' ν', X = some (some (.inl 0), μ') ∧ M = some (none, ν') ∧ BAD μ' ν' ∧ XG j μ0 μ' ∧ MG ν0 ν')
/-! the reference's rest, once something was wrong -/
theorem DD230 {ν : zM} (h : ν.1 11 0 10 = 0) (a b c d s : Int32) : tX11_readDevice_230 a b c d s ν = some (none, ν) := by
  rw [eX11_readDevice_230, D_takes h, zU_some, zif_pos h, eX11_readDevice_301]
theorem DD216 {ν : zM} (h : ν.1 11 0 10 = 0) (a b c d : Int32) : tX11_readDevice_216 a b c d ν = some (none, ν) := by
  rw [eX11_readDevice_216, DD230 h, DD230 h, zif_eq]
  split <;> rfl
theorem h64 {ν : zM} {z : Nat} {v : Int32} (h : ν.1 11 0 10 = 0) : (mS ν 64 0 z v).1 11 0 10 = 0 := by
  rw [mS_k _ _ _ _ _ _ _ _ (by decide)]; exact h
theorem DD196 {ν : zM} {d : Nat} (h : ν.1 11 0 10 = 0) (hd : d ≤ 18) (a b c e : Int32) : ∃ ν', tX11_readDevice_196 a b (nI (140 + 8 * d)) c e ν = some (none, ν') ∧ MD ν ν' := by
  refine ⟨mS ν 64 0 (140 + 8 * d + 7) e, ?_, (MD.r ν).s _ _⟩
  rw [eX11_readDevice_196, D_uses h, zU_some, show (7 : Int32) = nI 7 from rfl, nI_add, wI_in (zS_64 0) rfl (by omega) (by decide), Option.bind_some, DD216 (h64 h)]
theorem DD174 {ν : zM} {d : Nat} (h : ν.1 11 0 10 = 0) (hd : d ≤ 18) (a b c : Int32) : ∃ ν', tX11_readDevice_174 a b (nI (140 + 8 * d)) c ν = some (none, ν') ∧ MD ν ν' := by
  rw [eX11_readDevice_174, D_isWord h, zI_some, D_takes h, zU_some, D_free h, zI_some, DD216 h]
  by_cases g : (3 : Int32) < a
  · rw [zif_pos g]
    exact DD196 h hd _ _ _ _
  · rw [zif_neg g]
    exact ⟨ν, rfl, MD.r ν⟩
theorem DD150 {ν : zM} {d : Nat} (h : ν.1 11 0 10 = 0) (hd : d ≤ 18) (a b c : Int32) : ∃ ν', tX11_readDevice_150 a b (nI (140 + 8 * d)) c ν = some (none, ν') ∧ MD ν ν' := by
  rw [eX11_readDevice_150, D_behind h, zI_some, show (4 : Int32) = nI 4 from rfl, nI_add, wI_in (zS_64 0) rfl (by omega) (by decide), Option.bind_some]
  by_cases g : a = 6
  · rw [zif_pos g]
    obtain ⟨ν', e1, e2⟩ := DD174 (h64 (z := 140 + 8 * d + 4) (v := ν.1 11 0 8) h) hd a b c
    exact ⟨ν', e1, ((MD.r ν).s _ _).t e2⟩
  · rw [zif_neg g]
    exact DD174 h hd a b c
theorem DD96 {ν : zM} {d : Nat} (h : ν.1 11 0 10 = 0) (hd : d ≤ 18) (a b c : Int32) : ∃ ν', tX11_readDevice_96 a b (nI (140 + 8 * d)) c ν = some (none, ν') ∧ MD ν ν' := by
  by_cases g : a = 4
  · rw [eX11_readDevice_96, zif_pos g, D_behind h, zI_some, show nI (140 + 8 * d) + 4 = nI (140 + 8 * d + 4) from nI_add _ 4, wI_in (zS_64 0) rfl (by omega) (by decide), Option.bind_some, D_number (h64 h), zI_some, show nI (140 + 8 * d) + 5 = nI (140 + 8 * d + 5) from nI_add _ 5, wI_in (zS_64 0) rfl (by omega) (by decide), Option.bind_some, D_number (h64 (h64 h)), zI_some, show nI (140 + 8 * d) + 6 = nI (140 + 8 * d + 6) from nI_add _ 6, wI_in (zS_64 0) rfl (by omega) (by decide), Option.bind_some]
    obtain ⟨ν', e1, e2⟩ := DD150 (h64 (h64 (h64 h))) hd a b c
    exact ⟨ν', e1, ((((MD.r ν).s _ _).s _ _).s _ _).t e2⟩
  · rw [eX11_readDevice_96, zif_neg g]
    exact DD150 h hd a b c
theorem DD47 {ν : zM} {d : Nat} (h : ν.1 11 0 10 = 0) (hd : d ≤ 18) (a b c : Int32) : ∃ ν', tX11_readDevice_47 a b (nI (140 + 8 * d)) c ν = some (none, ν') ∧ MD ν ν' := by
  rw [eX11_readDevice_47, D_uses h, zU_some]
  by_cases g : a < 3
  · rw [zif_pos g]
    exact DD96 h hd a b c
  · rw [zif_neg g, D_behind h, zI_some, show nI (140 + 8 * d) + 2 = nI (140 + 8 * d + 2) from nI_add _ 2, wI_in (zS_64 0) rfl (by omega) (by decide), Option.bind_some, D_behind (h64 h), zI_some, show nI (140 + 8 * d) + 3 = nI (140 + 8 * d + 3) from nI_add _ 3, wI_in (zS_64 0) rfl (by omega) (by decide), Option.bind_some]
    obtain ⟨ν', e1, e2⟩ := DD96 (h64 (h64 h)) hd a b c
    exact ⟨ν', e1, (((MD.r ν).s _ _).s _ _).t e2⟩
