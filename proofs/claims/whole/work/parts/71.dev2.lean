theorem rng_nat {v : Int32} {a b : Nat} (h1 : ¬ v < nI a) (h2 : ¬ nI b < v) (ha : a ≤ b) (hb : b < 2 ^ 31) : ∃ r, a ≤ r ∧ r ≤ b ∧ v = nI r := by
  have h0 : ¬ v < 0 := by
    rw [Int32.lt_iff_toInt_lt, nI_toInt (by omega)] at h1
    rw [Int32.lt_iff_toInt_lt]
    have e2 : (0 : Int32).toInt = 0 := by decide
    omega
  obtain ⟨p, hp, rfl⟩ := nI_of h0
  have g1 : ¬ p < a := fun z => h1 ((nI_ltI hp (by omega)).mpr z)
  have g2 : ¬ b < p := fun z => h2 ((nI_ltI hb hp).mpr z)
  exact ⟨p, by omega, by omega, rfl⟩
theorem DC.w {μ0 μ : zM} {j s p k d r w t1 t2 t3 ex i kk a : Nat} {v : Int32} (h : DC μ0 μ j s p k d r w t1 t2 t3 ex i) (hi : i < 4) (hk : ((kk = 45 ∨ kk = 46 ∨ kk = 47) ∧ a = j) ∨ (kk = 53 ∧ a / 4 = j)) (r' w' t1' t2' t3' ex' : Nat) : DC μ0 (mS μ kk a p v) j s p k d r' w' t1' t2' t3' ex' 0 := by
  obtain ⟨h1, h2, h3, h4, h5, h6, h7, h8, h9, h10, h11, h12, h13⟩ := h
  have e : ∀ k' a' z, ¬ (k' = kk ∧ a' = a ∧ z = p) → (mS μ kk a p v).1 k' a' z = μ.1 k' a' z := fun k' a' z n => by rw [mS_1, if_neg n]
  refine ⟨fun z => ?_, fun z => by rw [e _ _ _ (by omega)]; exact h2 z, fun z => by rw [e _ _ _ (by omega)]; exact h3 z, fun t q ht => by rw [e _ _ _ (by omega)]; exact h4 t q ht, fun z => by rw [e _ _ _ (by omega)]; exact h5 z, fun z => by rw [e _ _ _ (by omega)]; exact h6 z, fun c z hc => by rw [e _ _ _ (by omega)]; exact h7 c z hc, fun z hz => ?_, fun q => absurd q (by omega), fun q => absurd q (by omega), fun q => absurd q (by omega), fun q => absurd q (by omega), h13.s (by unfold isSj; omega)⟩
  · rw [e _ _ _ (by omega), h1 z, if_neg (show ¬ ((4 ≤ s ∧ 4 ≤ i) ∧ z = ex) by omega), if_neg (show ¬ ((4 ≤ s ∧ 4 ≤ 0) ∧ z = ex') by omega)]
  · rw [e _ _ _ (by omega), e _ _ _ (by omega), e _ _ _ (by omega)]
    exact ⟨(h8 z hz).1, (h8 z hz).2.1, (h8 z hz).2.2.1, fun l => by rw [e _ _ _ (by omega)]; exact (h8 z hz).2.2.2 l⟩
theorem DC.mk {μ0 μ : zM} {j s p k d r w t1 t2 t3 ex i : Nat} (h : DC μ0 μ j s p k d r w t1 t2 t3 ex 0) (hi : i < 4) (g1 : 1 ≤ i → 3 ≤ s → μ.1 45 j p = nI r ∧ μ.1 46 j p = nI w) (g2 : 2 ≤ i → s = 4 → μ.1 53 (4 * j + 1) p = nI t1 ∧ μ.1 53 (4 * j + 2) p = nI t2 ∧ μ.1 53 (4 * j + 3) p = nI t3) (g3 : 3 ≤ i → s = 6 → μ.1 53 (4 * j + 1) p = nI t1) : DC μ0 μ j s p k d r w t1 t2 t3 ex i := by
  obtain ⟨h1, h2, h3, h4, h5, h6, h7, h8, h9, h10, h11, h12, h13⟩ := h
  refine ⟨fun z => ?_, h2, h3, h4, h5, h6, h7, h8, g1, g2, g3, fun q => absurd q (by omega), h13⟩
  rw [h1 z, if_neg (show ¬ ((4 ≤ s ∧ 4 ≤ 0) ∧ z = ex) by omega), if_neg (show ¬ ((4 ≤ s ∧ 4 ≤ i) ∧ z = ex) by omega)]
/-- a stage that has nothing to read -/
theorem DC.skip {μ0 μ : zM} {j s p k d r w t1 t2 t3 ex i : Nat} (h : DC μ0 μ j s p k d r w t1 t2 t3 ex i) (hs : (i = 0 ∧ s < 3) ∨ (i = 1 ∧ s ≠ 4) ∨ (i = 2 ∧ s ≠ 6) ∨ (i = 3 ∧ s < 4)) : DC μ0 μ j s p k d r w t1 t2 t3 ex (i + 1) := by
  obtain ⟨h1, h2, h3, h4, h5, h6, h7, h8, h9, h10, h11, h12, h13⟩ := h
  refine ⟨fun z => ?_, h2, h3, h4, h5, h6, h7, h8, fun a b => ?_, fun a b => ?_, fun a b => ?_, fun a b => ?_, h13⟩
  · rw [h1 z, if_neg (show ¬ ((4 ≤ s ∧ 4 ≤ i) ∧ z = ex) by omega), if_neg (show ¬ ((4 ≤ s ∧ 4 ≤ i + 1) ∧ z = ex) by omega)]
  · exact h9 (by omega) b
  · exact h10 (by omega) b
  · exact h11 (by omega) b
  · exact h12 (by omega) b
theorem DM.w {ν0 ν : zM} {s p k d r w t1 t2 t3 ex i y : Nat} {v : Int32} (h : DM ν0 ν s p k d r w t1 t2 t3 ex i) (hi : i < 4) (hy : y < 8) (r' w' t1' t2' t3' ex' : Nat) : DM ν0 (mS ν 64 0 (140 + 8 * d + y) v) s p k d r' w' t1' t2' t3' ex' 0 := by
  obtain ⟨h1, h2, h3, h4, h5, h6⟩ := h
  refine ⟨fun z hz => ?_, fun q => absurd q (by omega), fun q => absurd q (by omega), fun q => absurd q (by omega), fun q => absurd q (by omega), h6.t ((MD.r ν).s _ _).g⟩
  rw [mS_n _ _ _ _ _ _ _ _ (by omega), h1 z hz]
  have e1 : ∀ x : Prop, ¬ ((4 ≤ s ∧ 4 ≤ i) ∧ x) := fun x => by omega
  have e2 : ∀ x : Prop, ¬ ((4 ≤ s ∧ 4 ≤ 0) ∧ x) := fun x => by omega
  rw [if_neg (e1 _), if_neg (e1 _), if_neg (e2 _), if_neg (e2 _)]
theorem DM.mk {ν0 ν : zM} {s p k d r w t1 t2 t3 ex i : Nat} (h : DM ν0 ν s p k d r w t1 t2 t3 ex 0) (hi : i < 4) (g1 : 1 ≤ i → 3 ≤ s → ν.1 64 0 (140 + 8 * d + 2) = nI r ∧ ν.1 64 0 (140 + 8 * d + 3) = nI w) (g2 : 2 ≤ i → s = 4 → ν.1 64 0 (140 + 8 * d + 4) = nI t1 ∧ ν.1 64 0 (140 + 8 * d + 5) = nI t2 ∧ ν.1 64 0 (140 + 8 * d + 6) = nI t3) (g3 : 3 ≤ i → s = 6 → ν.1 64 0 (140 + 8 * d + 4) = nI t1) : DM ν0 ν s p k d r w t1 t2 t3 ex i := by
  obtain ⟨h1, h2, h3, h4, h5, h6⟩ := h
  refine ⟨fun z hz => ?_, g1, g2, g3, fun q => absurd q (by omega), h6⟩
  rw [h1 z hz]
  have e1 : ∀ x : Prop, ¬ ((4 ≤ s ∧ 4 ≤ i) ∧ x) := fun x => by omega
  have e2 : ∀ x : Prop, ¬ ((4 ≤ s ∧ 4 ≤ 0) ∧ x) := fun x => by omega
  rw [if_neg (e1 _), if_neg (e1 _), if_neg (e2 _), if_neg (e2 _)]
theorem DM.skip {ν0 ν : zM} {s p k d r w t1 t2 t3 ex i : Nat} (h : DM ν0 ν s p k d r w t1 t2 t3 ex i) (hs : (i = 0 ∧ s < 3) ∨ (i = 1 ∧ s ≠ 4) ∨ (i = 2 ∧ s ≠ 6) ∨ (i = 3 ∧ s < 4)) : DM ν0 ν s p k d r w t1 t2 t3 ex (i + 1) := by
  obtain ⟨h1, h2, h3, h4, h5, h6⟩ := h
  refine ⟨fun z hz => ?_, fun a b => h2 (by omega) b, fun a b => h3 (by omega) b, fun a b => h4 (by omega) b, fun a b => h5 (by omega) b, h6⟩
  rw [h1 z hz]
  have e1 : ∀ x : Prop, ¬ ((4 ≤ s ∧ 4 ≤ i) ∧ x) := fun x => by omega
  have e2 : ∀ x : Prop, ¬ ((4 ≤ s ∧ 4 ≤ i + 1) ∧ x) := fun x => by omega
  rw [if_neg (e1 _), if_neg (e1 _), if_neg (e2 _), if_neg (e2 _)]
/-! the base: what both setups hold before the device -/
def DB (μ0 ν0 : zM) (j s p k d n : Nat) : Prop := (μ0.2.1 6 0 1 = j ∧ j < 2) ∧ (1 ≤ s ∧ s ≤ 6) ∧ (p < n ∧ 1 ≤ n ∧ n ≤ 60) ∧ k < 6 ∧ d < 18 ∧ μ0.1 5 j 0 = nI n ∧ ν0.1 64 0 0 = nI n ∧ (∀ z, z < n → μ0.1 43 j z = ν0.1 64 0 (20 + z)) ∧ ν0.1 64 0 1 = nI d ∧ ν0.1 64 0 (10 + s) = nI k ∧ μ0.1 43 j p = 0
theorem wI_64 {ν : zM} {x v : Int32} {z : Nat} (hx : x = nI z) (hz : z < 400) : wI ν (64, 0) x v = some (mS ν 64 0 z v) := wI_in (zS_64 0) hx hz (by decide)
theorem qI_64 {ν : zM} {x : Int32} {z : Nat} (hx : x = nI z) (hz : z < 400) : qI ν (64, 0) x = some (ν.1 64 0 z) := qI_in (zS_64 0) hx hz (by decide)
theorem L4 {μ0 ν0 μ ν : zM} {j s p k d n r w t1 t2 t3 ex : Nat} (hB : DB μ0 ν0 j s p k d n) (hT : TOKP μ ν) (hC : DC μ0 μ j s p k d r w t1 t2 t3 ex 4) (hM : DM ν0 ν s p k d r w t1 t2 t3 ex 4) (g1 : 3 ≤ s → 1 ≤ r ∧ r ≤ 20 ∧ 1 ≤ w ∧ w ≤ 9) (g2 : s = 4 → (1 ≤ t1 ∧ t1 ≤ 99) ∧ (1 ≤ t2 ∧ t2 ≤ 99) ∧ 1 ≤ t3 ∧ t3 ≤ 99) (g3 : s = 6 → 1 ≤ t1 ∧ t1 ≤ 99) (g4 : 4 ≤ s → ex < n ∧ ex ≠ p ∧ μ0.1 43 j ex = 0) : DOUT (tX6_readDevice_86 μ) (tX11_readDevice_216 (nI s) (nI k) (nI (140 + 8 * d)) (nI p) ν) μ0 ν0 j s p k d n := by
  obtain ⟨b1, b2, b3, b4, b5, b6, b7, b8, b9, b10, b11⟩ := hB
  rw [eX6_readDevice_86, eX11_readDevice_216]
  rcases P_semi hT with ⟨μ', ν', a1, a2, a3, a4, a5, a6⟩ | ⟨ν', a1, a2, a3, a4, a5⟩
  · left
    rw [a1, zI_some, zif_pos nar_1, zif_pos a2, eX11_readDevice_230, a3, zU_some, a4.fine, zif_neg (by decide)]
    have hM' := hM.f a6
    have m1 : ν'.1 64 0 1 = nI d := by
      rw [hM'.1 1 (by omega), if_neg (by omega), if_neg (by omega), if_neg (by omega), if_neg (by omega)]
      exact b9
    have m10 : ν'.1 64 0 (10 + s) = nI k := by
      rw [hM'.1 (10 + s) (by omega), if_neg (by omega), if_neg (by omega), if_neg (by omega), if_neg (by omega)]
      exact b10
    let n1 := mS ν' 64 0 (140 + 8 * d) (nI s)
    let n2 := mS n1 64 0 (140 + 8 * d + 1) (nI p)
    let n3 := mS n2 64 0 (340 + 6 * s + k) (nI d)
    let n4 := mS n3 64 0 (10 + s) (nI (k + 1))
    let n5 := mS n4 64 0 1 (nI (d + 1))
    have r1 : n2.1 64 0 1 = nI d := by
      show (mS (mS ν' 64 0 _ _) 64 0 _ _).1 64 0 1 = _
      rw [mS_n _ _ _ _ _ _ _ _ (by omega), mS_n _ _ _ _ _ _ _ _ (by omega), m1]
    have r2 : n3.1 64 0 (10 + s) = nI k := by
      show (mS (mS (mS ν' 64 0 _ _) 64 0 _ _) 64 0 _ _).1 64 0 (10 + s) = _
      rw [mS_n _ _ _ _ _ _ _ _ (by omega), mS_n _ _ _ _ _ _ _ _ (by omega), mS_n _ _ _ _ _ _ _ _ (by omega), m10]
    have r3 : n4.1 64 0 1 = nI d := by
      show (mS (mS n2 64 0 _ _) 64 0 _ _).1 64 0 1 = _
      rw [mS_n _ _ _ _ _ _ _ _ (by omega), mS_n _ _ _ _ _ _ _ _ (by omega), r1]
    have hD : MD ν' n5 := (((((MD.r ν').s _ _).s _ _).s _ _).s _ _).s _ _
    refine ⟨μ', n5, rfl, ?_, r, w, t1, t2, t3, ex, g1, g2, g3, g4, ?_, hC.f a5, ν', hM', hM'.2.2.2.2.2.t hD.g, fun z => ?_⟩
    · rw [wI_64 rfl (by omega), Option.bind_some, show nI (140 + 8 * d) + 1 = nI (140 + 8 * d + 1) from nI_add _ 1, wI_64 rfl (by omega), Option.bind_some, qI_64 (x := 1) (z := 1) rfl (by decide), Option.bind_some, r1, show (340 + 6 * nI s + nI k : Int32) = nI (340 + 6 * s + k) by rw [show (6 : Int32) = nI 6 from rfl, show (340 : Int32) = nI 340 from rfl, pk_mul, nI_add, nI_add], wI_64 rfl (by omega), Option.bind_some, show (10 : Int32) + nI s = nI (10 + s) from nI_add 10 s, qI_64 rfl (by omega), Option.bind_some, r2, nI_1, wI_64 rfl (by omega), Option.bind_some, qI_64 (x := 1) (z := 1) rfl (by decide), Option.bind_some, r3, nI_1, wI_64 (x := 1) (z := 1) rfl (by decide), Option.bind_some, eX11_readDevice_301]
    · exact a4.of (fun _ => rfl) (fun _ => rfl) (fun z => hD.2 _ _ _ (by omega)) (fun z => hD.2 _ _ _ (by omega)) (by rw [hD.1])
    · show (mS (mS (mS (mS (mS ν' 64 0 _ _) 64 0 _ _) 64 0 _ _) 64 0 _ _) 64 0 _ _).1 64 0 z = _
      have rd : ∀ (m : zM) (y : Nat) (v : Int32), (mS m 64 0 y v).1 64 0 z = if z = y then v else m.1 64 0 z := fun m y v => by
        rw [mS_1]
        by_cases q : z = y
        · rw [if_pos ⟨rfl, rfl, q⟩, if_pos q]
        · rw [if_neg (fun y => q y.2.2), if_neg q]
      rw [rd, rd, rd, rd, rd]
      by_cases q1 : z = 140 + 8 * d
      · rw [if_neg (by omega), if_neg (by omega), if_neg (by omega), if_neg (by omega), if_pos q1, if_pos q1]
      · rw [if_neg (c := z = 140 + 8 * d) q1, if_neg (c := z = 140 + 8 * d) q1]
        by_cases q2 : z = 140 + 8 * d + 1
        · rw [if_neg (by omega), if_neg (by omega), if_neg (by omega), if_pos q2, if_pos q2]
        · rw [if_neg (c := z = 140 + 8 * d + 1) q2, if_neg (c := z = 140 + 8 * d + 1) q2]
          by_cases q3 : z = 340 + 6 * s + k
          · rw [if_neg (by omega), if_neg (by omega), if_pos q3, if_pos q3]
          · rw [if_neg (c := z = 340 + 6 * s + k) q3, if_neg (c := z = 340 + 6 * s + k) q3]
            by_cases q4 : z = 10 + s
            · rw [if_neg (by omega), if_pos q4, if_pos q4]
            · rw [if_neg (c := z = 10 + s) q4, if_neg (c := z = 10 + s) q4]
  · right
    rw [a1, zI_some, zif_pos nar_0, zif_neg a2, eX11_readDevice_230, a3, zU_some, zif_pos a4.1, eX11_readDevice_301]
    exact ⟨μ, ν', rfl, rfl, a4, hC.2.2.2.2.2.2.2.2.2.2.2.2, hM.2.2.2.2.2.t a5⟩
