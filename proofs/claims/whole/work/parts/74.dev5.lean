/-- room and switching -/
theorem L0 {μ0 ν0 μ ν : zM} {j s p k d n : Nat} (hB : DB μ0 ν0 j s p k d n) (hT : TOKP μ ν) (hC : DC μ0 μ j s p k d 0 0 0 0 0 0 0) (hM : DM ν0 ν s p k d 0 0 0 0 0 0 0) : DOUT (zI (tX10_isOutlet_0 (nI s) μ) fun v4 μ3 => zif (v4 = 0) (tX6_readDevice_38 (nI s) (nI p) μ3) (zI (tX6_readDiverter_0 (nI p) μ3) fun v6 μ5 => zif (v6 = 0) (zif (vp_nar .boolean 0 = 0) (some (some (.inl 0), μ5)) none) (tX6_readDevice_38 (nI s) (nI p) μ5))) (zif (nI s < 3) (tX11_readDevice_96 (nI s) (nI k) (nI (140 + 8 * d)) (nI p) ν) (zI (tX11_numberBehind_0 605677 1 20 ν) fun v3 μ2 => (wI μ2 (64, 0) (nI (140 + 8 * d) + 2) v3).bind fun μ4 => zI (tX11_numberBehind_0 661966952 1 9 μ4) fun v6 μ5 => (wI μ5 (64, 0) (nI (140 + 8 * d) + 3) v6).bind fun μ7 => tX11_readDevice_96 (nI s) (nI k) (nI (140 + 8 * d)) (nI p) μ7)) μ0 ν0 j s p k d n := by
  have hB' := hB
  obtain ⟨b1, b2, b3, b4, b5, b6, b7, b8, b9, b10, b11⟩ := hB'
  have hXG := hC.2.2.2.2.2.2.2.2.2.2.2.2
  have hMG := hM.2.2.2.2.2
  have d18 : d ≤ 18 := by omega
  have x2 : nI (140 + 8 * d) + 2 = nI (140 + 8 * d + 2) := nI_add _ 2
  have x3 : nI (140 + 8 * d) + 3 = nI (140 + 8 * d + 3) := nI_add _ 3
  rw [pX10_isOutlet (by omega), zI_some]
  by_cases g : 3 ≤ s
  · rw [zif_pos (show 3 ≤ s ∧ s ≤ 6 by omega), zif_neg (show ¬ (1 : Int32) = 0 by decide), zif_neg (show ¬ nI s < 3 from nI_nlt (b := 3) g (by omega)), eX6_readDiverter_0]
    rcases P_named hT (i := 9) (c := 605677) (lo := 1) (hi := 20) (by decide) (by decide) (by decide) with ⟨v, μ1, ν1, a1, a2, a3, a4, a5, a6⟩ | ⟨v, μ1, ν1, a1, a2, a3, a4, a5⟩
    · obtain ⟨r, hr1, hr2, rfl⟩ := rng_nat (a := 1) (b := 20) a3.1 a3.2 (by decide) (by decide)
      have hX1 := hXG.t (a5.g (j := j))
      have hG1 := hMG.t a6.g
      have hj : μ1.2.1 6 0 1 = j := by rw [hX1.1]; exact b1.1
      rw [a1, zI_some, a2, zI_some, eX6_readDiverter_13, zif_neg (m1_nI (by omega)), hj, zif_pos b1.2, wI_60 (zS_45 _) rfl (by omega), Option.bind_some, x2, wI_64 rfl (by omega), Option.bind_some]
      have hC1 := (hC.f a5).w (kk := 45) (a := j) (v := nI r) (by decide) (Or.inl ⟨Or.inl rfl, rfl⟩) r 0 0 0 0 0
      have hM1 := (hM.f a6).w (y := 2) (v := nI r) (by decide) (by decide) r 0 0 0 0 0
      have t1 : TOKP (mS μ1 45 j p (nI r)) (mS ν1 64 0 (140 + 8 * d + 2) (nI r)) := a4.of (fun z => mS_k _ _ _ _ _ _ _ _ (by decide)) (fun z => mS_k _ _ _ _ _ _ _ _ (by decide)) (fun z => mS_k _ _ _ _ _ _ _ _ (by decide)) (fun z => mS_k _ _ _ _ _ _ _ _ (by decide)) rfl
      rcases P_named t1 (i := 10) (c := 661966952) (lo := 1) (hi := 9) (by decide) (by decide) (by decide) with ⟨v, μ2, ν2, c1, c2, c3, c4, c5, c6⟩ | ⟨v, μ2, ν2, c1, c2, c3, c4, c5⟩
      · obtain ⟨w, hw1, hw2, rfl⟩ := rng_nat (a := 1) (b := 9) c3.1 c3.2 (by decide) (by decide)
        have hj2 : μ2.2.1 6 0 1 = j := by rw [c5.1]; exact hj
        rw [c1, zI_some, c2, zI_some, eX6_readDiverter_43, hj2, zif_pos b1.2, wI_60 (zS_46 _) rfl (by omega), Option.bind_some, zif_neg (m1_nI (by omega)), eX6_readDiverter_63, zif_pos nar_1, zI_some, zif_neg (show ¬ (1 : Int32) = 0 by decide), x3, wI_64 rfl (by omega), Option.bind_some]
        refine L1 (r := r) (w := w) hB (c4.of (fun z => mS_k _ _ _ _ _ _ _ _ (by decide)) (fun z => mS_k _ _ _ _ _ _ _ _ (by decide)) (fun z => mS_k _ _ _ _ _ _ _ _ (by decide)) (fun z => mS_k _ _ _ _ _ _ _ _ (by decide)) rfl) (((hC1.f c5).w (kk := 46) (a := j) (v := nI w) (by decide) (Or.inl ⟨Or.inr (Or.inl rfl), rfl⟩) r w 0 0 0 0).mk (by decide) (fun _ q => ⟨?_, mS_same _ _ _ _ _⟩) (fun q => absurd q (by decide)) (fun q => absurd q (by decide))) (((hM1.f c6).w (y := 3) (v := nI w) (by decide) (by decide) r w 0 0 0 0).mk (by decide) (fun _ q => ⟨?_, mS_same _ _ _ _ _⟩) (fun q => absurd q (by decide)) (fun q => absurd q (by decide))) (fun _ => ⟨hr1, hr2, hw1, hw2⟩)
        · rw [mS_k _ _ _ _ _ _ _ _ (by decide), c5.2 _ _ _ (by omega), mS_same]
        · rw [mS_n _ _ _ _ _ _ _ _ (by omega), c6.2.1 _ _ _ (by omega), mS_same]
      · right
        have hj2 : μ2.2.1 6 0 1 = j := by rw [c4.1]; exact hj
        rw [c1, zI_some, c2, zI_some, eX6_readDiverter_43, hj2, zif_pos b1.2, wI_60 (zS_46 _) rfl (by omega), Option.bind_some, zif_pos rfl, eX6_readDiverter_63, zif_pos nar_0, zI_some, zif_pos rfl, zif_pos nar_0, x3, wI_64 rfl (by omega), Option.bind_some]
        obtain ⟨ν', y1, y2⟩ := DD96 (h64 (z := 140 + 8 * d + 3) (v := v) c3.1) d18 (nI s) (nI k) (nI p)
        have y3 := ((MD.r ν2).s (140 + 8 * d + 3) v).t y2
        exact ⟨_, ν', rfl, y1, (c3.d y3).x (by rw [mS_k _ _ _ _ _ _ _ _ (by decide)]), ((hX1.s (k := 45) (i := j) (z := p) (v := nI r) (by unfold isSj; omega)).t c4.g).s (by unfold isSj; omega), ((hG1.t ((MD.r ν1).s (140 + 8 * d + 2) (nI r)).g).t c5).t y3.g⟩
    · right
      rw [a1, zI_some, a2, zI_some, eX6_readDiverter_13, zif_pos rfl, zif_pos nar_0, zI_some, zif_pos rfl, zif_pos nar_0, x2, wI_64 rfl (by omega), Option.bind_some, D_behind (h64 a3.1), zI_some, x3, wI_64 rfl (by omega), Option.bind_some]
      obtain ⟨ν', y1, y2⟩ := DD96 (h64 (z := 140 + 8 * d + 3) (h64 (z := 140 + 8 * d + 2) (v := v) a3.1)) d18 (nI s) (nI k) (nI p)
      have y3 := (((MD.r ν1).s (140 + 8 * d + 2) v).s (140 + 8 * d + 3) _).t y2
      exact ⟨_, ν', rfl, y1, a3.d y3, hXG.t a4.g, (hMG.t a5).t y3.g⟩
  · rw [zif_neg (show ¬ (3 ≤ s ∧ s ≤ 6) by omega), zif_pos rfl, zif_pos (show nI s < 3 from nI_lt (b := 3) (by omega) (by decide))]
    exact L1 hB hT (hC.skip (by omega)) (hM.skip (by omega)) (fun q => absurd q g)
/-- behind the position -/
theorem LPos {μ0 ν0 : zM} {j s p k d n : Nat} (hB : DB μ0 ν0 j s p k d n) (hT : TOKP μ0 ν0) (h49 : μ0.1 49 j s = nI k) (h13 : μ0.1 5 j 13 = nI d) : DOUT (tX6_readDevice_5 (nI s) (nI p) μ0) (tX11_readDevice_47 (nI s) (nI k) (nI (140 + 8 * d)) (nI p) ν0) μ0 ν0 j s p k d n := by
  have hB' := hB
  obtain ⟨b1, b2, b3, b4, b5, b6, b7, b8, b9, b10, b11⟩ := hB'
  let m1 := mS μ0 43 j p (nI s)
  let m2 := mS m1 44 j p (nI k)
  let m3 := mS m2 54 (7 * j + s) k (nI p)
  let m4 := mS m3 49 j s (nI (k + 1))
  let m5 := mS m4 51 j d (nI p)
  let m6 := mS m5 5 j 13 (nI (d + 1))
  have e13 : m4.1 5 j 13 = nI d := by
    show (mS (mS (mS (mS μ0 43 j p _) 44 j p _) 54 (7 * j + s) k _) 49 j s _).1 5 j 13 = _
    rw [mS_k _ _ _ _ _ _ _ _ (by decide), mS_k _ _ _ _ _ _ _ _ (by decide), mS_k _ _ _ _ _ _ _ _ (by decide), mS_k _ _ _ _ _ _ _ _ (by decide), h13]
  have e13' : m5.1 5 j 13 = nI d := by
    show (mS m4 51 j d _).1 5 j 13 = _
    rw [mS_k _ _ _ _ _ _ _ _ (by decide), e13]
  have eA : tX5_addDevice_0 j (nI s) (nI p) μ0 = some (none, m6) := by
    rw [eX5_addDevice_0, qI_in (zS_49 j) rfl (by omega) (by decide), Option.bind_some, h49, eX5_addDevice_7, zif_pos (show nI k < 6 from nI_lt (b := 6) b4 (by decide)), h13, zif_pos (show nI d < 18 from nI_lt (b := 18) b5 (by decide)), wI_60 (zS_43 j) rfl (by omega), Option.bind_some, wI_60 (zS_44 j) rfl (by omega), Option.bind_some, qX_in (N := 7) (p := s) rfl (by omega) (by decide), Option.bind_some, wI_in (zS_54 _) rfl b4 (by decide), Option.bind_some, nI_1, wI_in (zS_49 j) rfl (by omega) (by decide), Option.bind_some, show (mS (mS (mS (mS μ0 43 j p (nI s)) 44 j p (nI k)) 54 (7 * j + s) k (nI p)) 49 j s (nI (k + 1))).1 5 j 13 = nI d from e13, wI_in (zS_51 j) rfl b5 (by decide), Option.bind_some, zlet_eq, show (mS (mS (mS (mS (mS μ0 43 j p (nI s)) 44 j p (nI k)) 54 (7 * j + s) k (nI p)) 49 j s (nI (k + 1))) 51 j d (nI p)).1 5 j 13 = nI d from e13', nI_1]
  rw [eX6_readDevice_5, zif_neg (m1_nI (by omega)), b1.1, zif_pos b1.2, eA, zU_some, eX11_readDevice_47, eX11_uses_0, hT.fine, zif_neg (show ¬ (1 : Int32) = 0 by decide), show (20 : Int32) + nI p = nI (20 + p) from nI_add 20 p, wI_64 rfl (by omega), Option.bind_some, show (80 : Int32) + nI p = nI (80 + p) from nI_add 80 p, wI_64 rfl (by omega), Option.bind_some, eX11_uses_27, zU_some]
  have hk : ∀ kk a z, kk ≠ 43 → kk ≠ 44 → kk ≠ 54 → kk ≠ 49 → kk ≠ 51 → kk ≠ 5 → m6.1 kk a z = μ0.1 kk a z := fun kk a z n1 n2 n3 n4 n5 n6 => by
    show (mS (mS (mS (mS (mS (mS μ0 43 j p _) 44 j p _) 54 (7 * j + s) k _) 49 j s _) 51 j d _) 5 j 13 _).1 kk a z = _
    rw [mS_k _ _ _ _ _ _ _ _ n6, mS_k _ _ _ _ _ _ _ _ n5, mS_k _ _ _ _ _ _ _ _ n4, mS_k _ _ _ _ _ _ _ _ n3, mS_k _ _ _ _ _ _ _ _ n2, mS_k _ _ _ _ _ _ _ _ n1]
  have hD : MD ν0 (mS (mS ν0 64 0 (20 + p) (nI s)) 64 0 (80 + p) (nI k)) := ((MD.r ν0).s _ _).s _ _
  have rx : ∀ (kk a z : Nat), m6.1 kk a z = if kk = 5 ∧ a = j ∧ z = 13 then nI (d + 1) else if kk = 51 ∧ a = j ∧ z = d then nI p else if kk = 49 ∧ a = j ∧ z = s then nI (k + 1) else if kk = 54 ∧ a = 7 * j + s ∧ z = k then nI p else if kk = 44 ∧ a = j ∧ z = p then nI k else if kk = 43 ∧ a = j ∧ z = p then nI s else μ0.1 kk a z := fun kk a z => by
    show (mS (mS (mS (mS (mS (mS μ0 43 j p _) 44 j p _) 54 (7 * j + s) k _) 49 j s _) 51 j d _) 5 j 13 _).1 kk a z = _
    simp only [mS_1]
  refine L0 hB (hT.of (fun z => hk _ _ _ (by decide) (by decide) (by decide) (by decide) (by decide) (by decide)) (fun z => hk _ _ _ (by decide) (by decide) (by decide) (by decide) (by decide) (by decide)) (fun z => hD.2 _ _ _ (by omega)) (fun z => hD.2 _ _ _ (by omega)) (by rw [hD.1])) ⟨fun z => ?_, fun z => ?_, fun z => ?_, fun t q ht => ?_, fun x => ?_, fun z => ?_, fun c z hc => hk _ _ _ (by omega) (by omega) (by omega) (by omega) (by omega) (by omega), fun z hz => ⟨?_, ?_, ?_, fun l => ?_⟩, fun q => absurd q (by decide), fun q => absurd q (by decide), fun q => absurd q (by decide), fun q => absurd q (by decide), rfl, fun kk a z n1 n2 => ?_⟩ ⟨fun z hz => ?_, fun q => absurd q (by decide), fun q => absurd q (by decide), fun q => absurd q (by decide), fun q => absurd q (by decide), hD.g⟩
  · rw [rx, if_neg (by omega), if_neg (by omega), if_neg (by omega), if_neg (by omega), if_neg (by omega), if_neg (show ¬ ((4 ≤ s ∧ 4 ≤ 0) ∧ z = 0) by omega)]
    by_cases q : z = p
    · rw [if_pos ⟨rfl, rfl, q⟩, if_pos q]
    · rw [if_neg (by omega), if_neg q]
  · rw [rx, if_neg (by omega), if_neg (by omega), if_neg (by omega), if_neg (by omega)]
    by_cases q : z = p
    · rw [if_pos ⟨rfl, rfl, q⟩, if_pos q]
    · rw [if_neg (by omega), if_neg (by omega), if_neg q]
  · rw [rx, if_neg (by omega), if_neg (by omega)]
    by_cases q : z = s
    · rw [if_pos ⟨rfl, rfl, q⟩, if_pos q]
    · rw [if_neg (by omega), if_neg (by omega), if_neg (by omega), if_neg (by omega), if_neg q]
  · rw [rx, if_neg (by omega), if_neg (by omega), if_neg (by omega)]
    by_cases y : t = s ∧ q = k
    · rw [if_pos ⟨rfl, by omega, y.2⟩, if_pos y]
    · rw [if_neg (by omega), if_neg (by omega), if_neg (by omega), if_neg y]
  · rw [rx, if_neg (by omega)]
    by_cases q : x = d
    · rw [if_pos ⟨rfl, rfl, q⟩, if_pos q]
    · rw [if_neg (by omega), if_neg (by omega), if_neg (by omega), if_neg (by omega), if_neg (by omega), if_neg q]
  · rw [rx]
    by_cases q : z = 13
    · rw [if_pos ⟨rfl, rfl, q⟩, if_pos q]
    · rw [if_neg (by omega), if_neg (by omega), if_neg (by omega), if_neg (by omega), if_neg (by omega), if_neg (by omega), if_neg q]
  · exact hk _ _ _ (by decide) (by decide) (by decide) (by decide) (by decide) (by decide)
  · exact hk _ _ _ (by decide) (by decide) (by decide) (by decide) (by decide) (by decide)
  · exact hk _ _ _ (by decide) (by decide) (by decide) (by decide) (by decide) (by decide)
  · exact hk _ _ _ (by decide) (by decide) (by decide) (by decide) (by decide) (by decide)
  · unfold isSj at n2
    rw [rx, if_neg (by omega), if_neg (by omega), if_neg (by omega), if_neg (by omega), if_neg (by omega), if_neg (by omega)]
  · rw [if_neg (show ¬ ((4 ≤ s ∧ 4 ≤ 0) ∧ z = 20 + 0) by omega), if_neg (show ¬ ((4 ≤ s ∧ 4 ≤ 0) ∧ z = 80 + 0) by omega)]
    by_cases q1 : z = 20 + p
    · rw [mS_n _ _ _ _ _ _ _ _ (by omega), q1, mS_same, if_pos rfl]
    · rw [if_neg q1]
      by_cases q2 : z = 80 + p
      · rw [q2, mS_same, if_pos rfl]
      · rw [mS_n _ _ _ _ _ _ _ _ q2, mS_n _ _ _ _ _ _ _ _ q1, if_neg q2]
