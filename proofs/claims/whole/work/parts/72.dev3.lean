theorem pX10_hasExit {μ : zM} {s : Nat} (h1 : 1 ≤ s) (h6 : s ≤ 6) : tX10_hasExit_0 (nI s) μ = some (some (.inl (zif (4 ≤ s) 1 0)), μ) := by
  rw [eX10_hasExit_0, pX10_isOutlet (by omega), zI_some, eX10_hasExit_16, eX10_hasExit_17, eX10_hasExit_17, zif_pos nar_0, zif_pos nar_1]
  by_cases a : 3 ≤ s ∧ s ≤ 6
  · rw [zif_pos a, zif_neg (by decide)]
    by_cases c : s = 3
    · rw [zif_pos (show nI s = 3 by rw [c]; rfl), zif_neg (show ¬ 4 ≤ s by omega)]
    · rw [zif_neg (show ¬ nI s = 3 from nI_ne (b := 3) (by omega) (by decide) c), zif_pos (show 4 ≤ s by omega)]
  · rw [zif_neg a, zif_pos rfl, zif_neg (show ¬ 4 ≤ s by omega)]
theorem wI_60 {μ : zM} {k a z : Nat} {x v : Int32} (hs : zS k a = .inr (0, 60, (0, 0))) (hx : x = nI z) (hz : z < 60) : wI μ (k, a) x v = some (mS μ k a z v) := wI_in hs hx hz (by decide)
theorem m1_nI {p : Nat} (hp : p < 2 ^ 31) : ¬ nI p = -1 := fun z => by
  have := nI_pos hp
  rw [z] at this
  exact this m1_lt
theorem L3 {μ0 ν0 μ ν : zM} {j s p k d n r w t1 t2 t3 : Nat} (hB : DB μ0 ν0 j s p k d n) (hT : TOKP μ ν) (hC : DC μ0 μ j s p k d r w t1 t2 t3 0 3) (hM : DM ν0 ν s p k d r w t1 t2 t3 0 3) (g1 : 3 ≤ s → 1 ≤ r ∧ r ≤ 20 ∧ 1 ≤ w ∧ w ≤ 9) (g2 : s = 4 → (1 ≤ t1 ∧ t1 ≤ 99) ∧ (1 ≤ t2 ∧ t2 ≤ 99) ∧ 1 ≤ t3 ∧ t3 ≤ 99) (g3 : s = 6 → 1 ≤ t1 ∧ t1 ≤ 99) : DOUT (tX6_readDevice_69 (nI s) (nI p) μ) (tX11_readDevice_174 (nI s) (nI k) (nI (140 + 8 * d)) (nI p) ν) μ0 ν0 j s p k d n := by
  have hB' := hB
  obtain ⟨b1, b2, b3, b4, b5, b6, b7, b8, b9, b10, b11⟩ := hB'
  have hXG := hC.2.2.2.2.2.2.2.2.2.2.2.2
  have hMG := hM.2.2.2.2.2
  rw [eX6_readDevice_69, pX10_hasExit b2.1 b2.2, zI_some, eX11_readDevice_174]
  by_cases g : 4 ≤ s
  · rw [zif_pos g, zif_neg (by decide), zif_pos (show (3 : Int32) < nI s from nI_lt (a := 3) (by omega) (by omega)), eX6_readExit_0]
    rcases P_word hT (i := 13) (c := 188724) (by decide) (by decide) with ⟨μ1, ν1, a1, a2, a3, a4, a5, a6⟩ | ⟨ν1, a1, a2, a3, a4, a5⟩
    · rw [a1, zI_some, zif_neg (by decide), a2, zI_some, a3, zU_some]
      have hC1 := hC.f a5
      have hM1 := hM.f a6
      have hj : μ1.2.1 6 0 1 = j := by rw [(hXG.t a5.g).1]; exact b1.1
      have hn1 : μ1.1 5 j 0 = nI n := by rw [hC1.2.2.2.2.2.1, if_neg (by decide)]; exact b6
      have hn2 : ν1.1 64 0 0 = nI n := by rw [hM1.1 0 (by omega), if_neg (by omega), if_neg (by omega), if_neg (by omega), if_neg (by omega)]; exact b7
      have hs1 : ∀ z, z < n → μ1.1 43 j z = ν1.1 64 0 (20 + z) := fun z hz => by
        rw [hC1.1 z, hM1.1 (20 + z) (by omega), if_neg (show ¬ ((4 ≤ s ∧ 4 ≤ 3) ∧ z = 0) by omega), if_neg (show ¬ (20 + z = 80 + p) by omega), if_neg (show ¬ ((4 ≤ s ∧ 4 ≤ 3) ∧ 20 + z = 20 + 0) by omega), if_neg (show ¬ ((4 ≤ s ∧ 4 ≤ 3) ∧ 20 + z = 80 + 0) by omega)]
        by_cases q : z = p
        · rw [if_pos q, if_pos (show 20 + z = 20 + p by omega)]
        · rw [if_neg q, if_neg (show ¬ (20 + z = 20 + p) by omega)]
          exact b8 z hz
      rcases P_free a4 hj b1.2 hn1 hn2 ⟨b3.2.1, b3.2.2⟩ hs1 with ⟨ex, μ2, ν2, c1, c2, c3, c4, c5, c6, c7⟩ | ⟨v, ν2, c1, c2, c3, c4⟩
      · rw [c1, zI_some, c2, zI_some]
        have hC2 := hC1.f c6
        have hM2 := hM1.f c7
        have hexp : ex ≠ p := fun q => by
          rw [q, hC1.1 p, if_pos rfl] at c4
          exact nI_ne (b := 0) (by omega) (by decide) (by omega : s ≠ 0) c4
        have hex0 : μ0.1 43 j ex = 0 := by
          rw [hC1.1 ex, if_neg hexp, if_neg (show ¬ ((4 ≤ s ∧ 4 ≤ 3) ∧ ex = 0) by omega)] at c4
          exact c4
        have hj2 : μ2.2.1 6 0 1 = j := by rw [c6.1]; exact hj
        rw [eX6_readExit_19, zif_neg (m1_nI (by omega)), hj2, zif_pos b1.2, wI_60 (zS_47 j) rfl (by omega), Option.bind_some, show (mS μ2 47 j p (nI ex)).2.1 6 0 1 = j from hj2, zif_pos b1.2, wI_60 (zS_43 j) rfl (by omega), Option.bind_some, zif_pos nar_1, zI_some, zif_neg (by decide)]
        rw [eX11_readDevice_196, eX11_uses_0, c5.fine, zif_neg (by decide), show (20 : Int32) + nI ex = nI (20 + ex) from nI_add 20 ex, wI_64 rfl (by omega), Option.bind_some, show (80 : Int32) + nI ex = nI (80 + ex) from nI_add 80 ex, wI_64 rfl (by omega), Option.bind_some, eX11_uses_27, zU_some, show nI (140 + 8 * d) + 7 = nI (140 + 8 * d + 7) from nI_add _ 7, wI_64 rfl (by omega), Option.bind_some]
        have hD : MD ν2 (mS (mS (mS ν2 64 0 (20 + ex) 7) 64 0 (80 + ex) 0) 64 0 (140 + 8 * d + 7) (nI ex)) := (((MD.r ν2).s _ _).s _ _).s _ _
        refine L4 (r := r) (w := w) (t1 := t1) (t2 := t2) (t3 := t3) (ex := ex) hB (c5.of (fun z => ?_) (fun z => ?_) (fun z => hD.2 _ _ _ (by omega)) (fun z => hD.2 _ _ _ (by omega)) (by rw [hD.1])) ?_ ?_ g1 g2 g3 (fun _ => ⟨c3, hexp, hex0⟩)
        · rw [mS_k _ _ _ _ _ _ _ _ (by decide), mS_k _ _ _ _ _ _ _ _ (by decide)]
        · rw [mS_k _ _ _ _ _ _ _ _ (by decide), mS_k _ _ _ _ _ _ _ _ (by decide)]
        · obtain ⟨h1, h2, h3, h4, h5, h6, h7, h8, h9, h10, h11, h12, h13⟩ := hC2
          have e : ∀ k' a' z, ¬ (k' = 47 ∧ a' = j ∧ z = p) → ¬ (k' = 43 ∧ a' = j ∧ z = ex) → (mS (mS μ2 47 j p (nI ex)) 43 j ex 7).1 k' a' z = μ2.1 k' a' z := fun k' a' z n n2 => by rw [mS_1, if_neg n2, mS_1, if_neg n]
          refine ⟨fun z => ?_, fun z => by rw [e _ _ _ (by omega) (by omega)]; exact h2 z, fun z => by rw [e _ _ _ (by omega) (by omega)]; exact h3 z, fun t q ht => by rw [e _ _ _ (by omega) (by omega)]; exact h4 t q ht, fun z => by rw [e _ _ _ (by omega) (by omega)]; exact h5 z, fun z => by rw [e _ _ _ (by omega) (by omega)]; exact h6 z, fun c z hc => by rw [e _ _ _ (by omega) (by omega)]; exact h7 c z hc, fun z hz => ?_, ?_, ?_, ?_, fun _ _ => ?_, ?_⟩
          · by_cases q : z = ex
            · subst q
              rw [mS_same, if_neg hexp, if_pos ⟨⟨g, by decide⟩, rfl⟩]
            · rw [e _ _ _ (by omega) (by omega), h1 z, if_neg (show ¬ ((4 ≤ s ∧ 4 ≤ 3) ∧ z = 0) by omega), if_neg (show ¬ ((4 ≤ s ∧ 4 ≤ 4) ∧ z = ex) by omega)]
          · rw [e _ _ _ (by omega) (by omega), e _ _ _ (by omega) (by omega), e _ _ _ (by omega) (by omega)]
            exact ⟨(h8 z hz).1, (h8 z hz).2.1, (h8 z hz).2.2.1, fun l => by rw [e _ _ _ (by omega) (by omega)]; exact (h8 z hz).2.2.2 l⟩
          · rw [e _ _ _ (by omega) (by omega), e _ _ _ (by omega) (by omega)]; exact fun _ => h9 (by decide)
          · rw [e _ _ _ (by omega) (by omega), e _ _ _ (by omega) (by omega), e _ _ _ (by omega) (by omega)]; exact fun _ => h10 (by decide)
          · rw [e _ _ _ (by omega) (by omega)]; exact fun _ => h11 (by decide)
          · rw [mS_k _ _ _ _ _ _ _ _ (by decide), mS_same]
          · exact (h13.s (by unfold isSj; omega)).s (by unfold isSj; omega)
        · obtain ⟨h1, h2, h3, h4, h5, h6⟩ := hM2
          have rd : ∀ (z : Nat) (m : zM) (y : Nat) (v : Int32), (mS m 64 0 y v).1 64 0 z = if z = y then v else m.1 64 0 z := fun z m y v => by
            rw [mS_1]
            by_cases q : z = y
            · rw [if_pos ⟨rfl, rfl, q⟩, if_pos q]
            · rw [if_neg (fun y => q y.2.2), if_neg q]
          refine ⟨fun z hz => ?_, fun _ => ?_, fun _ => ?_, fun _ => ?_, fun _ _ => by rw [rd, if_pos rfl], h6.t hD.g⟩
          · rw [rd, rd, rd, if_neg (show ¬ z = 140 + 8 * d + 7 by omega), h1 z hz, if_neg (show ¬ ((4 ≤ s ∧ 4 ≤ 3) ∧ z = 20 + 0) by omega), if_neg (show ¬ ((4 ≤ s ∧ 4 ≤ 3) ∧ z = 80 + 0) by omega)]
            by_cases q1 : z = 20 + ex
            · rw [if_neg (show ¬ z = 80 + ex by omega), if_pos q1, if_neg (show ¬ z = 20 + p by omega), if_neg (show ¬ z = 80 + p by omega), if_pos ⟨⟨g, by decide⟩, q1⟩]
            · rw [if_neg q1, if_neg (show ¬ ((4 ≤ s ∧ 4 ≤ 4) ∧ z = 20 + ex) by omega)]
              by_cases q2 : z = 80 + ex
              · rw [if_pos q2, if_neg (show ¬ z = 20 + p by omega), if_neg (show ¬ z = 80 + p by omega), if_pos ⟨⟨g, by decide⟩, q2⟩]
              · rw [if_neg q2, if_neg (show ¬ ((4 ≤ s ∧ 4 ≤ 4) ∧ z = 80 + ex) by omega)]
          · rw [rd, rd, rd, rd, rd, rd, if_neg (by omega), if_neg (by omega), if_neg (by omega), if_neg (by omega), if_neg (by omega), if_neg (by omega)]
            exact h2 (by decide)
          · rw [rd, rd, rd, rd, rd, rd, rd, rd, rd, if_neg (by omega), if_neg (by omega), if_neg (by omega), if_neg (by omega), if_neg (by omega), if_neg (by omega), if_neg (by omega), if_neg (by omega), if_neg (by omega)]
            exact h3 (by decide)
          · rw [rd, rd, rd, if_neg (by omega), if_neg (by omega), if_neg (by omega)]
            exact h4 (by decide)
      · right
        rw [c1, zI_some, c2, zI_some, eX6_readExit_19, zif_pos rfl, zif_pos nar_0, zI_some, zif_pos rfl, zif_pos nar_0]
        obtain ⟨ν', e1, e2⟩ := DD196 c3.1 (show d ≤ 18 by omega) (nI s) (nI k) (nI p) v
        exact ⟨μ1, ν', rfl, e1, c3.d e2, hXG.t a5.g, ((hMG.t a6.g).t c4).t e2.g⟩
    · right
      rw [a1, zI_some, zif_pos rfl, zif_pos nar_0, zI_some, zif_pos rfl, zif_pos nar_0, a2, zI_some, a3, zU_some, D_free a4.1, zI_some]
      obtain ⟨ν', e1, e2⟩ := DD196 a4.1 (show d ≤ 18 by omega) (nI s) (nI k) (nI p) (ν1.1 11 0 8)
      exact ⟨μ, ν', rfl, e1, a4.d e2, hXG, (hMG.t a5).t e2.g⟩
  · rw [zif_neg g, zif_pos rfl, zif_neg (show ¬ (3 : Int32) < nI s from nI_nlt (a := 3) (b := s) (by omega) (by omega))]
    exact L4 hB hT (hC.skip (by omega)) (hM.skip (by omega)) g1 g2 g3 (fun z => absurd z g)
/-- a device that takes time -/
theorem L2 {μ0 ν0 μ ν : zM} {j s p k d n r w t1 t2 t3 : Nat} (hB : DB μ0 ν0 j s p k d n) (hT : TOKP μ ν) (hC : DC μ0 μ j s p k d r w t1 t2 t3 0 2) (hM : DM ν0 ν s p k d r w t1 t2 t3 0 2) (g1 : 3 ≤ s → 1 ≤ r ∧ r ≤ 20 ∧ 1 ≤ w ∧ w ≤ 9) (g2 : s = 4 → (1 ≤ t1 ∧ t1 ≤ 99) ∧ (1 ≤ t2 ∧ t2 ≤ 99) ∧ 1 ≤ t3 ∧ t3 ≤ 99) : DOUT (tX6_readDevice_53 (nI s) (nI p) μ) (tX11_readDevice_150 (nI s) (nI k) (nI (140 + 8 * d)) (nI p) ν) μ0 ν0 j s p k d n := by
  have hB' := hB
  obtain ⟨b1, b2, b3, b4, b5, b6, b7, b8, b9, b10, b11⟩ := hB'
  have hXG := hC.2.2.2.2.2.2.2.2.2.2.2.2
  have hMG := hM.2.2.2.2.2
  rw [eX6_readDevice_53, eX11_readDevice_150]
  by_cases g : s = 6
  · rw [zif_pos (show nI s = 6 by rw [g]; rfl), zif_pos (show nI s = 6 by rw [g]; rfl), eX6_readWorkingTime_0]
    rcases P_named hT (i := 12) (c := 664997) (lo := 1) (hi := 99) (by decide) (by decide) (by decide) with ⟨v, μ1, ν1, a1, a2, a3, a4, a5, a6⟩ | ⟨v, μ1, ν1, a1, a2, a3, a4, a5⟩
    · obtain ⟨t, ht1, ht2, rfl⟩ := rng_nat (a := 1) (b := 99) a3.1 a3.2 (by decide) (by decide)
      have hj : μ1.2.1 6 0 1 = j := by rw [(hXG.t a5.g).1]; exact b1.1
      rw [a1, zI_some, a2, zI_some, eX6_readWorkingTime_13, hj, zif_pos b1.2, qX_in (N := 4) (x := 1) (p := 1) rfl (by decide) (by decide), Option.bind_some, wI_60 (zS_53 _) rfl (by omega), Option.bind_some, zif_neg (m1_nI (by omega)), eX6_readWorkingTime_35, zif_pos nar_1, zI_some, zif_neg (by decide), show nI (140 + 8 * d) + 4 = nI (140 + 8 * d + 4) from nI_add _ 4, wI_64 rfl (by omega), Option.bind_some]
      have hC1 := hC.f a5
      have hM1 := hM.f a6
      refine L3 (r := r) (w := w) (t1 := t) (t2 := t2) (t3 := t3) hB (a4.of (fun z => ?_) (fun z => ?_) (fun z => ?_) (fun z => ?_) rfl) ((hC1.w (by decide) (Or.inr ⟨rfl, by omega⟩) r w t t2 t3 0).mk (by decide) (fun _ q => ?_) (fun _ q => absurd q (by omega)) (fun _ _ => mS_same _ _ _ _ _)) ((hM1.w (by decide) (by decide) r w t t2 t3 0).mk (by decide) (fun _ q => ?_) (fun _ q => absurd q (by omega)) (fun _ _ => mS_same _ _ _ _ _)) g1 (fun q => absurd q (by omega)) (fun _ => ⟨ht1, ht2⟩)
      · rw [mS_k _ _ _ _ _ _ _ _ (by decide)]
      · rw [mS_k _ _ _ _ _ _ _ _ (by decide)]
      · rw [mS_k _ _ _ _ _ _ _ _ (by decide)]
      · rw [mS_k _ _ _ _ _ _ _ _ (by decide)]
      · rw [mS_k _ _ _ _ _ _ _ _ (by decide), mS_k _ _ _ _ _ _ _ _ (by decide)]
        exact hC1.2.2.2.2.2.2.2.2.1 (by decide) q
      · rw [mS_n _ _ _ _ _ _ _ _ (by omega), mS_n _ _ _ _ _ _ _ _ (by omega)]
        exact hM1.2.1 (by decide) q
    · right
      have hj : μ1.2.1 6 0 1 = j := by rw [(hXG.t a4.g).1]; exact b1.1
      rw [a1, zI_some, a2, zI_some, eX6_readWorkingTime_13, hj, zif_pos b1.2, qX_in (N := 4) (x := 1) (p := 1) rfl (by decide) (by decide), Option.bind_some, wI_60 (zS_53 _) rfl (by omega), Option.bind_some, zif_pos rfl, eX6_readWorkingTime_35, zif_pos nar_0, zI_some, zif_pos rfl, zif_pos nar_0, show nI (140 + 8 * d) + 4 = nI (140 + 8 * d + 4) from nI_add _ 4, wI_64 rfl (by omega), Option.bind_some]
      obtain ⟨ν', e1, e2⟩ := DD174 (h64 (z := 140 + 8 * d + 4) (v := v) a3.1) (show d ≤ 18 by omega) (nI s) (nI k) (nI p)
      have e3 := ((MD.r ν1).s (140 + 8 * d + 4) v).t e2
      exact ⟨_, ν', rfl, e1, (a3.d e3).x (by rw [mS_k _ _ _ _ _ _ _ _ (by decide)]), (hXG.t a4.g).s (by unfold isSj; omega), (hMG.t a5).t e3.g⟩
  · rw [zif_neg (show ¬ nI s = 6 from nI_ne (b := 6) (by omega) (by decide) g), zif_neg (show ¬ nI s = 6 from nI_ne (b := 6) (by omega) (by decide) g)]
    exact L3 hB hT (hC.skip (by omega)) (hM.skip (by omega)) g1 g2 (fun q => absurd q g)
