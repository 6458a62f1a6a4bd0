theorem zS_51 (i : Nat) : zS 51 i = .inr (0, 18, (0, 0)) := rfl
/-- three levels -/
theorem L1 {μ0 ν0 μ ν : zM} {j s p k d n r w : Nat} (hB : DB μ0 ν0 j s p k d n) (hT : TOKP μ ν) (hC : DC μ0 μ j s p k d r w 0 0 0 0 1) (hM : DM ν0 ν s p k d r w 0 0 0 0 1) (g1 : 3 ≤ s → 1 ≤ r ∧ r ≤ 20 ∧ 1 ≤ w ∧ w ≤ 9) : DOUT (tX6_readDevice_38 (nI s) (nI p) μ) (tX11_readDevice_96 (nI s) (nI k) (nI (140 + 8 * d)) (nI p) ν) μ0 ν0 j s p k d n := by
  have hB' := hB
  obtain ⟨b1, b2, b3, b4, b5, b6, b7, b8, b9, b10, b11⟩ := hB'
  have hXG := hC.2.2.2.2.2.2.2.2.2.2.2.2
  have hMG := hM.2.2.2.2.2
  have d18 : d ≤ 18 := by omega
  have x4 : nI (140 + 8 * d) + 4 = nI (140 + 8 * d + 4) := nI_add _ 4
  have x5 : nI (140 + 8 * d) + 5 = nI (140 + 8 * d + 5) := nI_add _ 5
  have x6 : nI (140 + 8 * d) + 6 = nI (140 + 8 * d + 6) := nI_add _ 6
  rw [eX6_readDevice_38]
  by_cases g : s = 4
  · rw [eX11_readDevice_96, zif_pos (show nI s = 4 by rw [g]; rfl), zif_pos (show nI s = 4 by rw [g]; rfl), eX6_readLevelTimes_0, eX11_numberBehind_0, zN_eq, show (100000 : Nat) = 99996 + 1 + 1 + 1 + 1 from rfl]
    -- one level
    have one : ∀ (m : zM) (f l : Nat) (v : Int32), m.2.1 6 0 1 = j → l < 4 → ¬ v = -1 → tX6_readLevelTimes_32 f (nI p) (nI l) v m = tX6_readLevelTimes_16 f (nI p) (nI (l + 1)) (mS m 53 (4 * j + l) p v) := fun m f l v hj hl hv => by
      rw [eX6_readLevelTimes_32, zif_neg hv, hj, zif_pos b1.2, qX_in (N := 4) (p := l) rfl hl (by decide), Option.bind_some, wI_60 (zS_53 _) rfl (by omega), Option.bind_some, eX6_readLevelTimes_54, nI_1]
    have non : ∀ (m : zM) (f : Nat) (l : Int32), tX6_readLevelTimes_32 f (nI p) l (-1) m = some (some (.inl 0), m) := fun m f l => by
      rw [eX6_readLevelTimes_32, zif_pos rfl, zif_pos nar_0]
    have tk : ∀ {m1 m2 : zM} {a z : Nat} {v v' : Int32}, TOKP m1 m2 → TOKP (mS m1 53 a p v) (mS m2 64 0 z v') := fun h => h.of (fun z => mS_k _ _ _ _ _ _ _ _ (by decide)) (fun z => mS_k _ _ _ _ _ _ _ _ (by decide)) (fun z => mS_k _ _ _ _ _ _ _ _ (by decide)) (fun z => mS_k _ _ _ _ _ _ _ _ (by decide)) rfl
    have lp : ∀ (m : zM) (f l : Nat), l ≤ 3 → tX6_readLevelTimes_16 (f + 1) (nI p) (nI l) m = zI (tX7_takeValue_0 1 99 m) fun v2 μ1 => tX6_readLevelTimes_32 f (nI p) (nI l) v2 μ1 := fun m f l hl => by
      rw [eX6_readLevelTimes_16, zif_neg (show ¬ (3 : Int32) < nI l from nI_nlt (a := 3) (b := l) hl (by decide))]
    rcases P_word hT (i := 11) (c := 21279923) (by decide) (by decide) with ⟨μ1, ν1, a1, a2, a3, a4, a5, a6⟩ | ⟨ν1, a1, a2, a3, a4, a5⟩
    · have hC1 := hC.f a5
      have hM1 := hM.f a6
      have hX1 := hXG.t (a5.g (j := j))
      have hG1 := hMG.t a6.g
      rw [a1, zI_some, zif_neg (show ¬ (1 : Int32) = 0 by decide), a2, zI_some, a3, zU_some, show tX6_readLevelTimes_16 (99996 + 1 + 1 + 1 + 1) (nI p) 1 μ1 = tX6_readLevelTimes_16 (99996 + 1 + 1 + 1 + 1) (nI p) (nI 1) μ1 from rfl, lp _ _ _ (by decide)]
      rcases P_val a4 (lo := 1) (hi := 99) (by decide) with ⟨v1, μ2, ν2, c1, c2, c3, c4, c5, c6⟩ | ⟨v1, ν2, c1, c2, c3, c4⟩
      · obtain ⟨u1, hu1, hu1', rfl⟩ := rng_nat (a := 1) (b := 99) c3.1 c3.2 (by decide) (by decide)
        have hX2 := (hX1.t (c5.g (j := j)))
        have hG2 := hG1.t c6.g
        rw [c1, zI_some, one _ _ _ _ (by rw [hX2.1]; exact b1.1) (by decide) (m1_nI (by omega)), lp _ _ _ (by decide), c2, zI_some, zI_some, x4, wI_64 rfl (by omega), Option.bind_some]
        have hC2 := (hC1.f c5).w (kk := 53) (a := 4 * j + 1) (v := nI u1) (by decide) (Or.inr ⟨rfl, by omega⟩) r w u1 0 0 0
        have hM2 := (hM1.f c6).w (y := 4) (v := nI u1) (by decide) (by decide) r w u1 0 0 0
        have q1 : μ2.1 45 j p = μ1.1 45 j p ∧ μ2.1 46 j p = μ1.1 46 j p := ⟨c5.2 _ _ _ (by omega), c5.2 _ _ _ (by omega)⟩
        rcases P_val (tk (a := 4 * j + 1) (z := 140 + 8 * d + 4) (v := nI u1) (v' := nI u1) c4) (lo := 1) (hi := 99) (by decide) with ⟨v2, μ3, ν3, e1, e2, e3, e4, e5, e6⟩ | ⟨v2, ν3, e1, e2, e3, e4⟩
        · obtain ⟨u2, hu2, hu2', rfl⟩ := rng_nat (a := 1) (b := 99) e3.1 e3.2 (by decide) (by decide)
          have hX3 := ((hX2.s (k := 53) (i := 4 * j + 1) (z := p) (v := nI u1) (by unfold isSj; omega)).t (e5.g (j := j)))
          have hG3 := (hG2.t ((MD.r ν2).s (140 + 8 * d + 4) (nI u1)).g).t e6.g
          rw [e1, zI_some, one _ _ _ _ (by rw [hX3.1]; exact b1.1) (by decide) (m1_nI (by omega)), lp _ _ _ (by decide), e2, zI_some, x5, wI_64 rfl (by omega), Option.bind_some]
          have hC3 := (hC2.f e5).w (kk := 53) (a := 4 * j + 2) (v := nI u2) (by decide) (Or.inr ⟨rfl, by omega⟩) r w u1 u2 0 0
          have hM3 := (hM2.f e6).w (y := 5) (v := nI u2) (by decide) (by decide) r w u1 u2 0 0
          rcases P_val (tk (a := 4 * j + 2) (z := 140 + 8 * d + 5) (v := nI u2) (v' := nI u2) e4) (lo := 1) (hi := 99) (by decide) with ⟨v3, μ4, ν4, f1, f2, f3, f4, f5, f6⟩ | ⟨v3, ν4, f1, f2, f3, f4⟩
          · obtain ⟨u3, hu3, hu3', rfl⟩ := rng_nat (a := 1) (b := 99) f3.1 f3.2 (by decide) (by decide)
            have hX4 := ((hX3.s (k := 53) (i := 4 * j + 2) (z := p) (v := nI u2) (by unfold isSj; omega)).t (f5.g (j := j)))
            rw [f1, zI_some, one _ _ _ _ (by rw [hX4.1]; exact b1.1) (by decide) (m1_nI (by omega)), eX6_readLevelTimes_16, zif_pos (show (3 : Int32) < nI (3 + 1) by decide), zif_pos nar_1, zI_some, zif_neg (show ¬ (1 : Int32) = 0 by decide), f2, zI_some, x6, wI_64 rfl (by omega), Option.bind_some]
            have hC4 := (hC3.f f5).w (kk := 53) (a := 4 * j + 3) (v := nI u3) (by decide) (Or.inr ⟨rfl, by omega⟩) r w u1 u2 u3 0
            have hM4 := (hM3.f f6).w (y := 6) (v := nI u3) (by decide) (by decide) r w u1 u2 u3 0
            have ex5 : ∀ a b c, ¬ (a = 7) → μ4.1 a b c = (mS μ3 53 (4 * j + 2) p (nI u2)).1 a b c := fun a b c h => f5.2 _ _ _ (by omega)
            have ex4 : ∀ a b c, ¬ (a = 7) → μ3.1 a b c = (mS μ2 53 (4 * j + 1) p (nI u1)).1 a b c := fun a b c h => e5.2 _ _ _ (by omega)
            have ex3 : ∀ a b c, ¬ (a = 7) → μ2.1 a b c = μ1.1 a b c := fun a b c h => c5.2 _ _ _ (by omega)
            have em5 : ∀ z, ν4.1 64 0 z = (mS ν3 64 0 (140 + 8 * d + 5) (nI u2)).1 64 0 z := fun z => f6.2.1 _ _ _ (by omega)
            have em4 : ∀ z, ν3.1 64 0 z = (mS ν2 64 0 (140 + 8 * d + 4) (nI u1)).1 64 0 z := fun z => e6.2.1 _ _ _ (by omega)
            have em3 : ∀ z, ν2.1 64 0 z = ν1.1 64 0 z := fun z => c6.2.1 _ _ _ (by omega)
            refine L2 (r := r) (w := w) (t1 := u1) (t2 := u2) (t3 := u3) hB (tk f4) (hC4.mk (by decide) (fun _ q => ?_) (fun _ _ => ⟨?_, ?_, ?_⟩) (fun q _ => absurd q (by decide))) (hM4.mk (by decide) (fun _ q => ?_) (fun _ _ => ⟨?_, ?_, ?_⟩) (fun q _ => absurd q (by decide))) g1 (fun _ => ⟨⟨hu1, hu1'⟩, ⟨hu2, hu2'⟩, hu3, hu3'⟩)
            · rw [mS_k _ _ _ _ _ _ _ _ (by decide), mS_k _ _ _ _ _ _ _ _ (by decide), ex5 _ _ _ (by decide), ex5 _ _ _ (by decide), mS_k _ _ _ _ _ _ _ _ (by decide), mS_k _ _ _ _ _ _ _ _ (by decide), ex4 _ _ _ (by decide), ex4 _ _ _ (by decide), mS_k _ _ _ _ _ _ _ _ (by decide), mS_k _ _ _ _ _ _ _ _ (by decide), ex3 _ _ _ (by decide), ex3 _ _ _ (by decide)]
              exact hC1.2.2.2.2.2.2.2.2.1 (by decide) q
            · rw [mS_i _ _ _ _ _ _ _ _ (by omega), ex5 _ _ _ (by decide), mS_i _ _ _ _ _ _ _ _ (by omega), ex4 _ _ _ (by decide), mS_same]
            · rw [mS_i _ _ _ _ _ _ _ _ (by omega), ex5 _ _ _ (by decide), mS_same]
            · rw [mS_same]
            · rw [mS_n _ _ _ _ _ _ _ _ (by omega), mS_n _ _ _ _ _ _ _ _ (by omega), em5, em5, mS_n _ _ _ _ _ _ _ _ (by omega), mS_n _ _ _ _ _ _ _ _ (by omega), em4, em4, mS_n _ _ _ _ _ _ _ _ (by omega), mS_n _ _ _ _ _ _ _ _ (by omega), em3, em3]
              exact hM1.2.1 (by decide) q
            · rw [mS_n _ _ _ _ _ _ _ _ (by omega), em5, mS_n _ _ _ _ _ _ _ _ (by omega), em4, mS_same]
            · rw [mS_n _ _ _ _ _ _ _ _ (by omega), em5, mS_same]
            · rw [mS_same]
          · right
            rw [f1, zI_some, non, zI_some, zif_pos rfl, zif_pos nar_0, f2, zI_some, x6, wI_64 rfl (by omega), Option.bind_some]
            obtain ⟨ν', y1, y2⟩ := DD150 (h64 (z := 140 + 8 * d + 6) (v := v3) f3.1) d18 (nI s) (nI k) (nI p)
            have y3 := ((MD.r ν4).s (140 + 8 * d + 6) v3).t y2
            exact ⟨_, ν', rfl, y1, f3.d y3, hX3.s (by unfold isSj; omega), ((hG3.t ((MD.r ν3).s (140 + 8 * d + 5) (nI u2)).g).t f4).t y3.g⟩
        · right
          rw [e1, zI_some, non, zI_some, zif_pos rfl, zif_pos nar_0, e2, zI_some, x5, wI_64 rfl (by omega), Option.bind_some, D_number (h64 e3.1), zI_some, x6, wI_64 rfl (by omega), Option.bind_some]
          obtain ⟨ν', y1, y2⟩ := DD150 (h64 (z := 140 + 8 * d + 6) (v := (mS ν3 64 0 (140 + 8 * d + 5) v2).1 11 0 8) (h64 (z := 140 + 8 * d + 5) (v := v2) e3.1)) d18 (nI s) (nI k) (nI p)
          have y3 := (((MD.r ν3).s (140 + 8 * d + 5) v2).s (140 + 8 * d + 6) ((mS ν3 64 0 (140 + 8 * d + 5) v2).1 11 0 8)).t y2
          exact ⟨_, ν', rfl, y1, e3.d y3, hX2.s (by unfold isSj; omega), ((hG2.t ((MD.r ν2).s (140 + 8 * d + 4) (nI u1)).g).t e4).t y3.g⟩
      · right
        rw [c1, zI_some, non, zI_some, zif_pos rfl, zif_pos nar_0, c2, zI_some, zI_some, x4, wI_64 rfl (by omega), Option.bind_some, D_number (h64 c3.1), zI_some, x5, wI_64 rfl (by omega), Option.bind_some, D_number (h64 (h64 c3.1)), zI_some, x6, wI_64 rfl (by omega), Option.bind_some]
        obtain ⟨ν', y1, y2⟩ := DD150 (h64 (z := 140 + 8 * d + 6) (h64 (z := 140 + 8 * d + 5) (h64 (z := 140 + 8 * d + 4) (v := v1) c3.1))) d18 (nI s) (nI k) (nI p)
        have y3 := ((((MD.r ν2).s (140 + 8 * d + 4) v1).s (140 + 8 * d + 5) _).s (140 + 8 * d + 6) _).t y2
        exact ⟨_, ν', rfl, y1, c3.d y3, hX1, (hG1.t c4).t y3.g⟩
    · right
      rw [a1, zI_some, zif_pos rfl, zif_pos nar_0, zI_some, zif_pos rfl, zif_pos nar_0, a2, zI_some, a3, zU_some, D_number a4.1, zI_some, zI_some, x4, wI_64 rfl (by omega), Option.bind_some, D_number (h64 a4.1), zI_some, x5, wI_64 rfl (by omega), Option.bind_some, D_number (h64 (h64 a4.1)), zI_some, x6, wI_64 rfl (by omega), Option.bind_some]
      obtain ⟨ν', y1, y2⟩ := DD150 (h64 (z := 140 + 8 * d + 6) (h64 (z := 140 + 8 * d + 5) (h64 (z := 140 + 8 * d + 4) (v := ν1.1 11 0 8) a4.1))) d18 (nI s) (nI k) (nI p)
      have y3 := ((((MD.r ν1).s (140 + 8 * d + 4) (ν1.1 11 0 8)).s (140 + 8 * d + 5) _).s (140 + 8 * d + 6) _).t y2
      exact ⟨_, ν', rfl, y1, a4.d y3, hXG, (hMG.t a5).t y3.g⟩
  · rw [eX11_readDevice_96, zif_neg (show ¬ nI s = 4 from nI_ne (b := 4) (by omega) (by decide) g), zif_neg (show ¬ nI s = 4 from nI_ne (b := 4) (by omega) (by decide) g)]
    exact L2 hB hT (hC.skip (by omega)) (hM.skip (by omega)) g1 (fun q => absurd q g)
