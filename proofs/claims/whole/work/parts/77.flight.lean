/-! ===== flights ===== -/
def addF (S : zSt) (q ch op cl : Nat) : zSt := (sn S, swd S, sF S + 1, (fun c f => if f = sF S then (if c = 0 then nI q else if c = 1 then nI ch else if c = 2 then nI op else nI cl) else sT S c f), S.2.2.2.2)
theorem FD134 {ν : zM} (h : ν.1 11 0 10 = 0) (a b c d e s : Int32) : tX11_readFlight_134 a b c d e s ν = some (none, ν) := by
  rw [eX11_readFlight_134, D_takes h, zU_some, zif_pos h, eX11_readFlight_190]
theorem FD120 {ν : zM} (h : ν.1 11 0 10 = 0) (a b c d e : Int32) : tX11_readFlight_120 a b c d e ν = some (none, ν) := by
  rw [eX11_readFlight_120, FD134 h, FD134 h, zif_eq]
  split <;> rfl
theorem FD105 {ν : zM} (h : ν.1 11 0 10 = 0) (a b c d : Int32) : tX11_readFlight_105 a b c d ν = some (none, ν) := by
  rw [eX11_readFlight_105, D_behind h, zI_some, FD120 h]
theorem FD93 {ν : zM} (h : ν.1 11 0 10 = 0) (a b c : Int32) : tX11_readFlight_93 a b c ν = some (none, ν) := by
  rw [eX11_readFlight_93, D_behind h, zI_some, FD105 h]
theorem FD72 {ν : zM} (h : ν.1 11 0 10 = 0) (a b c : Int32) : tX11_readFlight_72 a b c ν = some (none, ν) := by
  rw [eX11_readFlight_72, D_takes h, zU_some, qI_64 (x := 13) (z := 13) rfl (by decide), Option.bind_some, D_behind h, zI_some, FD93 h]
theorem zif_same (c : Prop) (x : Option (Option zV × zM)) : zif c x x = x := by
  by_cases h : c
  · rw [zif_pos h]
  · rw [zif_neg h]
theorem P_takesnot_eq {μ ν : zM} (h : TOKP μ ν) : tX11_takes_0 0 ν = some (none, mS (mS ν 11 0 10 0) 11 0 2 (ν.1 11 0 6)) := by
  rw [eX11_takes_0, h.fine, zif_neg (by decide), zif_pos rfl, qP_f (Or.inl rfl), Option.bind_some, zlet_eq, mS_n _ _ _ _ _ _ _ _ (by decide), eX11_takes_24, zif_pos (by simp [mS_1]), eX11_takes_35]
theorem newF_loop {ν : zM} {F : Nat} {T : Nat → Nat → Int32} (hF : F ≤ 10) (h4 : ν.1 64 0 4 = nI F) (hT : ∀ f, f < F → ν.1 64 0 (290 + 4 * f) = T 0 f) (v : Int32) : ∀ m a n, a + m = F → m < n → tX11_isNewFlight_2 n v (nI a) ν = some (some (.inl (zif (flFrom (T 0) v m a = none) 1 0)), ν) := by
  intro m
  induction m with
  | zero =>
    intro a n h1 h2
    obtain ⟨n, rfl⟩ : ∃ k, n = k + 1 := ⟨n - 1, by omega⟩
    rw [eX11_isNewFlight_2, qI_64 (x := 4) (z := 4) rfl (by decide), Option.bind_some, h4, zif_neg (nI_nlt (by omega) (by omega)), zif_pos nar_1, zif_pos (show flFrom (T 0) v 0 a = none from rfl)]
  | succ m ih =>
    intro a n h1 h2
    obtain ⟨n, rfl⟩ : ∃ k, n = k + 1 := ⟨n - 1, by omega⟩
    rw [eX11_isNewFlight_2, qI_64 (x := 4) (z := 4) rfl (by decide), Option.bind_some, h4, zif_pos (nI_lt (by omega) (by omega)), show (290 : Int32) + 4 * nI a = nI (290 + 4 * a) by rw [show (4 : Int32) = nI 4 from rfl, show (290 : Int32) = nI 290 from rfl, pk_mul, nI_add], qI_64 rfl (by omega), Option.bind_some, hT a (by omega), zif_pos nar_0, eX11_isNewFlight_33, nI_1, flFrom_succ]
    by_cases g : T 0 a = v
    · rw [zif_pos g, if_pos g, zif_neg (by simp)]
    · rw [zif_neg g, if_neg g]
      exact ih (a + 1) n (by omega) (by omega)
theorem pX1_new {μ : zM} {j F : Nat} {T : Nat → Nat → Int32} (h : FlX μ j F T) {q : Nat} (hq : q ≤ 999) : tX1_ofLabel_0 j (nI q * 1000) μ = some (some (.inl (fX (flFrom (T 0) (nI q) F 0))), μ) := by
  rw [pX1_ofLabel h]
  unfold flOf
  rw [show (1000 : Int32) = nI 1000 from rfl, pk_mul, pk_div (by omega) (by decide) (by decide), Nat.mul_div_cancel q (by decide)]
theorem fX_none2 (o : Option Nat) (ho : ∀ f, o = some f → f < 10) : fX o = -1 ↔ o = none := by
  cases o with
  | none => exact ⟨fun _ => rfl, fun _ => rfl⟩
  | some f => exact ⟨fun z => absurd z (m1_nI (by have := ho f rfl; omega)), fun z => by cases z⟩
theorem fl_step {μ ν : zM} {j d : Nat} {S : zSt} {D : zDv} {lim : Int32} {dv : Nat → Nat → Nat} {ds dk : Nat → Nat} (h : RD μ ν j S D lim d dv ds dk) (hT : TOKP μ ν) (hj : μ.2.1 6 0 1 = j) : (∃ μ' ν' S', sF S < 10 ∧ (zif (μ.1 1 j 0 < 10) (zU (tX7_findToken_0 (μ.1 7 0 3) μ) fun μ4 => tX6_readFlight_0 μ4) (some (some (.inl 0), μ))) = some (some (.inl 1), μ') ∧ tX11_readFlight_0 ν = some (none, ν') ∧ TOKP μ' ν' ∧ RD μ' ν' j S' D lim d dv ds dk ∧ sF S' = sF S + 1 ∧ XG j μ μ' ∧ MG ν ν') ∨ (∃ μ' ν', (zif (μ.1 1 j 0 < 10) (zU (tX7_findToken_0 (μ.1 7 0 3) μ) fun μ4 => tX6_readFlight_0 μ4) (some (some (.inl 0), μ))) = some (some (.inl 0), μ') ∧ tX11_readFlight_0 ν = some (none, ν') ∧ BAD μ' ν' ∧ XG j μ μ' ∧ MG ν ν') := by
  have hR := h
  obtain ⟨hS, hD, hX, hU, h13, h51⟩ := h
  have hj2 := hX.1
  have hF10 := hS.2.2.2.1
  have u4 := hU.2.2.2.2.2.2.2.2.2.1.1
  have x1 := hX.2.2.2.2.1.2.1
  have c3 := hS.2.2.2.2.2.2.2.1 3
  rw [x1, eX11_readFlight_0, qI_64 (x := 4) (z := 4) rfl (by decide), Option.bind_some, u4, show (290 : Int32) + 4 * nI (sF S) = nI (290 + 4 * sF S) by rw [show (4 : Int32) = nI 4 from rfl, show (290 : Int32) = nI 290 from rfl, pk_mul, nI_add], eX11_readFlight_13, qI_64 (x := 4) (z := 4) rfl (by decide), Option.bind_some, u4]
  by_cases g : sF S < 10
  · rw [zif_pos (show nI (sF S) < 10 from nI_lt (b := 10) g (by decide)), zif_pos (show nI (sF S) < 10 from nI_lt (b := 10) g (by decide)), eX11_readFlight_30]
    obtain ⟨μ1, ν1, a1, a2, a3, a4, a5⟩ := P_takes hT
    have hR1 := hR.f a4 a5
    rw [a1, zU_some, a2, zU_some, eX6_readFlight_0, eX6_readFlight_8, eX11_readFlight_38, pX10_isWithin, zI_some]
    have hj1 : μ1.2.1 6 0 1 = j := by rw [a4.1]; exact hj
    have hR1' := hR1
    obtain ⟨-, -, hX1, hU1, -, -⟩ := hR1'
    obtain ⟨νn, n1, n2, n3⟩ := P_takesnot a3
    have e71 : ∀ b, tX11_readFlight_71 (nI (290 + 4 * sF S)) b ν1 = some (none, νn) := fun b => by
      rw [eX11_readFlight_71, eX11_readFlight_72, n1, zU_some, qI_64 (x := 13) (z := 13) rfl (by decide), Option.bind_some, D_behind n2.1, zI_some, FD93 n2.1]
    have bad : ∀ (X M : Option (Option zV × zM)), X = some (some (.inl 0), μ1) → M = some (none, νn) → (∃ μ' ν' S', sF S < 10 ∧ X = some (some (.inl 1), μ') ∧ M = some (none, ν') ∧ TOKP μ' ν' ∧ RD μ' ν' j S' D lim d dv ds dk ∧ sF S' = sF S + 1 ∧ XG j μ μ' ∧ MG ν ν') ∨ (∃ μ' ν', X = some (some (.inl 0), μ') ∧ M = some (none, ν') ∧ BAD μ' ν' ∧ XG j μ μ' ∧ MG ν ν') := fun X M hX hM => Or.inr ⟨μ1, νn, hX, hM, n2, a4.g, a5.g.t n3⟩
    rcases xv_at a3 with ⟨v, v1, v2, v3⟩ | ⟨v1, v2⟩
    · rw [v1, v3, zif_pos v2, pM_in (a := v) (lo := 1) (hi := 999) rfl (by decide) (by decide), zI_some]
      by_cases g1 : v < 1 ∨ 999 < v
      · rw [zif_pos g1, zif_pos rfl, eX6_readFlight_38, zif_pos nar_0, zif_pos rfl, e71]
        exact bad _ _ rfl rfl
      · obtain ⟨q, hq1, hq2, rfl⟩ := rng_nat (a := 1) (b := 999) (fun z => g1 (Or.inl z)) (fun z => g1 (Or.inr z)) (by decide) (by decide)
        rw [zif_neg g1, zif_neg (show ¬ (1 : Int32) = 0 by decide), zif_neg (show ¬ (1 : Int32) = 0 by decide), hj1, zif_pos hj2, pX1_new hX1.2.2.2.2.1 hq2, zI_some, eX11_isNewFlight_0, show tX11_isNewFlight_2 zN (nI q) 0 ν1 = tX11_isNewFlight_2 zN (nI q) (nI 0) ν1 from rfl, newF_loop (F := sF S) (T := sT S) hF10 hU1.2.2.2.2.2.2.2.2.2.1.1 (fun f hf => hU1.2.2.2.2.2.2.2.2.2.1.2 0 f (by decide) hf) (nI q) (sF S) 0 zN (by omega) (by rw [zN_eq]; omega), zI_some]
        by_cases g2 : flFrom (sT S 0) (nI q) (sF S) 0 = none
        · rw [zif_pos ((fX_none2 _ (fun f hf => by have := flFrom_lt _ _ _ hf; omega)).mpr g2), zif_pos g2, zif_neg (show ¬ (1 : Int32) = 0 by decide)]
          obtain ⟨μ2, ν2, b1, b2, b3, b4, b5⟩ := P_takes a3
          have hR2 := hR1.f b4 b5
          have hR2' := hR2
          obtain ⟨-, -, hX2, hU2, -, -⟩ := hR2'
          have hj3 : μ2.2.1 6 0 1 = j := by rw [b4.1]; exact hj1
          rw [b1, zU_some, hj3, zif_pos hj2, qI_in (x := 3) (p := 3) (zS_49 j) rfl (by decide) (by decide), Option.bind_some, hX2.2.2.2.2.2.2.1 3 (by decide) (by decide), eX11_readFlight_72, b2, zU_some, qI_64 (x := 13) (z := 10 + 3) rfl (by decide), Option.bind_some, hU2.2.2.2.2.2.1 3 (by decide) (by decide)]
          have hX02 : XG j μ μ2 := a4.g.t b4.g
          have hM02 : MG ν ν2 := a5.g.t b5.g
          rcases P_named b3 (i := 2) (c := 3430021) (lo := 0) (hi := nI (scnt S 3) - 1) (by decide) (by decide) (by decide) with ⟨v, μ3, ν3, c1, c2, c3', c4, c5, c6⟩ | ⟨v, μ3, ν3, c1, c2, c3', c4, c5⟩
          · have hchn : ∃ ch, ch < 6 ∧ v = nI ch := by
              obtain ⟨p, hp, rfl⟩ := nI_of c3'.1
              refine ⟨p, ?_, rfl⟩
              have := (in_pred (x := nI p) (n := scnt S 3) (by omega))
              by_cases y : nI p < nI (scnt S 3)
              · have := (nI_ltI hp (by omega)).mp y
                omega
              · exact absurd (this.mpr (Or.inr y)) (fun z => z.elim c3'.1 c3'.2)
            obtain ⟨ch, hch, rfl⟩ := hchn
            have hR3 := hR2.f c5 c6
            rw [c1, zI_some, c2, zI_some, eX6_readFlight_76, zif_neg (m1_nI (by omega)), eX11_readFlight_93]
            rcases P_named c4 (i := 15) (c := 508078) (lo := 0) (hi := 99998) (by decide) (by decide) (by decide) with ⟨v, μ4, ν4, d1, d2, d3, d4, d5, d6⟩ | ⟨v, μ4, ν4, d1, d2, d3, d4, d5⟩
            · obtain ⟨op, hop1, hop2, rfl⟩ := rng_nat (a := 0) (b := 99998) d3.1 d3.2 (by decide) (by decide)
              have hR4 := hR3.f d5 d6
              rw [d1, zI_some, d2, zI_some, eX6_readFlight_96, zif_neg (m1_nI (by omega)), eX11_readFlight_105, nI_1]
              rcases P_named d4 (i := 16) (c := 3554917) (lo := nI (op + 1)) (hi := 99999) (by decide) (by decide) (nI_pos (by omega)) with ⟨v, μ5, ν5, e1, e2, e3, e4, e5, e6⟩ | ⟨v, μ5, ν5, e1, e2, e3, e4, e5⟩
              · obtain ⟨cl, hcl1, hcl2, rfl⟩ := rng_nat (a := op + 1) (b := 99999) e3.1 e3.2 (by omega) (by decide)
                have hR5 := hR4.f e5 e6
                have hR5' := hR5
                obtain ⟨-, -, hX5, hU5, h135, h515⟩ := hR5'
                have hX05 : XG j μ μ5 := ((hX02.t c5.g).t d5.g).t e5.g
                have hM05 : MG ν ν5 := ((hM02.t c6.g).t d6.g).t e6.g
                rw [e1, zI_some, e2, zI_some, eX6_readFlight_119, zif_neg (m1_nI (by omega)), show μ5.2.1 6 0 1 = j by rw [hX05.1]; exact hj, zif_pos hj2, eX11_readFlight_120]
                let y1 := mS μ5 31 j (sF S) (nI q)
                let y2 := mS y1 32 j (sF S) (nI ch)
                let y3 := mS y2 33 j (sF S) (nI op)
                let y4 := mS y3 34 j (sF S) (nI cl)
                let y5 := mS y4 1 j 0 (nI (sF S + 1))
                have q0 : μ5.1 1 j 0 = nI (sF S) := hX5.2.2.2.2.1.2.1
                have q1 : y1.1 1 j 0 = nI (sF S) := (mS_k _ _ _ _ _ _ _ _ (by decide)).trans q0
                have q2 : y2.1 1 j 0 = nI (sF S) := (mS_k _ _ _ _ _ _ _ _ (by decide)).trans q1
                have q3 : y3.1 1 j 0 = nI (sF S) := (mS_k _ _ _ _ _ _ _ _ (by decide)).trans q2
                have q4 : y4.1 1 j 0 = nI (sF S) := (mS_k _ _ _ _ _ _ _ _ (by decide)).trans q3
                have eAdd : tX1_add_0 j (nI q) (nI ch) (nI op) (nI cl) μ5 = some (none, y5) := by
                  rw [eX1_add_0, q0, zif_pos (show nI (sF S) < 10 from nI_lt (b := 10) g (by decide)), wI_in (show zS 31 j = .inr (0, 10, (0, 0)) from rfl) rfl g (by decide), Option.bind_some, show (mS μ5 31 j (sF S) (nI q)).1 1 j 0 = nI (sF S) from q1, wI_in (show zS 32 j = .inr (0, 10, (0, 0)) from rfl) rfl g (by decide), Option.bind_some, show (mS (mS μ5 31 j (sF S) (nI q)) 32 j (sF S) (nI ch)).1 1 j 0 = nI (sF S) from q2, wI_in (show zS 33 j = .inr (0, 10, (0, 0)) from rfl) rfl g (by decide), Option.bind_some, show (mS (mS (mS μ5 31 j (sF S) (nI q)) 32 j (sF S) (nI ch)) 33 j (sF S) (nI op)).1 1 j 0 = nI (sF S) from q3, wI_in (show zS 34 j = .inr (0, 10, (0, 0)) from rfl) rfl g (by decide), Option.bind_some, zlet_eq, show (mS (mS (mS (mS μ5 31 j (sF S) (nI q)) 32 j (sF S) (nI ch)) 33 j (sF S) (nI op)) 34 j (sF S) (nI cl)).1 1 j 0 = nI (sF S) from q4, nI_1, eX1_add_60]
                rw [eAdd, zU_some]
                have ry : ∀ kk a z, y5.1 kk a z = if kk = 1 ∧ a = j ∧ z = 0 then nI (sF S + 1) else if kk = 34 ∧ a = j ∧ z = sF S then nI cl else if kk = 33 ∧ a = j ∧ z = sF S then nI op else if kk = 32 ∧ a = j ∧ z = sF S then nI ch else if kk = 31 ∧ a = j ∧ z = sF S then nI q else μ5.1 kk a z := fun kk a z => by
                  show (mS (mS (mS (mS (mS μ5 31 j (sF S) _) 32 j (sF S) _) 33 j (sF S) _) 34 j (sF S) _) 1 j 0 _).1 kk a z = _
                  simp only [mS_1]
                have rk : ∀ kk a z, kk ≠ 1 → ¬ (31 ≤ kk ∧ kk ≤ 34) → y5.1 kk a z = μ5.1 kk a z := fun kk a z p1 p2 => by
                  rw [ry, if_neg (by omega), if_neg (by omega), if_neg (by omega), if_neg (by omega), if_neg (by omega)]
                have tY : TOKP y5 ν5 := e4.of (fun z => rk _ _ _ (by decide) (by decide)) (fun z => rk _ _ _ (by decide) (by decide)) (fun z => rfl) (fun z => rfl) rfl
                have gY : XG j μ y5 := ((((hX05.s (by unfold isSj; omega)).s (by unfold isSj; omega)).s (by unfold isSj; omega)).s (by unfold isSj; omega)).s (by unfold isSj; omega)
                rcases P_semi tY with ⟨μ6, ν6, f1, f2, f3, f4, f5, f6⟩ | ⟨ν6, f1, f2, f3, f4, f5⟩
                · left
                  rw [f1, zI_some, zif_pos nar_1, zif_pos f2, eX11_readFlight_134, f3, zU_some, f4.fine, zif_neg (show ¬ (1 : Int32) = 0 by decide)]
                  have u64 : ν6.1 64 0 4 = nI (sF S) := by rw [f6.2.1 _ _ _ (by omega)]; exact hU5.2.2.2.2.2.2.2.2.2.1.1
                  let w1 := mS ν6 64 0 (290 + 4 * sF S) (nI q)
                  let w2 := mS w1 64 0 (290 + 4 * sF S + 1) (nI ch)
                  let w3 := mS w2 64 0 (290 + 4 * sF S + 2) (nI op)
                  let w4 := mS w3 64 0 (290 + 4 * sF S + 3) (nI cl)
                  let w5 := mS w4 64 0 4 (nI (sF S + 1))
                  have k4 : w4.1 64 0 4 = nI (sF S) := by
                    show (mS (mS (mS (mS ν6 64 0 _ _) 64 0 _ _) 64 0 _ _) 64 0 _ _).1 64 0 4 = _
                    rw [mS_n _ _ _ _ _ _ _ _ (by omega), mS_n _ _ _ _ _ _ _ _ (by omega), mS_n _ _ _ _ _ _ _ _ (by omega), mS_n _ _ _ _ _ _ _ _ (by omega), u64]
                  have hDw : MD ν6 w5 := (((((MD.r ν6).s _ _).s _ _).s _ _).s _ _).s _ _
                  have rw5 : ∀ z, w5.1 64 0 z = if z = 4 then nI (sF S + 1) else if z = 290 + 4 * sF S + 3 then nI cl else if z = 290 + 4 * sF S + 2 then nI op else if z = 290 + 4 * sF S + 1 then nI ch else if z = 290 + 4 * sF S then nI q else ν5.1 64 0 z := fun z => by
                    show (mS (mS (mS (mS (mS ν6 64 0 _ _) 64 0 _ _) 64 0 _ _) 64 0 _ _) 64 0 _ _).1 64 0 z = _
                    have rd : ∀ (m : zM) (y : Nat) (v : Int32), (mS m 64 0 y v).1 64 0 z = if z = y then v else m.1 64 0 z := fun m y v => by
                      rw [mS_1]
                      by_cases q : z = y
                      · rw [if_pos ⟨rfl, rfl, q⟩, if_pos q]
                      · rw [if_neg (fun y => q y.2.2), if_neg q]
                    rw [rd, rd, rd, rd, rd, f6.2.1 _ _ _ (by omega)]
                  refine ⟨μ6, w5, addF S q ch op cl, g, rfl, ?_, f4.of (fun _ => rfl) (fun _ => rfl) (fun z => hDw.2 _ _ _ (by omega)) (fun z => hDw.2 _ _ _ (by omega)) (by rw [hDw.1]), ?_, rfl, gY.t f5.g, (hM05.t f6.g).t hDw.g⟩
                  · rw [wI_64 rfl (by omega), Option.bind_some, show nI (290 + 4 * sF S) + 1 = nI (290 + 4 * sF S + 1) from nI_add _ 1, wI_64 rfl (by omega), Option.bind_some, show nI (290 + 4 * sF S) + 2 = nI (290 + 4 * sF S + 2) from nI_add _ 2, wI_64 rfl (by omega), Option.bind_some, show nI (290 + 4 * sF S) + 3 = nI (290 + 4 * sF S + 3) from nI_add _ 3, wI_64 rfl (by omega), Option.bind_some, qI_64 (x := 4) (z := 4) rfl (by decide), Option.bind_some, k4, nI_1, wI_64 (x := 4) (z := 4) rfl (by decide), Option.bind_some, eX11_readFlight_190]
                  · have e6 : ∀ kk a z, kk ≠ 7 → μ6.1 kk a z = y5.1 kk a z := fun kk a z hk => f5.2 _ _ _ (by omega)
                    have ek : ∀ kk a z, kk ≠ 7 → kk ≠ 1 → ¬ (31 ≤ kk ∧ kk ≤ 34) → μ6.1 kk a z = μ5.1 kk a z := fun kk a z p0 p1 p2 => (e6 _ _ _ p0).trans (rk _ _ _ p1 p2)
                    obtain ⟨i1, i2, i3, i4, ⟨i5a, i5b, i5c⟩, i6, i7, i8, i9⟩ := hX5
                    obtain ⟨o0, o1, o2, o3, o4, o5, o6, o7, o8, o9, o10⟩ := hU5
                    obtain ⟨s1, s2, s3, s4, s5, s6⟩ := hS
                    have wk : ∀ z, z ≠ 4 → ¬ (290 ≤ z ∧ z < 330) → w5.1 64 0 z = ν5.1 64 0 z := fun z p1 p2 => by
                      rw [rw5, if_neg p1, if_neg (by omega), if_neg (by omega), if_neg (by omega), if_neg (by omega)]
                    refine ⟨⟨s1, s2, s3, ?_, ?_, s6⟩, hD, ⟨i1, ?_, ?_, ?_, ⟨?_, ?_, fun c f hc hf => ?_⟩, fun p hp => ?_, fun s a b => ?_, fun s k a b c => ?_, fun s k a b c => ?_⟩, ⟨?_, ?_, ?_, ?_, fun p hp => ?_, fun s a b => ?_, fun p a b => ?_, fun s k a b c => ?_, fun x hx => ?_, ⟨?_, fun c f hc hf => ?_⟩, o10⟩, ?_, fun x hx => ?_⟩
                    · show sF S + 1 ≤ 10
                      omega
                    · intro f hf
                      have hf : f < sF S + 1 := hf
                      have tq : ∀ c, sT (addF S q ch op cl) c f = if f = sF S then (if c = 0 then nI q else if c = 1 then nI ch else if c = 2 then nI op else nI cl) else sT S c f := fun c => rfl
                      rw [tq 0, tq 1, tq 2, tq 3]
                      by_cases e : f = sF S
                      · rw [if_pos e, if_pos e, if_pos e, if_pos e]
                        exact ⟨⟨q, hq1, hq2, rfl⟩, ⟨ch, hch, rfl⟩, ⟨op, cl, by omega, hcl2, rfl, rfl⟩⟩
                      · rw [if_neg e, if_neg e, if_neg e, if_neg e]
                        exact s5 f (by omega)
                    · rw [ek _ _ _ (by decide) (by decide) (by decide)]; exact i2
                    · rw [ek _ _ _ (by decide) (by decide) (by decide)]; exact i3
                    · rw [ek _ _ _ (by decide) (by decide) (by decide)]; exact i4
                    · show sF S + 1 ≤ 10
                      omega
                    · rw [e6 _ _ _ (by decide), ry, if_pos ⟨rfl, rfl, rfl⟩]; rfl
                    · have hf : f < sF S + 1 := hf
                      show _ = if f = sF S then (if c = 0 then nI q else if c = 1 then nI ch else if c = 2 then nI op else nI cl) else sT S c f
                      rw [e6 _ _ _ (by omega), ry, if_neg (by omega)]
                      by_cases e : f = sF S
                      · rw [if_pos e]
                        rcases (by omega : c = 0 ∨ c = 1 ∨ c = 2 ∨ c = 3) with rfl | rfl | rfl | rfl
                        · rw [if_neg (by omega), if_neg (by omega), if_neg (by omega), if_pos ⟨rfl, rfl, e⟩]; rfl
                        · rw [if_neg (by omega), if_neg (by omega), if_pos ⟨rfl, rfl, e⟩]; rfl
                        · rw [if_neg (by omega), if_pos ⟨rfl, rfl, e⟩]; rfl
                        · rw [if_pos ⟨rfl, rfl, e⟩]; rfl
                      · rw [if_neg (by omega), if_neg (by omega), if_neg (by omega), if_neg (by omega), if_neg e]
                        exact i5c c f hc (by omega)
                    · rw [ek _ _ _ (by decide) (by decide) (by decide)]; exact i6 p hp
                    · rw [ek _ _ _ (by decide) (by decide) (by decide)]; exact i7 s a b
                    · rw [ek _ _ _ (by decide) (by decide) (by decide), ek _ _ _ (by decide) (by decide) (by decide)]; exact i8 s k a b c
                    · obtain ⟨r1, r2, r3, r4, r5⟩ := i9 s k a b c
                      rw [ek 45 _ _ (by decide) (by decide) (by decide), ek 46 _ _ (by decide) (by decide) (by decide), ek 47 _ _ (by decide) (by decide) (by decide)]
                      exact ⟨r1, r2, fun z l l1 l3 => by rw [ek _ _ _ (by decide) (by decide) (by decide)]; exact r3 z l l1 l3, fun z => by rw [ek _ _ _ (by decide) (by decide) (by decide)]; exact r4 z, r5⟩
                    · rw [wk _ (by omega) (by omega)]; exact o0
                    · rw [wk _ (by omega) (by omega)]; exact o1
                    · rw [wk _ (by omega) (by omega)]; exact o2
                    · rw [wk _ (by omega) (by omega)]; exact o3
                    · rw [wk _ (by omega) (by omega)]; exact o4 p hp
                    · rw [wk _ (by omega) (by omega)]; exact o5 s a b
                    · have hp60 : p < 60 := by
                        have := s6.2.1 p
                        by_cases e : p < sn S
                        · omega
                        · have h0 : ssrt S p = 0 := this (by omega)
                          have a' : 1 ≤ ssrt S p := a
                          omega
                      rw [wk _ (by omega) (by omega)]; exact o6 p a b
                    · obtain ⟨⟨r0, r0', r0''⟩, r1, r2, r3, r4, r5⟩ := o7 s k a b c
                      have hd18 : d ≤ 18 := by
                        have := s6.2.2.1 3
                        have := s6.2.2.2.2.2
                        omega
                      have hk6 : k < 6 := by
                        have := s6.2.2.1 s
                        have c' : k < scnt S s := c
                        omega
                      refine ⟨⟨r0, r0', r0''⟩, by rw [wk _ (by omega) (by omega)]; exact r1, fun z => ?_, fun z l l1 l3 => ?_, fun z => ?_, fun z => ?_⟩
                      · rw [wk _ (by omega) (by omega), wk _ (by omega) (by omega)]; exact r2 z
                      · rw [wk _ (by omega) (by omega)]; exact r3 z l l1 l3
                      · rw [wk _ (by omega) (by omega)]; exact r4 z
                      · rw [wk _ (by omega) (by omega)]; exact r5 z
                    · have hd18 : d ≤ 18 := by
                        have := s6.2.2.1 3
                        have := s6.2.2.2.2.2
                        omega
                      obtain ⟨r0, r1, r2⟩ := o8 x hx
                      rw [wk _ (by omega) (by omega), wk _ (by omega) (by omega)]
                      exact ⟨r0, r1, r2⟩
                    · rw [rw5, if_pos rfl]; rfl
                    · have hf : f < sF S + 1 := hf
                      show _ = if f = sF S then (if c = 0 then nI q else if c = 1 then nI ch else if c = 2 then nI op else nI cl) else sT S c f
                      rw [rw5, if_neg (by omega)]
                      by_cases e : f = sF S
                      · rw [if_pos e]
                        rcases (by omega : c = 0 ∨ c = 1 ∨ c = 2 ∨ c = 3) with rfl | rfl | rfl | rfl
                        · rw [if_neg (by omega), if_neg (by omega), if_neg (by omega), if_pos (by omega)]; rfl
                        · rw [if_neg (by omega), if_neg (by omega), if_pos (by omega)]; rfl
                        · rw [if_neg (by omega), if_pos (by omega)]; rfl
                        · rw [if_pos (by omega)]; rfl
                      · rw [if_neg (by omega), if_neg (by omega), if_neg (by omega), if_neg (by omega), if_neg e]
                        exact o9.2 c f hc (by omega)
                    · exact ⟨by rw [ek _ _ _ (by decide) (by decide) (by decide)]; exact h135.1, by rw [ek _ _ _ (by decide) (by decide) (by decide)]; exact h135.2⟩
                    · rw [ek _ _ _ (by decide) (by decide) (by decide)]; exact h515 x hx
                · right
                  rw [f1, zI_some, zif_pos nar_0, zif_neg f2, eX11_readFlight_134, f3, zU_some, zif_pos f4.1, eX11_readFlight_190]
                  exact ⟨y5, ν6, rfl, rfl, f4, gY, hM05.t f5⟩
              · right
                rw [e1, zI_some, e2, zI_some, eX6_readFlight_119, zif_pos rfl, zif_pos nar_0, FD120 e3.1]
                exact ⟨μ5, ν5, rfl, rfl, e3, ((hX02.t c5.g).t d5.g).t e4.g, ((hM02.t c6.g).t d6.g).t e5⟩
            · right
              rw [d1, zI_some, d2, zI_some, eX6_readFlight_96, zif_pos rfl, zif_pos nar_0, FD105 d3.1]
              exact ⟨μ4, ν4, rfl, rfl, d3, (hX02.t c5.g).t d4.g, (hM02.t c6.g).t d5⟩
          · right
            rw [c1, zI_some, c2, zI_some, eX6_readFlight_76, zif_pos rfl, zif_pos nar_0, FD93 c3'.1]
            exact ⟨μ3, ν3, rfl, rfl, c3', hX02.t c4.g, hM02.t c5⟩
        · rw [zif_neg (fun z => g2 ((fX_none2 _ (fun f hf => by have := flFrom_lt _ _ _ hf; omega)).mp z)), eX6_readFlight_38, zif_pos nar_0, zif_neg g2, zif_pos rfl, e71]
          exact bad _ _ rfl rfl
    · rw [v1, zif_pos (Or.inl (show (-1 : Int32) < 1 by decide)), zif_pos rfl, eX6_readFlight_38, zif_pos nar_0, zif_neg v2, e71]
      exact bad _ _ rfl rfl
  · right
    obtain ⟨νn, n1, n2, n3⟩ := P_takesnot hT
    rw [zif_neg (show ¬ nI (sF S) < 10 from nI_nlt (b := 10) (by omega) (by omega)), zif_neg (show ¬ nI (sF S) < 10 from nI_nlt (b := 10) (by omega) (by omega)), eX11_readFlight_30, n1, zU_some, eX11_readFlight_38, eX11_readFlight_71, FD72 n2.1]
    refine ⟨μ, νn, rfl, ?_, n2, XG.r μ, n3⟩
    have e64 : ∀ z, νn.1 64 0 z = ν.1 64 0 z := fun z => by
      have := n1.symm.trans (P_takesnot_eq hT)
      have : νn = mS (mS ν 11 0 10 0) 11 0 2 (ν.1 11 0 6) := by
        injection this with this
        injection this
      rw [this, mS_k _ _ _ _ _ _ _ _ (by decide), mS_k _ _ _ _ _ _ _ _ (by decide)]
    have uT := hU.2.2.2.2.2.2.2.2.2.1.2
    by_cases q : νn.1 11 0 7 = 2
    · rw [zif_pos q, pM_in (lo := 1) (hi := 999) rfl (by decide) (by decide), zI_some, eX11_isNewFlight_0, show tX11_isNewFlight_2 zN (νn.1 11 0 8) 0 νn = tX11_isNewFlight_2 zN (νn.1 11 0 8) (nI 0) νn from rfl, newF_loop (F := sF S) (T := sT S) hF10 (by rw [e64]; exact u4) (fun f hf => by rw [e64]; exact uT 0 f (by decide) hf) _ (sF S) 0 zN (by omega) (by rw [zN_eq]; omega), zI_some, eX11_readFlight_71, FD72 n2.1, FD72 n2.1, zif_same, zif_same]
    · rw [zif_neg q]
