/-! ===== questions: bags and devices ===== -/
section ASK
variable {μ : zM} {c : Nat}
theorem zslot_back {n t p : Nat} (ht : t < n) (hp : p < n) : (zslot n t p + t) % n = p := by
  unfold zslot
  rw [Nat.mod_add_mod, show p + n - t + t = p + n by omega, Nat.add_mod_right, Nat.mod_eq_of_lt hp]
theorem a_bagState (h : REL μ c) (x : Int32) : CALL (tX10_bagState_0 x) (tX11_bagState_0 x) μ (c + 1) := by
  obtain ⟨j, S, D, lim, t, hd, C, now, O, st, Q, ⟨hj, hj2⟩, hE, hR⟩ := h.un
  have hC := hR.1.2.2.2.2.2.2.2.2.2.2.1
  have hC1 := hR.1.2.2.2.2.2.2.2.2.2.2.2.1
  have hC2 := hR.1.2.2.2.2.2.2.2.2.2.2.2.2
  rcases ix_of x (n := C) (by omega) with ⟨p, hp, rfl⟩ | hx
  · have hb := hR.2.2.2.1 p hp
    refine CALL.ask h (v := nI (st p)) ?_ ?_
    · rw [eX10_bagState_0, pX0_has hC1, zI_some, ok_yes hp (by omega), zif_neg one_ne0, qI_in (zS_26 0) rfl (show p < 100 by omega) (by decide), Option.bind_some, eX10_bagState_30, hb.2.1]
    · rw [eX11_bagState_0, pM_isBag hC2 (by omega), zI_some, ok_yes hp (by omega), zif_neg one_ne0, pM_ofBag (y := 0) (c := 0) rfl (show p < 100 by omega) rfl (by decide), zI_some, eX11_bagState_18, show μ.1 65 0 (400 + 8 * p + 0) = nI (st p) from hb.2.2.1]
  · refine CALL.ask h (v := -1) ?_ ?_
    · rw [eX10_bagState_0, pX0_has hC1, zI_some, ok_no hx, zif_pos rfl, eX10_bagState_30]
    · rw [eX11_bagState_0, pM_isBag hC2 (by omega), zI_some, ok_no hx, zif_pos rfl, eX11_bagState_18]
theorem a_bagPlace (h : REL μ c) (x : Int32) : CALL (tX10_bagPlace_0 x) (tX11_bagPlace_0 x) μ (c + 1) := by
  obtain ⟨j, S, D, lim, t, hd, C, now, O, st, Q, ⟨hj, hj2⟩, hE, hR⟩ := h.un
  have hn6 := hE.1.2.1
  have hC := hR.1.2.2.2.2.2.2.2.2.2.2.1
  have hC1 := hR.1.2.2.2.2.2.2.2.2.2.2.2.1
  have hC2 := hR.1.2.2.2.2.2.2.2.2.2.2.2.2
  rcases ix_of x (n := C) (by omega) with ⟨p, hp, rfl⟩ | hx
  · obtain ⟨g0, g1, g2, g3, g4, g5, g6, g7, g8⟩ := hR.2.2.2.1 p hp
    refine CALL.ask h (v := μ.1 65 0 (400 + 8 * p + 1)) ?_ ?_
    · rw [eX10_bagPlace_0, pX0_has hC1, zI_some, ok_yes hp (by omega), zif_neg one_ne0, qI_in (zS_26 0) rfl (show p < 100 by omega) (by decide), Option.bind_some, g1, eX10_bagPlace_29, eX10_bagPlace_41]
      by_cases e8 : st p = 8
      · rw [zif_pos (show nI (st p) = 8 by rw [e8]; rfl), g4 (Or.inl e8)]
      · rw [zif_neg (show ¬ nI (st p) = 8 from nI_ne (b := 8) (by omega) (by decide) e8)]
        by_cases e9 : st p = 9
        · rw [zif_pos (show nI (st p) = 9 by rw [e9]; rfl), g4 (Or.inr e9)]
        · rw [zif_neg (show ¬ nI (st p) = 9 from nI_ne (b := 9) (by omega) (by decide) e9), qI_in (zS_27 0) rfl (show p < 100 by omega) (by decide), Option.bind_some, eX10_bagPlace_57]
          by_cases e1 : st p = 1
          · obtain ⟨q, f1, f2, f3, f4⟩ := g3 e1
            have hz := zslot_lt (n := sn S) (t := t) (p := q) (by omega)
            rw [zif_pos (show nI (st p) = 1 by rw [e1]; rfl), f3, pX9_positionOf (n := sn S) (t := t) (p := zslot (sn S) t q) (by rw [hR.1.1]; exact hj2) (by rw [hR.1.1]; exact hE.2.2.1.2.1) hn6 hR.1.2.2.1 hR.1.2.1 rfl hz, zI_some, eX10_bagPlace_74, zslot_back hR.1.2.1 f1, f2]
          · rw [zif_neg (show ¬ nI (st p) = 1 from nI_ne (b := 1) (by omega) (by decide) e1), eX10_bagPlace_74, (g5 e1 e8 e9).1]
    · rw [eX11_bagPlace_0, pM_isBag hC2 (by omega), zI_some, ok_yes hp (by omega), zif_neg one_ne0, pM_ofBag (y := 1) (c := 1) rfl (show p < 100 by omega) rfl (by decide), zI_some, eX11_bagPlace_18]
  · refine CALL.ask h (v := -1) ?_ ?_
    · rw [eX10_bagPlace_0, pX0_has hC1, zI_some, ok_no hx, zif_pos rfl]
    · rw [eX11_bagPlace_0, pM_isBag hC2 (by omega), zI_some, ok_no hx, zif_pos rfl, eX11_bagPlace_18]
theorem pX0_deliv {μ : zM} {i b s : Nat} (hb : b < 100) (h : μ.1 26 i b = nI s) (hs : s ≤ 9) : tX0_isDelivered_0 i (nI b) μ = some (some (.inl (zif (s = 2 ∨ s = 3) 1 0)), μ) := by
  rw [eX0_isDelivered_0, qI_in (zS_26 i) rfl hb (by decide), Option.bind_some, Option.bind_some, h, eX0_isDelivered_20, eX0_isDelivered_25, eX0_isDelivered_25, zif_pos nar_1, zif_pos nar_0]
  by_cases e2 : s = 2
  · rw [zif_pos (show nI s = 2 by rw [e2]; rfl), zif_pos (Or.inl e2)]
  · rw [zif_neg (show ¬ nI s = 2 from nI_ne (b := 2) (by omega) (by decide) e2)]
    by_cases e3 : s = 3
    · rw [zif_pos (show nI s = 3 by rw [e3]; rfl), zif_pos (Or.inr e3)]
    · rw [zif_neg (show ¬ nI s = 3 from nI_ne (b := 3) (by omega) (by decide) e3), zif_neg (by omega)]
theorem pX0_gone {μ : zM} {i b s : Nat} (hb : b < 100) (h : μ.1 26 i b = nI s) (hs : s ≤ 9) : tX0_isGone_0 i (nI b) μ = some (some (.inl (zif (s = 8 ∨ s = 9) 1 0)), μ) := by
  rw [eX0_isGone_0, qI_in (zS_26 i) rfl hb (by decide), Option.bind_some, Option.bind_some, h, eX0_isGone_22, eX0_isGone_27, eX0_isGone_27, zif_pos nar_1, zif_pos nar_0]
  by_cases e2 : s = 8
  · rw [zif_pos (show nI s = 8 by rw [e2]; rfl), zif_pos (Or.inl e2)]
  · rw [zif_neg (show ¬ nI s = 8 from nI_ne (b := 8) (by omega) (by decide) e2)]
    by_cases e3 : s = 9
    · rw [zif_pos (show nI s = 9 by rw [e3]; rfl), zif_pos (Or.inr e3)]
    · rw [zif_neg (show ¬ nI s = 9 from nI_ne (b := 9) (by omega) (by decide) e3), zif_neg (by omega)]
theorem pM_isIn {μ : zM} {b s : Nat} (hb : b < 100) (h : μ.1 65 0 (400 + 8 * b) = nI s) (hs : s ≤ 9) : tX11_isIn_0 (nI b) μ = some (some (.inl (zif (s = 2 ∨ s = 3) 1 0)), μ) := by
  have e0 : tX11_ofBag_0 (nI b) 0 μ = some (some (.inl (nI s)), μ) := by
    rw [pM_ofBag (y := 0) (c := 0) rfl hb rfl (by decide)]
    exact congrArg (fun v => some (some (Sum.inl v), μ)) h
  rw [eX11_isIn_0, e0, zI_some, e0, zI_some, eX11_isIn_20, eX11_isIn_25, eX11_isIn_25, zif_pos nar_1, zif_pos nar_0]
  by_cases e2 : s = 2
  · rw [zif_pos (show nI s = 2 by rw [e2]; rfl), zif_pos (Or.inl e2)]
  · rw [zif_neg (show ¬ nI s = 2 from nI_ne (b := 2) (by omega) (by decide) e2)]
    by_cases e3 : s = 3
    · rw [zif_pos (show nI s = 3 by rw [e3]; rfl), zif_pos (Or.inr e3)]
    · rw [zif_neg (show ¬ nI s = 3 from nI_ne (b := 3) (by omega) (by decide) e3), zif_neg (by omega)]
theorem a_deliveredAt (h : REL μ c) (x : Int32) : CALL (tX10_deliveredAt_0 x) (tX11_deliveredAt_0 x) μ (c + 1) := by
  obtain ⟨j, S, D, lim, t, hd, C, now, O, st, Q, ⟨hj, hj2⟩, hE, hR⟩ := h.un
  have hC := hR.1.2.2.2.2.2.2.2.2.2.2.1
  have hC1 := hR.1.2.2.2.2.2.2.2.2.2.2.2.1
  have hC2 := hR.1.2.2.2.2.2.2.2.2.2.2.2.2
  rcases ix_of x (n := C) (by omega) with ⟨p, hp, rfl⟩ | hx
  · obtain ⟨g0, g1, g2, g3, g4, g5, g6, g7, g8⟩ := hR.2.2.2.1 p hp
    by_cases e : st p = 2 ∨ st p = 3
    · refine CALL.ask h (v := μ.1 28 0 p) ?_ ?_
      · rw [eX10_deliveredAt_0, pX0_has hC1, zI_some, ok_yes hp (by omega), zif_neg one_ne0, pX0_deliv (by omega) g1 g0, zI_some, zif_pos e, zif_neg one_ne0, qI_in (zS_28 0) rfl (show p < 100 by omega) (by decide), Option.bind_some, eX10_deliveredAt_47]
      · rw [eX11_deliveredAt_0, pM_isBag hC2 (by omega), zI_some, ok_yes hp (by omega), zif_neg one_ne0, pM_isIn (by omega) g2 g0, zI_some, zif_pos e, zif_neg one_ne0, pM_ofBag (y := 6) (c := 6) rfl (show p < 100 by omega) rfl (by decide), zI_some, eX11_deliveredAt_32, (g8 e).1]
    · refine CALL.ask h (v := -2) ?_ ?_
      · rw [eX10_deliveredAt_0, pX0_has hC1, zI_some, ok_yes hp (by omega), zif_neg one_ne0, pX0_deliv (by omega) g1 g0, zI_some, zif_neg e, zif_pos rfl, eX10_deliveredAt_47]
      · rw [eX11_deliveredAt_0, pM_isBag hC2 (by omega), zI_some, ok_yes hp (by omega), zif_neg one_ne0, pM_isIn (by omega) g2 g0, zI_some, zif_neg e, zif_pos rfl, eX11_deliveredAt_32]
  · refine CALL.ask h (v := -1) ?_ ?_
    · rw [eX10_deliveredAt_0, pX0_has hC1, zI_some, ok_no hx, zif_pos rfl]
    · rw [eX11_deliveredAt_0, pM_isBag hC2 (by omega), zI_some, ok_no hx, zif_pos rfl, eX11_deliveredAt_32]
theorem a_properLabel (h : REL μ c) (x : Int32) : CALL (tX10_properLabel_0 x) (tX11_properLabel_0 x) μ (c + 1) := by
  obtain ⟨j, S, D, lim, t, hd, C, now, O, st, Q, ⟨hj, hj2⟩, hE, hR⟩ := h.un
  have hC := hR.1.2.2.2.2.2.2.2.2.2.2.1
  have hC1 := hR.1.2.2.2.2.2.2.2.2.2.2.2.1
  have hC2 := hR.1.2.2.2.2.2.2.2.2.2.2.2.2
  rcases ix_of x (n := C) (by omega) with ⟨p, hp, rfl⟩ | hx
  · obtain ⟨l0, la, lc⟩ := hR.2.2.2.2.1 p hp
    have l1 : μ.1 21 0 p = μ.1 68 0 p := l0 0 (by decide)
    have l3 : μ.1 23 0 p = μ.1 70 0 p := l0 2 (by decide)
    have eX : tX10_properLabel_0 (nI p) μ = tX10_properLabel_25 ((lbUse (sT S) (sF S) (nI now) (μ.1 68 0 p) (μ.1 70 0 p)).getD 0) μ := by
      rw [eX10_properLabel_0, pX0_has hC1, zI_some, ok_yes hp (by omega), zif_neg one_ne0, pX9_usableLabel hR.1.1 hj2 hE.2.2.1.2.2.2.2.1 rfl (by omega), zI_some, hR.1.2.2.2.2.1, l1, l3]
    have eM : tX11_properLabel_0 (nI p) μ = some (some (.inl ((lbUse (sT S) (sF S) (nI now) (μ.1 68 0 p) (μ.1 70 0 p)).getD (-2))), μ) := by
      rw [eX11_properLabel_0, pM_isBag hC2 (by omega), zI_some, ok_yes hp (by omega), zif_neg one_ne0, pM_properOf hE.2.2.2.2.2 hE.1.2.2.2.2.1 rfl (by omega) (by rw [← l1]; exact la) (by rw [← l3]; exact lc), zI_some, eX11_properLabel_17, hR.1.2.2.2.2.2.1]
    cases e : lbUse (sT S) (sF S) (nI now) (μ.1 68 0 p) (μ.1 70 0 p) with
    | none =>
      rw [e] at eX eM
      refine CALL.ask h (v := -2) ?_ eM
      rw [eX, eX10_properLabel_25, show (none : Option Int32).getD 0 = 0 from rfl, zif_pos rfl, eX10_properLabel_35]
    | some y =>
      have hy := lbUse_ne0 hE.1.2.2.2.2.1 (by rw [← l1]; exact la) (by rw [← l3]; exact lc) e
      rw [e] at eX eM
      refine CALL.ask h (v := y) ?_ eM
      rw [eX, eX10_properLabel_25, show (some y).getD 0 = y from rfl, zif_neg hy, eX10_properLabel_35]
  · refine CALL.ask h (v := -1) ?_ ?_
    · rw [eX10_properLabel_0, pX0_has hC1, zI_some, ok_no hx, zif_pos rfl]
    · rw [eX11_properLabel_0, pM_isBag hC2 (by omega), zI_some, ok_no hx, zif_pos rfl, eX11_properLabel_17]
/-- the number of bags at a device -/
theorem sz_yes {j : Nat} {S : zSt} {D : zDv} {lim : Int32} {B t hd C now O : Nat} {st : Nat → Nat} {Q : Nat → List Nat} (hE : ENV μ μ j S D lim) (hR : RW μ μ 0 j S (μ.1 65 0) B t hd C now O st Q) {s k : Nat} (h1 : 1 ≤ s) (h6 : s ≤ 6) (h2 : s ≠ 2) (hk : k < scnt S s) :
    spos S s k < sn S ∧ keeps S (spos S s k) ∧ QX μ 0 (spos S s k) (Q (spos S s k)) ∧ tX11_manyIn_0 (nI (stOf s)) (nI k) μ = some (some (.inl (nI (Q (spos S s k)).length)), μ) := by
  obtain ⟨a1, a2, a3⟩ := hE.1.2.2.2.2.2.2.2.2.1 s k h1 h6 hk
  have hkp : keeps S (spos S s k) := ⟨a1, by omega, by omega⟩
  obtain ⟨qa, qb, qc⟩ := hR.2.2.2.2.2.1 _ hkp
  have hpl : plOf S (spos S s k) = k := by rw [show plOf S (spos S s k) = snum S (spos S s k) from if_neg (by omega), a3]
  exact ⟨a1, hkp, qa, pM_manyIn hR.1.2.2.2.2.2.2.2.2.2.2.2.2 hR.1.2.2.2.2.2.2.2.2.2.2.1 _ _ qa.2.2.2.2.2 (fun b => by rw [qb b, a2, hpl])⟩
theorem a_size {s : Nat} {y z : Int32} {X M : Int32 → zM → Option (Option zV × zM)} (h : REL μ c) (x : Int32) (h1 : 1 ≤ s) (h6 : s ≤ 6) (h2 : s ≠ 2) (hy : y = nI s) (hz : z = nI (stOf s))
    (eX : ∀ x μ, X x μ = zif (μ.2.1 10 0 6 < 2) (zI (tX5_placeOf_0 (μ.2.1 10 0 6) y x μ) fun v3 μ2 => zI (tX10_sizeAt_0 v3 μ2) fun v5 μ4 => some (some (.inl v5), μ4)) none) (eM : ∀ x μ, M x μ = zI (tX11_sizeOf_0 y x z μ) fun v2 μ1 => some (some (.inl v2), μ1)) : CALL (X x) (M x) μ (c + 1) := by
  obtain ⟨j, S, D, lim, t, hd, C, now, O, st, Q, ⟨hj, hj2⟩, hE, hR⟩ := h.un
  have hn6 := hE.1.2.1
  obtain ⟨a1, a2, a3⟩ := cnt_X hE h1 h6
  rcases ix_of x (n := scnt S s) (by omega) with ⟨k, hk, rfl⟩ | hx
  · obtain ⟨b1, b2, b3, b4⟩ := sz_yes hE hR h1 h6 h2 hk
    refine CALL.ask h (v := nI (Q (spos S s k)).length) ?_ ?_
    · rw [eX, hj, zif_pos hj2, pX5_place_yes hE hy h1 h6 rfl hk, zI_some, eX10_sizeAt_0, zif_neg (show ¬ nI (spos S s k) = -1 from fX_neg (by omega)), qI_in (zS_38 0) rfl (show spos S s k < 60 by omega) (by decide), Option.bind_some, eX10_sizeAt_21, zI_some, b3.2.2.1]
    · rw [eM, eX11_sizeOf_0, pM_isDevice hy h6 a2 (by omega), zI_some, ok_yes hk (by omega), zif_neg one_ne0, hz, b4, zI_some, eX11_sizeOf_19, zI_some]
  · refine CALL.ask h (v := -1) ?_ ?_
    · rw [eX, hj, zif_pos hj2, pX5_place_no hE hy h1 h6 hx, zI_some, eX10_sizeAt_0, zif_pos rfl, eX10_sizeAt_21, zI_some]
    · rw [eM, eX11_sizeOf_0, pM_isDevice hy h6 a2 (by omega), zI_some, ok_no hx, zif_pos rfl, eX11_sizeOf_19, zI_some]
theorem a_waiting (h : REL μ c) (x : Int32) : CALL (tX10_waiting_0 x) (tX11_waiting_0 x) μ (c + 1) := a_size (s := 1) (y := 1) (z := 0) h x (by decide) (by decide) (by decide) rfl rfl eX10_waiting_0 eX11_waiting_0
theorem a_chuteSize (h : REL μ c) (x : Int32) : CALL (tX10_chuteSize_0 x) (tX11_chuteSize_0 x) μ (c + 1) := a_size (s := 3) (y := 3) (z := 2) h x (by decide) (by decide) (by decide) rfl rfl eX10_chuteSize_0 eX11_chuteSize_0
theorem a_screenSize (h : REL μ c) (x : Int32) : CALL (tX10_screenSize_0 x) (tX11_screenSize_0 x) μ (c + 1) := a_size (s := 4) (y := 4) (z := 4) h x (by decide) (by decide) (by decide) rfl rfl eX10_screenSize_0 eX11_screenSize_0
theorem a_storeSize (h : REL μ c) (x : Int32) : CALL (tX10_storeSize_0 x) (tX11_storeSize_0 x) μ (c + 1) := a_size (s := 5) (y := 5) (z := 5) h x (by decide) (by decide) (by decide) rfl rfl eX10_storeSize_0 eX11_storeSize_0
theorem a_stationSize (h : REL μ c) (x : Int32) : CALL (tX10_stationSize_0 x) (tX11_stationSize_0 x) μ (c + 1) := a_size (s := 6) (y := 6) (z := 6) h x (by decide) (by decide) (by decide) rfl rfl eX10_stationSize_0 eX11_stationSize_0
theorem nI_0iff {n : Nat} (h : n < 2 ^ 31) : nI n = 0 ↔ n = 0 := nI_eq (b := 0) h (by decide)
theorem a_screenLevel (h : REL μ c) (x : Int32) : CALL (tX10_screenLevel_0 x) (tX11_screenLevel_0 x) μ (c + 1) := by
  obtain ⟨j, S, D, lim, t, hd, C, now, O, st, Q, ⟨hj, hj2⟩, hE, hR⟩ := h.un
  have hn6 := hE.1.2.1
  obtain ⟨a1, a2, a3⟩ := cnt_X hE (s := 4) (by decide) (by decide)
  rcases ix_of x (n := scnt S 4) (by omega) with ⟨k, hk, rfl⟩ | hx
  · obtain ⟨b1, b2, b3, b4⟩ := sz_yes hE hR (s := 4) (by decide) (by decide) (by decide) hk
    have hlen := RQ_bound hR b2
    obtain ⟨-, v, v1, v2, v3, v4⟩ := hR.2.2.2.2.2.2.1.2.2 k hk
    obtain ⟨c4, -, -⟩ := cnt_two hE.1
    have eX : tX10_screenLevel_0 (nI k) μ = zif (nI (Q (spos S 4 k)).length = 0) (some (some (.inl 0), μ)) (some (some (.inl (nI v)), μ)) := by
      rw [eX10_screenLevel_0, hj, zif_pos hj2, pX5_place_yes (y := 4) hE rfl (by decide) (by decide) rfl hk, zI_some, eX10_screenLevel_10, zif_neg (show ¬ nI (spos S 4 k) = -1 from fX_neg (by omega)), qI_in (zS_38 0) rfl (show spos S 4 k < 60 by omega) (by decide), Option.bind_some, qI_in (zS_61 0) rfl (show spos S 4 k < 60 by omega) (by decide), Option.bind_some, eX10_screenLevel_45, eX10_screenLevel_45, b3.2.2.1, v3]
    have b4' : tX11_manyIn_0 4 (nI k) μ = some (some (.inl (nI (Q (spos S 4 k)).length)), μ) := b4
    have eM : tX11_screenLevel_0 (nI k) μ = zif (nI (Q (spos S 4 k)).length = 0) (some (some (.inl 0), μ)) (some (some (.inl (nI v)), μ)) := by
      rw [eX11_screenLevel_0, pM_isDevice (y := 4) rfl (by decide) a2 (by omega), zI_some, ok_yes hk (by omega), zif_neg one_ne0, b4', zI_some, qI_in (zS_65 0) (a77 rfl) (by omega) (by decide), Option.bind_some, eX11_screenLevel_35, eX11_screenLevel_35, v4, nI_1, show v - 1 + 1 = v by omega]
    by_cases e : nI (Q (spos S 4 k)).length = 0
    · exact CALL.ask h (v := 0) (by rw [eX, zif_pos e]) (by rw [eM, zif_pos e])
    · exact CALL.ask h (v := nI v) (by rw [eX, zif_neg e]) (by rw [eM, zif_neg e])
  · refine CALL.ask h (v := -1) ?_ ?_
    · rw [eX10_screenLevel_0, hj, zif_pos hj2, pX5_place_no (y := 4) hE rfl (by decide) (by decide) hx, zI_some, eX10_screenLevel_10, zif_pos rfl]
    · rw [eX11_screenLevel_0, pM_isDevice (y := 4) rfl (by decide) a2 (by omega), zI_some, ok_no hx, zif_pos rfl]
theorem a_exitSize (h : REL μ c) (x : Int32) : CALL (tX10_exitSize_0 x) (tX11_exitSize_0 x) μ (c + 1) := by
  obtain ⟨j, S, D, lim, t, hd, C, now, O, st, Q, ⟨hj, hj2⟩, hE, hR⟩ := h.un
  have hn6 := hE.1.2.1
  rcases ix_of x (n := sn S) (by omega) with ⟨p, hp, rfl⟩ | hx
  · obtain ⟨s1, s2⟩ := dev_srt hE (q := p) (by omega)
    have h7 := hE.1.2.2.2.2.2.1 p
    by_cases e : ssrt S p = 7
    · have hkp : keeps S p := ⟨hp, by omega, by omega⟩
      obtain ⟨qa, qb, qc⟩ := hR.2.2.2.2.2.1 _ hkp
      have hpl : plOf S p = p := if_pos e
      have b4 : tX11_manyIn_0 7 (nI p) μ = some (some (.inl (nI (Q p).length)), μ) := pM_manyIn hR.1.2.2.2.2.2.2.2.2.2.2.2.2 hR.1.2.2.2.2.2.2.2.2.2.2.1 _ _ qa.2.2.2.2.2 (fun b => by rw [qb b, e, hpl]; rfl)
      refine CALL.ask h (v := nI (Q p).length) ?_ ?_
      · rw [eX10_exitSize_0, hj, zif_pos hj2, pX5_has hE.2.2.1.2.1, zI_some, ok_yes hp (by omega), zif_neg one_ne0, hj, zif_pos hj2, qI_in (zS_43 j) rfl (show p < 60 by omega) (by decide), Option.bind_some, s1, zif_pos (show nI (ssrt S p) = 7 by rw [e]; rfl), qI_in (zS_38 0) rfl (show p < 60 by omega) (by decide), Option.bind_some, qa.2.2.1]
      · rw [eX11_exitSize_0, pM_isPosition hE.2.2.2.2.1.1 (by omega), zI_some, ok_yes hp (by omega), zif_neg one_ne0, qI_in (zS_63 0) (a20 rfl) (by omega) (by decide), Option.bind_some, s2, zif_pos (show nI (ssrt S p) = 7 by rw [e]; rfl), b4, zI_some, eX11_exitSize_33]
    · have ne7 : ¬ nI (ssrt S p) = 7 := nI_ne (b := 7) (by omega) (by decide) e
      refine CALL.ask h (v := -1) ?_ ?_
      · rw [eX10_exitSize_0, hj, zif_pos hj2, pX5_has hE.2.2.1.2.1, zI_some, ok_yes hp (by omega), zif_neg one_ne0, hj, zif_pos hj2, qI_in (zS_43 j) rfl (show p < 60 by omega) (by decide), Option.bind_some, s1, zif_neg ne7, eX10_exitSize_25]
      · rw [eX11_exitSize_0, pM_isPosition hE.2.2.2.2.1.1 (by omega), zI_some, ok_yes hp (by omega), zif_neg one_ne0, qI_in (zS_63 0) (a20 rfl) (by omega) (by decide), Option.bind_some, s2, zif_neg ne7, eX11_exitSize_32, eX11_exitSize_33]
  · refine CALL.ask h (v := -1) ?_ ?_
    · rw [eX10_exitSize_0, hj, zif_pos hj2, pX5_has hE.2.2.1.2.1, zI_some, ok_no hx, zif_pos rfl, eX10_exitSize_25]
    · rw [eX11_exitSize_0, pM_isPosition hE.2.2.2.2.1.1 (by omega), zI_some, ok_no hx, zif_pos rfl, eX11_exitSize_32, eX11_exitSize_33]
theorem a_readyAt (h : REL μ c) (x : Int32) : CALL (tX10_readyAt_0 x) (tX11_readyAt_0 x) μ (c + 1) := by
  obtain ⟨j, S, D, lim, t, hd, C, now, O, st, Q, ⟨hj, hj2⟩, hE, hR⟩ := h.un
  have hn6 := hE.1.2.1
  rcases ix_of x (n := sn S) (by omega) with ⟨p, hp, rfl⟩ | hx
  · obtain ⟨s1, s2⟩ := dev_srt hE (q := p) (by omega)
    have h7 := hE.1.2.2.2.2.2.1 p
    have eo : (nI (ssrt S p) < 3 ∨ (6 : Int32) < nI (ssrt S p)) ↔ ¬ (3 ≤ ssrt S p ∧ ssrt S p ≤ 6) := by
      rw [show (3 : Int32) = nI 3 from rfl, show (6 : Int32) = nI 6 from rfl, nI_ltI (by omega) (by decide), nI_ltI (by decide) (by omega)]
      omega
    by_cases e : 3 ≤ ssrt S p ∧ ssrt S p ≤ 6
    · refine CALL.ask h (v := μ.1 59 0 p) ?_ ?_
      · rw [eX10_readyAt_0, hj, zif_pos hj2, pX5_has hE.2.2.1.2.1, zI_some, ok_yes hp (by omega), zif_neg one_ne0, hj, zif_pos hj2, qI_in (zS_43 j) rfl (show p < 60 by omega) (by decide), Option.bind_some, s1, pX10_isOutlet h7, zI_some, zif_pos e, zif_neg one_ne0, qI_in (zS_59 0) rfl (show p < 60 by omega) (by decide), Option.bind_some]
      · rw [eX11_readyAt_0, pM_isPosition hE.2.2.2.2.1.1 (by omega), zI_some, ok_yes hp (by omega), zif_neg one_ne0, qI_in (zS_63 0) (a20 rfl) (by omega) (by decide), Option.bind_some, s2, pM_in (a := nI (ssrt S p)) (lo := 3) (hi := 6) rfl (by decide) (by decide), zI_some, zif_neg (fun z => eo.mp z e), zif_neg one_ne0, qI_in (zS_65 0) (a15 rfl) (by omega) (by decide), Option.bind_some, eX11_readyAt_43, hR.2.2.2.2.2.2.1.1 p hp]
    · refine CALL.ask h (v := -1) ?_ ?_
      · rw [eX10_readyAt_0, hj, zif_pos hj2, pX5_has hE.2.2.1.2.1, zI_some, ok_yes hp (by omega), zif_neg one_ne0, hj, zif_pos hj2, qI_in (zS_43 j) rfl (show p < 60 by omega) (by decide), Option.bind_some, s1, pX10_isOutlet h7, zI_some, zif_neg e, zif_pos rfl, eX10_readyAt_26]
      · rw [eX11_readyAt_0, pM_isPosition hE.2.2.2.2.1.1 (by omega), zI_some, ok_yes hp (by omega), zif_neg one_ne0, qI_in (zS_63 0) (a20 rfl) (by omega) (by decide), Option.bind_some, s2, pM_in (a := nI (ssrt S p)) (lo := 3) (hi := 6) rfl (by decide) (by decide), zI_some, zif_pos (eo.mpr e), zif_pos rfl, eX11_readyAt_42, eX11_readyAt_43]
  · refine CALL.ask h (v := -1) ?_ ?_
    · rw [eX10_readyAt_0, hj, zif_pos hj2, pX5_has hE.2.2.1.2.1, zI_some, ok_no hx, zif_pos rfl, eX10_readyAt_26]
    · rw [eX11_readyAt_0, pM_isPosition hE.2.2.2.2.1.1 (by omega), zI_some, ok_no hx, zif_pos rfl, eX11_readyAt_42, eX11_readyAt_43]
end ASK
