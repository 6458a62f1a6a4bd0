/-! ===== BaggageHandlingModel() ===== -/
def mM (μ : zM) : zM := (fun k i n => if k = 11 ∧ i = 0 then (if n = 2 then -2 else 0) else μ.1 k i n, fun k i n => if k = 11 ∧ i = 0 then 2 else μ.2.1 k i n, fun k i n => if k = 11 ∧ i = 0 then 0 else μ.2.2 k i n)
theorem mM_1 (μ : zM) (k i n : Nat) (h : k ≠ 11) : (mM μ).1 k i n = μ.1 k i n := if_neg (fun z => h z.1)
theorem mM_ag {h : zH} {μ : zM} (n : h ≠ (11, 0)) : zag μ (mM μ) h := by
  have e : ¬ (h.1 = 11 ∧ h.2 = 0) := fun z => n (Prod.ext z.1 z.2)
  exact ⟨funext fun z => if_neg e, funext fun z => if_neg e, funext fun z => if_neg e⟩
theorem su0_of {f : Nat → Nat → Nat → Int32} (h : ∀ z, f 63 0 z = 0) : SU0 (zup (zup (zup f (63, 0) (0 : Int32).toNatClampNeg 10) (63, 0) (2 : Int32).toNatClampNeg 1) (63, 0) (3 : Int32).toNatClampNeg 3 63 0) := by
  have e0 : (0 : Int32).toNatClampNeg = 0 := by decide
  have e2 : (2 : Int32).toNatClampNeg = 2 := by decide
  have e3 : (3 : Int32).toNatClampNeg = 3 := by decide
  rw [e0, e2, e3]
  have q : ∀ z, zup (zup (zup f (63, 0) 0 10) (63, 0) 2 1) (63, 0) 3 3 63 0 z = if z = 3 then 3 else if z = 2 then 1 else if z = 0 then 10 else 0 := fun z => by rw [zup_63, zup_63, zup_63, h]
  exact ⟨q 0, q 2, q 3, fun z _ z0 z2 z3 => by rw [q, if_neg z3, if_neg z2, if_neg z0]⟩
theorem qX11_init : zCW yX11_init rX11_init yX11_begins cX11_begins 2 none rX11_begins 0 := ⟨wd_1227, wd_122, ⟨by decide, by decide, by decide +kernel⟩, rfl, rfl, Nat.le_of_ble_eq_true rfl, Nat.le_of_ble_eq_true rfl⟩
abbrev hX11 : List zH := [(62, 0), (63, 0), (64, 0), (65, 0), (66, 0), (67, 0), (68, 0), (69, 0), (70, 0), (71, 0), (72, 0), (73, 0), (11, 0)]
set_option maxRecDepth 20000 in
set_option maxHeartbeats 4000000 in
theorem kX11_init : Kon yX11_init cX11_init 2 rX11_init 11 0 [.null, .int 0, .int 0, .null, .null, .int 0, .int 0, .int 0, .int 0, .long 0, .int 0, .null, .null, .null, .int 0, .null, .null, .null, .null, .null, .null, .int 0] hX11 (fun _ => True) (fun _ => []) FM := by
  refine kon_of (by decide) rfl ?_
  intro p l e s m args below meth c E μ N0 a X him hr hlocks hok hfr hN0 hN hA hI hargs
  subst hargs
  have hl := lv_entry ([.ref a]) (n := 2) (Nat.le_of_ble_eq_true rfl)
  show W p l e _ s m _ below meth c s.heap [] 0 0 _ (entryFrame m ([.ref a] : List Value).toArray 2)
  rw [lg_entry_eq]
  generalize (lg_sl ([.ref a]) ++ List.replicate (2 - (lg_sl ([.ref a])).length) Slot.unset).toArray = ls at hl ⊢
  have hl : lv_has ls 2 [(0, .ref a)] := hl
  have P := Pg.rf (E := E) (μ := μ)
  refine lv_aload_n X.1 X.2.1 dX11_init_0 rfl (lv_at hl 0 rfl) ?_
  refine W.objInit X.1 X.2.1 X.2.2.2.1 (X.2.2.2.2 _ wi_1223) (X.2.2.2.2 _ wi_130) (X.2.2.2.2 _ wi_131) rfl (by rw [X.2.2.1]; exact hl.1) rfl dX11_init_1 (Nat.le_of_ble_eq_true rfl) (Nat.le_of_ble_eq_true rfl) ?_
  refine W.eq (g2 := F0 m 4 ls []) rfl ?_
  refine lv_aload_n X.1 X.2.1 dX11_init_4 rfl (lv_at hl 0 rfl) ?_
  refine lv_sipush (v := 900) X.1 X.2.1 dX11_init_5 (by decide) ?_
  refine c_newB X hI hA (62, 0) (N' := 900) rfl (P.fr hfr (by simp) (by simp)) (Nat.le_of_ble_eq_true rfl) (by decide) (by decide) (Nat.le_of_ble_eq_true rfl) (Nat.le_of_ble_eq_true rfl) (Nat.le_of_ble_eq_true rfl) dX11_init_8 (fun q1 H1 E1 μ1 g1 e1 z1 y1 hI => ?_)
  have P : Pg E μ E1 μ1 [(62, 0)] := P.step g1 z1
  refine c_putF X hI him (C := RX11) (T := TX11) (N := 22) (k := 0) rfl inX11 tyX11 tyX11_ok nmX11 (by decide) wi_1228 rfl rfl rfl rfl (by simp) dX11_init_10 (fun H2 locs2 hI => ?_)
  have hI : cI _ N0 s E1 μ1 ((a, .inr (11, [.ref q1, .int 0, .int 0, .null, .null, .int 0, .int 0, .int 0, .int 0, .long 0, .int 0, .null, .null, .null, .int 0, .null, .null, .null, .null, .null, .null, .int 0])) :: []) H2 locs2 := hI
  refine lv_aload_n X.1 X.2.1 dX11_init_13 rfl (lv_at hl 0 rfl) ?_
  refine lv_bipush (v := -2) X.1 X.2.1 dX11_init_14 (by decide) ?_
  refine c_put X hI (C := RX11) (T := TX11) (N := 22) (k := 2) rfl inX11 tyX11 tyX11_ok nmX11 (by decide) wi_1230 rfl rfl rfl (by simp) dX11_init_16 (fun H3 locs3 hI => ?_)
  have hI : cI _ N0 s E1 μ1 ((a, .inr (11, [.ref q1, .int 0, .int (-2), .null, .null, .int 0, .int 0, .int 0, .int 0, .long 0, .int 0, .null, .null, .null, .int 0, .null, .null, .null, .null, .null, .null, .int 0])) :: []) H3 locs3 := hI
  refine lv_aload_n X.1 X.2.1 dX11_init_19 rfl (lv_at hl 0 rfl) ?_
  refine lv_sipush (v := 400) X.1 X.2.1 dX11_init_20 (by decide) ?_
  refine c_newI X hI hA (63, 0) (N' := 400) rfl (P.fr hfr (by simp) (by simp)) (Nat.le_of_ble_eq_true rfl) (by decide) (by decide) (Nat.le_of_ble_eq_true rfl) (Nat.le_of_ble_eq_true rfl) (Nat.le_of_ble_eq_true rfl) dX11_init_23 (fun q4 H4 E4 μ4 g4 e4 z4 y4 hI => ?_)
  have P : Pg E μ E4 μ4 [(62, 0), (63, 0)] := P.step g4 z4
  have e1 : E4.2.1 (62, 0) = q1 := (g4.2.2.2 (62, 0) (by simp)).trans e1
  have P3 := Pg.rf (E := E4) (μ := μ4)
  have h63 : (63, 0) ∈ E4.2.2.1 := P.in (by simp)
  refine c_putF X hI him (C := RX11) (T := TX11) (N := 22) (k := 3) rfl inX11 tyX11 tyX11_ok nmX11 (by decide) wi_1231 rfl rfl rfl rfl (by simp) dX11_init_25 (fun H5 locs5 hI => ?_)
  have hI : cI _ N0 s E4 μ4 ((a, .inr (11, [.ref q1, .int 0, .int (-2), .ref q4, .null, .int 0, .int 0, .int 0, .int 0, .long 0, .int 0, .null, .null, .null, .int 0, .null, .null, .null, .null, .null, .null, .int 0])) :: []) H5 locs5 := hI
  refine lv_aload_n X.1 X.2.1 dX11_init_28 rfl (lv_at hl 0 rfl) ?_
  refine lv_sipush (v := 400) X.1 X.2.1 dX11_init_29 (by decide) ?_
  refine c_newI X hI hA (64, 0) (N' := 400) rfl (P.fr hfr (by simp) (by simp)) (Nat.le_of_ble_eq_true rfl) (by decide) (by decide) (Nat.le_of_ble_eq_true rfl) (Nat.le_of_ble_eq_true rfl) (Nat.le_of_ble_eq_true rfl) dX11_init_32 (fun q6 H6 E6 μ6 g6 e6 z6 y6 hI => ?_)
  have P : Pg E μ E6 μ6 [(62, 0), (63, 0), (64, 0)] := P.step g6 z6
  have e1 : E6.2.1 (62, 0) = q1 := (g6.2.2.2 (62, 0) (by simp)).trans e1
  have e4 : E6.2.1 (63, 0) = q4 := (g6.2.2.2 (63, 0) (by simp)).trans e4
  have P3 := P3.step g6 z6
  refine c_putF X hI him (C := RX11) (T := TX11) (N := 22) (k := 4) rfl inX11 tyX11 tyX11_ok nmX11 (by decide) wi_1232 rfl rfl rfl rfl (by simp) dX11_init_34 (fun H7 locs7 hI => ?_)
  have hI : cI _ N0 s E6 μ6 ((a, .inr (11, [.ref q1, .int 0, .int (-2), .ref q4, .ref q6, .int 0, .int 0, .int 0, .int 0, .long 0, .int 0, .null, .null, .null, .int 0, .null, .null, .null, .null, .null, .null, .int 0])) :: []) H7 locs7 := hI
  refine lv_aload_n X.1 X.2.1 dX11_init_37 rfl (lv_at hl 0 rfl) ?_
  refine lv_sipush (v := 1200) X.1 X.2.1 dX11_init_38 (by decide) ?_
  refine c_newI X hI hA (65, 0) (N' := 1200) rfl (P.fr hfr (by simp) (by simp)) (Nat.le_of_ble_eq_true rfl) (by decide) (by decide) (Nat.le_of_ble_eq_true rfl) (Nat.le_of_ble_eq_true rfl) (Nat.le_of_ble_eq_true rfl) dX11_init_41 (fun q8 H8 E8 μ8 g8 e8 z8 y8 hI => ?_)
  have P : Pg E μ E8 μ8 [(62, 0), (63, 0), (64, 0), (65, 0)] := P.step g8 z8
  have e1 : E8.2.1 (62, 0) = q1 := (g8.2.2.2 (62, 0) (by simp)).trans e1
  have e4 : E8.2.1 (63, 0) = q4 := (g8.2.2.2 (63, 0) (by simp)).trans e4
  have e6 : E8.2.1 (64, 0) = q6 := (g8.2.2.2 (64, 0) (by simp)).trans e6
  have P3 := P3.step g8 z8
  refine c_putF X hI him (C := RX11) (T := TX11) (N := 22) (k := 11) rfl inX11 tyX11 tyX11_ok nmX11 (by decide) wi_1239 rfl rfl rfl rfl (by simp) dX11_init_43 (fun H9 locs9 hI => ?_)
  have hI : cI _ N0 s E8 μ8 ((a, .inr (11, [.ref q1, .int 0, .int (-2), .ref q4, .ref q6, .int 0, .int 0, .int 0, .int 0, .long 0, .int 0, .ref q8, .null, .null, .int 0, .null, .null, .null, .null, .null, .null, .int 0])) :: []) H9 locs9 := hI
  refine lv_aload_n X.1 X.2.1 dX11_init_46 rfl (lv_at hl 0 rfl) ?_
  refine lv_sipush (v := 1200) X.1 X.2.1 dX11_init_47 (by decide) ?_
  refine c_newI X hI hA (66, 0) (N' := 1200) rfl (P.fr hfr (by simp) (by simp)) (Nat.le_of_ble_eq_true rfl) (by decide) (by decide) (Nat.le_of_ble_eq_true rfl) (Nat.le_of_ble_eq_true rfl) (Nat.le_of_ble_eq_true rfl) dX11_init_50 (fun q10 H10 E10 μ10 g10 e10 z10 y10 hI => ?_)
  have P : Pg E μ E10 μ10 [(62, 0), (63, 0), (64, 0), (65, 0), (66, 0)] := P.step g10 z10
  have e1 : E10.2.1 (62, 0) = q1 := (g10.2.2.2 (62, 0) (by simp)).trans e1
  have e4 : E10.2.1 (63, 0) = q4 := (g10.2.2.2 (63, 0) (by simp)).trans e4
  have e6 : E10.2.1 (64, 0) = q6 := (g10.2.2.2 (64, 0) (by simp)).trans e6
  have e8 : E10.2.1 (65, 0) = q8 := (g10.2.2.2 (65, 0) (by simp)).trans e8
  have P3 := P3.step g10 z10
  refine c_putF X hI him (C := RX11) (T := TX11) (N := 22) (k := 12) rfl inX11 tyX11 tyX11_ok nmX11 (by decide) wi_1240 rfl rfl rfl rfl (by simp) dX11_init_52 (fun H11 locs11 hI => ?_)
  have hI : cI _ N0 s E10 μ10 ((a, .inr (11, [.ref q1, .int 0, .int (-2), .ref q4, .ref q6, .int 0, .int 0, .int 0, .int 0, .long 0, .int 0, .ref q8, .ref q10, .null, .int 0, .null, .null, .null, .null, .null, .null, .int 0])) :: []) H11 locs11 := hI
  refine lv_aload_n X.1 X.2.1 dX11_init_55 rfl (lv_at hl 0 rfl) ?_
  refine lv_sipush (v := 12000) X.1 X.2.1 dX11_init_56 (by decide) ?_
  refine c_newI X hI hA (67, 0) (N' := 12000) rfl (P.fr hfr (by simp) (by simp)) (Nat.le_of_ble_eq_true rfl) (by decide) (by decide) (Nat.le_of_ble_eq_true rfl) (Nat.le_of_ble_eq_true rfl) (Nat.le_of_ble_eq_true rfl) dX11_init_59 (fun q12 H12 E12 μ12 g12 e12 z12 y12 hI => ?_)
  have P : Pg E μ E12 μ12 [(62, 0), (63, 0), (64, 0), (65, 0), (66, 0), (67, 0)] := P.step g12 z12
  have e1 : E12.2.1 (62, 0) = q1 := (g12.2.2.2 (62, 0) (by simp)).trans e1
  have e4 : E12.2.1 (63, 0) = q4 := (g12.2.2.2 (63, 0) (by simp)).trans e4
  have e6 : E12.2.1 (64, 0) = q6 := (g12.2.2.2 (64, 0) (by simp)).trans e6
  have e8 : E12.2.1 (65, 0) = q8 := (g12.2.2.2 (65, 0) (by simp)).trans e8
  have e10 : E12.2.1 (66, 0) = q10 := (g12.2.2.2 (66, 0) (by simp)).trans e10
  have P3 := P3.step g12 z12
  refine c_putF X hI him (C := RX11) (T := TX11) (N := 22) (k := 13) rfl inX11 tyX11 tyX11_ok nmX11 (by decide) wi_1241 rfl rfl rfl rfl (by simp) dX11_init_61 (fun H13 locs13 hI => ?_)
  have hI : cI _ N0 s E12 μ12 ((a, .inr (11, [.ref q1, .int 0, .int (-2), .ref q4, .ref q6, .int 0, .int 0, .int 0, .int 0, .long 0, .int 0, .ref q8, .ref q10, .ref q12, .int 0, .null, .null, .null, .null, .null, .null, .int 0])) :: []) H13 locs13 := hI
  refine lv_aload_n X.1 X.2.1 dX11_init_64 rfl (lv_at hl 0 rfl) ?_
  refine lv_bipush (v := 100) X.1 X.2.1 dX11_init_65 (by decide) ?_
  refine c_newI X hI hA (68, 0) (N' := 100) rfl (P.fr hfr (by simp) (by simp)) (Nat.le_of_ble_eq_true rfl) (by decide) (by decide) (Nat.le_of_ble_eq_true rfl) (Nat.le_of_ble_eq_true rfl) (Nat.le_of_ble_eq_true rfl) dX11_init_67 (fun q14 H14 E14 μ14 g14 e14 z14 y14 hI => ?_)
  have P : Pg E μ E14 μ14 [(62, 0), (63, 0), (64, 0), (65, 0), (66, 0), (67, 0), (68, 0)] := P.step g14 z14
  have e1 : E14.2.1 (62, 0) = q1 := (g14.2.2.2 (62, 0) (by simp)).trans e1
  have e4 : E14.2.1 (63, 0) = q4 := (g14.2.2.2 (63, 0) (by simp)).trans e4
  have e6 : E14.2.1 (64, 0) = q6 := (g14.2.2.2 (64, 0) (by simp)).trans e6
  have e8 : E14.2.1 (65, 0) = q8 := (g14.2.2.2 (65, 0) (by simp)).trans e8
  have e10 : E14.2.1 (66, 0) = q10 := (g14.2.2.2 (66, 0) (by simp)).trans e10
  have e12 : E14.2.1 (67, 0) = q12 := (g14.2.2.2 (67, 0) (by simp)).trans e12
  have P3 := P3.step g14 z14
  refine c_putF X hI him (C := RX11) (T := TX11) (N := 22) (k := 15) rfl inX11 tyX11 tyX11_ok nmX11 (by decide) wi_1243 rfl rfl rfl rfl (by simp) dX11_init_69 (fun H15 locs15 hI => ?_)
  have hI : cI _ N0 s E14 μ14 ((a, .inr (11, [.ref q1, .int 0, .int (-2), .ref q4, .ref q6, .int 0, .int 0, .int 0, .int 0, .long 0, .int 0, .ref q8, .ref q10, .ref q12, .int 0, .ref q14, .null, .null, .null, .null, .null, .int 0])) :: []) H15 locs15 := hI
  refine lv_aload_n X.1 X.2.1 dX11_init_72 rfl (lv_at hl 0 rfl) ?_
  refine lv_bipush (v := 100) X.1 X.2.1 dX11_init_73 (by decide) ?_
  refine c_newI X hI hA (69, 0) (N' := 100) rfl (P.fr hfr (by simp) (by simp)) (Nat.le_of_ble_eq_true rfl) (by decide) (by decide) (Nat.le_of_ble_eq_true rfl) (Nat.le_of_ble_eq_true rfl) (Nat.le_of_ble_eq_true rfl) dX11_init_75 (fun q16 H16 E16 μ16 g16 e16 z16 y16 hI => ?_)
  have P : Pg E μ E16 μ16 [(62, 0), (63, 0), (64, 0), (65, 0), (66, 0), (67, 0), (68, 0), (69, 0)] := P.step g16 z16
  have e1 : E16.2.1 (62, 0) = q1 := (g16.2.2.2 (62, 0) (by simp)).trans e1
  have e4 : E16.2.1 (63, 0) = q4 := (g16.2.2.2 (63, 0) (by simp)).trans e4
  have e6 : E16.2.1 (64, 0) = q6 := (g16.2.2.2 (64, 0) (by simp)).trans e6
  have e8 : E16.2.1 (65, 0) = q8 := (g16.2.2.2 (65, 0) (by simp)).trans e8
  have e10 : E16.2.1 (66, 0) = q10 := (g16.2.2.2 (66, 0) (by simp)).trans e10
  have e12 : E16.2.1 (67, 0) = q12 := (g16.2.2.2 (67, 0) (by simp)).trans e12
  have e14 : E16.2.1 (68, 0) = q14 := (g16.2.2.2 (68, 0) (by simp)).trans e14
  have P3 := P3.step g16 z16
  refine c_putF X hI him (C := RX11) (T := TX11) (N := 22) (k := 16) rfl inX11 tyX11 tyX11_ok nmX11 (by decide) wi_1244 rfl rfl rfl rfl (by simp) dX11_init_77 (fun H17 locs17 hI => ?_)
  have hI : cI _ N0 s E16 μ16 ((a, .inr (11, [.ref q1, .int 0, .int (-2), .ref q4, .ref q6, .int 0, .int 0, .int 0, .int 0, .long 0, .int 0, .ref q8, .ref q10, .ref q12, .int 0, .ref q14, .ref q16, .null, .null, .null, .null, .int 0])) :: []) H17 locs17 := hI
  refine lv_aload_n X.1 X.2.1 dX11_init_80 rfl (lv_at hl 0 rfl) ?_
  refine lv_bipush (v := 100) X.1 X.2.1 dX11_init_81 (by decide) ?_
  refine c_newI X hI hA (70, 0) (N' := 100) rfl (P.fr hfr (by simp) (by simp)) (Nat.le_of_ble_eq_true rfl) (by decide) (by decide) (Nat.le_of_ble_eq_true rfl) (Nat.le_of_ble_eq_true rfl) (Nat.le_of_ble_eq_true rfl) dX11_init_83 (fun q18 H18 E18 μ18 g18 e18 z18 y18 hI => ?_)
  have P : Pg E μ E18 μ18 [(62, 0), (63, 0), (64, 0), (65, 0), (66, 0), (67, 0), (68, 0), (69, 0), (70, 0)] := P.step g18 z18
  have e1 : E18.2.1 (62, 0) = q1 := (g18.2.2.2 (62, 0) (by simp)).trans e1
  have e4 : E18.2.1 (63, 0) = q4 := (g18.2.2.2 (63, 0) (by simp)).trans e4
  have e6 : E18.2.1 (64, 0) = q6 := (g18.2.2.2 (64, 0) (by simp)).trans e6
  have e8 : E18.2.1 (65, 0) = q8 := (g18.2.2.2 (65, 0) (by simp)).trans e8
  have e10 : E18.2.1 (66, 0) = q10 := (g18.2.2.2 (66, 0) (by simp)).trans e10
  have e12 : E18.2.1 (67, 0) = q12 := (g18.2.2.2 (67, 0) (by simp)).trans e12
  have e14 : E18.2.1 (68, 0) = q14 := (g18.2.2.2 (68, 0) (by simp)).trans e14
  have e16 : E18.2.1 (69, 0) = q16 := (g18.2.2.2 (69, 0) (by simp)).trans e16
  have P3 := P3.step g18 z18
  refine c_putF X hI him (C := RX11) (T := TX11) (N := 22) (k := 17) rfl inX11 tyX11 tyX11_ok nmX11 (by decide) wi_1245 rfl rfl rfl rfl (by simp) dX11_init_85 (fun H19 locs19 hI => ?_)
  have hI : cI _ N0 s E18 μ18 ((a, .inr (11, [.ref q1, .int 0, .int (-2), .ref q4, .ref q6, .int 0, .int 0, .int 0, .int 0, .long 0, .int 0, .ref q8, .ref q10, .ref q12, .int 0, .ref q14, .ref q16, .ref q18, .null, .null, .null, .int 0])) :: []) H19 locs19 := hI
  refine lv_aload_n X.1 X.2.1 dX11_init_88 rfl (lv_at hl 0 rfl) ?_
  refine lv_bipush (v := 100) X.1 X.2.1 dX11_init_89 (by decide) ?_
  refine c_newI X hI hA (71, 0) (N' := 100) rfl (P.fr hfr (by simp) (by simp)) (Nat.le_of_ble_eq_true rfl) (by decide) (by decide) (Nat.le_of_ble_eq_true rfl) (Nat.le_of_ble_eq_true rfl) (Nat.le_of_ble_eq_true rfl) dX11_init_91 (fun q20 H20 E20 μ20 g20 e20 z20 y20 hI => ?_)
  have P : Pg E μ E20 μ20 [(62, 0), (63, 0), (64, 0), (65, 0), (66, 0), (67, 0), (68, 0), (69, 0), (70, 0), (71, 0)] := P.step g20 z20
  have e1 : E20.2.1 (62, 0) = q1 := (g20.2.2.2 (62, 0) (by simp)).trans e1
  have e4 : E20.2.1 (63, 0) = q4 := (g20.2.2.2 (63, 0) (by simp)).trans e4
  have e6 : E20.2.1 (64, 0) = q6 := (g20.2.2.2 (64, 0) (by simp)).trans e6
  have e8 : E20.2.1 (65, 0) = q8 := (g20.2.2.2 (65, 0) (by simp)).trans e8
  have e10 : E20.2.1 (66, 0) = q10 := (g20.2.2.2 (66, 0) (by simp)).trans e10
  have e12 : E20.2.1 (67, 0) = q12 := (g20.2.2.2 (67, 0) (by simp)).trans e12
  have e14 : E20.2.1 (68, 0) = q14 := (g20.2.2.2 (68, 0) (by simp)).trans e14
  have e16 : E20.2.1 (69, 0) = q16 := (g20.2.2.2 (69, 0) (by simp)).trans e16
  have e18 : E20.2.1 (70, 0) = q18 := (g20.2.2.2 (70, 0) (by simp)).trans e18
  have P3 := P3.step g20 z20
  refine c_putF X hI him (C := RX11) (T := TX11) (N := 22) (k := 18) rfl inX11 tyX11 tyX11_ok nmX11 (by decide) wi_1246 rfl rfl rfl rfl (by simp) dX11_init_93 (fun H21 locs21 hI => ?_)
  have hI : cI _ N0 s E20 μ20 ((a, .inr (11, [.ref q1, .int 0, .int (-2), .ref q4, .ref q6, .int 0, .int 0, .int 0, .int 0, .long 0, .int 0, .ref q8, .ref q10, .ref q12, .int 0, .ref q14, .ref q16, .ref q18, .ref q20, .null, .null, .int 0])) :: []) H21 locs21 := hI
  refine lv_aload_n X.1 X.2.1 dX11_init_96 rfl (lv_at hl 0 rfl) ?_
  refine lv_bipush (v := 100) X.1 X.2.1 dX11_init_97 (by decide) ?_
  refine c_newI X hI hA (72, 0) (N' := 100) rfl (P.fr hfr (by simp) (by simp)) (Nat.le_of_ble_eq_true rfl) (by decide) (by decide) (Nat.le_of_ble_eq_true rfl) (Nat.le_of_ble_eq_true rfl) (Nat.le_of_ble_eq_true rfl) dX11_init_99 (fun q22 H22 E22 μ22 g22 e22 z22 y22 hI => ?_)
  have P : Pg E μ E22 μ22 [(62, 0), (63, 0), (64, 0), (65, 0), (66, 0), (67, 0), (68, 0), (69, 0), (70, 0), (71, 0), (72, 0)] := P.step g22 z22
  have e1 : E22.2.1 (62, 0) = q1 := (g22.2.2.2 (62, 0) (by simp)).trans e1
  have e4 : E22.2.1 (63, 0) = q4 := (g22.2.2.2 (63, 0) (by simp)).trans e4
  have e6 : E22.2.1 (64, 0) = q6 := (g22.2.2.2 (64, 0) (by simp)).trans e6
  have e8 : E22.2.1 (65, 0) = q8 := (g22.2.2.2 (65, 0) (by simp)).trans e8
  have e10 : E22.2.1 (66, 0) = q10 := (g22.2.2.2 (66, 0) (by simp)).trans e10
  have e12 : E22.2.1 (67, 0) = q12 := (g22.2.2.2 (67, 0) (by simp)).trans e12
  have e14 : E22.2.1 (68, 0) = q14 := (g22.2.2.2 (68, 0) (by simp)).trans e14
  have e16 : E22.2.1 (69, 0) = q16 := (g22.2.2.2 (69, 0) (by simp)).trans e16
  have e18 : E22.2.1 (70, 0) = q18 := (g22.2.2.2 (70, 0) (by simp)).trans e18
  have e20 : E22.2.1 (71, 0) = q20 := (g22.2.2.2 (71, 0) (by simp)).trans e20
  have P3 := P3.step g22 z22
  refine c_putF X hI him (C := RX11) (T := TX11) (N := 22) (k := 19) rfl inX11 tyX11 tyX11_ok nmX11 (by decide) wi_1247 rfl rfl rfl rfl (by simp) dX11_init_101 (fun H23 locs23 hI => ?_)
  have hI : cI _ N0 s E22 μ22 ((a, .inr (11, [.ref q1, .int 0, .int (-2), .ref q4, .ref q6, .int 0, .int 0, .int 0, .int 0, .long 0, .int 0, .ref q8, .ref q10, .ref q12, .int 0, .ref q14, .ref q16, .ref q18, .ref q20, .ref q22, .null, .int 0])) :: []) H23 locs23 := hI
  refine lv_aload_n X.1 X.2.1 dX11_init_104 rfl (lv_at hl 0 rfl) ?_
  refine lv_sipush (v := 2400) X.1 X.2.1 dX11_init_105 (by decide) ?_
  refine c_newI X hI hA (73, 0) (N' := 2400) rfl (P.fr hfr (by simp) (by simp)) (Nat.le_of_ble_eq_true rfl) (by decide) (by decide) (Nat.le_of_ble_eq_true rfl) (Nat.le_of_ble_eq_true rfl) (Nat.le_of_ble_eq_true rfl) dX11_init_108 (fun q24 H24 E24 μ24 g24 e24 z24 y24 hI => ?_)
  have P : Pg E μ E24 μ24 [(62, 0), (63, 0), (64, 0), (65, 0), (66, 0), (67, 0), (68, 0), (69, 0), (70, 0), (71, 0), (72, 0), (73, 0)] := P.step g24 z24
  have e1 : E24.2.1 (62, 0) = q1 := (g24.2.2.2 (62, 0) (by simp)).trans e1
  have e4 : E24.2.1 (63, 0) = q4 := (g24.2.2.2 (63, 0) (by simp)).trans e4
  have e6 : E24.2.1 (64, 0) = q6 := (g24.2.2.2 (64, 0) (by simp)).trans e6
  have e8 : E24.2.1 (65, 0) = q8 := (g24.2.2.2 (65, 0) (by simp)).trans e8
  have e10 : E24.2.1 (66, 0) = q10 := (g24.2.2.2 (66, 0) (by simp)).trans e10
  have e12 : E24.2.1 (67, 0) = q12 := (g24.2.2.2 (67, 0) (by simp)).trans e12
  have e14 : E24.2.1 (68, 0) = q14 := (g24.2.2.2 (68, 0) (by simp)).trans e14
  have e16 : E24.2.1 (69, 0) = q16 := (g24.2.2.2 (69, 0) (by simp)).trans e16
  have e18 : E24.2.1 (70, 0) = q18 := (g24.2.2.2 (70, 0) (by simp)).trans e18
  have e20 : E24.2.1 (71, 0) = q20 := (g24.2.2.2 (71, 0) (by simp)).trans e20
  have e22 : E24.2.1 (72, 0) = q22 := (g24.2.2.2 (72, 0) (by simp)).trans e22
  have P3 := P3.step g24 z24
  refine c_putF X hI him (C := RX11) (T := TX11) (N := 22) (k := 20) rfl inX11 tyX11 tyX11_ok nmX11 (by decide) wi_1248 rfl rfl rfl rfl (by simp) dX11_init_110 (fun H25 locs25 hI => ?_)
  have hI : cI _ N0 s E24 μ24 ((a, .inr (11, [.ref q1, .int 0, .int (-2), .ref q4, .ref q6, .int 0, .int 0, .int 0, .int 0, .long 0, .int 0, .ref q8, .ref q10, .ref q12, .int 0, .ref q14, .ref q16, .ref q18, .ref q20, .ref q22, .ref q24, .int 0])) :: []) H25 locs25 := hI
  obtain ⟨E26, g26, e26, hI⟩ := hI.fin (μ' := mM μ24) (i := 0) (P.fr hfr (by simp) (by simp)) (by decide) rfl (List.forall_mem_cons.mpr ⟨fc_R (P.in (by simp)), List.forall_mem_cons.mpr ⟨fc_I, List.forall_mem_cons.mpr ⟨fc_I, List.forall_mem_cons.mpr ⟨fc_R (P.in (by simp)), List.forall_mem_cons.mpr ⟨fc_R (P.in (by simp)), List.forall_mem_cons.mpr ⟨fc_I, List.forall_mem_cons.mpr ⟨fc_I, List.forall_mem_cons.mpr ⟨fc_I, List.forall_mem_cons.mpr ⟨fc_I, List.forall_mem_cons.mpr ⟨fc_L, List.forall_mem_cons.mpr ⟨fc_Z, List.forall_mem_cons.mpr ⟨fc_R (P.in (by simp)), List.forall_mem_cons.mpr ⟨fc_R (P.in (by simp)), List.forall_mem_cons.mpr ⟨fc_R (P.in (by simp)), List.forall_mem_cons.mpr ⟨fc_I, List.forall_mem_cons.mpr ⟨fc_R (P.in (by simp)), List.forall_mem_cons.mpr ⟨fc_R (P.in (by simp)), List.forall_mem_cons.mpr ⟨fc_R (P.in (by simp)), List.forall_mem_cons.mpr ⟨fc_R (P.in (by simp)), List.forall_mem_cons.mpr ⟨fc_R (P.in (by simp)), List.forall_mem_cons.mpr ⟨fc_R (P.in (by simp)), List.forall_mem_cons.mpr ⟨fc_I, fun _ h => absurd h List.not_mem_nil⟩⟩⟩⟩⟩⟩⟩⟩⟩⟩⟩⟩⟩⟩⟩⟩⟩⟩⟩⟩⟩⟩) (fun h' z => mM_ag (fun e => P.fr hfr (h := (11, 0)) (by simp) (by simp) (by rw [← e]; exact z))) (fun E' hE' => zl (congrArg Value.ref ((hE' (62, 0) (by simp)).trans e1)) (zl (rfl) (zl (rfl) (zl (congrArg Value.ref ((hE' (63, 0) (by simp)).trans e4)) (zl (congrArg Value.ref ((hE' (64, 0) (by simp)).trans e6)) (zl (rfl) (zl (rfl) (zl (rfl) (zl (rfl) (zl (rfl) (zl (rfl) (zl (congrArg Value.ref ((hE' (65, 0) (by simp)).trans e8)) (zl (congrArg Value.ref ((hE' (66, 0) (by simp)).trans e10)) (zl (congrArg Value.ref ((hE' (67, 0) (by simp)).trans e12)) (zl (rfl) (zl (congrArg Value.ref ((hE' (68, 0) (by simp)).trans e14)) (zl (congrArg Value.ref ((hE' (69, 0) (by simp)).trans e16)) (zl (congrArg Value.ref ((hE' (70, 0) (by simp)).trans e18)) (zl (congrArg Value.ref ((hE' (71, 0) (by simp)).trans e20)) (zl (congrArg Value.ref ((hE' (72, 0) (by simp)).trans e22)) (zl (congrArg Value.ref ((hE' (73, 0) (by simp)).trans e24)) (zl (rfl) (rfl)))))))))))))))))))))))
  have zq : ∀ h ∈ E24.2.2.1, zag μ24 (mM μ24) h := fun h' z => mM_ag (fun e => P.fr hfr (h := (11, 0)) (by simp) (by simp) (by rw [← e]; exact z))
  have P : Pg E μ E26 (mM μ24) [(62, 0), (63, 0), (64, 0), (65, 0), (66, 0), (67, 0), (68, 0), (69, 0), (70, 0), (71, 0), (72, 0), (73, 0), (11, 0)] := P.step g26 zq
  have e1 : E26.2.1 (62, 0) = q1 := (g26.2.2.2 (62, 0) (by simp)).trans e1
  have e4 : E26.2.1 (63, 0) = q4 := (g26.2.2.2 (63, 0) (by simp)).trans e4
  have e6 : E26.2.1 (64, 0) = q6 := (g26.2.2.2 (64, 0) (by simp)).trans e6
  have e8 : E26.2.1 (65, 0) = q8 := (g26.2.2.2 (65, 0) (by simp)).trans e8
  have e10 : E26.2.1 (66, 0) = q10 := (g26.2.2.2 (66, 0) (by simp)).trans e10
  have e12 : E26.2.1 (67, 0) = q12 := (g26.2.2.2 (67, 0) (by simp)).trans e12
  have e14 : E26.2.1 (68, 0) = q14 := (g26.2.2.2 (68, 0) (by simp)).trans e14
  have e16 : E26.2.1 (69, 0) = q16 := (g26.2.2.2 (69, 0) (by simp)).trans e16
  have e18 : E26.2.1 (70, 0) = q18 := (g26.2.2.2 (70, 0) (by simp)).trans e18
  have e20 : E26.2.1 (71, 0) = q20 := (g26.2.2.2 (71, 0) (by simp)).trans e20
  have e22 : E26.2.1 (72, 0) = q22 := (g26.2.2.2 (72, 0) (by simp)).trans e22
  have e24 : E26.2.1 (73, 0) = q24 := (g26.2.2.2 (73, 0) (by simp)).trans e24
  have u0 : ∀ z, (μ24).1 63 0 z = 0 := fun z => (congrFun (P3.2 (63, 0) h63).1 z).trans (congrFun y4 z)
  refine lv_aload_n X.1 X.2.1 dX11_init_113 rfl (lv_at hl 0 rfl) ?_
  refine W.eq (g2 := F0 m 114 ls [.ref (E26.2.1 (11, 0))]) (by rw [e26]) ?_
  refine c_getR X hI (C := RX11) (T := TX11) (N := 22) (k := 3) (kk0 := 63) (ii := 0) (P.in (by simp)) rfl rfl rfl inX11 (by decide) wi_1231 dX11_init_114 ?_
  refine lv_iconst (v := 0) X.1 X.2.1 dX11_init_117 (by decide) ?_
  refine lv_bipush (v := 10) X.1 X.2.1 dX11_init_118 (by decide) ?_
  refine c_iast X hI (h := (63, 0)) (n := 400) (P.in (by simp)) rfl (show vp_in 0 400 from nI_in (c := 0) (by decide) (by decide)) dX11_init_120 (fun Hxa locsxa hI => ?_)
  refine lv_aload_n X.1 X.2.1 dX11_init_121 rfl (lv_at hl 0 rfl) ?_
  refine W.eq (g2 := F0 m 122 ls [.ref (E26.2.1 (11, 0))]) (by rw [e26]) ?_
  refine c_getR X hI (C := RX11) (T := TX11) (N := 22) (k := 3) (kk0 := 63) (ii := 0) (P.in (by simp)) rfl rfl rfl inX11 (by decide) wi_1231 dX11_init_122 ?_
  refine lv_iconst (v := 2) X.1 X.2.1 dX11_init_125 (by decide) ?_
  refine lv_iconst (v := 1) X.1 X.2.1 dX11_init_126 (by decide) ?_
  refine c_iast X hI (h := (63, 0)) (n := 400) (P.in (by simp)) rfl (show vp_in 2 400 from nI_in (c := 2) (by decide) (by decide)) dX11_init_127 (fun Hxb locsxb hI => ?_)
  refine lv_aload_n X.1 X.2.1 dX11_init_128 rfl (lv_at hl 0 rfl) ?_
  refine W.eq (g2 := F0 m 129 ls [.ref (E26.2.1 (11, 0))]) (by rw [e26]) ?_
  refine c_getR X hI (C := RX11) (T := TX11) (N := 22) (k := 3) (kk0 := 63) (ii := 0) (P.in (by simp)) rfl rfl rfl inX11 (by decide) wi_1231 dX11_init_129 ?_
  refine lv_iconst (v := 3) X.1 X.2.1 dX11_init_132 (by decide) ?_
  refine lv_iconst (v := 3) X.1 X.2.1 dX11_init_133 (by decide) ?_
  refine c_iast X hI (h := (63, 0)) (n := 400) (P.in (by simp)) rfl (show vp_in 3 400 from nI_in (c := 3) (by decide) (by decide)) dX11_init_134 (fun Hxc locsxc hI => ?_)
  have hν : ∃ ν : zM, cI _ N0 s E26 ν [] Hxc locsxc ∧ SU0 (ν.1 63 0) ∧ ∀ h, h ≠ (63, 0) → zag (mM μ24) ν h := ⟨_, hI, su0_of (fun z => (mM_1 _ 63 0 z (by decide)).trans (u0 z)), fun h n => ⟨((zup_ne n).trans (zup_ne n)).trans (zup_ne n), rfl, rfl⟩⟩
  obtain ⟨ν, hI, hu, hz⟩ := hν
  refine lv_iconst (v := 0) X.1 X.2.1 dX11_init_135 (by decide) ?_
  refine lv_istore_n X.1 X.2.1 dX11_init_136 rfl hl (by decide) rfl (fun ls hl => ?_)
  have hl : lv_has ls 2 [(1, .int (nI 0)), (0, .ref a)] := hl
  refine model_loop X (P.in (by simp)) (P.in (by simp)) e26 (fun Hl locsl μl lsl hl hu hzl hI => ?_) 60 0 Hxc locsxc ν ls rfl hl hu hz hI
  refine lv_aload_n X.1 X.2.1 dX11_init_159 rfl (lv_at hl 1 rfl) ?_
  obtain ⟨μb, b1, b2, b3, b4, b5⟩ := M_begins μl
  refine W.eq (g2 := F0 m 160 lsl ((([] : List zV).map (zval E26)).reverse ++ Value.ref (E26.2.1 (11, 0)) :: [])) (by rw [e26]; rfl) ?_
  refine c_callV (kc := 11) (C := RX11) (T := TX11) (N := 22) X hI hN kX11_begins qX11_init wd_1224 wd_1226 wd_33 rfl ((uX11_begins μl).trans b1) rfl (P.in (by simp)) (fun _ h => absurd h List.not_mem_nil) rfl (Nat.le_of_ble_eq_true rfl) hl.1 ⟨Nat.le_of_ble_eq_true rfl, Nat.le_of_ble_eq_true rfl⟩ dX11_init_160 (fun Hb locsb hI => ?_)
  have zb : ∀ h ∈ E.2.2.1, zag μ μb h := fun h z => by
    have n1 : ∀ h' ∈ [(62, 0), (63, 0), (64, 0), (65, 0), (66, 0), (67, 0), (68, 0), (69, 0), (70, 0), (71, 0), (72, 0), (73, 0), (11, 0)], h ≠ h' := fun h' m e => hfr h' m (by rw [← e]; exact z)
    have n63 := n1 (63, 0) (by simp)
    have n65 := n1 (65, 0) (by simp)
    have n11 := n1 (11, 0) (by simp)
    refine ((P.2 h z).trans (hzl h n63)).trans ⟨funext fun n => b5 _ _ _ (fun w => n65 (Prod.ext w.1 w.2)) (fun w => n11 (Prod.ext w.1 w.2.1)), by rw [b4], by rw [b4]⟩
  have q11 := hzl (11, 0) (by simp)
  refine W.widen (k := rX11_init.cells) (n := rX11_init.slots) (Nat.le_of_ble_eq_true rfl) (Nat.le_of_ble_eq_true rfl) ?_
  refine c_ret X hr hlocks hI P.1 e26 zb ⟨?_, ?_, ?_, b2, b3⟩ dX11_init_163
  · rw [b5 11 0 1 (by decide) (by decide)]; exact congrFun q11.1 1
  · rw [b5 11 0 2 (by decide) (by decide)]; exact congrFun q11.1 2
  · rw [show μb.1 63 0 = μl.1 63 0 from funext fun z => b5 63 0 z (by decide) (fun w => absurd w.1 (by decide))]; exact hu
