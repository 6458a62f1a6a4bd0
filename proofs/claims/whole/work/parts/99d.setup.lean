/-! ===== Setup() ===== -/
def rX5_init : Room := { frames := 2, cells := 26, slots := 723, locals := 43 }
theorem qX5_init : zCW yX5_init rX5_init yX5_clear cX5_clear 1 none rX5_clear 0 := ⟨wd_236, wd_109, ⟨by decide, by decide, by decide +kernel⟩, rfl, rfl, Nat.le_of_ble_eq_true rfl, Nat.le_of_ble_eq_true rfl⟩
abbrev hX5 (i : Nat) : List zH := [(31, i), (32, i), (33, i), (34, i), (1, i), (43, i), (44, i), (45, i), (46, i), (47, i), (53, 4 * i + 0), (53, 4 * i + 1), (53, 4 * i + 2), (53, 4 * i + 3), (48, i), (49, i), (54, 7 * i + 0), (54, 7 * i + 1), (54, 7 * i + 2), (54, 7 * i + 3), (54, 7 * i + 4), (54, 7 * i + 5), (54, 7 * i + 6), (50, i), (51, i), (52, i), (5, i)]
set_option maxRecDepth 20000 in
set_option maxHeartbeats 4000000 in
theorem kX5_init (i : Nat) : Kon yX5_init cX5_init 1 rX5_init 5 i [.int 0, .int 0, .int 0, .null, .null, .null, .null, .null, .null, .null, .null, .null, .null, .int 0, .null, .int 0] (hX5 i) (fun _ => True) (fun _ => []) (STg i) := by
  refine kon_of (by decide) rfl ?_
  intro p l e s m args below meth c E μ N0 a X him hr hlocks hok hfr hN0 hN hA hI hargs
  subst hargs
  have hl := lv_entry ([.ref a]) (n := 1) (Nat.le_of_ble_eq_true rfl)
  show W p l e _ s m _ below meth c s.heap [] 0 0 _ (entryFrame m ([.ref a] : List Value).toArray 1)
  rw [lg_entry_eq]
  generalize (lg_sl ([.ref a]) ++ List.replicate (1 - (lg_sl ([.ref a])).length) Slot.unset).toArray = ls at hl ⊢
  have hl : lv_has ls 1 [(0, .ref a)] := hl
  have P := Pg.rf (E := E) (μ := μ)
  refine lv_aload_n X.1 X.2.1 dX5_init_0 rfl (lv_at hl 0 rfl) ?_
  refine W.objInit X.1 X.2.1 X.2.2.2.1 (X.2.2.2.2 _ wi_193) (X.2.2.2.2 _ wi_130) (X.2.2.2.2 _ wi_131) rfl (by rw [X.2.2.1]; exact hl.1) rfl dX5_init_1 (Nat.le_of_ble_eq_true rfl) (Nat.le_of_ble_eq_true rfl) ?_
  refine W.eq (g2 := F0 m 4 ls []) rfl ?_
  refine lv_aload_n X.1 X.2.1 dX5_init_4 rfl (lv_at hl 0 rfl) ?_
  refine c_new X hI hA (C := RX1) (T := TX1) (N := 5) (ci := 1) (fs := [.int 0, .null, .null, .null, .null]) rfl inX1 tyX1 tyX1_ok wi_194 wi_195 wi_110 (fun j hj => by rcases (by omega : j = 0 ∨ j = 1 ∨ j = 2 ∨ j = 3 ∨ j = 4) with rfl | rfl | rfl | rfl | rfl <;> rfl) (Nat.le_of_ble_eq_true rfl) (Nat.le_of_ble_eq_true rfl) dX5_init_5 (fun q1 H1 hI => ?_)
  refine lv_dup X.1 X.2.1 dX5_init_8 rfl ?_
  refine c_callKN (b := q1) (rest := [.ref q1, .ref a]) X hI hA hN hN0 (kX1_init i) trivial (List.forall_mem_cons.mpr ⟨P.fr hfr (by simp) (by simp), List.forall_mem_cons.mpr ⟨P.fr hfr (by simp) (by simp), List.forall_mem_cons.mpr ⟨P.fr hfr (by simp) (by simp), List.forall_mem_cons.mpr ⟨P.fr hfr (by simp) (by simp), List.forall_mem_cons.mpr ⟨P.fr hfr (by simp) (by simp), fun _ h => absurd h List.not_mem_nil⟩⟩⟩⟩⟩) (List.forall_mem_cons.mpr ⟨Nat.le_of_ble_eq_true rfl, List.forall_mem_cons.mpr ⟨Nat.le_of_ble_eq_true rfl, List.forall_mem_cons.mpr ⟨Nat.le_of_ble_eq_true rfl, List.forall_mem_cons.mpr ⟨Nat.le_of_ble_eq_true rfl, List.forall_mem_cons.mpr ⟨Nat.le_of_ble_eq_true rfl, fun _ h => absurd h List.not_mem_nil⟩⟩⟩⟩⟩) (List.mem_of_getElem? (i := 2) rfl) wi_197 wi_198 wi_110 rfl ⟨by decide, by decide, by decide +kernel⟩ ⟨Nat.le_of_ble_eq_true rfl, Nat.le_of_ble_eq_true rfl⟩ ⟨Nat.le_of_ble_eq_true rfl, Nat.le_of_ble_eq_true rfl⟩ hl.1 (Nat.le_of_ble_eq_true rfl) rfl dX5_init_9 (fun H2 locs2 E2 μ2 g2 e2 z2 y2 hI => ?_)
  have P : Pg E μ E2 μ2 [(31, i), (32, i), (33, i), (34, i), (1, i)] := P.step g2 z2
  refine c_putF X hI him (C := RX5) (T := TX5) (N := 16) (k := 3) rfl inX5 tyX5 tyX5_ok nmX5 (by decide) wi_250 rfl rfl rfl rfl (by simp) dX5_init_12 (fun H3 locs3 hI => ?_)
  have hI : cI _ N0 s E2 μ2 ((a, .inr (5, [.int 0, .int 0, .int 0, .ref q1, .null, .null, .null, .null, .null, .null, .null, .null, .null, .int 0, .null, .int 0])) :: []) H3 locs3 := hI
  refine lv_aload_n X.1 X.2.1 dX5_init_15 rfl (lv_at hl 0 rfl) ?_
  refine lv_bipush (v := 60) X.1 X.2.1 dX5_init_16 (by decide) ?_
  refine c_newI X hI hA (43, i) (N' := 60) rfl (P.fr hfr (by simp) (by simp)) (Nat.le_of_ble_eq_true rfl) (by decide) (by decide) (Nat.le_of_ble_eq_true rfl) (Nat.le_of_ble_eq_true rfl) (Nat.le_of_ble_eq_true rfl) dX5_init_18 (fun q4 H4 E4 μ4 g4 e4 z4 y4 hI => ?_)
  have P : Pg E μ E4 μ4 [(31, i), (32, i), (33, i), (34, i), (1, i), (43, i)] := P.step g4 z4
  have e2 : E4.2.1 (1, i) = q1 := (g4.2.2.2 (1, i) (by simp)).trans e2
  refine c_putF X hI him (C := RX5) (T := TX5) (N := 16) (k := 4) rfl inX5 tyX5 tyX5_ok nmX5 (by decide) wi_254 rfl rfl rfl rfl (by simp) dX5_init_20 (fun H5 locs5 hI => ?_)
  have hI : cI _ N0 s E4 μ4 ((a, .inr (5, [.int 0, .int 0, .int 0, .ref q1, .ref q4, .null, .null, .null, .null, .null, .null, .null, .null, .int 0, .null, .int 0])) :: []) H5 locs5 := hI
  refine lv_aload_n X.1 X.2.1 dX5_init_23 rfl (lv_at hl 0 rfl) ?_
  refine lv_bipush (v := 60) X.1 X.2.1 dX5_init_24 (by decide) ?_
  refine c_newI X hI hA (44, i) (N' := 60) rfl (P.fr hfr (by simp) (by simp)) (Nat.le_of_ble_eq_true rfl) (by decide) (by decide) (Nat.le_of_ble_eq_true rfl) (Nat.le_of_ble_eq_true rfl) (Nat.le_of_ble_eq_true rfl) dX5_init_26 (fun q6 H6 E6 μ6 g6 e6 z6 y6 hI => ?_)
  have P : Pg E μ E6 μ6 [(31, i), (32, i), (33, i), (34, i), (1, i), (43, i), (44, i)] := P.step g6 z6
  have e2 : E6.2.1 (1, i) = q1 := (g6.2.2.2 (1, i) (by simp)).trans e2
  have e4 : E6.2.1 (43, i) = q4 := (g6.2.2.2 (43, i) (by simp)).trans e4
  refine c_putF X hI him (C := RX5) (T := TX5) (N := 16) (k := 5) rfl inX5 tyX5 tyX5_ok nmX5 (by decide) wi_258 rfl rfl rfl rfl (by simp) dX5_init_28 (fun H7 locs7 hI => ?_)
  have hI : cI _ N0 s E6 μ6 ((a, .inr (5, [.int 0, .int 0, .int 0, .ref q1, .ref q4, .ref q6, .null, .null, .null, .null, .null, .null, .null, .int 0, .null, .int 0])) :: []) H7 locs7 := hI
  refine lv_aload_n X.1 X.2.1 dX5_init_31 rfl (lv_at hl 0 rfl) ?_
  refine lv_bipush (v := 60) X.1 X.2.1 dX5_init_32 (by decide) ?_
  refine c_newI X hI hA (45, i) (N' := 60) rfl (P.fr hfr (by simp) (by simp)) (Nat.le_of_ble_eq_true rfl) (by decide) (by decide) (Nat.le_of_ble_eq_true rfl) (Nat.le_of_ble_eq_true rfl) (Nat.le_of_ble_eq_true rfl) dX5_init_34 (fun q8 H8 E8 μ8 g8 e8 z8 y8 hI => ?_)
  have P : Pg E μ E8 μ8 [(31, i), (32, i), (33, i), (34, i), (1, i), (43, i), (44, i), (45, i)] := P.step g8 z8
  have e2 : E8.2.1 (1, i) = q1 := (g8.2.2.2 (1, i) (by simp)).trans e2
  have e4 : E8.2.1 (43, i) = q4 := (g8.2.2.2 (43, i) (by simp)).trans e4
  have e6 : E8.2.1 (44, i) = q6 := (g8.2.2.2 (44, i) (by simp)).trans e6
  refine c_putF X hI him (C := RX5) (T := TX5) (N := 16) (k := 6) rfl inX5 tyX5 tyX5_ok nmX5 (by decide) wi_260 rfl rfl rfl rfl (by simp) dX5_init_36 (fun H9 locs9 hI => ?_)
  have hI : cI _ N0 s E8 μ8 ((a, .inr (5, [.int 0, .int 0, .int 0, .ref q1, .ref q4, .ref q6, .ref q8, .null, .null, .null, .null, .null, .null, .int 0, .null, .int 0])) :: []) H9 locs9 := hI
  refine lv_aload_n X.1 X.2.1 dX5_init_39 rfl (lv_at hl 0 rfl) ?_
  refine lv_bipush (v := 60) X.1 X.2.1 dX5_init_40 (by decide) ?_
  refine c_newI X hI hA (46, i) (N' := 60) rfl (P.fr hfr (by simp) (by simp)) (Nat.le_of_ble_eq_true rfl) (by decide) (by decide) (Nat.le_of_ble_eq_true rfl) (Nat.le_of_ble_eq_true rfl) (Nat.le_of_ble_eq_true rfl) dX5_init_42 (fun q10 H10 E10 μ10 g10 e10 z10 y10 hI => ?_)
  have P : Pg E μ E10 μ10 [(31, i), (32, i), (33, i), (34, i), (1, i), (43, i), (44, i), (45, i), (46, i)] := P.step g10 z10
  have e2 : E10.2.1 (1, i) = q1 := (g10.2.2.2 (1, i) (by simp)).trans e2
  have e4 : E10.2.1 (43, i) = q4 := (g10.2.2.2 (43, i) (by simp)).trans e4
  have e6 : E10.2.1 (44, i) = q6 := (g10.2.2.2 (44, i) (by simp)).trans e6
  have e8 : E10.2.1 (45, i) = q8 := (g10.2.2.2 (45, i) (by simp)).trans e8
  refine c_putF X hI him (C := RX5) (T := TX5) (N := 16) (k := 7) rfl inX5 tyX5 tyX5_ok nmX5 (by decide) wi_263 rfl rfl rfl rfl (by simp) dX5_init_44 (fun H11 locs11 hI => ?_)
  have hI : cI _ N0 s E10 μ10 ((a, .inr (5, [.int 0, .int 0, .int 0, .ref q1, .ref q4, .ref q6, .ref q8, .ref q10, .null, .null, .null, .null, .null, .int 0, .null, .int 0])) :: []) H11 locs11 := hI
  refine lv_aload_n X.1 X.2.1 dX5_init_47 rfl (lv_at hl 0 rfl) ?_
  refine lv_bipush (v := 60) X.1 X.2.1 dX5_init_48 (by decide) ?_
  refine c_newI X hI hA (47, i) (N' := 60) rfl (P.fr hfr (by simp) (by simp)) (Nat.le_of_ble_eq_true rfl) (by decide) (by decide) (Nat.le_of_ble_eq_true rfl) (Nat.le_of_ble_eq_true rfl) (Nat.le_of_ble_eq_true rfl) dX5_init_50 (fun q12 H12 E12 μ12 g12 e12 z12 y12 hI => ?_)
  have P : Pg E μ E12 μ12 [(31, i), (32, i), (33, i), (34, i), (1, i), (43, i), (44, i), (45, i), (46, i), (47, i)] := P.step g12 z12
  have e2 : E12.2.1 (1, i) = q1 := (g12.2.2.2 (1, i) (by simp)).trans e2
  have e4 : E12.2.1 (43, i) = q4 := (g12.2.2.2 (43, i) (by simp)).trans e4
  have e6 : E12.2.1 (44, i) = q6 := (g12.2.2.2 (44, i) (by simp)).trans e6
  have e8 : E12.2.1 (45, i) = q8 := (g12.2.2.2 (45, i) (by simp)).trans e8
  have e10 : E12.2.1 (46, i) = q10 := (g12.2.2.2 (46, i) (by simp)).trans e10
  refine c_putF X hI him (C := RX5) (T := TX5) (N := 16) (k := 8) rfl inX5 tyX5 tyX5_ok nmX5 (by decide) wi_266 rfl rfl rfl rfl (by simp) dX5_init_52 (fun H13 locs13 hI => ?_)
  have hI : cI _ N0 s E12 μ12 ((a, .inr (5, [.int 0, .int 0, .int 0, .ref q1, .ref q4, .ref q6, .ref q8, .ref q10, .ref q12, .null, .null, .null, .null, .int 0, .null, .int 0])) :: []) H13 locs13 := hI
  refine lv_aload_n X.1 X.2.1 dX5_init_55 rfl (lv_at hl 0 rfl) ?_
  refine lv_iconst (v := 4) X.1 X.2.1 dX5_init_56 (by decide) ?_
  refine lv_bipush (v := 60) X.1 X.2.1 dX5_init_57 (by decide) ?_
  refine c_multi X hI hA (48, i) 53 (4 * i) (n := 4) (k := 60) rfl (fun _ => rfl) (P.fr hfr (by simp) (by simp)) (fun j hj => P.fr hfr (by rcases (by omega : j = 0 ∨ j = 1 ∨ j = 2 ∨ j = 3) with rfl | rfl | rfl | rfl <;> simp) (by simp)) (show ¬ (48 : Nat) = 53 by decide) (Nat.le_of_ble_eq_true rfl) (Nat.le_of_ble_eq_true rfl) (by decide) (by decide) (by decide) (by decide) (Nat.le_of_ble_eq_true rfl) (Nat.le_of_ble_eq_true rfl) (Nat.le_of_ble_eq_true rfl) (Nat.le_of_ble_eq_true rfl) wi_231 dX5_init_59 (fun q14 H14 locs14 E14 μ14 g14 e14 z14 hI => ?_)
  have P : Pg E μ E14 μ14 [(31, i), (32, i), (33, i), (34, i), (1, i), (43, i), (44, i), (45, i), (46, i), (47, i), (53, 4 * i + 0), (53, 4 * i + 1), (53, 4 * i + 2), (53, 4 * i + 3), (48, i)] := P.step g14 z14
  have e2 : E14.2.1 (1, i) = q1 := (g14.2.2.2 (1, i) (by simp)).trans e2
  have e4 : E14.2.1 (43, i) = q4 := (g14.2.2.2 (43, i) (by simp)).trans e4
  have e6 : E14.2.1 (44, i) = q6 := (g14.2.2.2 (44, i) (by simp)).trans e6
  have e8 : E14.2.1 (45, i) = q8 := (g14.2.2.2 (45, i) (by simp)).trans e8
  have e10 : E14.2.1 (46, i) = q10 := (g14.2.2.2 (46, i) (by simp)).trans e10
  have e12 : E14.2.1 (47, i) = q12 := (g14.2.2.2 (47, i) (by simp)).trans e12
  refine c_putF X hI him (C := RX5) (T := TX5) (N := 16) (k := 9) rfl inX5 tyX5 tyX5_ok nmX5 (by decide) wi_269 rfl rfl rfl rfl (by simp) dX5_init_63 (fun H15 locs15 hI => ?_)
  have hI : cI _ N0 s E14 μ14 ((a, .inr (5, [.int 0, .int 0, .int 0, .ref q1, .ref q4, .ref q6, .ref q8, .ref q10, .ref q12, .ref q14, .null, .null, .null, .int 0, .null, .int 0])) :: []) H15 locs15 := hI
  refine lv_aload_n X.1 X.2.1 dX5_init_66 rfl (lv_at hl 0 rfl) ?_
  refine lv_bipush (v := 7) X.1 X.2.1 dX5_init_67 (by decide) ?_
  refine c_newI X hI hA (49, i) (N' := 7) rfl (P.fr hfr (by simp) (by simp)) (Nat.le_of_ble_eq_true rfl) (by decide) (by decide) (Nat.le_of_ble_eq_true rfl) (Nat.le_of_ble_eq_true rfl) (Nat.le_of_ble_eq_true rfl) dX5_init_69 (fun q16 H16 E16 μ16 g16 e16 z16 y16 hI => ?_)
  have P : Pg E μ E16 μ16 [(31, i), (32, i), (33, i), (34, i), (1, i), (43, i), (44, i), (45, i), (46, i), (47, i), (53, 4 * i + 0), (53, 4 * i + 1), (53, 4 * i + 2), (53, 4 * i + 3), (48, i), (49, i)] := P.step g16 z16
  have e2 : E16.2.1 (1, i) = q1 := (g16.2.2.2 (1, i) (by simp)).trans e2
  have e4 : E16.2.1 (43, i) = q4 := (g16.2.2.2 (43, i) (by simp)).trans e4
  have e6 : E16.2.1 (44, i) = q6 := (g16.2.2.2 (44, i) (by simp)).trans e6
  have e8 : E16.2.1 (45, i) = q8 := (g16.2.2.2 (45, i) (by simp)).trans e8
  have e10 : E16.2.1 (46, i) = q10 := (g16.2.2.2 (46, i) (by simp)).trans e10
  have e12 : E16.2.1 (47, i) = q12 := (g16.2.2.2 (47, i) (by simp)).trans e12
  have e14 : E16.2.1 (48, i) = q14 := (g16.2.2.2 (48, i) (by simp)).trans e14
  refine c_putF X hI him (C := RX5) (T := TX5) (N := 16) (k := 10) rfl inX5 tyX5 tyX5_ok nmX5 (by decide) wi_272 rfl rfl rfl rfl (by simp) dX5_init_71 (fun H17 locs17 hI => ?_)
  have hI : cI _ N0 s E16 μ16 ((a, .inr (5, [.int 0, .int 0, .int 0, .ref q1, .ref q4, .ref q6, .ref q8, .ref q10, .ref q12, .ref q14, .ref q16, .null, .null, .int 0, .null, .int 0])) :: []) H17 locs17 := hI
  refine lv_aload_n X.1 X.2.1 dX5_init_74 rfl (lv_at hl 0 rfl) ?_
  refine lv_bipush (v := 7) X.1 X.2.1 dX5_init_75 (by decide) ?_
  refine lv_bipush (v := 6) X.1 X.2.1 dX5_init_77 (by decide) ?_
  refine c_multi X hI hA (50, i) 54 (7 * i) (n := 7) (k := 6) rfl (fun _ => rfl) (P.fr hfr (by simp) (by simp)) (fun j hj => P.fr hfr (by rcases (by omega : j = 0 ∨ j = 1 ∨ j = 2 ∨ j = 3 ∨ j = 4 ∨ j = 5 ∨ j = 6) with rfl | rfl | rfl | rfl | rfl | rfl | rfl <;> simp) (by simp)) (show ¬ (50 : Nat) = 54 by decide) (Nat.le_of_ble_eq_true rfl) (Nat.le_of_ble_eq_true rfl) (by decide) (by decide) (by decide) (by decide) (Nat.le_of_ble_eq_true rfl) (Nat.le_of_ble_eq_true rfl) (Nat.le_of_ble_eq_true rfl) (Nat.le_of_ble_eq_true rfl) wi_231 dX5_init_79 (fun q18 H18 locs18 E18 μ18 g18 e18 z18 hI => ?_)
  have P : Pg E μ E18 μ18 [(31, i), (32, i), (33, i), (34, i), (1, i), (43, i), (44, i), (45, i), (46, i), (47, i), (53, 4 * i + 0), (53, 4 * i + 1), (53, 4 * i + 2), (53, 4 * i + 3), (48, i), (49, i), (54, 7 * i + 0), (54, 7 * i + 1), (54, 7 * i + 2), (54, 7 * i + 3), (54, 7 * i + 4), (54, 7 * i + 5), (54, 7 * i + 6), (50, i)] := P.step g18 z18
  have e2 : E18.2.1 (1, i) = q1 := (g18.2.2.2 (1, i) (by simp)).trans e2
  have e4 : E18.2.1 (43, i) = q4 := (g18.2.2.2 (43, i) (by simp)).trans e4
  have e6 : E18.2.1 (44, i) = q6 := (g18.2.2.2 (44, i) (by simp)).trans e6
  have e8 : E18.2.1 (45, i) = q8 := (g18.2.2.2 (45, i) (by simp)).trans e8
  have e10 : E18.2.1 (46, i) = q10 := (g18.2.2.2 (46, i) (by simp)).trans e10
  have e12 : E18.2.1 (47, i) = q12 := (g18.2.2.2 (47, i) (by simp)).trans e12
  have e14 : E18.2.1 (48, i) = q14 := (g18.2.2.2 (48, i) (by simp)).trans e14
  have e16 : E18.2.1 (49, i) = q16 := (g18.2.2.2 (49, i) (by simp)).trans e16
  refine c_putF X hI him (C := RX5) (T := TX5) (N := 16) (k := 11) rfl inX5 tyX5 tyX5_ok nmX5 (by decide) wi_276 rfl rfl rfl rfl (by simp) dX5_init_83 (fun H19 locs19 hI => ?_)
  have hI : cI _ N0 s E18 μ18 ((a, .inr (5, [.int 0, .int 0, .int 0, .ref q1, .ref q4, .ref q6, .ref q8, .ref q10, .ref q12, .ref q14, .ref q16, .ref q18, .null, .int 0, .null, .int 0])) :: []) H19 locs19 := hI
  refine lv_aload_n X.1 X.2.1 dX5_init_86 rfl (lv_at hl 0 rfl) ?_
  refine lv_bipush (v := 18) X.1 X.2.1 dX5_init_87 (by decide) ?_
  refine c_newI X hI hA (51, i) (N' := 18) rfl (P.fr hfr (by simp) (by simp)) (Nat.le_of_ble_eq_true rfl) (by decide) (by decide) (Nat.le_of_ble_eq_true rfl) (Nat.le_of_ble_eq_true rfl) (Nat.le_of_ble_eq_true rfl) dX5_init_89 (fun q20 H20 E20 μ20 g20 e20 z20 y20 hI => ?_)
  have P : Pg E μ E20 μ20 [(31, i), (32, i), (33, i), (34, i), (1, i), (43, i), (44, i), (45, i), (46, i), (47, i), (53, 4 * i + 0), (53, 4 * i + 1), (53, 4 * i + 2), (53, 4 * i + 3), (48, i), (49, i), (54, 7 * i + 0), (54, 7 * i + 1), (54, 7 * i + 2), (54, 7 * i + 3), (54, 7 * i + 4), (54, 7 * i + 5), (54, 7 * i + 6), (50, i), (51, i)] := P.step g20 z20
  have e2 : E20.2.1 (1, i) = q1 := (g20.2.2.2 (1, i) (by simp)).trans e2
  have e4 : E20.2.1 (43, i) = q4 := (g20.2.2.2 (43, i) (by simp)).trans e4
  have e6 : E20.2.1 (44, i) = q6 := (g20.2.2.2 (44, i) (by simp)).trans e6
  have e8 : E20.2.1 (45, i) = q8 := (g20.2.2.2 (45, i) (by simp)).trans e8
  have e10 : E20.2.1 (46, i) = q10 := (g20.2.2.2 (46, i) (by simp)).trans e10
  have e12 : E20.2.1 (47, i) = q12 := (g20.2.2.2 (47, i) (by simp)).trans e12
  have e14 : E20.2.1 (48, i) = q14 := (g20.2.2.2 (48, i) (by simp)).trans e14
  have e16 : E20.2.1 (49, i) = q16 := (g20.2.2.2 (49, i) (by simp)).trans e16
  have e18 : E20.2.1 (50, i) = q18 := (g20.2.2.2 (50, i) (by simp)).trans e18
  refine c_putF X hI him (C := RX5) (T := TX5) (N := 16) (k := 12) rfl inX5 tyX5 tyX5_ok nmX5 (by decide) wi_278 rfl rfl rfl rfl (by simp) dX5_init_91 (fun H21 locs21 hI => ?_)
  have hI : cI _ N0 s E20 μ20 ((a, .inr (5, [.int 0, .int 0, .int 0, .ref q1, .ref q4, .ref q6, .ref q8, .ref q10, .ref q12, .ref q14, .ref q16, .ref q18, .ref q20, .int 0, .null, .int 0])) :: []) H21 locs21 := hI
  refine lv_aload_n X.1 X.2.1 dX5_init_94 rfl (lv_at hl 0 rfl) ?_
  refine lv_bipush (v := 60) X.1 X.2.1 dX5_init_95 (by decide) ?_
  refine c_newI X hI hA (52, i) (N' := 60) rfl (P.fr hfr (by simp) (by simp)) (Nat.le_of_ble_eq_true rfl) (by decide) (by decide) (Nat.le_of_ble_eq_true rfl) (Nat.le_of_ble_eq_true rfl) (Nat.le_of_ble_eq_true rfl) dX5_init_97 (fun q22 H22 E22 μ22 g22 e22 z22 y22 hI => ?_)
  have P : Pg E μ E22 μ22 [(31, i), (32, i), (33, i), (34, i), (1, i), (43, i), (44, i), (45, i), (46, i), (47, i), (53, 4 * i + 0), (53, 4 * i + 1), (53, 4 * i + 2), (53, 4 * i + 3), (48, i), (49, i), (54, 7 * i + 0), (54, 7 * i + 1), (54, 7 * i + 2), (54, 7 * i + 3), (54, 7 * i + 4), (54, 7 * i + 5), (54, 7 * i + 6), (50, i), (51, i), (52, i)] := P.step g22 z22
  have e2 : E22.2.1 (1, i) = q1 := (g22.2.2.2 (1, i) (by simp)).trans e2
  have e4 : E22.2.1 (43, i) = q4 := (g22.2.2.2 (43, i) (by simp)).trans e4
  have e6 : E22.2.1 (44, i) = q6 := (g22.2.2.2 (44, i) (by simp)).trans e6
  have e8 : E22.2.1 (45, i) = q8 := (g22.2.2.2 (45, i) (by simp)).trans e8
  have e10 : E22.2.1 (46, i) = q10 := (g22.2.2.2 (46, i) (by simp)).trans e10
  have e12 : E22.2.1 (47, i) = q12 := (g22.2.2.2 (47, i) (by simp)).trans e12
  have e14 : E22.2.1 (48, i) = q14 := (g22.2.2.2 (48, i) (by simp)).trans e14
  have e16 : E22.2.1 (49, i) = q16 := (g22.2.2.2 (49, i) (by simp)).trans e16
  have e18 : E22.2.1 (50, i) = q18 := (g22.2.2.2 (50, i) (by simp)).trans e18
  have e20 : E22.2.1 (51, i) = q20 := (g22.2.2.2 (51, i) (by simp)).trans e20
  refine c_putF X hI him (C := RX5) (T := TX5) (N := 16) (k := 14) rfl inX5 tyX5 tyX5_ok nmX5 (by decide) wi_280 rfl rfl rfl rfl (by simp) dX5_init_99 (fun H23 locs23 hI => ?_)
  have hI : cI _ N0 s E22 μ22 ((a, .inr (5, [.int 0, .int 0, .int 0, .ref q1, .ref q4, .ref q6, .ref q8, .ref q10, .ref q12, .ref q14, .ref q16, .ref q18, .ref q20, .int 0, .ref q22, .int 0])) :: []) H23 locs23 := hI
  obtain ⟨E24, g24, e24, hI⟩ := hI.fin (μ' := zz (5, i) μ22) (i := i) (P.fr hfr (by simp) (by simp)) (by decide) rfl (List.forall_mem_cons.mpr ⟨fc_I, List.forall_mem_cons.mpr ⟨fc_I, List.forall_mem_cons.mpr ⟨fc_I, List.forall_mem_cons.mpr ⟨fc_R (P.in (by simp)), List.forall_mem_cons.mpr ⟨fc_R (P.in (by simp)), List.forall_mem_cons.mpr ⟨fc_R (P.in (by simp)), List.forall_mem_cons.mpr ⟨fc_R (P.in (by simp)), List.forall_mem_cons.mpr ⟨fc_R (P.in (by simp)), List.forall_mem_cons.mpr ⟨fc_R (P.in (by simp)), List.forall_mem_cons.mpr ⟨fc_R (P.in (by simp)), List.forall_mem_cons.mpr ⟨fc_R (P.in (by simp)), List.forall_mem_cons.mpr ⟨fc_R (P.in (by simp)), List.forall_mem_cons.mpr ⟨fc_R (P.in (by simp)), List.forall_mem_cons.mpr ⟨fc_I, List.forall_mem_cons.mpr ⟨fc_R (P.in (by simp)), List.forall_mem_cons.mpr ⟨fc_I, fun _ h => absurd h List.not_mem_nil⟩⟩⟩⟩⟩⟩⟩⟩⟩⟩⟩⟩⟩⟩⟩⟩) (fun h' z => zz_ag (fun e => P.fr hfr (h := (5, i)) (by simp) (by simp) (by rw [← e]; exact z))) (fun E' hE' => zl (congrArg Value.int (zz_i _ _ _)) (zl (congrArg Value.int (zz_i _ _ _)) (zl (congrArg Value.int (zz_i _ _ _)) (zl (congrArg Value.ref ((hE' (1, i) (by simp)).trans e2)) (zl (congrArg Value.ref ((hE' (43, i) (by simp)).trans e4)) (zl (congrArg Value.ref ((hE' (44, i) (by simp)).trans e6)) (zl (congrArg Value.ref ((hE' (45, i) (by simp)).trans e8)) (zl (congrArg Value.ref ((hE' (46, i) (by simp)).trans e10)) (zl (congrArg Value.ref ((hE' (47, i) (by simp)).trans e12)) (zl (congrArg Value.ref ((hE' (48, i) (by simp)).trans e14)) (zl (congrArg Value.ref ((hE' (49, i) (by simp)).trans e16)) (zl (congrArg Value.ref ((hE' (50, i) (by simp)).trans e18)) (zl (congrArg Value.ref ((hE' (51, i) (by simp)).trans e20)) (zl (congrArg Value.int (zz_i _ _ _)) (zl (congrArg Value.ref ((hE' (52, i) (by simp)).trans e22)) (zl (congrArg Value.int (zz_i _ _ _)) (rfl)))))))))))))))))
  have zq : ∀ h ∈ E22.2.2.1, zag μ22 (zz (5, i) μ22) h := fun h' z => zz_ag (fun e => P.fr hfr (h := (5, i)) (by simp) (by simp) (by rw [← e]; exact z))
  have P : Pg E μ E24 (zz (5, i) μ22) [(31, i), (32, i), (33, i), (34, i), (1, i), (43, i), (44, i), (45, i), (46, i), (47, i), (53, 4 * i + 0), (53, 4 * i + 1), (53, 4 * i + 2), (53, 4 * i + 3), (48, i), (49, i), (54, 7 * i + 0), (54, 7 * i + 1), (54, 7 * i + 2), (54, 7 * i + 3), (54, 7 * i + 4), (54, 7 * i + 5), (54, 7 * i + 6), (50, i), (51, i), (52, i), (5, i)] := P.step g24 zq
  have e2 : E24.2.1 (1, i) = q1 := (g24.2.2.2 (1, i) (by simp)).trans e2
  have e4 : E24.2.1 (43, i) = q4 := (g24.2.2.2 (43, i) (by simp)).trans e4
  have e6 : E24.2.1 (44, i) = q6 := (g24.2.2.2 (44, i) (by simp)).trans e6
  have e8 : E24.2.1 (45, i) = q8 := (g24.2.2.2 (45, i) (by simp)).trans e8
  have e10 : E24.2.1 (46, i) = q10 := (g24.2.2.2 (46, i) (by simp)).trans e10
  have e12 : E24.2.1 (47, i) = q12 := (g24.2.2.2 (47, i) (by simp)).trans e12
  have e14 : E24.2.1 (48, i) = q14 := (g24.2.2.2 (48, i) (by simp)).trans e14
  have e16 : E24.2.1 (49, i) = q16 := (g24.2.2.2 (49, i) (by simp)).trans e16
  have e18 : E24.2.1 (50, i) = q18 := (g24.2.2.2 (50, i) (by simp)).trans e18
  have e20 : E24.2.1 (51, i) = q20 := (g24.2.2.2 (51, i) (by simp)).trans e20
  have e22 : E24.2.1 (52, i) = q22 := (g24.2.2.2 (52, i) (by simp)).trans e22
  refine lv_aload_n X.1 X.2.1 dX5_init_102 rfl (lv_at hl 0 rfl) ?_
  obtain ⟨μc, c1, c2, c3, c4⟩ := X_clear i (zz (5, i) μ22)
  refine W.eq (g2 := F0 m 103 ls ((([] : List zV).map (zval E24)).reverse ++ Value.ref (E24.2.1 (5, i)) :: [])) (by rw [e24]; rfl) ?_
  refine c_callV (kc := 5) (C := RX5) (T := TX5) (N := 16) X hI hN kX5_clear qX5_init wj_clear wd_234 wd_235 rfl c1 rfl (P.in (by simp)) (fun _ h => absurd h List.not_mem_nil) rfl (Nat.le_of_ble_eq_true rfl) hl.1 ⟨Nat.le_of_ble_eq_true rfl, Nat.le_of_ble_eq_true rfl⟩ dX5_init_103 (fun Hc locsc hI => ?_)
  have zc : ∀ h ∈ E.2.2.1, zag (zz (5, i) μ22) μc h := fun h z => by
    have n1 : ∀ h' ∈ [(31, i), (32, i), (33, i), (34, i), (1, i), (43, i), (44, i), (45, i), (46, i), (47, i), (53, 4 * i + 0), (53, 4 * i + 1), (53, 4 * i + 2), (53, 4 * i + 3), (48, i), (49, i), (54, 7 * i + 0), (54, 7 * i + 1), (54, 7 * i + 2), (54, 7 * i + 3), (54, 7 * i + 4), (54, 7 * i + 5), (54, 7 * i + 6), (50, i), (51, i), (52, i), (5, i)], h ≠ h' := fun h' m e => hfr h' m (by rw [← e]; exact z)
    have n2 : ¬ (h.2 = i ∧ (h.1 = 5 ∨ h.1 = 1 ∨ h.1 = 43 ∨ h.1 = 49)) := by
      rintro ⟨m1, m2 | m2 | m2 | m2⟩
      · exact n1 (5, i) (by simp) (Prod.ext m2 m1)
      · exact n1 (1, i) (by simp) (Prod.ext m2 m1)
      · exact n1 (43, i) (by simp) (Prod.ext m2 m1)
      · exact n1 (49, i) (by simp) (Prod.ext m2 m1)
    exact ⟨funext fun n => c4 _ _ _ n2, by rw [c3], by rw [c3]⟩
  refine W.widen (k := rX5_init.cells) (n := rX5_init.slots) (Nat.le_of_ble_eq_true rfl) (Nat.le_of_ble_eq_true rfl) ?_
  exact c_ret X hr hlocks hI P.1 e24 (fun h z => (P.2 h z).trans (zc h z)) c2 dX5_init_106
