/-! ===== World(setup) ===== -/
def rX9_init : Room := { frames := 3, cells := 28, slots := 1928, locals := 64 }
theorem qX9_init : zCW yX9_init rX9_init yX9_begin cX9_begin 2 none rX9_begin 1 := ⟨wd_425, wd_112, ⟨by decide, by decide, by decide +kernel⟩, rfl, rfl, Nat.le_of_ble_eq_true rfl, Nat.le_of_ble_eq_true rfl⟩
abbrev hX9 (i : Nat) : List zH := [(57, i), (58, i), (40, 2 * i), (41, 2 * i), (42, 2 * i), (4, 2 * i), (40, 2 * i + 1), (41, 2 * i + 1), (42, 2 * i + 1), (4, 2 * i + 1), (36, i), (37, i), (38, i), (39, i), (3, i), (21, i), (22, i), (23, i), (24, i), (25, i), (26, i), (27, i), (28, i), (29, i), (0, i), (59, i), (60, i), (61, i), (9, i)]
theorem hX9_in {i : Nat} {h : zH} (m : isW i h.1 h.2) : h ∈ hX9 i := by
  obtain ⟨k, x⟩ := h
  unfold isW at m
  dsimp only at m
  have m2 : (k = 9 ∨ k = 57 ∨ k = 58 ∨ k = 59 ∨ k = 60 ∨ k = 61 ∨ k = 3 ∨ k = 36 ∨ k = 37 ∨ k = 38 ∨ k = 39 ∨ k = 0 ∨ k = 21 ∨ k = 22 ∨ k = 23 ∨ k = 24 ∨ k = 25 ∨ k = 26 ∨ k = 27 ∨ k = 28 ∨ k = 29) ∧ x = i ∨ (k = 4 ∨ k = 40 ∨ k = 41 ∨ k = 42) ∧ (x = 2 * i ∨ x = 2 * i + 1) := by omega
  rcases m2 with ⟨m2, rfl⟩ | ⟨m2, rfl | rfl⟩
  · rcases m2 with rfl | rfl | rfl | rfl | rfl | rfl | rfl | rfl | rfl | rfl | rfl | rfl | rfl | rfl | rfl | rfl | rfl | rfl | rfl | rfl | rfl <;> simp
  · rcases m2 with rfl | rfl | rfl | rfl <;> simp
  · rcases m2 with rfl | rfl | rfl | rfl <;> simp
set_option maxRecDepth 20000 in
set_option maxHeartbeats 4000000 in
theorem kX9_init (i : Nat) : Kon yX9_init cX9_init 2 rX9_init 9 i [.null, .int 0, .int 0, .int 0, .null, .null, .null, .null, .null, .null, .null, .null, .null] (hX9 i) (fun E => (5, 0) ∈ E.2.2.1 ∧ (5, 1) ∈ E.2.2.1) (fun E => [.ref (E.2.1 (5, 0))]) (fun μ => i = 0 → BEG μ ∧ μ.2.1 9 i 0 = 0) := by
  refine kon_of (by decide) rfl ?_
  intro p l e s m args below meth c E μ N0 a X him hr hlocks hok hfr hN0 hN hA hI hargs
  subst hargs
  have hl := lv_entry ([.ref a, .ref (E.2.1 (5, 0))]) (n := 2) (Nat.le_of_ble_eq_true rfl)
  show W p l e _ s m _ below meth c s.heap [] 0 0 _ (entryFrame m ([.ref a, .ref (E.2.1 (5, 0))] : List Value).toArray 2)
  rw [lg_entry_eq]
  generalize (lg_sl ([.ref a, .ref (E.2.1 (5, 0))]) ++ List.replicate (2 - (lg_sl ([.ref a, .ref (E.2.1 (5, 0))])).length) Slot.unset).toArray = ls at hl ⊢
  have hl : lv_has ls 2 [(0, .ref a), (1, .ref (E.2.1 (5, 0)))] := hl
  have P := Pg.rf (E := E) (μ := μ)
  refine lv_aload_n X.1 X.2.1 dX9_init_0 rfl (lv_at hl 0 rfl) ?_
  refine W.objInit X.1 X.2.1 X.2.2.2.1 (X.2.2.2.2 _ wi_322) (X.2.2.2.2 _ wi_130) (X.2.2.2.2 _ wi_131) rfl (by rw [X.2.2.1]; exact hl.1) rfl dX9_init_1 (Nat.le_of_ble_eq_true rfl) (Nat.le_of_ble_eq_true rfl) ?_
  refine W.eq (g2 := F0 m 4 ls []) rfl ?_
  refine lv_aload_n X.1 X.2.1 dX9_init_4 rfl (lv_at hl 0 rfl) ?_
  refine lv_bipush (v := 8) X.1 X.2.1 dX9_init_5 (by decide) ?_
  refine c_newI X hI hA (57, i) (N' := 8) rfl (P.fr hfr (by simp) (by simp)) (Nat.le_of_ble_eq_true rfl) (by decide) (by decide) (Nat.le_of_ble_eq_true rfl) (Nat.le_of_ble_eq_true rfl) (Nat.le_of_ble_eq_true rfl) dX9_init_7 (fun q1 H1 E1 μ1 g1 e1 z1 y1 hI => ?_)
  have P : Pg E μ E1 μ1 [(57, i)] := P.step g1 z1
  refine c_putF X hI him (C := RX9) (T := TX9) (N := 13) (k := 4) rfl inX9 tyX9 tyX9_ok nmX9 (by decide) wi_442 rfl rfl rfl rfl (by simp) dX9_init_9 (fun H2 locs2 hI => ?_)
  have hI : cI _ N0 s E1 μ1 ((a, .inr (9, [.null, .int 0, .int 0, .int 0, .ref q1, .null, .null, .null, .null, .null, .null, .null, .null])) :: []) H2 locs2 := hI
  refine lv_aload_n X.1 X.2.1 dX9_init_12 rfl (lv_at hl 0 rfl) ?_
  refine lv_bipush (v := 60) X.1 X.2.1 dX9_init_13 (by decide) ?_
  refine c_newI X hI hA (58, i) (N' := 60) rfl (P.fr hfr (by simp) (by simp)) (Nat.le_of_ble_eq_true rfl) (by decide) (by decide) (Nat.le_of_ble_eq_true rfl) (Nat.le_of_ble_eq_true rfl) (Nat.le_of_ble_eq_true rfl) dX9_init_15 (fun q3 H3 E3 μ3 g3 e3 z3 y3 hI => ?_)
  have P : Pg E μ E3 μ3 [(57, i), (58, i)] := P.step g3 z3
  have e1 : E3.2.1 (57, i) = q1 := (g3.2.2.2 (57, i) (by simp)).trans e1
  refine c_putF X hI him (C := RX9) (T := TX9) (N := 13) (k := 5) rfl inX9 tyX9 tyX9_ok nmX9 (by decide) wi_444 rfl rfl rfl rfl (by simp) dX9_init_17 (fun H4 locs4 hI => ?_)
  have hI : cI _ N0 s E3 μ3 ((a, .inr (9, [.null, .int 0, .int 0, .int 0, .ref q1, .ref q3, .null, .null, .null, .null, .null, .null, .null])) :: []) H4 locs4 := hI
  refine lv_aload_n X.1 X.2.1 dX9_init_20 rfl (lv_at hl 0 rfl) ?_
  refine c_new X hI hA (C := RX4) (T := TX4) (N := 3) (ci := 4) (fs := [.null, .null, .null]) rfl inX4 tyX4 tyX4_ok wi_323 wi_324 wi_113 (fun j hj => by rcases (by omega : j = 0 ∨ j = 1 ∨ j = 2) with rfl | rfl | rfl <;> rfl) (Nat.le_of_ble_eq_true rfl) (Nat.le_of_ble_eq_true rfl) dX9_init_21 (fun q5 H5 hI => ?_)
  refine lv_dup X.1 X.2.1 dX9_init_24 rfl ?_
  refine lv_bipush (v := 60) X.1 X.2.1 dX9_init_25 (by decide) ?_
  refine c_callK (b := q5) (rest := [.ref q5, .ref a]) X hI hA hN hN0 (kX4_init (2 * i) 60 60 (by decide) (by decide) (by decide) (by rw [if_pos (by omega)])) trivial (List.forall_mem_cons.mpr ⟨P.fr hfr (by simp) (by simp), List.forall_mem_cons.mpr ⟨P.fr hfr (by simp) (by simp), List.forall_mem_cons.mpr ⟨P.fr hfr (by simp) (by simp), List.forall_mem_cons.mpr ⟨P.fr hfr (by simp) (by simp), fun _ h => absurd h List.not_mem_nil⟩⟩⟩⟩) (List.forall_mem_cons.mpr ⟨Nat.le_of_ble_eq_true rfl, List.forall_mem_cons.mpr ⟨Nat.le_of_ble_eq_true rfl, List.forall_mem_cons.mpr ⟨Nat.le_of_ble_eq_true rfl, List.forall_mem_cons.mpr ⟨Nat.le_of_ble_eq_true rfl, fun _ h => absurd h List.not_mem_nil⟩⟩⟩⟩) wi_325 wi_326 wi_327 wi_113 rfl ⟨by decide, by decide, by decide +kernel⟩ ⟨Nat.le_of_ble_eq_true rfl, Nat.le_of_ble_eq_true rfl⟩ ⟨Nat.le_of_ble_eq_true rfl, Nat.le_of_ble_eq_true rfl⟩ hl.1 (Nat.le_of_ble_eq_true rfl) rfl dX9_init_27 (fun H6 locs6 E6 μ6 g6 e6 z6 y6 hI => ?_)
  have P : Pg E μ E6 μ6 [(57, i), (58, i), (40, 2 * i), (41, 2 * i), (42, 2 * i), (4, 2 * i)] := P.step g6 z6
  have e1 : E6.2.1 (57, i) = q1 := (g6.2.2.2 (57, i) (by simp)).trans e1
  have e3 : E6.2.1 (58, i) = q3 := (g6.2.2.2 (58, i) (by simp)).trans e3
  refine c_putF X hI him (C := RX9) (T := TX9) (N := 13) (k := 6) rfl inX9 tyX9 tyX9_ok nmX9 (by decide) wi_446 rfl rfl rfl rfl (by simp) dX9_init_30 (fun H7 locs7 hI => ?_)
  have hI : cI _ N0 s E6 μ6 ((a, .inr (9, [.null, .int 0, .int 0, .int 0, .ref q1, .ref q3, .ref q5, .null, .null, .null, .null, .null, .null])) :: []) H7 locs7 := hI
  refine lv_aload_n X.1 X.2.1 dX9_init_33 rfl (lv_at hl 0 rfl) ?_
  refine c_new X hI hA (C := RX4) (T := TX4) (N := 3) (ci := 4) (fs := [.null, .null, .null]) rfl inX4 tyX4 tyX4_ok wi_323 wi_324 wi_113 (fun j hj => by rcases (by omega : j = 0 ∨ j = 1 ∨ j = 2) with rfl | rfl | rfl <;> rfl) (Nat.le_of_ble_eq_true rfl) (Nat.le_of_ble_eq_true rfl) dX9_init_34 (fun q8 H8 hI => ?_)
  refine lv_dup X.1 X.2.1 dX9_init_37 rfl ?_
  refine lv_bipush (v := 100) X.1 X.2.1 dX9_init_38 (by decide) ?_
  refine c_callK (b := q8) (rest := [.ref q8, .ref a]) X hI hA hN hN0 (kX4_init (2 * i + 1) 100 100 (by decide) (by decide) (by decide) (by rw [if_neg (by omega)])) trivial (List.forall_mem_cons.mpr ⟨P.fr hfr (by simp) (by simp), List.forall_mem_cons.mpr ⟨P.fr hfr (by simp) (by simp), List.forall_mem_cons.mpr ⟨P.fr hfr (by simp) (by simp), List.forall_mem_cons.mpr ⟨P.fr hfr (by simp) (by simp), fun _ h => absurd h List.not_mem_nil⟩⟩⟩⟩) (List.forall_mem_cons.mpr ⟨Nat.le_of_ble_eq_true rfl, List.forall_mem_cons.mpr ⟨Nat.le_of_ble_eq_true rfl, List.forall_mem_cons.mpr ⟨Nat.le_of_ble_eq_true rfl, List.forall_mem_cons.mpr ⟨Nat.le_of_ble_eq_true rfl, fun _ h => absurd h List.not_mem_nil⟩⟩⟩⟩) wi_325 wi_326 wi_327 wi_113 rfl ⟨by decide, by decide, by decide +kernel⟩ ⟨Nat.le_of_ble_eq_true rfl, Nat.le_of_ble_eq_true rfl⟩ ⟨Nat.le_of_ble_eq_true rfl, Nat.le_of_ble_eq_true rfl⟩ hl.1 (Nat.le_of_ble_eq_true rfl) rfl dX9_init_40 (fun H9 locs9 E9 μ9 g9 e9 z9 y9 hI => ?_)
  have P : Pg E μ E9 μ9 [(57, i), (58, i), (40, 2 * i), (41, 2 * i), (42, 2 * i), (4, 2 * i), (40, 2 * i + 1), (41, 2 * i + 1), (42, 2 * i + 1), (4, 2 * i + 1)] := P.step g9 z9
  have e1 : E9.2.1 (57, i) = q1 := (g9.2.2.2 (57, i) (by simp)).trans e1
  have e3 : E9.2.1 (58, i) = q3 := (g9.2.2.2 (58, i) (by simp)).trans e3
  have e6 : E9.2.1 (4, 2 * i) = q5 := (g9.2.2.2 (4, 2 * i) (by simp)).trans e6
  refine c_putF X hI him (C := RX9) (T := TX9) (N := 13) (k := 7) rfl inX9 tyX9 tyX9_ok nmX9 (by decide) wi_448 rfl rfl rfl rfl (by simp) dX9_init_43 (fun H10 locs10 hI => ?_)
  have hI : cI _ N0 s E9 μ9 ((a, .inr (9, [.null, .int 0, .int 0, .int 0, .ref q1, .ref q3, .ref q5, .ref q8, .null, .null, .null, .null, .null])) :: []) H10 locs10 := hI
  refine lv_aload_n X.1 X.2.1 dX9_init_46 rfl (lv_at hl 0 rfl) ?_
  refine c_new X hI hA (C := RX3) (T := TX3) (N := 4) (ci := 3) (fs := [.null, .null, .null, .null]) rfl inX3 tyX3 tyX3_ok wi_349 wi_350 wi_115 (fun j hj => by rcases (by omega : j = 0 ∨ j = 1 ∨ j = 2 ∨ j = 3) with rfl | rfl | rfl | rfl <;> rfl) (Nat.le_of_ble_eq_true rfl) (Nat.le_of_ble_eq_true rfl) dX9_init_47 (fun q11 H11 hI => ?_)
  refine lv_dup X.1 X.2.1 dX9_init_50 rfl ?_
  refine c_callKN (b := q11) (rest := [.ref q11, .ref a]) X hI hA hN hN0 (kX3_init i) trivial (List.forall_mem_cons.mpr ⟨P.fr hfr (by simp) (by simp), List.forall_mem_cons.mpr ⟨P.fr hfr (by simp) (by simp), List.forall_mem_cons.mpr ⟨P.fr hfr (by simp) (by simp), List.forall_mem_cons.mpr ⟨P.fr hfr (by simp) (by simp), List.forall_mem_cons.mpr ⟨P.fr hfr (by simp) (by simp), fun _ h => absurd h List.not_mem_nil⟩⟩⟩⟩⟩) (List.forall_mem_cons.mpr ⟨Nat.le_of_ble_eq_true rfl, List.forall_mem_cons.mpr ⟨Nat.le_of_ble_eq_true rfl, List.forall_mem_cons.mpr ⟨Nat.le_of_ble_eq_true rfl, List.forall_mem_cons.mpr ⟨Nat.le_of_ble_eq_true rfl, List.forall_mem_cons.mpr ⟨Nat.le_of_ble_eq_true rfl, fun _ h => absurd h List.not_mem_nil⟩⟩⟩⟩⟩) (List.mem_of_getElem? (i := 3) rfl) wi_352 wi_353 wi_115 rfl ⟨by decide, by decide, by decide +kernel⟩ ⟨Nat.le_of_ble_eq_true rfl, Nat.le_of_ble_eq_true rfl⟩ ⟨Nat.le_of_ble_eq_true rfl, Nat.le_of_ble_eq_true rfl⟩ hl.1 (Nat.le_of_ble_eq_true rfl) rfl dX9_init_51 (fun H12 locs12 E12 μ12 g12 e12 z12 y12 hI => ?_)
  have P : Pg E μ E12 μ12 [(57, i), (58, i), (40, 2 * i), (41, 2 * i), (42, 2 * i), (4, 2 * i), (40, 2 * i + 1), (41, 2 * i + 1), (42, 2 * i + 1), (4, 2 * i + 1), (36, i), (37, i), (38, i), (39, i), (3, i)] := P.step g12 z12
  have e1 : E12.2.1 (57, i) = q1 := (g12.2.2.2 (57, i) (by simp)).trans e1
  have e3 : E12.2.1 (58, i) = q3 := (g12.2.2.2 (58, i) (by simp)).trans e3
  have e6 : E12.2.1 (4, 2 * i) = q5 := (g12.2.2.2 (4, 2 * i) (by simp)).trans e6
  have e9 : E12.2.1 (4, 2 * i + 1) = q8 := (g12.2.2.2 (4, 2 * i + 1) (by simp)).trans e9
  refine c_putF X hI him (C := RX9) (T := TX9) (N := 13) (k := 8) rfl inX9 tyX9 tyX9_ok nmX9 (by decide) wi_449 rfl rfl rfl rfl (by simp) dX9_init_54 (fun H13 locs13 hI => ?_)
  have hI : cI _ N0 s E12 μ12 ((a, .inr (9, [.null, .int 0, .int 0, .int 0, .ref q1, .ref q3, .ref q5, .ref q8, .ref q11, .null, .null, .null, .null])) :: []) H13 locs13 := hI
  refine lv_aload_n X.1 X.2.1 dX9_init_57 rfl (lv_at hl 0 rfl) ?_
  refine c_new X hI hA (C := RX0) (T := TX0) (N := 10) (ci := 0) (fs := [.int 0, .null, .null, .null, .null, .null, .null, .null, .null, .null]) rfl inX0 tyX0 tyX0_ok wi_372 wi_373 wi_116 (fun j hj => by rcases (by omega : j = 0 ∨ j = 1 ∨ j = 2 ∨ j = 3 ∨ j = 4 ∨ j = 5 ∨ j = 6 ∨ j = 7 ∨ j = 8 ∨ j = 9) with rfl | rfl | rfl | rfl | rfl | rfl | rfl | rfl | rfl | rfl <;> rfl) (Nat.le_of_ble_eq_true rfl) (Nat.le_of_ble_eq_true rfl) dX9_init_58 (fun q14 H14 hI => ?_)
  refine lv_dup X.1 X.2.1 dX9_init_61 rfl ?_
  refine c_callKN (b := q14) (rest := [.ref q14, .ref a]) X hI hA hN hN0 (kX0_init i) trivial (List.forall_mem_cons.mpr ⟨P.fr hfr (by simp) (by simp), List.forall_mem_cons.mpr ⟨P.fr hfr (by simp) (by simp), List.forall_mem_cons.mpr ⟨P.fr hfr (by simp) (by simp), List.forall_mem_cons.mpr ⟨P.fr hfr (by simp) (by simp), List.forall_mem_cons.mpr ⟨P.fr hfr (by simp) (by simp), List.forall_mem_cons.mpr ⟨P.fr hfr (by simp) (by simp), List.forall_mem_cons.mpr ⟨P.fr hfr (by simp) (by simp), List.forall_mem_cons.mpr ⟨P.fr hfr (by simp) (by simp), List.forall_mem_cons.mpr ⟨P.fr hfr (by simp) (by simp), List.forall_mem_cons.mpr ⟨P.fr hfr (by simp) (by simp), fun _ h => absurd h List.not_mem_nil⟩⟩⟩⟩⟩⟩⟩⟩⟩⟩) (List.forall_mem_cons.mpr ⟨Nat.le_of_ble_eq_true rfl, List.forall_mem_cons.mpr ⟨Nat.le_of_ble_eq_true rfl, List.forall_mem_cons.mpr ⟨Nat.le_of_ble_eq_true rfl, List.forall_mem_cons.mpr ⟨Nat.le_of_ble_eq_true rfl, List.forall_mem_cons.mpr ⟨Nat.le_of_ble_eq_true rfl, List.forall_mem_cons.mpr ⟨Nat.le_of_ble_eq_true rfl, List.forall_mem_cons.mpr ⟨Nat.le_of_ble_eq_true rfl, List.forall_mem_cons.mpr ⟨Nat.le_of_ble_eq_true rfl, List.forall_mem_cons.mpr ⟨Nat.le_of_ble_eq_true rfl, List.forall_mem_cons.mpr ⟨Nat.le_of_ble_eq_true rfl, fun _ h => absurd h List.not_mem_nil⟩⟩⟩⟩⟩⟩⟩⟩⟩⟩) (List.mem_of_getElem? (i := 4) rfl) wi_375 wi_376 wi_116 rfl ⟨by decide, by decide, by decide +kernel⟩ ⟨Nat.le_of_ble_eq_true rfl, Nat.le_of_ble_eq_true rfl⟩ ⟨Nat.le_of_ble_eq_true rfl, Nat.le_of_ble_eq_true rfl⟩ hl.1 (Nat.le_of_ble_eq_true rfl) rfl dX9_init_62 (fun H15 locs15 E15 μ15 g15 e15 z15 y15 hI => ?_)
  have P : Pg E μ E15 μ15 [(57, i), (58, i), (40, 2 * i), (41, 2 * i), (42, 2 * i), (4, 2 * i), (40, 2 * i + 1), (41, 2 * i + 1), (42, 2 * i + 1), (4, 2 * i + 1), (36, i), (37, i), (38, i), (39, i), (3, i), (21, i), (22, i), (23, i), (24, i), (25, i), (26, i), (27, i), (28, i), (29, i), (0, i)] := P.step g15 z15
  have e1 : E15.2.1 (57, i) = q1 := (g15.2.2.2 (57, i) (by simp)).trans e1
  have e3 : E15.2.1 (58, i) = q3 := (g15.2.2.2 (58, i) (by simp)).trans e3
  have e6 : E15.2.1 (4, 2 * i) = q5 := (g15.2.2.2 (4, 2 * i) (by simp)).trans e6
  have e9 : E15.2.1 (4, 2 * i + 1) = q8 := (g15.2.2.2 (4, 2 * i + 1) (by simp)).trans e9
  have e12 : E15.2.1 (3, i) = q11 := (g15.2.2.2 (3, i) (by simp)).trans e12
  refine c_putF X hI him (C := RX9) (T := TX9) (N := 13) (k := 9) rfl inX9 tyX9 tyX9_ok nmX9 (by decide) wi_451 rfl rfl rfl rfl (by simp) dX9_init_65 (fun H16 locs16 hI => ?_)
  have hI : cI _ N0 s E15 μ15 ((a, .inr (9, [.null, .int 0, .int 0, .int 0, .ref q1, .ref q3, .ref q5, .ref q8, .ref q11, .ref q14, .null, .null, .null])) :: []) H16 locs16 := hI
  refine lv_aload_n X.1 X.2.1 dX9_init_68 rfl (lv_at hl 0 rfl) ?_
  refine lv_bipush (v := 60) X.1 X.2.1 dX9_init_69 (by decide) ?_
  refine c_newI X hI hA (59, i) (N' := 60) rfl (P.fr hfr (by simp) (by simp)) (Nat.le_of_ble_eq_true rfl) (by decide) (by decide) (Nat.le_of_ble_eq_true rfl) (Nat.le_of_ble_eq_true rfl) (Nat.le_of_ble_eq_true rfl) dX9_init_71 (fun q17 H17 E17 μ17 g17 e17 z17 y17 hI => ?_)
  have P : Pg E μ E17 μ17 [(57, i), (58, i), (40, 2 * i), (41, 2 * i), (42, 2 * i), (4, 2 * i), (40, 2 * i + 1), (41, 2 * i + 1), (42, 2 * i + 1), (4, 2 * i + 1), (36, i), (37, i), (38, i), (39, i), (3, i), (21, i), (22, i), (23, i), (24, i), (25, i), (26, i), (27, i), (28, i), (29, i), (0, i), (59, i)] := P.step g17 z17
  have e1 : E17.2.1 (57, i) = q1 := (g17.2.2.2 (57, i) (by simp)).trans e1
  have e3 : E17.2.1 (58, i) = q3 := (g17.2.2.2 (58, i) (by simp)).trans e3
  have e6 : E17.2.1 (4, 2 * i) = q5 := (g17.2.2.2 (4, 2 * i) (by simp)).trans e6
  have e9 : E17.2.1 (4, 2 * i + 1) = q8 := (g17.2.2.2 (4, 2 * i + 1) (by simp)).trans e9
  have e12 : E17.2.1 (3, i) = q11 := (g17.2.2.2 (3, i) (by simp)).trans e12
  have e15 : E17.2.1 (0, i) = q14 := (g17.2.2.2 (0, i) (by simp)).trans e15
  refine c_putF X hI him (C := RX9) (T := TX9) (N := 13) (k := 10) rfl inX9 tyX9 tyX9_ok nmX9 (by decide) wi_453 rfl rfl rfl rfl (by simp) dX9_init_73 (fun H18 locs18 hI => ?_)
  have hI : cI _ N0 s E17 μ17 ((a, .inr (9, [.null, .int 0, .int 0, .int 0, .ref q1, .ref q3, .ref q5, .ref q8, .ref q11, .ref q14, .ref q17, .null, .null])) :: []) H18 locs18 := hI
  refine lv_aload_n X.1 X.2.1 dX9_init_76 rfl (lv_at hl 0 rfl) ?_
  refine lv_bipush (v := 60) X.1 X.2.1 dX9_init_77 (by decide) ?_
  refine c_newI X hI hA (60, i) (N' := 60) rfl (P.fr hfr (by simp) (by simp)) (Nat.le_of_ble_eq_true rfl) (by decide) (by decide) (Nat.le_of_ble_eq_true rfl) (Nat.le_of_ble_eq_true rfl) (Nat.le_of_ble_eq_true rfl) dX9_init_79 (fun q19 H19 E19 μ19 g19 e19 z19 y19 hI => ?_)
  have P : Pg E μ E19 μ19 [(57, i), (58, i), (40, 2 * i), (41, 2 * i), (42, 2 * i), (4, 2 * i), (40, 2 * i + 1), (41, 2 * i + 1), (42, 2 * i + 1), (4, 2 * i + 1), (36, i), (37, i), (38, i), (39, i), (3, i), (21, i), (22, i), (23, i), (24, i), (25, i), (26, i), (27, i), (28, i), (29, i), (0, i), (59, i), (60, i)] := P.step g19 z19
  have e1 : E19.2.1 (57, i) = q1 := (g19.2.2.2 (57, i) (by simp)).trans e1
  have e3 : E19.2.1 (58, i) = q3 := (g19.2.2.2 (58, i) (by simp)).trans e3
  have e6 : E19.2.1 (4, 2 * i) = q5 := (g19.2.2.2 (4, 2 * i) (by simp)).trans e6
  have e9 : E19.2.1 (4, 2 * i + 1) = q8 := (g19.2.2.2 (4, 2 * i + 1) (by simp)).trans e9
  have e12 : E19.2.1 (3, i) = q11 := (g19.2.2.2 (3, i) (by simp)).trans e12
  have e15 : E19.2.1 (0, i) = q14 := (g19.2.2.2 (0, i) (by simp)).trans e15
  have e17 : E19.2.1 (59, i) = q17 := (g19.2.2.2 (59, i) (by simp)).trans e17
  refine c_putF X hI him (C := RX9) (T := TX9) (N := 13) (k := 11) rfl inX9 tyX9 tyX9_ok nmX9 (by decide) wi_455 rfl rfl rfl rfl (by simp) dX9_init_81 (fun H20 locs20 hI => ?_)
  have hI : cI _ N0 s E19 μ19 ((a, .inr (9, [.null, .int 0, .int 0, .int 0, .ref q1, .ref q3, .ref q5, .ref q8, .ref q11, .ref q14, .ref q17, .ref q19, .null])) :: []) H20 locs20 := hI
  refine lv_aload_n X.1 X.2.1 dX9_init_84 rfl (lv_at hl 0 rfl) ?_
  refine lv_bipush (v := 60) X.1 X.2.1 dX9_init_85 (by decide) ?_
  refine c_newI X hI hA (61, i) (N' := 60) rfl (P.fr hfr (by simp) (by simp)) (Nat.le_of_ble_eq_true rfl) (by decide) (by decide) (Nat.le_of_ble_eq_true rfl) (Nat.le_of_ble_eq_true rfl) (Nat.le_of_ble_eq_true rfl) dX9_init_87 (fun q21 H21 E21 μ21 g21 e21 z21 y21 hI => ?_)
  have P : Pg E μ E21 μ21 [(57, i), (58, i), (40, 2 * i), (41, 2 * i), (42, 2 * i), (4, 2 * i), (40, 2 * i + 1), (41, 2 * i + 1), (42, 2 * i + 1), (4, 2 * i + 1), (36, i), (37, i), (38, i), (39, i), (3, i), (21, i), (22, i), (23, i), (24, i), (25, i), (26, i), (27, i), (28, i), (29, i), (0, i), (59, i), (60, i), (61, i)] := P.step g21 z21
  have e1 : E21.2.1 (57, i) = q1 := (g21.2.2.2 (57, i) (by simp)).trans e1
  have e3 : E21.2.1 (58, i) = q3 := (g21.2.2.2 (58, i) (by simp)).trans e3
  have e6 : E21.2.1 (4, 2 * i) = q5 := (g21.2.2.2 (4, 2 * i) (by simp)).trans e6
  have e9 : E21.2.1 (4, 2 * i + 1) = q8 := (g21.2.2.2 (4, 2 * i + 1) (by simp)).trans e9
  have e12 : E21.2.1 (3, i) = q11 := (g21.2.2.2 (3, i) (by simp)).trans e12
  have e15 : E21.2.1 (0, i) = q14 := (g21.2.2.2 (0, i) (by simp)).trans e15
  have e17 : E21.2.1 (59, i) = q17 := (g21.2.2.2 (59, i) (by simp)).trans e17
  have e19 : E21.2.1 (60, i) = q19 := (g21.2.2.2 (60, i) (by simp)).trans e19
  refine c_putF X hI him (C := RX9) (T := TX9) (N := 13) (k := 12) rfl inX9 tyX9 tyX9_ok nmX9 (by decide) wi_456 rfl rfl rfl rfl (by simp) dX9_init_89 (fun H22 locs22 hI => ?_)
  have hI : cI _ N0 s E21 μ21 ((a, .inr (9, [.null, .int 0, .int 0, .int 0, .ref q1, .ref q3, .ref q5, .ref q8, .ref q11, .ref q14, .ref q17, .ref q19, .ref q21])) :: []) H22 locs22 := hI
  obtain ⟨E23, g23, e23, hI⟩ := hI.fin (μ' := zz (9, i) μ21) (i := i) (P.fr hfr (by simp) (by simp)) (by decide) rfl (List.forall_mem_cons.mpr ⟨fc_M (P.inE (hok.1)) (P.inE (hok.2)), List.forall_mem_cons.mpr ⟨fc_I, List.forall_mem_cons.mpr ⟨fc_I, List.forall_mem_cons.mpr ⟨fc_I, List.forall_mem_cons.mpr ⟨fc_R (P.in (by simp)), List.forall_mem_cons.mpr ⟨fc_R (P.in (by simp)), List.forall_mem_cons.mpr ⟨fc_R (P.in (by simp)), List.forall_mem_cons.mpr ⟨fc_R (P.in (by simp)), List.forall_mem_cons.mpr ⟨fc_R (P.in (by simp)), List.forall_mem_cons.mpr ⟨fc_R (P.in (by simp)), List.forall_mem_cons.mpr ⟨fc_R (P.in (by simp)), List.forall_mem_cons.mpr ⟨fc_R (P.in (by simp)), List.forall_mem_cons.mpr ⟨fc_R (P.in (by simp)), fun _ h => absurd h List.not_mem_nil⟩⟩⟩⟩⟩⟩⟩⟩⟩⟩⟩⟩⟩) (fun h' z => zz_ag (fun e => P.fr hfr (h := (9, i)) (by simp) (by simp) (by rw [← e]; exact z))) (fun E' hE' => zl (zmr_nullz) (zl (congrArg Value.int (zz_i _ _ _)) (zl (congrArg Value.int (zz_i _ _ _)) (zl (congrArg Value.int (zz_i _ _ _)) (zl (congrArg Value.ref ((hE' (57, i) (by simp)).trans e1)) (zl (congrArg Value.ref ((hE' (58, i) (by simp)).trans e3)) (zl (congrArg Value.ref ((hE' (4, 2 * i) (by simp)).trans e6)) (zl (congrArg Value.ref ((hE' (4, 2 * i + 1) (by simp)).trans e9)) (zl (congrArg Value.ref ((hE' (3, i) (by simp)).trans e12)) (zl (congrArg Value.ref ((hE' (0, i) (by simp)).trans e15)) (zl (congrArg Value.ref ((hE' (59, i) (by simp)).trans e17)) (zl (congrArg Value.ref ((hE' (60, i) (by simp)).trans e19)) (zl (congrArg Value.ref ((hE' (61, i) (by simp)).trans e21)) (rfl))))))))))))))
  have zq : ∀ h ∈ E21.2.2.1, zag μ21 (zz (9, i) μ21) h := fun h' z => zz_ag (fun e => P.fr hfr (h := (9, i)) (by simp) (by simp) (by rw [← e]; exact z))
  have P : Pg E μ E23 (zz (9, i) μ21) [(57, i), (58, i), (40, 2 * i), (41, 2 * i), (42, 2 * i), (4, 2 * i), (40, 2 * i + 1), (41, 2 * i + 1), (42, 2 * i + 1), (4, 2 * i + 1), (36, i), (37, i), (38, i), (39, i), (3, i), (21, i), (22, i), (23, i), (24, i), (25, i), (26, i), (27, i), (28, i), (29, i), (0, i), (59, i), (60, i), (61, i), (9, i)] := P.step g23 zq
  have e1 : E23.2.1 (57, i) = q1 := (g23.2.2.2 (57, i) (by simp)).trans e1
  have e3 : E23.2.1 (58, i) = q3 := (g23.2.2.2 (58, i) (by simp)).trans e3
  have e6 : E23.2.1 (4, 2 * i) = q5 := (g23.2.2.2 (4, 2 * i) (by simp)).trans e6
  have e9 : E23.2.1 (4, 2 * i + 1) = q8 := (g23.2.2.2 (4, 2 * i + 1) (by simp)).trans e9
  have e12 : E23.2.1 (3, i) = q11 := (g23.2.2.2 (3, i) (by simp)).trans e12
  have e15 : E23.2.1 (0, i) = q14 := (g23.2.2.2 (0, i) (by simp)).trans e15
  have e17 : E23.2.1 (59, i) = q17 := (g23.2.2.2 (59, i) (by simp)).trans e17
  have e19 : E23.2.1 (60, i) = q19 := (g23.2.2.2 (60, i) (by simp)).trans e19
  have e21 : E23.2.1 (61, i) = q21 := (g23.2.2.2 (61, i) (by simp)).trans e21
  refine lv_aload_n X.1 X.2.1 dX9_init_92 rfl (lv_at hl 0 rfl) ?_
  refine lv_aload_n X.1 X.2.1 dX9_init_93 rfl (lv_at hl 1 rfl) ?_
  obtain ⟨μc, c1, c2, c3, c4, c5⟩ := X_beginG i 0 ((zz (9, i) μ21)) (by decide)
  have e5 : E23.2.1 (5, 0) = E.2.1 (5, 0) := P.1.2.2.2 (5, 0) (by simp)
  refine W.eq (g2 := F0 m 94 ls ((([.inr (.inr (5, 0))] : List zV).map (zval E23)).reverse ++ Value.ref (E23.2.1 (9, i)) :: [])) (by
    show _ = F0 m 94 ls [if (5 : Nat) = 77 then E23.2.2.2.2 else Value.ref (E23.2.1 (5, 0)), Value.ref (E23.2.1 (9, i))]
    rw [e5, e23]
    rfl) ?_
  refine c_callV (kc := 9) (C := RX9) (T := TX9) (N := 13) X hI hN kX9_begin qX9_init wj_begin wd_423 wd_424 rfl c1 rfl (P.in (by simp)) (fun v hv => by rw [List.mem_singleton.mp hv]; exact Or.inl (P.inE hok.1)) rfl (Nat.le_of_ble_eq_true rfl) hl.1 ⟨Nat.le_of_ble_eq_true rfl, Nat.le_of_ble_eq_true rfl⟩ dX9_init_94 (fun Hc locsc hI => ?_)
  have zc : ∀ h ∈ E.2.2.1, zag ((zz (9, i) μ21)) μc h := fun h z => by
    have n1 : ∀ h' ∈ [(57, i), (58, i), (40, 2 * i), (41, 2 * i), (42, 2 * i), (4, 2 * i), (40, 2 * i + 1), (41, 2 * i + 1), (42, 2 * i + 1), (4, 2 * i + 1), (36, i), (37, i), (38, i), (39, i), (3, i), (21, i), (22, i), (23, i), (24, i), (25, i), (26, i), (27, i), (28, i), (29, i), (0, i), (59, i), (60, i), (61, i), (9, i)], h ≠ h' := fun h' m e => hfr h' m (by rw [← e]; exact z)
    have n2 : ¬ isW i h.1 h.2 := fun m => n1 h (hX9_in m) rfl
    have n9 : h ≠ (9, i) := n1 (9, i) (by simp)
    exact ⟨funext fun n => c5 _ _ _ n2, by rw [c3]; exact zupN_ne n9, by rw [c4]⟩
  refine W.widen (k := rX9_init.cells) (n := rX9_init.slots) (Nat.le_of_ble_eq_true rfl) (Nat.le_of_ble_eq_true rfl) ?_
  exact c_ret X hr hlocks hI P.1 e23 (fun h z => (P.2 h z).trans (zc h z)) (fun h0 => ⟨c2 h0, by rw [c3, h0]; rfl⟩) dX9_init_97
