/-! ===== constructors that only make rows (printed) ===== -/
theorem fc_I {L : List zH} : (fI.1 = 2 → fI.2 ∈ L) ∧ (fI.1 = 3 → ∀ j, j < 2 → (fI.2.1, j) ∈ L) := ⟨fun z => absurd z (show ¬ (0 : Nat) = 2 by decide), fun z => absurd z (show ¬ (0 : Nat) = 3 by decide)⟩
theorem fc_L {L : List zH} : (fL.1 = 2 → fL.2 ∈ L) ∧ (fL.1 = 3 → ∀ j, j < 2 → (fL.2.1, j) ∈ L) := ⟨fun z => absurd z (show ¬ (1 : Nat) = 2 by decide), fun z => absurd z (show ¬ (1 : Nat) = 3 by decide)⟩
theorem fc_Z {L : List zH} : (fZ.1 = 2 → fZ.2 ∈ L) ∧ (fZ.1 = 3 → ∀ j, j < 2 → (fZ.2.1, j) ∈ L) := ⟨fun z => absurd z (show ¬ (4 : Nat) = 2 by decide), fun z => absurd z (show ¬ (4 : Nat) = 3 by decide)⟩
theorem fc_R {L : List zH} {k i : Nat} (h : (k, i) ∈ L) : ((fR k i).1 = 2 → (fR k i).2 ∈ L) ∧ ((fR k i).1 = 3 → ∀ j, j < 2 → ((fR k i).2.1, j) ∈ L) := ⟨fun _ => h, fun z => absurd z (show ¬ (2 : Nat) = 3 by decide)⟩
theorem fc_M {L : List zH} {k : Nat} (h0 : (k, 0) ∈ L) (h1 : (k, 1) ∈ L) : ((fM k).1 = 2 → (fM k).2 ∈ L) ∧ ((fM k).1 = 3 → ∀ j, j < 2 → ((fM k).2.1, j) ∈ L) := ⟨fun z => absurd z (show ¬ (3 : Nat) = 2 by decide), fun _ j hj => by
  rcases (by omega : j = 0 ∨ j = 1) with z | z
  · rw [z]; exact h0
  · rw [z]; exact h1⟩
theorem zz_i (h : zH) (μ : zM) (n : Nat) : (zz h μ).1 h.1 h.2 n = 0 := congrFun (zz_0 h μ).1 n
theorem zz_l (h : zH) (μ : zM) (n : Nat) : (zz h μ).2.2 h.1 h.2 n = 0 := congrFun (zz_0 h μ).2.2 n
theorem zl {a b : Value} {l l' : List Value} (h : a = b) (t : l = l') : a :: l = b :: l' := by rw [h, t]
theorem zmr_nullz {E : zE} {μ : zM} {h : zH} {k n : Nat} : zmr E k ((zz h μ).2.1 h.1 h.2 n) = .null := by
  unfold zmr
  rw [(zz_0 h μ).2.1]
  rfl
theorem Pg.inE {E0 E : zE} {μ0 μ : zM} {hs : List zH} (P : Pg E0 μ0 E μ hs) {h : zH} (h1 : h ∈ E0.2.2.1) : h ∈ E.2.2.1 := by
  rw [P.1.2.2.1]
  exact List.mem_append_left _ h1
def rX7_init : Room := { frames := 1, cells := 1, slots := 900, locals := 12 }
set_option maxRecDepth 20000 in
theorem kX7_init : Kon yX7_init cX7_init 1 rX7_init 7 0 [.null, .int 0, .int 0, .int 0, .int 0] [(55, 0), (7, 0)] (fun _ => True) (fun _ => []) (fun μ => μ.1 7 0 1 = 0) := by
  refine kon_of (by decide) rfl ?_
  intro p l e s m args below meth c E μ N0 a X him hr hlocks hok hfr hN0 hN hA hI hargs
  subst hargs
  have hl := lv_entry ([.ref a]) (n := 1) (Nat.le_of_ble_eq_true rfl)
  show W p l e _ s m _ below meth c s.heap [] 0 0 _ (entryFrame m ([.ref a] : List Value).toArray 1)
  rw [lg_entry_eq]
  generalize (lg_sl ([.ref a]) ++ List.replicate (1 - (lg_sl ([.ref a])).length) Slot.unset).toArray = ls at hl ⊢
  have hl : lv_has ls 1 [(0, .ref a)] := hl
  have P := Pg.rf (E := E) (μ := μ)
  refine lv_aload_n X.1 X.2.1 dX7_init_0 rfl (lv_at hl 0 rfl) ?_
  refine W.objInit X.1 X.2.1 X.2.2.2.1 (X.2.2.2.2 _ wi_137) (X.2.2.2.2 _ wi_130) (X.2.2.2.2 _ wi_131) rfl (by rw [X.2.2.1]; exact hl.1) rfl dX7_init_1 (Nat.le_of_ble_eq_true rfl) (Nat.le_of_ble_eq_true rfl) ?_
  refine W.eq (g2 := F0 m 4 ls []) rfl ?_
  refine lv_aload_n X.1 X.2.1 dX7_init_4 rfl (lv_at hl 0 rfl) ?_
  refine lv_sipush (v := 900) X.1 X.2.1 dX7_init_5 (by decide) ?_
  refine c_newB X hI hA (55, 0) (N' := 900) rfl (P.fr hfr (by simp) (by simp)) (Nat.le_of_ble_eq_true rfl) (by decide) (by decide) (Nat.le_of_ble_eq_true rfl) (Nat.le_of_ble_eq_true rfl) (Nat.le_of_ble_eq_true rfl) dX7_init_8 (fun q1 H1 E1 μ1 g1 e1 z1 y1 hI => ?_)
  have P : Pg E μ E1 μ1 [(55, 0)] := P.step g1 z1
  refine c_putF X hI him (C := RX7) (T := TX7) (N := 5) (k := 0) rfl inX7 tyX7 tyX7_ok nmX7 (by decide) wi_138 rfl rfl rfl rfl (by simp) dX7_init_10 (fun H2 locs2 hI => ?_)
  have hI : cI _ N0 s E1 μ1 ((a, .inr (7, [.ref q1, .int 0, .int 0, .int 0, .int 0])) :: []) H2 locs2 := hI
  obtain ⟨E3, g3, e3, hI⟩ := hI.fin (μ' := zz (7, 0) μ1) (i := 0) (P.fr hfr (by simp) (by simp)) (by decide) rfl (List.forall_mem_cons.mpr ⟨fc_R (P.in (by simp)), List.forall_mem_cons.mpr ⟨fc_I, List.forall_mem_cons.mpr ⟨fc_I, List.forall_mem_cons.mpr ⟨fc_I, List.forall_mem_cons.mpr ⟨fc_I, fun _ h => absurd h List.not_mem_nil⟩⟩⟩⟩⟩) (fun h' z => zz_ag (fun e => P.fr hfr (h := (7, 0)) (by simp) (by simp) (by rw [← e]; exact z))) (fun E' hE' => zl (congrArg Value.ref ((hE' (55, 0) (by simp)).trans e1)) (zl (congrArg Value.int (zz_i _ _ _)) (zl (congrArg Value.int (zz_i _ _ _)) (zl (congrArg Value.int (zz_i _ _ _)) (zl (congrArg Value.int (zz_i _ _ _)) (rfl))))))
  have zq : ∀ h ∈ E1.2.2.1, zag μ1 (zz (7, 0) μ1) h := fun h' z => zz_ag (fun e => P.fr hfr (h := (7, 0)) (by simp) (by simp) (by rw [← e]; exact z))
  have P : Pg E μ E3 (zz (7, 0) μ1) [(55, 0), (7, 0)] := P.step g3 zq
  have e1 : E3.2.1 (55, 0) = q1 := (g3.2.2.2 (55, 0) (by simp)).trans e1
  refine W.widen (k := rX7_init.cells) (n := rX7_init.slots) (Nat.le_of_ble_eq_true rfl) (Nat.le_of_ble_eq_true rfl) ?_
  exact c_ret X hr hlocks hI P.1 e3 P.2 (zz_i (7, 0) _ 1) dX7_init_13
def rX8_init : Room := { frames := 1, cells := 1, slots := 1024, locals := 12 }
set_option maxRecDepth 20000 in
theorem kX8_init : Kon yX8_init cX8_init 1 rX8_init 8 0 [.null, .int 0] [(56, 0), (8, 0)] (fun _ => True) (fun _ => []) (fun _ => True) := by
  refine kon_of (by decide) rfl ?_
  intro p l e s m args below meth c E μ N0 a X him hr hlocks hok hfr hN0 hN hA hI hargs
  subst hargs
  have hl := lv_entry ([.ref a]) (n := 1) (Nat.le_of_ble_eq_true rfl)
  show W p l e _ s m _ below meth c s.heap [] 0 0 _ (entryFrame m ([.ref a] : List Value).toArray 1)
  rw [lg_entry_eq]
  generalize (lg_sl ([.ref a]) ++ List.replicate (1 - (lg_sl ([.ref a])).length) Slot.unset).toArray = ls at hl ⊢
  have hl : lv_has ls 1 [(0, .ref a)] := hl
  have P := Pg.rf (E := E) (μ := μ)
  refine lv_aload_n X.1 X.2.1 dX8_init_0 rfl (lv_at hl 0 rfl) ?_
  refine W.objInit X.1 X.2.1 X.2.2.2.1 (X.2.2.2.2 _ wi_177) (X.2.2.2.2 _ wi_130) (X.2.2.2.2 _ wi_131) rfl (by rw [X.2.2.1]; exact hl.1) rfl dX8_init_1 (Nat.le_of_ble_eq_true rfl) (Nat.le_of_ble_eq_true rfl) ?_
  refine W.eq (g2 := F0 m 4 ls []) rfl ?_
  refine lv_aload_n X.1 X.2.1 dX8_init_4 rfl (lv_at hl 0 rfl) ?_
  refine lv_sipush (v := 1024) X.1 X.2.1 dX8_init_5 (by decide) ?_
  refine c_newB X hI hA (56, 0) (N' := 1024) rfl (P.fr hfr (by simp) (by simp)) (Nat.le_of_ble_eq_true rfl) (by decide) (by decide) (Nat.le_of_ble_eq_true rfl) (Nat.le_of_ble_eq_true rfl) (Nat.le_of_ble_eq_true rfl) dX8_init_8 (fun q1 H1 E1 μ1 g1 e1 z1 y1 hI => ?_)
  have P : Pg E μ E1 μ1 [(56, 0)] := P.step g1 z1
  refine c_putF X hI him (C := RX8) (T := TX8) (N := 2) (k := 0) rfl inX8 tyX8 tyX8_ok nmX8 (by decide) wi_178 rfl rfl rfl rfl (by simp) dX8_init_10 (fun H2 locs2 hI => ?_)
  have hI : cI _ N0 s E1 μ1 ((a, .inr (8, [.ref q1, .int 0])) :: []) H2 locs2 := hI
  obtain ⟨E3, g3, e3, hI⟩ := hI.fin (μ' := zz (8, 0) μ1) (i := 0) (P.fr hfr (by simp) (by simp)) (by decide) rfl (List.forall_mem_cons.mpr ⟨fc_R (P.in (by simp)), List.forall_mem_cons.mpr ⟨fc_I, fun _ h => absurd h List.not_mem_nil⟩⟩) (fun h' z => zz_ag (fun e => P.fr hfr (h := (8, 0)) (by simp) (by simp) (by rw [← e]; exact z))) (fun E' hE' => zl (congrArg Value.ref ((hE' (56, 0) (by simp)).trans e1)) (zl (congrArg Value.int (zz_i _ _ _)) (rfl)))
  have zq : ∀ h ∈ E1.2.2.1, zag μ1 (zz (8, 0) μ1) h := fun h' z => zz_ag (fun e => P.fr hfr (h := (8, 0)) (by simp) (by simp) (by rw [← e]; exact z))
  have P : Pg E μ E3 (zz (8, 0) μ1) [(56, 0), (8, 0)] := P.step g3 zq
  have e1 : E3.2.1 (56, 0) = q1 := (g3.2.2.2 (56, 0) (by simp)).trans e1
  refine W.widen (k := rX8_init.cells) (n := rX8_init.slots) (Nat.le_of_ble_eq_true rfl) (Nat.le_of_ble_eq_true rfl) ?_
  exact c_ret X hr hlocks hI P.1 e3 P.2 (trivial) dX8_init_13
def rX1_init : Room := { frames := 1, cells := 4, slots := 40, locals := 12 }
set_option maxRecDepth 20000 in
theorem kX1_init (i : Nat) : Kon yX1_init cX1_init 1 rX1_init 1 i [.int 0, .null, .null, .null, .null] [(31, i), (32, i), (33, i), (34, i), (1, i)] (fun _ => True) (fun _ => []) (fun _ => True) := by
  refine kon_of (by decide) rfl ?_
  intro p l e s m args below meth c E μ N0 a X him hr hlocks hok hfr hN0 hN hA hI hargs
  subst hargs
  have hl := lv_entry ([.ref a]) (n := 1) (Nat.le_of_ble_eq_true rfl)
  show W p l e _ s m _ below meth c s.heap [] 0 0 _ (entryFrame m ([.ref a] : List Value).toArray 1)
  rw [lg_entry_eq]
  generalize (lg_sl ([.ref a]) ++ List.replicate (1 - (lg_sl ([.ref a])).length) Slot.unset).toArray = ls at hl ⊢
  have hl : lv_has ls 1 [(0, .ref a)] := hl
  have P := Pg.rf (E := E) (μ := μ)
  refine lv_aload_n X.1 X.2.1 dX1_init_0 rfl (lv_at hl 0 rfl) ?_
  refine W.objInit X.1 X.2.1 X.2.2.2.1 (X.2.2.2.2 _ wi_199) (X.2.2.2.2 _ wi_130) (X.2.2.2.2 _ wi_131) rfl (by rw [X.2.2.1]; exact hl.1) rfl dX1_init_1 (Nat.le_of_ble_eq_true rfl) (Nat.le_of_ble_eq_true rfl) ?_
  refine W.eq (g2 := F0 m 4 ls []) rfl ?_
  refine lv_aload_n X.1 X.2.1 dX1_init_4 rfl (lv_at hl 0 rfl) ?_
  refine lv_bipush (v := 10) X.1 X.2.1 dX1_init_5 (by decide) ?_
  refine c_newI X hI hA (31, i) (N' := 10) rfl (P.fr hfr (by simp) (by simp)) (Nat.le_of_ble_eq_true rfl) (by decide) (by decide) (Nat.le_of_ble_eq_true rfl) (Nat.le_of_ble_eq_true rfl) (Nat.le_of_ble_eq_true rfl) dX1_init_7 (fun q1 H1 E1 μ1 g1 e1 z1 y1 hI => ?_)
  have P : Pg E μ E1 μ1 [(31, i)] := P.step g1 z1
  refine c_putF X hI him (C := RX1) (T := TX1) (N := 5) (k := 1) rfl inX1 tyX1 tyX1_ok nmX1 (by decide) wi_204 rfl rfl rfl rfl (by simp) dX1_init_9 (fun H2 locs2 hI => ?_)
  have hI : cI _ N0 s E1 μ1 ((a, .inr (1, [.int 0, .ref q1, .null, .null, .null])) :: []) H2 locs2 := hI
  refine lv_aload_n X.1 X.2.1 dX1_init_12 rfl (lv_at hl 0 rfl) ?_
  refine lv_bipush (v := 10) X.1 X.2.1 dX1_init_13 (by decide) ?_
  refine c_newI X hI hA (32, i) (N' := 10) rfl (P.fr hfr (by simp) (by simp)) (Nat.le_of_ble_eq_true rfl) (by decide) (by decide) (Nat.le_of_ble_eq_true rfl) (Nat.le_of_ble_eq_true rfl) (Nat.le_of_ble_eq_true rfl) dX1_init_15 (fun q3 H3 E3 μ3 g3 e3 z3 y3 hI => ?_)
  have P : Pg E μ E3 μ3 [(31, i), (32, i)] := P.step g3 z3
  have e1 : E3.2.1 (31, i) = q1 := (g3.2.2.2 (31, i) (by simp)).trans e1
  refine c_putF X hI him (C := RX1) (T := TX1) (N := 5) (k := 2) rfl inX1 tyX1 tyX1_ok nmX1 (by decide) wi_207 rfl rfl rfl rfl (by simp) dX1_init_17 (fun H4 locs4 hI => ?_)
  have hI : cI _ N0 s E3 μ3 ((a, .inr (1, [.int 0, .ref q1, .ref q3, .null, .null])) :: []) H4 locs4 := hI
  refine lv_aload_n X.1 X.2.1 dX1_init_20 rfl (lv_at hl 0 rfl) ?_
  refine lv_bipush (v := 10) X.1 X.2.1 dX1_init_21 (by decide) ?_
  refine c_newI X hI hA (33, i) (N' := 10) rfl (P.fr hfr (by simp) (by simp)) (Nat.le_of_ble_eq_true rfl) (by decide) (by decide) (Nat.le_of_ble_eq_true rfl) (Nat.le_of_ble_eq_true rfl) (Nat.le_of_ble_eq_true rfl) dX1_init_23 (fun q5 H5 E5 μ5 g5 e5 z5 y5 hI => ?_)
  have P : Pg E μ E5 μ5 [(31, i), (32, i), (33, i)] := P.step g5 z5
  have e1 : E5.2.1 (31, i) = q1 := (g5.2.2.2 (31, i) (by simp)).trans e1
  have e3 : E5.2.1 (32, i) = q3 := (g5.2.2.2 (32, i) (by simp)).trans e3
  refine c_putF X hI him (C := RX1) (T := TX1) (N := 5) (k := 3) rfl inX1 tyX1 tyX1_ok nmX1 (by decide) wi_211 rfl rfl rfl rfl (by simp) dX1_init_25 (fun H6 locs6 hI => ?_)
  have hI : cI _ N0 s E5 μ5 ((a, .inr (1, [.int 0, .ref q1, .ref q3, .ref q5, .null])) :: []) H6 locs6 := hI
  refine lv_aload_n X.1 X.2.1 dX1_init_28 rfl (lv_at hl 0 rfl) ?_
  refine lv_bipush (v := 10) X.1 X.2.1 dX1_init_29 (by decide) ?_
  refine c_newI X hI hA (34, i) (N' := 10) rfl (P.fr hfr (by simp) (by simp)) (Nat.le_of_ble_eq_true rfl) (by decide) (by decide) (Nat.le_of_ble_eq_true rfl) (Nat.le_of_ble_eq_true rfl) (Nat.le_of_ble_eq_true rfl) dX1_init_31 (fun q7 H7 E7 μ7 g7 e7 z7 y7 hI => ?_)
  have P : Pg E μ E7 μ7 [(31, i), (32, i), (33, i), (34, i)] := P.step g7 z7
  have e1 : E7.2.1 (31, i) = q1 := (g7.2.2.2 (31, i) (by simp)).trans e1
  have e3 : E7.2.1 (32, i) = q3 := (g7.2.2.2 (32, i) (by simp)).trans e3
  have e5 : E7.2.1 (33, i) = q5 := (g7.2.2.2 (33, i) (by simp)).trans e5
  refine c_putF X hI him (C := RX1) (T := TX1) (N := 5) (k := 4) rfl inX1 tyX1 tyX1_ok nmX1 (by decide) wi_215 rfl rfl rfl rfl (by simp) dX1_init_33 (fun H8 locs8 hI => ?_)
  have hI : cI _ N0 s E7 μ7 ((a, .inr (1, [.int 0, .ref q1, .ref q3, .ref q5, .ref q7])) :: []) H8 locs8 := hI
  obtain ⟨E9, g9, e9, hI⟩ := hI.fin (μ' := zz (1, i) μ7) (i := i) (P.fr hfr (by simp) (by simp)) (by decide) rfl (List.forall_mem_cons.mpr ⟨fc_I, List.forall_mem_cons.mpr ⟨fc_R (P.in (by simp)), List.forall_mem_cons.mpr ⟨fc_R (P.in (by simp)), List.forall_mem_cons.mpr ⟨fc_R (P.in (by simp)), List.forall_mem_cons.mpr ⟨fc_R (P.in (by simp)), fun _ h => absurd h List.not_mem_nil⟩⟩⟩⟩⟩) (fun h' z => zz_ag (fun e => P.fr hfr (h := (1, i)) (by simp) (by simp) (by rw [← e]; exact z))) (fun E' hE' => zl (congrArg Value.int (zz_i _ _ _)) (zl (congrArg Value.ref ((hE' (31, i) (by simp)).trans e1)) (zl (congrArg Value.ref ((hE' (32, i) (by simp)).trans e3)) (zl (congrArg Value.ref ((hE' (33, i) (by simp)).trans e5)) (zl (congrArg Value.ref ((hE' (34, i) (by simp)).trans e7)) (rfl))))))
  have zq : ∀ h ∈ E7.2.2.1, zag μ7 (zz (1, i) μ7) h := fun h' z => zz_ag (fun e => P.fr hfr (h := (1, i)) (by simp) (by simp) (by rw [← e]; exact z))
  have P : Pg E μ E9 (zz (1, i) μ7) [(31, i), (32, i), (33, i), (34, i), (1, i)] := P.step g9 zq
  have e1 : E9.2.1 (31, i) = q1 := (g9.2.2.2 (31, i) (by simp)).trans e1
  have e3 : E9.2.1 (32, i) = q3 := (g9.2.2.2 (32, i) (by simp)).trans e3
  have e5 : E9.2.1 (33, i) = q5 := (g9.2.2.2 (33, i) (by simp)).trans e5
  have e7 : E9.2.1 (34, i) = q7 := (g9.2.2.2 (34, i) (by simp)).trans e7
  refine W.widen (k := rX1_init.cells) (n := rX1_init.slots) (Nat.le_of_ble_eq_true rfl) (Nat.le_of_ble_eq_true rfl) ?_
  exact c_ret X hr hlocks hI P.1 e9 P.2 (trivial) dX1_init_36
def rX3_init : Room := { frames := 1, cells := 4, slots := 280, locals := 12 }
set_option maxRecDepth 20000 in
theorem kX3_init (i : Nat) : Kon yX3_init cX3_init 1 rX3_init 3 i [.null, .null, .null, .null] [(36, i), (37, i), (38, i), (39, i), (3, i)] (fun _ => True) (fun _ => []) (fun _ => True) := by
  refine kon_of (by decide) rfl ?_
  intro p l e s m args below meth c E μ N0 a X him hr hlocks hok hfr hN0 hN hA hI hargs
  subst hargs
  have hl := lv_entry ([.ref a]) (n := 1) (Nat.le_of_ble_eq_true rfl)
  show W p l e _ s m _ below meth c s.heap [] 0 0 _ (entryFrame m ([.ref a] : List Value).toArray 1)
  rw [lg_entry_eq]
  generalize (lg_sl ([.ref a]) ++ List.replicate (1 - (lg_sl ([.ref a])).length) Slot.unset).toArray = ls at hl ⊢
  have hl : lv_has ls 1 [(0, .ref a)] := hl
  have P := Pg.rf (E := E) (μ := μ)
  refine lv_aload_n X.1 X.2.1 dX3_init_0 rfl (lv_at hl 0 rfl) ?_
  refine W.objInit X.1 X.2.1 X.2.2.2.1 (X.2.2.2.2 _ wi_354) (X.2.2.2.2 _ wi_130) (X.2.2.2.2 _ wi_131) rfl (by rw [X.2.2.1]; exact hl.1) rfl dX3_init_1 (Nat.le_of_ble_eq_true rfl) (Nat.le_of_ble_eq_true rfl) ?_
  refine W.eq (g2 := F0 m 4 ls []) rfl ?_
  refine lv_aload_n X.1 X.2.1 dX3_init_4 rfl (lv_at hl 0 rfl) ?_
  refine lv_bipush (v := 60) X.1 X.2.1 dX3_init_5 (by decide) ?_
  refine c_newI X hI hA (36, i) (N' := 60) rfl (P.fr hfr (by simp) (by simp)) (Nat.le_of_ble_eq_true rfl) (by decide) (by decide) (Nat.le_of_ble_eq_true rfl) (Nat.le_of_ble_eq_true rfl) (Nat.le_of_ble_eq_true rfl) dX3_init_7 (fun q1 H1 E1 μ1 g1 e1 z1 y1 hI => ?_)
  have P : Pg E μ E1 μ1 [(36, i)] := P.step g1 z1
  refine c_putF X hI him (C := RX3) (T := TX3) (N := 4) (k := 0) rfl inX3 tyX3 tyX3_ok nmX3 (by decide) wi_355 rfl rfl rfl rfl (by simp) dX3_init_9 (fun H2 locs2 hI => ?_)
  have hI : cI _ N0 s E1 μ1 ((a, .inr (3, [.ref q1, .null, .null, .null])) :: []) H2 locs2 := hI
  refine lv_aload_n X.1 X.2.1 dX3_init_12 rfl (lv_at hl 0 rfl) ?_
  refine lv_bipush (v := 60) X.1 X.2.1 dX3_init_13 (by decide) ?_
  refine c_newI X hI hA (37, i) (N' := 60) rfl (P.fr hfr (by simp) (by simp)) (Nat.le_of_ble_eq_true rfl) (by decide) (by decide) (Nat.le_of_ble_eq_true rfl) (Nat.le_of_ble_eq_true rfl) (Nat.le_of_ble_eq_true rfl) dX3_init_15 (fun q3 H3 E3 μ3 g3 e3 z3 y3 hI => ?_)
  have P : Pg E μ E3 μ3 [(36, i), (37, i)] := P.step g3 z3
  have e1 : E3.2.1 (36, i) = q1 := (g3.2.2.2 (36, i) (by simp)).trans e1
  refine c_putF X hI him (C := RX3) (T := TX3) (N := 4) (k := 1) rfl inX3 tyX3 tyX3_ok nmX3 (by decide) wi_357 rfl rfl rfl rfl (by simp) dX3_init_17 (fun H4 locs4 hI => ?_)
  have hI : cI _ N0 s E3 μ3 ((a, .inr (3, [.ref q1, .ref q3, .null, .null])) :: []) H4 locs4 := hI
  refine lv_aload_n X.1 X.2.1 dX3_init_20 rfl (lv_at hl 0 rfl) ?_
  refine lv_bipush (v := 60) X.1 X.2.1 dX3_init_21 (by decide) ?_
  refine c_newI X hI hA (38, i) (N' := 60) rfl (P.fr hfr (by simp) (by simp)) (Nat.le_of_ble_eq_true rfl) (by decide) (by decide) (Nat.le_of_ble_eq_true rfl) (Nat.le_of_ble_eq_true rfl) (Nat.le_of_ble_eq_true rfl) dX3_init_23 (fun q5 H5 E5 μ5 g5 e5 z5 y5 hI => ?_)
  have P : Pg E μ E5 μ5 [(36, i), (37, i), (38, i)] := P.step g5 z5
  have e1 : E5.2.1 (36, i) = q1 := (g5.2.2.2 (36, i) (by simp)).trans e1
  have e3 : E5.2.1 (37, i) = q3 := (g5.2.2.2 (37, i) (by simp)).trans e3
  refine c_putF X hI him (C := RX3) (T := TX3) (N := 4) (k := 2) rfl inX3 tyX3 tyX3_ok nmX3 (by decide) wi_358 rfl rfl rfl rfl (by simp) dX3_init_25 (fun H6 locs6 hI => ?_)
  have hI : cI _ N0 s E5 μ5 ((a, .inr (3, [.ref q1, .ref q3, .ref q5, .null])) :: []) H6 locs6 := hI
  refine lv_aload_n X.1 X.2.1 dX3_init_28 rfl (lv_at hl 0 rfl) ?_
  refine lv_bipush (v := 100) X.1 X.2.1 dX3_init_29 (by decide) ?_
  refine c_newI X hI hA (39, i) (N' := 100) rfl (P.fr hfr (by simp) (by simp)) (Nat.le_of_ble_eq_true rfl) (by decide) (by decide) (Nat.le_of_ble_eq_true rfl) (Nat.le_of_ble_eq_true rfl) (Nat.le_of_ble_eq_true rfl) dX3_init_31 (fun q7 H7 E7 μ7 g7 e7 z7 y7 hI => ?_)
  have P : Pg E μ E7 μ7 [(36, i), (37, i), (38, i), (39, i)] := P.step g7 z7
  have e1 : E7.2.1 (36, i) = q1 := (g7.2.2.2 (36, i) (by simp)).trans e1
  have e3 : E7.2.1 (37, i) = q3 := (g7.2.2.2 (37, i) (by simp)).trans e3
  have e5 : E7.2.1 (38, i) = q5 := (g7.2.2.2 (38, i) (by simp)).trans e5
  refine c_putF X hI him (C := RX3) (T := TX3) (N := 4) (k := 3) rfl inX3 tyX3 tyX3_ok nmX3 (by decide) wi_361 rfl rfl rfl rfl (by simp) dX3_init_33 (fun H8 locs8 hI => ?_)
  have hI : cI _ N0 s E7 μ7 ((a, .inr (3, [.ref q1, .ref q3, .ref q5, .ref q7])) :: []) H8 locs8 := hI
  obtain ⟨E9, g9, e9, hI⟩ := hI.fin (μ' := zz (3, i) μ7) (i := i) (P.fr hfr (by simp) (by simp)) (by decide) rfl (List.forall_mem_cons.mpr ⟨fc_R (P.in (by simp)), List.forall_mem_cons.mpr ⟨fc_R (P.in (by simp)), List.forall_mem_cons.mpr ⟨fc_R (P.in (by simp)), List.forall_mem_cons.mpr ⟨fc_R (P.in (by simp)), fun _ h => absurd h List.not_mem_nil⟩⟩⟩⟩) (fun h' z => zz_ag (fun e => P.fr hfr (h := (3, i)) (by simp) (by simp) (by rw [← e]; exact z))) (fun E' hE' => zl (congrArg Value.ref ((hE' (36, i) (by simp)).trans e1)) (zl (congrArg Value.ref ((hE' (37, i) (by simp)).trans e3)) (zl (congrArg Value.ref ((hE' (38, i) (by simp)).trans e5)) (zl (congrArg Value.ref ((hE' (39, i) (by simp)).trans e7)) (rfl)))))
  have zq : ∀ h ∈ E7.2.2.1, zag μ7 (zz (3, i) μ7) h := fun h' z => zz_ag (fun e => P.fr hfr (h := (3, i)) (by simp) (by simp) (by rw [← e]; exact z))
  have P : Pg E μ E9 (zz (3, i) μ7) [(36, i), (37, i), (38, i), (39, i), (3, i)] := P.step g9 zq
  have e1 : E9.2.1 (36, i) = q1 := (g9.2.2.2 (36, i) (by simp)).trans e1
  have e3 : E9.2.1 (37, i) = q3 := (g9.2.2.2 (37, i) (by simp)).trans e3
  have e5 : E9.2.1 (38, i) = q5 := (g9.2.2.2 (38, i) (by simp)).trans e5
  have e7 : E9.2.1 (39, i) = q7 := (g9.2.2.2 (39, i) (by simp)).trans e7
  refine W.widen (k := rX3_init.cells) (n := rX3_init.slots) (Nat.le_of_ble_eq_true rfl) (Nat.le_of_ble_eq_true rfl) ?_
  exact c_ret X hr hlocks hI P.1 e9 P.2 (trivial) dX3_init_36
def rX0_init : Room := { frames := 1, cells := 9, slots := 900, locals := 12 }
set_option maxRecDepth 20000 in
theorem kX0_init (i : Nat) : Kon yX0_init cX0_init 1 rX0_init 0 i [.int 0, .null, .null, .null, .null, .null, .null, .null, .null, .null] [(21, i), (22, i), (23, i), (24, i), (25, i), (26, i), (27, i), (28, i), (29, i), (0, i)] (fun _ => True) (fun _ => []) (fun _ => True) := by
  refine kon_of (by decide) rfl ?_
  intro p l e s m args below meth c E μ N0 a X him hr hlocks hok hfr hN0 hN hA hI hargs
  subst hargs
  have hl := lv_entry ([.ref a]) (n := 1) (Nat.le_of_ble_eq_true rfl)
  show W p l e _ s m _ below meth c s.heap [] 0 0 _ (entryFrame m ([.ref a] : List Value).toArray 1)
  rw [lg_entry_eq]
  generalize (lg_sl ([.ref a]) ++ List.replicate (1 - (lg_sl ([.ref a])).length) Slot.unset).toArray = ls at hl ⊢
  have hl : lv_has ls 1 [(0, .ref a)] := hl
  have P := Pg.rf (E := E) (μ := μ)
  refine lv_aload_n X.1 X.2.1 dX0_init_0 rfl (lv_at hl 0 rfl) ?_
  refine W.objInit X.1 X.2.1 X.2.2.2.1 (X.2.2.2.2 _ wi_377) (X.2.2.2.2 _ wi_130) (X.2.2.2.2 _ wi_131) rfl (by rw [X.2.2.1]; exact hl.1) rfl dX0_init_1 (Nat.le_of_ble_eq_true rfl) (Nat.le_of_ble_eq_true rfl) ?_
  refine W.eq (g2 := F0 m 4 ls []) rfl ?_
  refine lv_aload_n X.1 X.2.1 dX0_init_4 rfl (lv_at hl 0 rfl) ?_
  refine lv_bipush (v := 100) X.1 X.2.1 dX0_init_5 (by decide) ?_
  refine c_newI X hI hA (21, i) (N' := 100) rfl (P.fr hfr (by simp) (by simp)) (Nat.le_of_ble_eq_true rfl) (by decide) (by decide) (Nat.le_of_ble_eq_true rfl) (Nat.le_of_ble_eq_true rfl) (Nat.le_of_ble_eq_true rfl) dX0_init_7 (fun q1 H1 E1 μ1 g1 e1 z1 y1 hI => ?_)
  have P : Pg E μ E1 μ1 [(21, i)] := P.step g1 z1
  refine c_putF X hI him (C := RX0) (T := TX0) (N := 10) (k := 1) rfl inX0 tyX0 tyX0_ok nmX0 (by decide) wi_381 rfl rfl rfl rfl (by simp) dX0_init_9 (fun H2 locs2 hI => ?_)
  have hI : cI _ N0 s E1 μ1 ((a, .inr (0, [.int 0, .ref q1, .null, .null, .null, .null, .null, .null, .null, .null])) :: []) H2 locs2 := hI
  refine lv_aload_n X.1 X.2.1 dX0_init_12 rfl (lv_at hl 0 rfl) ?_
  refine lv_bipush (v := 100) X.1 X.2.1 dX0_init_13 (by decide) ?_
  refine c_newI X hI hA (22, i) (N' := 100) rfl (P.fr hfr (by simp) (by simp)) (Nat.le_of_ble_eq_true rfl) (by decide) (by decide) (Nat.le_of_ble_eq_true rfl) (Nat.le_of_ble_eq_true rfl) (Nat.le_of_ble_eq_true rfl) dX0_init_15 (fun q3 H3 E3 μ3 g3 e3 z3 y3 hI => ?_)
  have P : Pg E μ E3 μ3 [(21, i), (22, i)] := P.step g3 z3
  have e1 : E3.2.1 (21, i) = q1 := (g3.2.2.2 (21, i) (by simp)).trans e1
  refine c_putF X hI him (C := RX0) (T := TX0) (N := 10) (k := 2) rfl inX0 tyX0 tyX0_ok nmX0 (by decide) wi_383 rfl rfl rfl rfl (by simp) dX0_init_17 (fun H4 locs4 hI => ?_)
  have hI : cI _ N0 s E3 μ3 ((a, .inr (0, [.int 0, .ref q1, .ref q3, .null, .null, .null, .null, .null, .null, .null])) :: []) H4 locs4 := hI
  refine lv_aload_n X.1 X.2.1 dX0_init_20 rfl (lv_at hl 0 rfl) ?_
  refine lv_bipush (v := 100) X.1 X.2.1 dX0_init_21 (by decide) ?_
  refine c_newI X hI hA (23, i) (N' := 100) rfl (P.fr hfr (by simp) (by simp)) (Nat.le_of_ble_eq_true rfl) (by decide) (by decide) (Nat.le_of_ble_eq_true rfl) (Nat.le_of_ble_eq_true rfl) (Nat.le_of_ble_eq_true rfl) dX0_init_23 (fun q5 H5 E5 μ5 g5 e5 z5 y5 hI => ?_)
  have P : Pg E μ E5 μ5 [(21, i), (22, i), (23, i)] := P.step g5 z5
  have e1 : E5.2.1 (21, i) = q1 := (g5.2.2.2 (21, i) (by simp)).trans e1
  have e3 : E5.2.1 (22, i) = q3 := (g5.2.2.2 (22, i) (by simp)).trans e3
  refine c_putF X hI him (C := RX0) (T := TX0) (N := 10) (k := 3) rfl inX0 tyX0 tyX0_ok nmX0 (by decide) wi_385 rfl rfl rfl rfl (by simp) dX0_init_25 (fun H6 locs6 hI => ?_)
  have hI : cI _ N0 s E5 μ5 ((a, .inr (0, [.int 0, .ref q1, .ref q3, .ref q5, .null, .null, .null, .null, .null, .null])) :: []) H6 locs6 := hI
  refine lv_aload_n X.1 X.2.1 dX0_init_28 rfl (lv_at hl 0 rfl) ?_
  refine lv_bipush (v := 100) X.1 X.2.1 dX0_init_29 (by decide) ?_
  refine c_newI X hI hA (24, i) (N' := 100) rfl (P.fr hfr (by simp) (by simp)) (Nat.le_of_ble_eq_true rfl) (by decide) (by decide) (Nat.le_of_ble_eq_true rfl) (Nat.le_of_ble_eq_true rfl) (Nat.le_of_ble_eq_true rfl) dX0_init_31 (fun q7 H7 E7 μ7 g7 e7 z7 y7 hI => ?_)
  have P : Pg E μ E7 μ7 [(21, i), (22, i), (23, i), (24, i)] := P.step g7 z7
  have e1 : E7.2.1 (21, i) = q1 := (g7.2.2.2 (21, i) (by simp)).trans e1
  have e3 : E7.2.1 (22, i) = q3 := (g7.2.2.2 (22, i) (by simp)).trans e3
  have e5 : E7.2.1 (23, i) = q5 := (g7.2.2.2 (23, i) (by simp)).trans e5
  refine c_putF X hI him (C := RX0) (T := TX0) (N := 10) (k := 4) rfl inX0 tyX0 tyX0_ok nmX0 (by decide) wi_387 rfl rfl rfl rfl (by simp) dX0_init_33 (fun H8 locs8 hI => ?_)
  have hI : cI _ N0 s E7 μ7 ((a, .inr (0, [.int 0, .ref q1, .ref q3, .ref q5, .ref q7, .null, .null, .null, .null, .null])) :: []) H8 locs8 := hI
  refine lv_aload_n X.1 X.2.1 dX0_init_36 rfl (lv_at hl 0 rfl) ?_
  refine lv_bipush (v := 100) X.1 X.2.1 dX0_init_37 (by decide) ?_
  refine c_newI X hI hA (25, i) (N' := 100) rfl (P.fr hfr (by simp) (by simp)) (Nat.le_of_ble_eq_true rfl) (by decide) (by decide) (Nat.le_of_ble_eq_true rfl) (Nat.le_of_ble_eq_true rfl) (Nat.le_of_ble_eq_true rfl) dX0_init_39 (fun q9 H9 E9 μ9 g9 e9 z9 y9 hI => ?_)
  have P : Pg E μ E9 μ9 [(21, i), (22, i), (23, i), (24, i), (25, i)] := P.step g9 z9
  have e1 : E9.2.1 (21, i) = q1 := (g9.2.2.2 (21, i) (by simp)).trans e1
  have e3 : E9.2.1 (22, i) = q3 := (g9.2.2.2 (22, i) (by simp)).trans e3
  have e5 : E9.2.1 (23, i) = q5 := (g9.2.2.2 (23, i) (by simp)).trans e5
  have e7 : E9.2.1 (24, i) = q7 := (g9.2.2.2 (24, i) (by simp)).trans e7
  refine c_putF X hI him (C := RX0) (T := TX0) (N := 10) (k := 5) rfl inX0 tyX0 tyX0_ok nmX0 (by decide) wi_389 rfl rfl rfl rfl (by simp) dX0_init_41 (fun H10 locs10 hI => ?_)
  have hI : cI _ N0 s E9 μ9 ((a, .inr (0, [.int 0, .ref q1, .ref q3, .ref q5, .ref q7, .ref q9, .null, .null, .null, .null])) :: []) H10 locs10 := hI
  refine lv_aload_n X.1 X.2.1 dX0_init_44 rfl (lv_at hl 0 rfl) ?_
  refine lv_bipush (v := 100) X.1 X.2.1 dX0_init_45 (by decide) ?_
  refine c_newI X hI hA (26, i) (N' := 100) rfl (P.fr hfr (by simp) (by simp)) (Nat.le_of_ble_eq_true rfl) (by decide) (by decide) (Nat.le_of_ble_eq_true rfl) (Nat.le_of_ble_eq_true rfl) (Nat.le_of_ble_eq_true rfl) dX0_init_47 (fun q11 H11 E11 μ11 g11 e11 z11 y11 hI => ?_)
  have P : Pg E μ E11 μ11 [(21, i), (22, i), (23, i), (24, i), (25, i), (26, i)] := P.step g11 z11
  have e1 : E11.2.1 (21, i) = q1 := (g11.2.2.2 (21, i) (by simp)).trans e1
  have e3 : E11.2.1 (22, i) = q3 := (g11.2.2.2 (22, i) (by simp)).trans e3
  have e5 : E11.2.1 (23, i) = q5 := (g11.2.2.2 (23, i) (by simp)).trans e5
  have e7 : E11.2.1 (24, i) = q7 := (g11.2.2.2 (24, i) (by simp)).trans e7
  have e9 : E11.2.1 (25, i) = q9 := (g11.2.2.2 (25, i) (by simp)).trans e9
  refine c_putF X hI him (C := RX0) (T := TX0) (N := 10) (k := 6) rfl inX0 tyX0 tyX0_ok nmX0 (by decide) wi_391 rfl rfl rfl rfl (by simp) dX0_init_49 (fun H12 locs12 hI => ?_)
  have hI : cI _ N0 s E11 μ11 ((a, .inr (0, [.int 0, .ref q1, .ref q3, .ref q5, .ref q7, .ref q9, .ref q11, .null, .null, .null])) :: []) H12 locs12 := hI
  refine lv_aload_n X.1 X.2.1 dX0_init_52 rfl (lv_at hl 0 rfl) ?_
  refine lv_bipush (v := 100) X.1 X.2.1 dX0_init_53 (by decide) ?_
  refine c_newI X hI hA (27, i) (N' := 100) rfl (P.fr hfr (by simp) (by simp)) (Nat.le_of_ble_eq_true rfl) (by decide) (by decide) (Nat.le_of_ble_eq_true rfl) (Nat.le_of_ble_eq_true rfl) (Nat.le_of_ble_eq_true rfl) dX0_init_55 (fun q13 H13 E13 μ13 g13 e13 z13 y13 hI => ?_)
  have P : Pg E μ E13 μ13 [(21, i), (22, i), (23, i), (24, i), (25, i), (26, i), (27, i)] := P.step g13 z13
  have e1 : E13.2.1 (21, i) = q1 := (g13.2.2.2 (21, i) (by simp)).trans e1
  have e3 : E13.2.1 (22, i) = q3 := (g13.2.2.2 (22, i) (by simp)).trans e3
  have e5 : E13.2.1 (23, i) = q5 := (g13.2.2.2 (23, i) (by simp)).trans e5
  have e7 : E13.2.1 (24, i) = q7 := (g13.2.2.2 (24, i) (by simp)).trans e7
  have e9 : E13.2.1 (25, i) = q9 := (g13.2.2.2 (25, i) (by simp)).trans e9
  have e11 : E13.2.1 (26, i) = q11 := (g13.2.2.2 (26, i) (by simp)).trans e11
  refine c_putF X hI him (C := RX0) (T := TX0) (N := 10) (k := 7) rfl inX0 tyX0 tyX0_ok nmX0 (by decide) wi_393 rfl rfl rfl rfl (by simp) dX0_init_57 (fun H14 locs14 hI => ?_)
  have hI : cI _ N0 s E13 μ13 ((a, .inr (0, [.int 0, .ref q1, .ref q3, .ref q5, .ref q7, .ref q9, .ref q11, .ref q13, .null, .null])) :: []) H14 locs14 := hI
  refine lv_aload_n X.1 X.2.1 dX0_init_60 rfl (lv_at hl 0 rfl) ?_
  refine lv_bipush (v := 100) X.1 X.2.1 dX0_init_61 (by decide) ?_
  refine c_newI X hI hA (28, i) (N' := 100) rfl (P.fr hfr (by simp) (by simp)) (Nat.le_of_ble_eq_true rfl) (by decide) (by decide) (Nat.le_of_ble_eq_true rfl) (Nat.le_of_ble_eq_true rfl) (Nat.le_of_ble_eq_true rfl) dX0_init_63 (fun q15 H15 E15 μ15 g15 e15 z15 y15 hI => ?_)
  have P : Pg E μ E15 μ15 [(21, i), (22, i), (23, i), (24, i), (25, i), (26, i), (27, i), (28, i)] := P.step g15 z15
  have e1 : E15.2.1 (21, i) = q1 := (g15.2.2.2 (21, i) (by simp)).trans e1
  have e3 : E15.2.1 (22, i) = q3 := (g15.2.2.2 (22, i) (by simp)).trans e3
  have e5 : E15.2.1 (23, i) = q5 := (g15.2.2.2 (23, i) (by simp)).trans e5
  have e7 : E15.2.1 (24, i) = q7 := (g15.2.2.2 (24, i) (by simp)).trans e7
  have e9 : E15.2.1 (25, i) = q9 := (g15.2.2.2 (25, i) (by simp)).trans e9
  have e11 : E15.2.1 (26, i) = q11 := (g15.2.2.2 (26, i) (by simp)).trans e11
  have e13 : E15.2.1 (27, i) = q13 := (g15.2.2.2 (27, i) (by simp)).trans e13
  refine c_putF X hI him (C := RX0) (T := TX0) (N := 10) (k := 8) rfl inX0 tyX0 tyX0_ok nmX0 (by decide) wi_395 rfl rfl rfl rfl (by simp) dX0_init_65 (fun H16 locs16 hI => ?_)
  have hI : cI _ N0 s E15 μ15 ((a, .inr (0, [.int 0, .ref q1, .ref q3, .ref q5, .ref q7, .ref q9, .ref q11, .ref q13, .ref q15, .null])) :: []) H16 locs16 := hI
  refine lv_aload_n X.1 X.2.1 dX0_init_68 rfl (lv_at hl 0 rfl) ?_
  refine lv_bipush (v := 100) X.1 X.2.1 dX0_init_69 (by decide) ?_
  refine c_newI X hI hA (29, i) (N' := 100) rfl (P.fr hfr (by simp) (by simp)) (Nat.le_of_ble_eq_true rfl) (by decide) (by decide) (Nat.le_of_ble_eq_true rfl) (Nat.le_of_ble_eq_true rfl) (Nat.le_of_ble_eq_true rfl) dX0_init_71 (fun q17 H17 E17 μ17 g17 e17 z17 y17 hI => ?_)
  have P : Pg E μ E17 μ17 [(21, i), (22, i), (23, i), (24, i), (25, i), (26, i), (27, i), (28, i), (29, i)] := P.step g17 z17
  have e1 : E17.2.1 (21, i) = q1 := (g17.2.2.2 (21, i) (by simp)).trans e1
  have e3 : E17.2.1 (22, i) = q3 := (g17.2.2.2 (22, i) (by simp)).trans e3
  have e5 : E17.2.1 (23, i) = q5 := (g17.2.2.2 (23, i) (by simp)).trans e5
  have e7 : E17.2.1 (24, i) = q7 := (g17.2.2.2 (24, i) (by simp)).trans e7
  have e9 : E17.2.1 (25, i) = q9 := (g17.2.2.2 (25, i) (by simp)).trans e9
  have e11 : E17.2.1 (26, i) = q11 := (g17.2.2.2 (26, i) (by simp)).trans e11
  have e13 : E17.2.1 (27, i) = q13 := (g17.2.2.2 (27, i) (by simp)).trans e13
  have e15 : E17.2.1 (28, i) = q15 := (g17.2.2.2 (28, i) (by simp)).trans e15
  refine c_putF X hI him (C := RX0) (T := TX0) (N := 10) (k := 9) rfl inX0 tyX0 tyX0_ok nmX0 (by decide) wi_398 rfl rfl rfl rfl (by simp) dX0_init_73 (fun H18 locs18 hI => ?_)
  have hI : cI _ N0 s E17 μ17 ((a, .inr (0, [.int 0, .ref q1, .ref q3, .ref q5, .ref q7, .ref q9, .ref q11, .ref q13, .ref q15, .ref q17])) :: []) H18 locs18 := hI
  obtain ⟨E19, g19, e19, hI⟩ := hI.fin (μ' := zz (0, i) μ17) (i := i) (P.fr hfr (by simp) (by simp)) (by decide) rfl (List.forall_mem_cons.mpr ⟨fc_I, List.forall_mem_cons.mpr ⟨fc_R (P.in (by simp)), List.forall_mem_cons.mpr ⟨fc_R (P.in (by simp)), List.forall_mem_cons.mpr ⟨fc_R (P.in (by simp)), List.forall_mem_cons.mpr ⟨fc_R (P.in (by simp)), List.forall_mem_cons.mpr ⟨fc_R (P.in (by simp)), List.forall_mem_cons.mpr ⟨fc_R (P.in (by simp)), List.forall_mem_cons.mpr ⟨fc_R (P.in (by simp)), List.forall_mem_cons.mpr ⟨fc_R (P.in (by simp)), List.forall_mem_cons.mpr ⟨fc_R (P.in (by simp)), fun _ h => absurd h List.not_mem_nil⟩⟩⟩⟩⟩⟩⟩⟩⟩⟩) (fun h' z => zz_ag (fun e => P.fr hfr (h := (0, i)) (by simp) (by simp) (by rw [← e]; exact z))) (fun E' hE' => zl (congrArg Value.int (zz_i _ _ _)) (zl (congrArg Value.ref ((hE' (21, i) (by simp)).trans e1)) (zl (congrArg Value.ref ((hE' (22, i) (by simp)).trans e3)) (zl (congrArg Value.ref ((hE' (23, i) (by simp)).trans e5)) (zl (congrArg Value.ref ((hE' (24, i) (by simp)).trans e7)) (zl (congrArg Value.ref ((hE' (25, i) (by simp)).trans e9)) (zl (congrArg Value.ref ((hE' (26, i) (by simp)).trans e11)) (zl (congrArg Value.ref ((hE' (27, i) (by simp)).trans e13)) (zl (congrArg Value.ref ((hE' (28, i) (by simp)).trans e15)) (zl (congrArg Value.ref ((hE' (29, i) (by simp)).trans e17)) (rfl)))))))))))
  have zq : ∀ h ∈ E17.2.2.1, zag μ17 (zz (0, i) μ17) h := fun h' z => zz_ag (fun e => P.fr hfr (h := (0, i)) (by simp) (by simp) (by rw [← e]; exact z))
  have P : Pg E μ E19 (zz (0, i) μ17) [(21, i), (22, i), (23, i), (24, i), (25, i), (26, i), (27, i), (28, i), (29, i), (0, i)] := P.step g19 zq
  have e1 : E19.2.1 (21, i) = q1 := (g19.2.2.2 (21, i) (by simp)).trans e1
  have e3 : E19.2.1 (22, i) = q3 := (g19.2.2.2 (22, i) (by simp)).trans e3
  have e5 : E19.2.1 (23, i) = q5 := (g19.2.2.2 (23, i) (by simp)).trans e5
  have e7 : E19.2.1 (24, i) = q7 := (g19.2.2.2 (24, i) (by simp)).trans e7
  have e9 : E19.2.1 (25, i) = q9 := (g19.2.2.2 (25, i) (by simp)).trans e9
  have e11 : E19.2.1 (26, i) = q11 := (g19.2.2.2 (26, i) (by simp)).trans e11
  have e13 : E19.2.1 (27, i) = q13 := (g19.2.2.2 (27, i) (by simp)).trans e13
  have e15 : E19.2.1 (28, i) = q15 := (g19.2.2.2 (28, i) (by simp)).trans e15
  have e17 : E19.2.1 (29, i) = q17 := (g19.2.2.2 (29, i) (by simp)).trans e17
  refine W.widen (k := rX0_init.cells) (n := rX0_init.slots) (Nat.le_of_ble_eq_true rfl) (Nat.le_of_ble_eq_true rfl) ?_
  exact c_ret X hr hlocks hI P.1 e19 P.2 (trivial) dX0_init_76
