/-! ===== BaggageHandling() ===== -/
theorem STg.of {i : Nat} {μ μ' : zM} (h : STg i μ) (e : ∀ k, k = 5 ∨ k = 1 ∨ k = 43 ∨ k = 49 → μ'.1 k i = μ.1 k i) : STg i μ' := by
  unfold STg at h ⊢
  rw [e 5 (by simp), e 1 (by simp), e 43 (by simp), e 49 (by simp)]
  exact h
def mT (μ : zM) : zM := (fun k i n => if k = 10 ∧ i = 0 then (if n = 8 then -2 else 0) else μ.1 k i n, fun k i n => if k = 10 ∧ i = 0 then (if n = 6 then 0 else if n = 7 then 1 else 2) else μ.2.1 k i n, μ.2.2)
theorem mT_1 (μ : zM) (k i n : Nat) (h : k ≠ 10) : (mT μ).1 k i n = μ.1 k i n := if_neg (fun z => h z.1)
theorem mT_2 (μ : zM) (k i n : Nat) (h : k ≠ 10) : (mT μ).2.1 k i n = μ.2.1 k i n := if_neg (fun z => h z.1)
theorem mT_ag {h : zH} {μ : zM} (n : h ≠ (10, 0)) : zag μ (mT μ) h := by
  have e : ¬ (h.1 = 10 ∧ h.2 = 0) := fun z => n (Prod.ext z.1 z.2)
  exact ⟨funext fun z => if_neg e, funext fun z => if_neg e, rfl⟩
def FB (μ : zM) : Prop := (μ.2.1 10 0 6 = 0 ∧ μ.2.1 10 0 7 = 1 ∧ μ.2.1 9 0 0 = 0) ∧ ST0 μ ∧ BEG μ ∧ (μ.1 2 0 1 = 0 ∧ μ.1 2 0 2 = 0) ∧ μ.1 7 0 1 = 0 ∧ μ.1 10 0 8 = -2 ∧ (μ.1 8 0 1 = nI T0.length ∧ ∀ z, z < T0.length → μ.1 56 0 z = T0.getD z 0)
theorem FB_of {μ μd : zM} (hs : ST0 μ) (hb : BEG μ) (h9 : μ.2.1 9 0 0 = 0) (h2 : μ.1 2 0 1 = 0 ∧ μ.1 2 0 2 = 0) (h7 : μ.1 7 0 1 = 0) (d : XO μ μd T0) : FB (mT μd) := by
  obtain ⟨d1, d2, d3, d4⟩ := d
  have e : ∀ k i z, k ≠ 10 → k ≠ 8 → k ≠ 56 → (mT μd).1 k i z = μ.1 k i z := fun k i z n1 n2 n3 => (mT_1 μd k i z n1).trans (d4 k i z (fun w => n2 w.1) (fun w => n3 w.1))
  refine ⟨⟨rfl, rfl, ?_⟩, STg.of hs (fun k hk => funext fun z => e k 0 z (by omega) (by omega) (by omega)), hb.of (fun k z hk => e k 0 z (by omega) (by omega) (by omega)), ⟨?_, ?_⟩, ?_, rfl, ?_, fun z hz => ?_⟩
  · rw [mT_2 _ _ _ _ (by decide), d3]; exact h9
  · rw [e _ _ _ (by decide) (by decide) (by decide)]; exact h2.1
  · rw [e _ _ _ (by decide) (by decide) (by decide)]; exact h2.2
  · rw [e _ _ _ (by decide) (by decide) (by decide)]; exact h7
  · rw [mT_1 _ _ _ _ (by decide)]; exact d1
  · rw [mT_1 _ _ _ _ (by decide)]; exact d2 z hz
abbrev bX1 : List zH := [(55, 0), (7, 0)]
abbrev bX2 : List zH := bX1 ++ [(56, 0), (8, 0)]
abbrev bX3 : List zH := bX2 ++ hX5 0
abbrev bX4 : List zH := bX3 ++ hX5 1
abbrev bX5 : List zH := bX4 ++ [(6, 0)]
abbrev bX6 : List zH := bX5 ++ hX9 0
abbrev bX7 : List zH := bX6 ++ hX9 1
abbrev bX8 : List zH := bX7 ++ hX2
abbrev bX9 : List zH := bX8 ++ [(10, 0)]
def rX10_init : Room := { frames := 8, cells := 409, slots := 26716, locals := 175 }
theorem qX10_init : zCW yX10_init rX10_init yX5_describe cX5_describe 3 none rX5_describe 1 := ⟨wd_508, wd_109, ⟨by decide, by decide, by decide +kernel⟩, rfl, rfl, Nat.le_of_ble_eq_true rfl, Nat.le_of_ble_eq_true rfl⟩
set_option maxRecDepth 20000 in
set_option maxHeartbeats 4000000 in
theorem kX10_init : Kon yX10_init cX10_init 1 rX10_init 10 0 [.null, .null, .null, .null, .null, .null, .null, .null, .int 0] bX9 (fun E => E.2.2.1 = []) (fun _ => []) FB := by
  refine kon_of (by decide) rfl ?_
  intro p l e s m args below meth c E μ N0 a X him hr hlocks hok hfr hN0 hN hA hI hargs
  subst hargs
  have hl := lv_entry ([.ref a]) (n := 1) (Nat.le_of_ble_eq_true rfl)
  show W p l e _ s m _ below meth c s.heap [] 0 0 _ (entryFrame m ([.ref a] : List Value).toArray 1)
  rw [lg_entry_eq]
  generalize (lg_sl ([.ref a]) ++ List.replicate (1 - (lg_sl ([.ref a])).length) Slot.unset).toArray = ls at hl ⊢
  have hl : lv_has ls 1 [(0, .ref a)] := hl
  have P := Pg.rf (E := E) (μ := μ)
  refine lv_aload_n X.1 X.2.1 dX10_init_0 rfl (lv_at hl 0 rfl) ?_
  refine W.objInit X.1 X.2.1 X.2.2.2.1 (X.2.2.2.2 _ wi_129) (X.2.2.2.2 _ wi_130) (X.2.2.2.2 _ wi_131) rfl (by rw [X.2.2.1]; exact hl.1) rfl dX10_init_1 (Nat.le_of_ble_eq_true rfl) (Nat.le_of_ble_eq_true rfl) ?_
  refine W.eq (g2 := F0 m 4 ls []) rfl ?_
  refine lv_aload_n X.1 X.2.1 dX10_init_4 rfl (lv_at hl 0 rfl) ?_
  refine c_new X hI hA (C := RX7) (T := TX7) (N := 5) (ci := 7) (fs := [.null, .int 0, .int 0, .int 0, .int 0]) rfl inX7 tyX7 tyX7_ok wi_132 wi_133 wi_106 (fun j hj => by rcases (by omega : j = 0 ∨ j = 1 ∨ j = 2 ∨ j = 3 ∨ j = 4) with rfl | rfl | rfl | rfl | rfl <;> rfl) (Nat.le_of_ble_eq_true rfl) (Nat.le_of_ble_eq_true rfl) dX10_init_5 (fun q1 H1 hI => ?_)
  refine lv_dup X.1 X.2.1 dX10_init_8 rfl ?_
  refine c_callKN (n := 0) (b := q1) (rest := [.ref q1, .ref a]) X hI hA hN hN0 (kX7_init) trivial (P.fr0 hok (by decide +kernel)) (by decide +kernel) (List.mem_of_getElem? (i := 0) rfl) wi_135 wi_136 wi_106 rfl ⟨by decide, by decide, by decide +kernel⟩ ⟨Nat.le_of_ble_eq_true rfl, Nat.le_of_ble_eq_true rfl⟩ ⟨Nat.le_of_ble_eq_true rfl, Nat.le_of_ble_eq_true rfl⟩ hl.1 (Nat.le_of_ble_eq_true rfl) rfl dX10_init_9 (fun H2 locs2 E2 μ2 g2 e2 z2 y2 hI => ?_)
  have P : Pg E μ E2 μ2 bX1 := P.step g2 z2
  refine c_putF X hI him (C := RX10) (T := TX10) (N := 9) (k := 0) rfl inX10 tyX10 tyX10_ok nmX10 (by decide) wi_622 rfl rfl rfl rfl (by simp) dX10_init_12 (fun H3 locs3 hI => ?_)
  have hI : cI _ N0 s E2 μ2 ((a, .inr (10, [.ref q1, .null, .null, .null, .null, .null, .null, .null, .int 0])) :: []) H3 locs3 := hI
  have P7 := Pg.rf (E := E2) (μ := μ2)
  have L7 : E2.2.2.1 = bX1 := by rw [P.1.2.2.1, hok]; rfl
  refine lv_aload_n X.1 X.2.1 dX10_init_15 rfl (lv_at hl 0 rfl) ?_
  refine c_new X hI hA (C := RX6) (T := TX6) (N := 2) (ci := 6) (fs := [.null, .null]) rfl inX6 tyX6 tyX6_ok wi_159 wi_160 wi_107 (fun j hj => by rcases (by omega : j = 0 ∨ j = 1) with rfl | rfl <;> rfl) (Nat.le_of_ble_eq_true rfl) (Nat.le_of_ble_eq_true rfl) dX10_init_16 (fun q4 H4 hI => ?_)
  refine lv_dup X.1 X.2.1 dX10_init_19 rfl ?_
  refine lv_aload_n X.1 X.2.1 dX10_init_20 rfl (lv_at hl 0 rfl) ?_
  refine c_getN 1 X hI rfl (C := RX10) (T := TX10) (N := 9) (k := 0) rfl inX10 (by decide) wi_622 rfl dX10_init_21 ?_
  refine c_call6 X hI hN wi_161 ⟨Nat.le_of_ble_eq_true rfl, Nat.le_of_ble_eq_true rfl⟩ ⟨Nat.le_of_ble_eq_true rfl, Nat.le_of_ble_eq_true rfl⟩ hl.1 (Nat.le_of_ble_eq_true rfl) dX10_init_24 (fun H5 locs5 hI => ?_)
  have hI : cI _ N0 s E2 μ2 [(a, .inr (10, [.ref q1, .null, .null, .null, .null, .null, .null, .null, .int 0])), (q4, .inr (6, [.ref q1, .null]))] H5 locs5 := ⟨hI.1, hI.2.1, hI.2.2.1.perm (List.Perm.swap _ _ _), hI.2.2.2⟩
  refine c_putF X hI him (C := RX10) (T := TX10) (N := 9) (k := 1) rfl inX10 tyX10 tyX10_ok nmX10 (by decide) wi_623 rfl rfl rfl rfl (by simp) dX10_init_27 (fun H6 locs6 hI => ?_)
  have hI : cI _ N0 s E2 μ2 ((a, .inr (10, [.ref q1, .ref q4, .null, .null, .null, .null, .null, .null, .int 0])) :: [(q4, .inr (6, [.ref q1, .null]))]) H6 locs6 := hI
  refine lv_aload_n X.1 X.2.1 dX10_init_30 rfl (lv_at hl 0 rfl) ?_
  refine c_new X hI hA (C := RX8) (T := TX8) (N := 2) (ci := 8) (fs := [.null, .int 0]) rfl inX8 tyX8 tyX8_ok wi_172 wi_173 wi_108 (fun j hj => by rcases (by omega : j = 0 ∨ j = 1) with rfl | rfl <;> rfl) (Nat.le_of_ble_eq_true rfl) (Nat.le_of_ble_eq_true rfl) dX10_init_31 (fun q7 H7 hI => ?_)
  refine lv_dup X.1 X.2.1 dX10_init_34 rfl ?_
  refine c_callKN (n := 0) (b := q7) (rest := [.ref q7, .ref a]) X hI hA hN hN0 (kX8_init) trivial (P.fr0 hok (by decide +kernel)) (by decide +kernel) (List.mem_of_getElem? (i := 1) rfl) wi_175 wi_176 wi_108 rfl ⟨by decide, by decide, by decide +kernel⟩ ⟨Nat.le_of_ble_eq_true rfl, Nat.le_of_ble_eq_true rfl⟩ ⟨Nat.le_of_ble_eq_true rfl, Nat.le_of_ble_eq_true rfl⟩ hl.1 (Nat.le_of_ble_eq_true rfl) rfl dX10_init_35 (fun H8 locs8 E8 μ8 g8 e8 z8 y8 hI => ?_)
  have P : Pg E μ E8 μ8 bX2 := P.step g8 z8
  have P7 := P7.step g8 z8
  have e2 : E8.2.1 (7, 0) = q1 := (g8.2.2.2 (7, 0) (by decide +kernel)).trans e2
  refine c_putF X hI him (C := RX10) (T := TX10) (N := 9) (k := 2) rfl inX10 tyX10 tyX10_ok nmX10 (by decide) wi_624 rfl rfl rfl rfl (by simp) dX10_init_38 (fun H9 locs9 hI => ?_)
  have hI : cI _ N0 s E8 μ8 ((a, .inr (10, [.ref q1, .ref q4, .ref q7, .null, .null, .null, .null, .null, .int 0])) :: [(q4, .inr (6, [.ref q1, .null]))]) H9 locs9 := hI
  refine lv_aload_n X.1 X.2.1 dX10_init_41 rfl (lv_at hl 0 rfl) ?_
  refine c_new X hI hA (C := RX5) (T := TX5) (N := 16) (ci := 5) (fs := [.int 0, .int 0, .int 0, .null, .null, .null, .null, .null, .null, .null, .null, .null, .null, .int 0, .null, .int 0]) rfl inX5 tyX5 tyX5_ok wi_188 wi_189 wi_109 (fun j hj => by rcases (by omega : j = 0 ∨ j = 1 ∨ j = 2 ∨ j = 3 ∨ j = 4 ∨ j = 5 ∨ j = 6 ∨ j = 7 ∨ j = 8 ∨ j = 9 ∨ j = 10 ∨ j = 11 ∨ j = 12 ∨ j = 13 ∨ j = 14 ∨ j = 15) with rfl | rfl | rfl | rfl | rfl | rfl | rfl | rfl | rfl | rfl | rfl | rfl | rfl | rfl | rfl | rfl <;> rfl) (Nat.le_of_ble_eq_true rfl) (Nat.le_of_ble_eq_true rfl) dX10_init_42 (fun q10 H10 hI => ?_)
  refine lv_dup X.1 X.2.1 dX10_init_45 rfl ?_
  refine c_callK (n := 0) (b := q10) (rest := [.ref q10, .ref a]) X hI hA hN hN0 (kX5_init 0) trivial (P.fr0 hok (by decide +kernel)) (by decide +kernel) wi_190 wi_191 wi_192 wi_109 rfl ⟨by decide, by decide, by decide +kernel⟩ ⟨Nat.le_of_ble_eq_true rfl, Nat.le_of_ble_eq_true rfl⟩ ⟨Nat.le_of_ble_eq_true rfl, Nat.le_of_ble_eq_true rfl⟩ hl.1 (Nat.le_of_ble_eq_true rfl) rfl dX10_init_46 (fun H11 locs11 E11 μ11 g11 e11 z11 y11 hI => ?_)
  have P : Pg E μ E11 μ11 bX3 := P.step g11 z11
  have P7 := P7.step g11 z11
  have e2 : E11.2.1 (7, 0) = q1 := (g11.2.2.2 (7, 0) (by decide +kernel)).trans e2
  have e8 : E11.2.1 (8, 0) = q7 := (g11.2.2.2 (8, 0) (by decide +kernel)).trans e8
  refine c_put X hI (C := RX10) (T := TX10) (N := 9) (k := 6) rfl inX10 tyX10 tyX10_ok nmX10 (by decide) wi_628 rfl rfl rfl (by simp) dX10_init_49 (fun H12 locs12 hI => ?_)
  have hI : cI _ N0 s E11 μ11 ((a, .inr (10, [.ref q1, .ref q4, .ref q7, .null, .null, .null, .ref q10, .null, .int 0])) :: [(q4, .inr (6, [.ref q1, .null]))]) H12 locs12 := hI
  have P5 := Pg.rf (E := E11) (μ := μ11)
  have L5 : E11.2.2.1 = bX3 := by rw [P.1.2.2.1, hok]; rfl
  refine lv_aload_n X.1 X.2.1 dX10_init_52 rfl (lv_at hl 0 rfl) ?_
  refine c_new X hI hA (C := RX5) (T := TX5) (N := 16) (ci := 5) (fs := [.int 0, .int 0, .int 0, .null, .null, .null, .null, .null, .null, .null, .null, .null, .null, .int 0, .null, .int 0]) rfl inX5 tyX5 tyX5_ok wi_188 wi_189 wi_109 (fun j hj => by rcases (by omega : j = 0 ∨ j = 1 ∨ j = 2 ∨ j = 3 ∨ j = 4 ∨ j = 5 ∨ j = 6 ∨ j = 7 ∨ j = 8 ∨ j = 9 ∨ j = 10 ∨ j = 11 ∨ j = 12 ∨ j = 13 ∨ j = 14 ∨ j = 15) with rfl | rfl | rfl | rfl | rfl | rfl | rfl | rfl | rfl | rfl | rfl | rfl | rfl | rfl | rfl | rfl <;> rfl) (Nat.le_of_ble_eq_true rfl) (Nat.le_of_ble_eq_true rfl) dX10_init_53 (fun q13 H13 hI => ?_)
  refine lv_dup X.1 X.2.1 dX10_init_56 rfl ?_
  refine c_callK (n := 0) (b := q13) (rest := [.ref q13, .ref a]) X hI hA hN hN0 (kX5_init 1) trivial (P.fr0 hok (by decide +kernel)) (by decide +kernel) wi_190 wi_191 wi_192 wi_109 rfl ⟨by decide, by decide, by decide +kernel⟩ ⟨Nat.le_of_ble_eq_true rfl, Nat.le_of_ble_eq_true rfl⟩ ⟨Nat.le_of_ble_eq_true rfl, Nat.le_of_ble_eq_true rfl⟩ hl.1 (Nat.le_of_ble_eq_true rfl) rfl dX10_init_57 (fun H14 locs14 E14 μ14 g14 e14 z14 y14 hI => ?_)
  have P : Pg E μ E14 μ14 bX4 := P.step g14 z14
  have P7 := P7.step g14 z14
  have P5 := P5.step g14 z14
  have e2 : E14.2.1 (7, 0) = q1 := (g14.2.2.2 (7, 0) (by decide +kernel)).trans e2
  have e8 : E14.2.1 (8, 0) = q7 := (g14.2.2.2 (8, 0) (by decide +kernel)).trans e8
  have e11 : E14.2.1 (5, 0) = q10 := (g14.2.2.2 (5, 0) (by decide +kernel)).trans e11
  refine c_put X hI (C := RX10) (T := TX10) (N := 9) (k := 7) rfl inX10 tyX10 tyX10_ok nmX10 (by decide) wi_629 rfl rfl rfl (by simp) dX10_init_60 (fun H15 locs15 hI => ?_)
  have hI : cI _ N0 s E14 μ14 ((a, .inr (10, [.ref q1, .ref q4, .ref q7, .null, .null, .null, .ref q10, .ref q13, .int 0])) :: [(q4, .inr (6, [.ref q1, .null]))]) H15 locs15 := hI
  have n6 : (6, 0) ∉ E14.2.2.1 := P.fr0 hok (hs := [(6, 0)]) (by decide +kernel) _ (by simp)
  have z16 : ∀ h' ∈ E14.2.2.1, zag μ14 (zz (6, 0) μ14) h' := fun h' z => zz_ag (fun e => n6 (by rw [← e]; exact z))
  obtain ⟨E16, g16, e16, hI⟩ := cI.fin (ci := 6) (i := 0) (μ' := zz (6, 0) μ14) ⟨hI.1, hI.2.1, hI.2.2.1.perm (List.Perm.swap _ _ _), hI.2.2.2⟩ n6 (by decide) rfl (List.forall_mem_cons.mpr ⟨fc_R (P.in (by decide +kernel)), List.forall_mem_cons.mpr ⟨fc_M (P.in (by decide +kernel)) (P.in (by decide +kernel)), fun _ h => absurd h List.not_mem_nil⟩⟩) z16 (fun E' hE' => zl (congrArg Value.ref ((hE' (7, 0) (by simp)).trans e2)) (zl (zmr_nullz) rfl))
  generalize hμ16 : zz (6, 0) μ14 = μ16 at hI z16
  have P : Pg E μ E16 μ16 bX5 := P.step g16 z16
  have P7 := P7.step g16 z16
  have P5 := P5.step g16 z16
  have e2 : E16.2.1 (7, 0) = q1 := (g16.2.2.2 (7, 0) (by decide +kernel)).trans e2
  have e8 : E16.2.1 (8, 0) = q7 := (g16.2.2.2 (8, 0) (by decide +kernel)).trans e8
  have e11 : E16.2.1 (5, 0) = q10 := (g16.2.2.2 (5, 0) (by decide +kernel)).trans e11
  have e14 : E16.2.1 (5, 1) = q13 := (g16.2.2.2 (5, 1) (by decide +kernel)).trans e14
  refine lv_aload_n X.1 X.2.1 dX10_init_63 rfl (lv_at hl 0 rfl) ?_
  refine c_new X hI hA (C := RX9) (T := TX9) (N := 13) (ci := 9) (fs := [.null, .int 0, .int 0, .int 0, .null, .null, .null, .null, .null, .null, .null, .null, .null]) rfl inX9 tyX9 tyX9_ok wi_317 wi_318 wi_112 (fun j hj => by rcases (by omega : j = 0 ∨ j = 1 ∨ j = 2 ∨ j = 3 ∨ j = 4 ∨ j = 5 ∨ j = 6 ∨ j = 7 ∨ j = 8 ∨ j = 9 ∨ j = 10 ∨ j = 11 ∨ j = 12) with rfl | rfl | rfl | rfl | rfl | rfl | rfl | rfl | rfl | rfl | rfl | rfl | rfl <;> rfl) (Nat.le_of_ble_eq_true rfl) (Nat.le_of_ble_eq_true rfl) dX10_init_64 (fun q17 H17 hI => ?_)
  refine lv_dup X.1 X.2.1 dX10_init_67 rfl ?_
  refine lv_aload_n X.1 X.2.1 dX10_init_68 rfl (lv_at hl 0 rfl) ?_
  refine c_getN 1 X hI rfl (C := RX10) (T := TX10) (N := 9) (k := 6) rfl inX10 (by decide) wi_628 rfl dX10_init_69 ?_
  refine W.eq (g2 := F0 m 72 ls (([Value.ref (E16.2.1 (5, 0))]).reverse ++ .ref q17 :: [.ref q17, .ref a])) (by rw [e11]; rfl) ?_
  refine c_callK (n := 1) (b := q17) (rest := [.ref q17, .ref a]) X hI hA hN hN0 (kX9_init 0) ⟨P.in (by decide +kernel), P.in (by decide +kernel)⟩ (P.fr0 hok (by decide +kernel)) (by decide +kernel) wi_319 wi_320 wi_321 wi_112 rfl ⟨by decide, by decide, by decide +kernel⟩ ⟨Nat.le_of_ble_eq_true rfl, Nat.le_of_ble_eq_true rfl⟩ ⟨Nat.le_of_ble_eq_true rfl, Nat.le_of_ble_eq_true rfl⟩ hl.1 (Nat.le_of_ble_eq_true rfl) rfl dX10_init_72 (fun H18 locs18 E18 μ18 g18 e18 z18 y18 hI => ?_)
  have P : Pg E μ E18 μ18 bX6 := P.step g18 z18
  have P7 := P7.step g18 z18
  have P5 := P5.step g18 z18
  have e2 : E18.2.1 (7, 0) = q1 := (g18.2.2.2 (7, 0) (by decide +kernel)).trans e2
  have e8 : E18.2.1 (8, 0) = q7 := (g18.2.2.2 (8, 0) (by decide +kernel)).trans e8
  have e11 : E18.2.1 (5, 0) = q10 := (g18.2.2.2 (5, 0) (by decide +kernel)).trans e11
  have e14 : E18.2.1 (5, 1) = q13 := (g18.2.2.2 (5, 1) (by decide +kernel)).trans e14
  have e16 : E18.2.1 (6, 0) = q4 := (g18.2.2.2 (6, 0) (by decide +kernel)).trans e16
  refine c_putF X hI him (C := RX10) (T := TX10) (N := 9) (k := 3) rfl inX10 tyX10 tyX10_ok nmX10 (by decide) wi_625 rfl rfl rfl rfl (by simp) dX10_init_75 (fun H19 locs19 hI => ?_)
  have hI : cI _ N0 s E18 μ18 ((a, .inr (10, [.ref q1, .ref q4, .ref q7, .ref q17, .null, .null, .ref q10, .ref q13, .int 0])) :: []) H19 locs19 := hI
  have P9 := Pg.rf (E := E18) (μ := μ18)
  have L9 : E18.2.2.1 = bX6 := by rw [P.1.2.2.1, hok]; rfl
  refine lv_aload_n X.1 X.2.1 dX10_init_78 rfl (lv_at hl 0 rfl) ?_
  refine c_new X hI hA (C := RX9) (T := TX9) (N := 13) (ci := 9) (fs := [.null, .int 0, .int 0, .int 0, .null, .null, .null, .null, .null, .null, .null, .null, .null]) rfl inX9 tyX9 tyX9_ok wi_317 wi_318 wi_112 (fun j hj => by rcases (by omega : j = 0 ∨ j = 1 ∨ j = 2 ∨ j = 3 ∨ j = 4 ∨ j = 5 ∨ j = 6 ∨ j = 7 ∨ j = 8 ∨ j = 9 ∨ j = 10 ∨ j = 11 ∨ j = 12) with rfl | rfl | rfl | rfl | rfl | rfl | rfl | rfl | rfl | rfl | rfl | rfl | rfl <;> rfl) (Nat.le_of_ble_eq_true rfl) (Nat.le_of_ble_eq_true rfl) dX10_init_79 (fun q20 H20 hI => ?_)
  refine lv_dup X.1 X.2.1 dX10_init_82 rfl ?_
  refine lv_aload_n X.1 X.2.1 dX10_init_83 rfl (lv_at hl 0 rfl) ?_
  refine c_getN 1 X hI rfl (C := RX10) (T := TX10) (N := 9) (k := 6) rfl inX10 (by decide) wi_628 rfl dX10_init_84 ?_
  refine W.eq (g2 := F0 m 87 ls (([Value.ref (E18.2.1 (5, 0))]).reverse ++ .ref q20 :: [.ref q20, .ref a])) (by rw [e11]; rfl) ?_
  refine c_callK (n := 1) (b := q20) (rest := [.ref q20, .ref a]) X hI hA hN hN0 (kX9_init 1) ⟨P.in (by decide +kernel), P.in (by decide +kernel)⟩ (P.fr0 hok (by decide +kernel)) (by decide +kernel) wi_319 wi_320 wi_321 wi_112 rfl ⟨by decide, by decide, by decide +kernel⟩ ⟨Nat.le_of_ble_eq_true rfl, Nat.le_of_ble_eq_true rfl⟩ ⟨Nat.le_of_ble_eq_true rfl, Nat.le_of_ble_eq_true rfl⟩ hl.1 (Nat.le_of_ble_eq_true rfl) rfl dX10_init_87 (fun H21 locs21 E21 μ21 g21 e21 z21 y21 hI => ?_)
  have P : Pg E μ E21 μ21 bX7 := P.step g21 z21
  have P7 := P7.step g21 z21
  have P5 := P5.step g21 z21
  have P9 := P9.step g21 z21
  have e2 : E21.2.1 (7, 0) = q1 := (g21.2.2.2 (7, 0) (by decide +kernel)).trans e2
  have e8 : E21.2.1 (8, 0) = q7 := (g21.2.2.2 (8, 0) (by decide +kernel)).trans e8
  have e11 : E21.2.1 (5, 0) = q10 := (g21.2.2.2 (5, 0) (by decide +kernel)).trans e11
  have e14 : E21.2.1 (5, 1) = q13 := (g21.2.2.2 (5, 1) (by decide +kernel)).trans e14
  have e16 : E21.2.1 (6, 0) = q4 := (g21.2.2.2 (6, 0) (by decide +kernel)).trans e16
  have e18 : E21.2.1 (9, 0) = q17 := (g21.2.2.2 (9, 0) (by decide +kernel)).trans e18
  refine c_putF X hI him (C := RX10) (T := TX10) (N := 9) (k := 4) rfl inX10 tyX10 tyX10_ok nmX10 (by decide) wi_626 rfl rfl rfl rfl (by simp) dX10_init_90 (fun H22 locs22 hI => ?_)
  have hI : cI _ N0 s E21 μ21 ((a, .inr (10, [.ref q1, .ref q4, .ref q7, .ref q17, .ref q20, .null, .ref q10, .ref q13, .int 0])) :: []) H22 locs22 := hI
  refine lv_aload_n X.1 X.2.1 dX10_init_93 rfl (lv_at hl 0 rfl) ?_
  refine c_new X hI hA (C := RX2) (T := TX2) (N := 3) (ci := 2) (fs := [.null, .int 0, .int 0]) rfl inX2 tyX2 tyX2_ok wi_485 wi_486 wi_117 (fun j hj => by rcases (by omega : j = 0 ∨ j = 1 ∨ j = 2) with rfl | rfl | rfl <;> rfl) (Nat.le_of_ble_eq_true rfl) (Nat.le_of_ble_eq_true rfl) dX10_init_94 (fun q23 H23 hI => ?_)
  refine lv_dup X.1 X.2.1 dX10_init_97 rfl ?_
  refine lv_aload_n X.1 X.2.1 dX10_init_98 rfl (lv_at hl 0 rfl) ?_
  refine c_getN 1 X hI rfl (C := RX10) (T := TX10) (N := 9) (k := 6) rfl inX10 (by decide) wi_628 rfl dX10_init_99 ?_
  refine W.eq (g2 := F0 m 102 ls (([Value.ref (E21.2.1 (5, 0))]).reverse ++ .ref q23 :: [.ref q23, .ref a])) (by rw [e11]; rfl) ?_
  refine c_callK (n := 1) (b := q23) (rest := [.ref q23, .ref a]) X hI hA hN hN0 (kX2_init) ⟨P.in (by decide +kernel), P.in (by decide +kernel)⟩ (P.fr0 hok (by decide +kernel)) (by decide +kernel) wi_487 wi_488 wi_489 wi_117 rfl ⟨by decide, by decide, by decide +kernel⟩ ⟨Nat.le_of_ble_eq_true rfl, Nat.le_of_ble_eq_true rfl⟩ ⟨Nat.le_of_ble_eq_true rfl, Nat.le_of_ble_eq_true rfl⟩ hl.1 (Nat.le_of_ble_eq_true rfl) rfl dX10_init_102 (fun H24 locs24 E24 μ24 g24 e24 z24 y24 hI => ?_)
  have P : Pg E μ E24 μ24 bX8 := P.step g24 z24
  have P7 := P7.step g24 z24
  have P5 := P5.step g24 z24
  have P9 := P9.step g24 z24
  have e2 : E24.2.1 (7, 0) = q1 := (g24.2.2.2 (7, 0) (by decide +kernel)).trans e2
  have e8 : E24.2.1 (8, 0) = q7 := (g24.2.2.2 (8, 0) (by decide +kernel)).trans e8
  have e11 : E24.2.1 (5, 0) = q10 := (g24.2.2.2 (5, 0) (by decide +kernel)).trans e11
  have e14 : E24.2.1 (5, 1) = q13 := (g24.2.2.2 (5, 1) (by decide +kernel)).trans e14
  have e16 : E24.2.1 (6, 0) = q4 := (g24.2.2.2 (6, 0) (by decide +kernel)).trans e16
  have e18 : E24.2.1 (9, 0) = q17 := (g24.2.2.2 (9, 0) (by decide +kernel)).trans e18
  have e21 : E24.2.1 (9, 1) = q20 := (g24.2.2.2 (9, 1) (by decide +kernel)).trans e21
  refine c_putF X hI him (C := RX10) (T := TX10) (N := 9) (k := 5) rfl inX10 tyX10 tyX10_ok nmX10 (by decide) wi_627 rfl rfl rfl rfl (by simp) dX10_init_105 (fun H25 locs25 hI => ?_)
  have hI : cI _ N0 s E24 μ24 ((a, .inr (10, [.ref q1, .ref q4, .ref q7, .ref q17, .ref q20, .ref q23, .ref q10, .ref q13, .int 0])) :: []) H25 locs25 := hI
  refine lv_aload_n X.1 X.2.1 dX10_init_108 rfl (lv_at hl 0 rfl) ?_
  refine lv_bipush (v := -2) X.1 X.2.1 dX10_init_109 (by decide) ?_
  refine c_put X hI (C := RX10) (T := TX10) (N := 9) (k := 8) rfl inX10 tyX10 tyX10_ok nmX10 (by decide) wi_630 rfl rfl rfl (by simp) dX10_init_111 (fun H26 locs26 hI => ?_)
  have hI : cI _ N0 s E24 μ24 ((a, .inr (10, [.ref q1, .ref q4, .ref q7, .ref q17, .ref q20, .ref q23, .ref q10, .ref q13, .int (-2)])) :: []) H26 locs26 := hI
  refine lv_aload_n X.1 X.2.1 dX10_init_114 rfl (lv_at hl 0 rfl) ?_
  refine c_getN 0 X hI rfl (C := RX10) (T := TX10) (N := 9) (k := 6) rfl inX10 (by decide) wi_628 rfl dX10_init_115 ?_
  refine lv_aload_n X.1 X.2.1 dX10_init_118 rfl (lv_at hl 0 rfl) ?_
  refine c_getN 0 X hI rfl (C := RX10) (T := TX10) (N := 9) (k := 2) rfl inX10 (by decide) wi_624 rfl dX10_init_119 ?_
  have hst : ST0 μ24 := STg.of y11 (fun k hk => (P5.2 (k, 0) (by rw [L5]; rcases hk with rfl | rfl | rfl | rfl <;> decide +kernel)).1)
  obtain ⟨μd, d1, d2⟩ := describe_start hst
  refine W.eq (g2 := F0 m 122 ls ((([.inr (.inr (8, 0))] : List zV).map (zval E24)).reverse ++ Value.ref (E24.2.1 (5, 0)) :: [])) (by
    show _ = F0 m 122 ls [if (8 : Nat) = 77 then E24.2.2.2.2 else Value.ref (E24.2.1 (8, 0)), Value.ref (E24.2.1 (5, 0))]
    rw [e8, e11]
    rfl) ?_
  refine c_callV (kc := 5) (C := RX5) (T := TX5) (N := 16) X hI hN kX5_describe qX10_init wd_505 wd_506 wd_507 rfl ((uX5_describe 0 μ24).trans d1) rfl (P.in (by decide +kernel)) (fun v hv => by rw [List.mem_singleton.mp hv]; exact Or.inl (P.in (by decide +kernel))) rfl (Nat.le_of_ble_eq_true rfl) hl.1 ⟨Nat.le_of_ble_eq_true rfl, Nat.le_of_ble_eq_true rfl⟩ dX10_init_122 (fun Hd locsd hI => ?_)
  have n10 : (10, 0) ∉ E24.2.2.1 := P.fr0 hok (hs := [(10, 0)]) (by decide +kernel) _ (by simp)
  have zT : ∀ h' ∈ E24.2.2.1, zag μd (mT μd) h' := fun h' z => mT_ag (fun e => n10 (by rw [← e]; exact z))
  obtain ⟨E27, g27, e27, hI⟩ := hI.fin (μ' := mT μd) (i := 0) n10 (by decide) rfl (List.forall_mem_cons.mpr ⟨fc_R (P.in (by decide +kernel)), List.forall_mem_cons.mpr ⟨fc_R (P.in (by decide +kernel)), List.forall_mem_cons.mpr ⟨fc_R (P.in (by decide +kernel)), List.forall_mem_cons.mpr ⟨fc_R (P.in (by decide +kernel)), List.forall_mem_cons.mpr ⟨fc_R (P.in (by decide +kernel)), List.forall_mem_cons.mpr ⟨fc_R (P.in (by decide +kernel)), List.forall_mem_cons.mpr ⟨fc_M (P.in (by decide +kernel)) (P.in (by decide +kernel)), List.forall_mem_cons.mpr ⟨fc_M (P.in (by decide +kernel)) (P.in (by decide +kernel)), List.forall_mem_cons.mpr ⟨fc_I, fun _ h => absurd h List.not_mem_nil⟩⟩⟩⟩⟩⟩⟩⟩⟩) zT (fun E' hE' => zl (congrArg Value.ref ((hE' (7, 0) (by simp)).trans e2)) (zl (congrArg Value.ref ((hE' (6, 0) (by simp)).trans e16)) (zl (congrArg Value.ref ((hE' (8, 0) (by simp)).trans e8)) (zl (congrArg Value.ref ((hE' (9, 0) (by simp)).trans e18)) (zl (congrArg Value.ref ((hE' (9, 1) (by simp)).trans e21)) (zl (congrArg Value.ref ((hE' (2, 0) (by simp)).trans e24)) (zl (congrArg Value.ref ((hE' (5, 0) (by simp)).trans e11)) (zl (congrArg Value.ref ((hE' (5, 1) (by simp)).trans e14)) (zl rfl rfl)))))))))
  have P : Pg E μ E27 (mT μd) bX9 := ⟨P.1.trans g27, fun h z => by rw [hok] at z; exact absurd z List.not_mem_nil⟩
  refine W.widen (k := rX10_init.cells) (n := rX10_init.slots) (Nat.le_of_ble_eq_true rfl) (Nat.le_of_ble_eq_true rfl) ?_
  refine c_ret X hr hlocks hI P.1 e27 P.2 ?_ dX10_init_125
  have hb : BEG μ24 := BEG.of (y18 rfl).1 (fun k z hk => congrFun (P9.2 (k, 0) (by rw [L9]; exact List.mem_append_right _ (hX9_in (show isW 0 k 0 by unfold isW; omega)))).1 z)
  have h9 : μ24.2.1 9 0 0 = 0 := (congrFun (P9.2 (9, 0) (by rw [L9]; decide +kernel)).2.1 0).trans (y18 rfl).2
  have h7 : μ24.1 7 0 1 = 0 := (congrFun (P7.2 (7, 0) (by rw [L7]; decide +kernel)).1 1).trans y2
  exact FB_of hst hb h9 y24 h7 d2
