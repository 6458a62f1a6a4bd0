set_option maxRecDepth 20000 in
theorem kX2_init : Kon yX2_init cX2_init 3 rX2_init 2 0 [.null, .int 0, .int 0] hX2 (fun E => (5, 0) ∈ E.2.2.1 ∧ (5, 1) ∈ E.2.2.1) (fun E => [.ref (E.2.1 (5, 0))]) (fun μ => μ.1 2 0 1 = 0 ∧ μ.1 2 0 2 = 0) := by
  refine kon_of (by decide) rfl ?_
  intro p l e s m args below meth c E μ N0 a X him hr hlocks hok hfr hN0 hN hA hI hargs
  subst hargs
  have hl := lv_entry ([.ref a, .ref (E.2.1 (5, 0))]) (n := 3) (Nat.le_of_ble_eq_true rfl)
  show W p l e _ s m _ below meth c s.heap [] 0 0 _ (entryFrame m ([.ref a, .ref (E.2.1 (5, 0))] : List Value).toArray 3)
  rw [lg_entry_eq]
  generalize (lg_sl ([.ref a, .ref (E.2.1 (5, 0))]) ++ List.replicate (3 - (lg_sl ([.ref a, .ref (E.2.1 (5, 0))])).length) Slot.unset).toArray = ls at hl ⊢
  have hl : lv_has ls 3 [(0, .ref a), (1, .ref (E.2.1 (5, 0)))] := hl
  refine lv_aload_n X.1 X.2.1 dX2_init_0 rfl (lv_at hl 0 rfl) ?_
  refine W.objInit X.1 X.2.1 X.2.2.2.1 (X.2.2.2.2 _ wi_490) (X.2.2.2.2 _ wi_130) (X.2.2.2.2 _ wi_131) rfl (by rw [X.2.2.1]; exact hl.1) rfl dX2_init_1 (Nat.le_of_ble_eq_true rfl) (Nat.le_of_ble_eq_true rfl) ?_
  refine W.eq (g2 := F0 m 4 ls []) rfl ?_
  refine lv_aload_n X.1 X.2.1 dX2_init_4 rfl (lv_at hl 0 rfl) ?_
  refine lv_bipush (v := 10) X.1 X.2.1 dX2_init_5 (by decide) ?_
  refine c_newq X hI hA (N' := 10) wi_491 (by decide) (by decide) (Nat.le_of_ble_eq_true rfl) (Nat.le_of_ble_eq_true rfl) (Nat.le_of_ble_eq_true rfl) dX2_init_7 (fun h H1 hI => ?_)
  have hI : cI _ N0 s E μ [(a, .inr (2, [.null, .int 0, .int 0])), (h, .inl (E.2.2.2.1 2, 10, .inr (.inr (.inr (.inr (fun _ => none))))))] H1 [] := ⟨hI.1, hI.2.1, hI.2.2.1.perm (List.Perm.swap _ _ _), hI.2.2.2⟩
  refine c_putF X hI him (C := RX2) (T := TX2) (N := 3) (k := 0) rfl inX2 tyX2 tyX2_ok nmX2 (by decide) wi_494 rfl rfl rfl rfl (by simp) dX2_init_10 (fun H2 locs2 hI => ?_)
  have hI : cI _ N0 s E μ [(a, .inr (2, [.ref h, .int 0, .int 0])), (h, .inl (E.2.2.2.1 2, 10, .inr (.inr (.inr (.inr (fun _ => none))))))] H2 locs2 := hI
  refine lv_iconst (v := 0) X.1 X.2.1 dX2_init_13 (by decide) ?_
  refine lv_istore_n X.1 X.2.1 dX2_init_14 rfl hl (by decide) rfl (fun ls hl => ?_)
  have hl : lv_has ls 3 [(2, .int (nI 0)), (0, .ref a), (1, .ref (E.2.1 (5, 0)))] := hl
  refine hist_loop X hok hfr hN0 hN hA (fun H3 locs3 E1 μ1 f ls3 P hf hI => ?_) 10 0 H2 locs2 E μ (fun _ => none) ls rfl hl Pg.rf (fun j hj => absurd hj (Nat.not_lt_zero _)) hI
  obtain ⟨hC, hE, hW, hS⟩ := hI
  have n35 : (35, 0) ∉ E1.2.2.1 := P.fr hfr (List.mem_append_right _ (by simp)) (fun z => by
    obtain ⟨j, -, h2⟩ := hsW_num z
    have := hX9_isW h2
    unfold isW at this
    dsimp only at this
    omega)
  have zz1 : ∀ h' ∈ E1.2.2.1, zag μ1 (zz (35, 0) μ1) h' := fun h' z => zz_ag (fun e => n35 (by rw [← e]; exact z))
  have hin9 : ∀ j, j < 10 → (9, 2 + j) ∈ E1.2.2.1 := fun j hj => P.in (hsW_in hj (by simp))
  have hW2 := (hW.perm (List.Perm.swap _ _ _)).take' (h := (35, 0)) (μ' := zz (35, 0) μ1) hC n35 zz1 (fun v => by
    rw [zcell_2 (h := (35, 0)) (n := 10) (q := (9, 2)) rfl]
    have v1 : H3[h]? = some (vp_cell _ _) := v
    show H3[h]? = some (vp_cell _ _)
    rw [v1, vp_cell_q, vp_cell_q]
    refine congrArg some (arrV_ext fun j hj => ?_)
    rw [hf j hj, zadd_ne (fun e => absurd (congrArg Prod.fst e) (show ¬ (9 : Nat) = 35 by decide))])
  have hC2 : zCl (zadd E1 (35, 0) h) := hC.add (Nat.le_of_ble_eq_true rfl) (fun fs e => by cases e) (fun t n r e _ j hj => by cases e; exact hin9 j hj)
  have g2 : zGr E1 (zadd E1 (35, 0) h) [(35, 0)] := zadd_gr _ _ _
  have hI : cI _ N0 s (zadd E1 (35, 0) h) (zz (35, 0) μ1) [(a, .inr (2, [.ref h, .int 0, .int 0]))] H3 locs3 := ⟨hC2, hE.gr g2 (fun h' z => by rw [List.mem_singleton.mp z]; exact Nat.le_of_ble_eq_true rfl), hW2, hS⟩
  have P2 : Pg E μ (zadd E1 (35, 0) h) (zz (35, 0) μ1) (hsW 10 ++ [(35, 0)]) := P.step g2 zz1
  have n2 : (2, 0) ∉ (zadd E1 (35, 0) h).2.2.1 := P2.fr hfr (List.mem_append_right _ (by simp)) (fun z => by
    rcases List.mem_append.mp z with z | z
    · obtain ⟨j, -, h2⟩ := hsW_num z
      have := hX9_isW h2
      unfold isW at this
      dsimp only at this
      omega
    · exact absurd (congrArg Prod.fst (List.mem_singleton.mp z)) (show ¬ (2 : Nat) = 35 by decide))
  have e35 : (zadd E1 (35, 0) h).2.1 (35, 0) = h := zadd_at _ _ _
  have zq : ∀ h' ∈ (zadd E1 (35, 0) h).2.2.1, zag (zz (35, 0) μ1) (zz (2, 0) (zz (35, 0) μ1)) h' := fun h' z => zz_ag (fun e => n2 (by rw [← e]; exact z))
  obtain ⟨E5, g5, e5, hI⟩ := hI.fin (μ' := zz (2, 0) (zz (35, 0) μ1)) (i := 0) n2 (by decide) rfl (List.forall_mem_cons.mpr ⟨fc_R (P2.in (List.mem_append_right _ (by simp))), List.forall_mem_cons.mpr ⟨fc_I, List.forall_mem_cons.mpr ⟨fc_I, fun _ h => absurd h List.not_mem_nil⟩⟩⟩) zq (fun E' hE' => zl (congrArg Value.ref ((hE' (35, 0) (by simp)).trans e35)) (zl (congrArg Value.int (zz_i _ _ _)) (zl (congrArg Value.int (zz_i _ _ _)) rfl)))
  have P5 : Pg E μ E5 (zz (2, 0) (zz (35, 0) μ1)) hX2 := by
    have := P2.step g5 zq
    rw [List.append_assoc] at this
    exact this
  exact c_ret X hr hlocks hI P5.1 e5 P5.2 ⟨zz_i (2, 0) _ 1, zz_i (2, 0) _ 2⟩ dX2_init_41
