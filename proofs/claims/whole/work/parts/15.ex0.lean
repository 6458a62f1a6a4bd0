/-! BaggageHandling$Bags.copyFrom(LBaggageHandling$Bags;)V -/
noncomputable def tX0_copyFrom_114 (ia0 : Nat) (ia1 : Nat) (is0 : Nat) (μ : zM) : Option (Option zV × zM) := fX0_copyFrom_114 [some (.inr (.inr (0, ia0))), some (.inr (.inr (0, ia1)))] [.inr (.inr (0, is0))] μ
noncomputable def tX0_copyFrom_0 (ia0 : Nat) (ia1 : Nat) (μ : zM) : Option (Option zV × zM) := fX0_copyFrom_0 [some (.inr (.inr (0, ia0))), some (.inr (.inr (0, ia1)))] [] μ
theorem eX0_copyFrom_114 (ia0 : Nat) (ia1 : Nat) (is0 : Nat) (μ : zM) : tX0_copyFrom_114 ia0 ia1 is0 μ = (qC μ (28, is0) (28, ia0) 0 0 100).bind fun μ1 => (qC μ1 (29, ia1) (29, ia0) 0 0 100).bind fun μ2 => some (none, μ2) := (zs3 _ _ _ _).trans (rfl)
theorem eX0_copyFrom_0 (ia0 : Nat) (ia1 : Nat) (μ : zM) : tX0_copyFrom_0 ia0 ia1 μ = zlet (mS μ 0 ia0 0 (μ.1 0 ia1 0)) fun μ1 => (qC μ1 (21, ia1) (21, ia0) 0 0 100).bind fun μ2 => (qC μ2 (22, ia1) (22, ia0) 0 0 100).bind fun μ3 => (qC μ3 (23, ia1) (23, ia0) 0 0 100).bind fun μ4 => (qC μ4 (24, ia1) (24, ia0) 0 0 100).bind fun μ5 => (qC μ5 (25, ia1) (25, ia0) 0 0 100).bind fun μ6 => (qC μ6 (26, ia1) (26, ia0) 0 0 100).bind fun μ7 => (qC μ7 (27, ia1) (27, ia0) 0 0 100).bind fun μ8 => tX0_copyFrom_114 ia0 ia1 ia1 μ8 := (zs3 _ _ _ _).trans (rfl)
theorem uX0_copyFrom (ia0 : Nat) (ia1 : Nat) (μ : zM) : gX0_copyFrom [.inr (.inr (0, ia0)), .inr (.inr (0, ia1))] μ = tX0_copyFrom_0 ia0 ia1 μ := rfl
/-! BaggageHandling$Bags.has(I)Z -/
noncomputable def tX0_has_17 (s0 : Int32) (μ : zM) : Option (Option zV × zM) := fX0_has_17 [none, none] [.inl s0] μ
noncomputable def tX0_has_16 (μ : zM) : Option (Option zV × zM) := fX0_has_16 [none, none] [] μ
noncomputable def tX0_has_0 (ia0 : Nat) (a1 : Int32) (μ : zM) : Option (Option zV × zM) := fX0_has_0 [some (.inr (.inr (0, ia0))), some (.inl a1)] [] μ
theorem eX0_has_17 (s0 : Int32) (μ : zM) : tX0_has_17 s0 μ = zif (vp_nar .boolean s0 = s0) (some (some (.inl s0), μ)) none := (zs3 _ _ _ _).trans (rfl)
theorem eX0_has_16 (μ : zM) : tX0_has_16 μ = tX0_has_17 0 μ := (zs3 _ _ _ _).trans (rfl)
theorem eX0_has_0 (ia0 : Nat) (a1 : Int32) (μ : zM) : tX0_has_0 ia0 a1 μ = zif (a1 < 0) (tX0_has_16 μ) (zif (a1 < μ.1 0 ia0 0) (tX0_has_17 1 μ) (tX0_has_16 μ)) := (zs3 _ _ _ _).trans (rfl)
theorem uX0_has (ia0 : Nat) (a1 : Int32) (μ : zM) : gX0_has [.inr (.inr (0, ia0)), .inl a1] μ = tX0_has_0 ia0 a1 μ := rfl
/-! BaggageHandling$Bags.describe(IIIIII)V -/
noncomputable def tX0_describe_46 (μ : zM) : Option (Option zV × zM) := fX0_describe_46 [none, none, none, none, none, none, none] [] μ
noncomputable def tX0_describe_0 (ia0 : Nat) (a1 : Int32) (a2 : Int32) (a3 : Int32) (a4 : Int32) (a5 : Int32) (a6 : Int32) (μ : zM) : Option (Option zV × zM) := fX0_describe_0 [some (.inr (.inr (0, ia0))), some (.inl a1), some (.inl a2), some (.inl a3), some (.inl a4), some (.inl a5), some (.inl a6)] [] μ
theorem eX0_describe_46 (μ : zM) : tX0_describe_46 μ = some (none, μ) := (zs3 _ _ _ _).trans (rfl)
theorem eX0_describe_0 (ia0 : Nat) (a1 : Int32) (a2 : Int32) (a3 : Int32) (a4 : Int32) (a5 : Int32) (a6 : Int32) (μ : zM) : tX0_describe_0 ia0 a1 a2 a3 a4 a5 a6 μ = zI (tX0_has_0 ia0 a1 μ) fun v2 μ1 => zif (v2 = 0) (tX0_describe_46 μ1) ((wI μ1 (21, ia0) a1 a2).bind fun μ3 => (wI μ3 (22, ia0) a1 a3).bind fun μ4 => (wI μ4 (23, ia0) a1 a4).bind fun μ5 => (wI μ5 (24, ia0) a1 a5).bind fun μ6 => (wI μ6 (25, ia0) a1 a6).bind fun μ7 => tX0_describe_46 μ7) := (zs3 _ _ _ _).trans (rfl)
theorem uX0_describe (ia0 : Nat) (a1 : Int32) (a2 : Int32) (a3 : Int32) (a4 : Int32) (a5 : Int32) (a6 : Int32) (μ : zM) : gX0_describe [.inr (.inr (0, ia0)), .inl a1, .inl a2, .inl a3, .inl a4, .inl a5, .inl a6] μ = tX0_describe_0 ia0 a1 a2 a3 a4 a5 a6 μ := rfl
/-! BaggageHandling$Bags.put(III)V -/
noncomputable def tX0_put_0 (ia0 : Nat) (a1 : Int32) (a2 : Int32) (a3 : Int32) (μ : zM) : Option (Option zV × zM) := fX0_put_0 [some (.inr (.inr (0, ia0))), some (.inl a1), some (.inl a2), some (.inl a3)] [] μ
theorem eX0_put_0 (ia0 : Nat) (a1 : Int32) (a2 : Int32) (a3 : Int32) (μ : zM) : tX0_put_0 ia0 a1 a2 a3 μ = (wI μ (26, ia0) a1 a2).bind fun μ1 => (wI μ1 (27, ia0) a1 a3).bind fun μ2 => some (none, μ2) := (zs3 _ _ _ _).trans (rfl)
theorem uX0_put (ia0 : Nat) (a1 : Int32) (a2 : Int32) (a3 : Int32) (μ : zM) : gX0_put [.inr (.inr (0, ia0)), .inl a1, .inl a2, .inl a3] μ = tX0_put_0 ia0 a1 a2 a3 μ := rfl
/-! BaggageHandling$Bags.isDelivered(I)Z -/
noncomputable def tX0_isDelivered_25 (s0 : Int32) (μ : zM) : Option (Option zV × zM) := fX0_isDelivered_25 [none, none] [.inl s0] μ
noncomputable def tX0_isDelivered_20 (μ : zM) : Option (Option zV × zM) := fX0_isDelivered_20 [none, none] [] μ
noncomputable def tX0_isDelivered_0 (ia0 : Nat) (a1 : Int32) (μ : zM) : Option (Option zV × zM) := fX0_isDelivered_0 [some (.inr (.inr (0, ia0))), some (.inl a1)] [] μ
theorem eX0_isDelivered_25 (s0 : Int32) (μ : zM) : tX0_isDelivered_25 s0 μ = zif (vp_nar .boolean s0 = s0) (some (some (.inl s0), μ)) none := (zs3 _ _ _ _).trans (rfl)
theorem eX0_isDelivered_20 (μ : zM) : tX0_isDelivered_20 μ = tX0_isDelivered_25 1 μ := (zs3 _ _ _ _).trans (rfl)
theorem eX0_isDelivered_0 (ia0 : Nat) (a1 : Int32) (μ : zM) : tX0_isDelivered_0 ia0 a1 μ = (qI μ (26, ia0) a1).bind fun v1 => zif (v1 = 2) (tX0_isDelivered_20 μ) ((qI μ (26, ia0) a1).bind fun v2 => zif (v2 = 3) (tX0_isDelivered_20 μ) (tX0_isDelivered_25 0 μ)) := (zs3 _ _ _ _).trans (rfl)
theorem uX0_isDelivered (ia0 : Nat) (a1 : Int32) (μ : zM) : gX0_isDelivered [.inr (.inr (0, ia0)), .inl a1] μ = tX0_isDelivered_0 ia0 a1 μ := rfl
/-! BaggageHandling$Bags.isGone(I)Z -/
noncomputable def tX0_isGone_27 (s0 : Int32) (μ : zM) : Option (Option zV × zM) := fX0_isGone_27 [none, none] [.inl s0] μ
noncomputable def tX0_isGone_22 (μ : zM) : Option (Option zV × zM) := fX0_isGone_22 [none, none] [] μ
noncomputable def tX0_isGone_0 (ia0 : Nat) (a1 : Int32) (μ : zM) : Option (Option zV × zM) := fX0_isGone_0 [some (.inr (.inr (0, ia0))), some (.inl a1)] [] μ
theorem eX0_isGone_27 (s0 : Int32) (μ : zM) : tX0_isGone_27 s0 μ = zif (vp_nar .boolean s0 = s0) (some (some (.inl s0), μ)) none := (zs3 _ _ _ _).trans (rfl)
theorem eX0_isGone_22 (μ : zM) : tX0_isGone_22 μ = tX0_isGone_27 1 μ := (zs3 _ _ _ _).trans (rfl)
theorem eX0_isGone_0 (ia0 : Nat) (a1 : Int32) (μ : zM) : tX0_isGone_0 ia0 a1 μ = (qI μ (26, ia0) a1).bind fun v1 => zif (v1 = 8) (tX0_isGone_22 μ) ((qI μ (26, ia0) a1).bind fun v2 => zif (v2 = 9) (tX0_isGone_22 μ) (tX0_isGone_27 0 μ)) := (zs3 _ _ _ _).trans (rfl)
theorem uX0_isGone (ia0 : Nat) (a1 : Int32) (μ : zM) : gX0_isGone [.inr (.inr (0, ia0)), .inl a1] μ = tX0_isGone_0 ia0 a1 μ := rfl
/-! BaggageHandling$Flights.add(IIII)V -/
noncomputable def tX1_add_60 (μ : zM) : Option (Option zV × zM) := fX1_add_60 [none, none, none, none, none] [] μ
noncomputable def tX1_add_0 (ia0 : Nat) (a1 : Int32) (a2 : Int32) (a3 : Int32) (a4 : Int32) (μ : zM) : Option (Option zV × zM) := fX1_add_0 [some (.inr (.inr (1, ia0))), some (.inl a1), some (.inl a2), some (.inl a3), some (.inl a4)] [] μ
theorem eX1_add_60 (μ : zM) : tX1_add_60 μ = some (none, μ) := (zs3 _ _ _ _).trans (rfl)
theorem eX1_add_0 (ia0 : Nat) (a1 : Int32) (a2 : Int32) (a3 : Int32) (a4 : Int32) (μ : zM) : tX1_add_0 ia0 a1 a2 a3 a4 μ = zif (μ.1 1 ia0 0 < 10) ((wI μ (31, ia0) (μ.1 1 ia0 0) a1).bind fun μ1 => (wI μ1 (32, ia0) (μ1.1 1 ia0 0) a2).bind fun μ2 => (wI μ2 (33, ia0) (μ2.1 1 ia0 0) a3).bind fun μ3 => (wI μ3 (34, ia0) (μ3.1 1 ia0 0) a4).bind fun μ4 => zlet (mS μ4 1 ia0 0 ((μ4.1 1 ia0 0) + 1)) fun μ5 => tX1_add_60 μ5) (tX1_add_60 μ) := (zs3 _ _ _ _).trans (rfl)
theorem uX1_add (ia0 : Nat) (a1 : Int32) (a2 : Int32) (a3 : Int32) (a4 : Int32) (μ : zM) : gX1_add [.inr (.inr (1, ia0)), .inl a1, .inl a2, .inl a3, .inl a4] μ = tX1_add_0 ia0 a1 a2 a3 a4 μ := rfl
/-! BaggageHandling$Flights.has(I)Z -/
noncomputable def tX1_has_17 (s0 : Int32) (μ : zM) : Option (Option zV × zM) := fX1_has_17 [none, none] [.inl s0] μ
noncomputable def tX1_has_16 (μ : zM) : Option (Option zV × zM) := fX1_has_16 [none, none] [] μ
noncomputable def tX1_has_0 (ia0 : Nat) (a1 : Int32) (μ : zM) : Option (Option zV × zM) := fX1_has_0 [some (.inr (.inr (1, ia0))), some (.inl a1)] [] μ
theorem eX1_has_17 (s0 : Int32) (μ : zM) : tX1_has_17 s0 μ = zif (vp_nar .boolean s0 = s0) (some (some (.inl s0), μ)) none := (zs3 _ _ _ _).trans (rfl)
theorem eX1_has_16 (μ : zM) : tX1_has_16 μ = tX1_has_17 0 μ := (zs3 _ _ _ _).trans (rfl)
theorem eX1_has_0 (ia0 : Nat) (a1 : Int32) (μ : zM) : tX1_has_0 ia0 a1 μ = zif (a1 < 0) (tX1_has_16 μ) (zif (a1 < μ.1 1 ia0 0) (tX1_has_17 1 μ) (tX1_has_16 μ)) := (zs3 _ _ _ _).trans (rfl)
theorem uX1_has (ia0 : Nat) (a1 : Int32) (μ : zM) : gX1_has [.inr (.inr (1, ia0)), .inl a1] μ = tX1_has_0 ia0 a1 μ := rfl
/-! BaggageHandling$Flights.ofLabel(I)I -/
noncomputable def tX1_ofLabel_31 (n8 : Nat) (ia0 : Nat) (a2 : Int32) (a3 : Int32) (μ : zM) : Option (Option zV × zM) := fX1_ofLabel_31 (fX1_ofLabel_8 n8) [some (.inr (.inr (1, ia0))), none, some (.inl a2), some (.inl a3)] [] μ
noncomputable def tX1_ofLabel_8 (n : Nat) (ia0 : Nat) (a2 : Int32) (a3 : Int32) (μ : zM) : Option (Option zV × zM) := fX1_ofLabel_8 n [some (.inr (.inr (1, ia0))), none, some (.inl a2), some (.inl a3)] [] μ
noncomputable def tX1_ofLabel_6 (ia0 : Nat) (a2 : Int32) (μ : zM) : Option (Option zV × zM) := fX1_ofLabel_6 [some (.inr (.inr (1, ia0))), none, some (.inl a2), none] [] μ
noncomputable def tX1_ofLabel_0 (ia0 : Nat) (a1 : Int32) (μ : zM) : Option (Option zV × zM) := fX1_ofLabel_0 [some (.inr (.inr (1, ia0))), some (.inl a1), none, none] [] μ
theorem eX1_ofLabel_31 (n8 : Nat) (ia0 : Nat) (a2 : Int32) (a3 : Int32) (μ : zM) : tX1_ofLabel_31 n8 ia0 a2 a3 μ = tX1_ofLabel_8 n8 ia0 a2 a3 μ := (zs3 _ _ _ _).trans (rfl)
theorem eX1_ofLabel_8 (ia0 : Nat) (a2 : Int32) (a3 : Int32) (n : Nat) (μ : zM) : tX1_ofLabel_8 (n + 1) ia0 a2 a3 μ = zif (a3 < μ.1 1 ia0 0) ((qI μ (31, ia0) a3).bind fun v1 => zif (v1 = a2) (some (some (.inl a3), μ)) (tX1_ofLabel_31 n ia0 a2 (a3 + 1) μ)) (some (some (.inl (-1)), μ)) := (zs3 _ _ _ _).trans (rfl)
theorem eX1_ofLabel_6 (ia0 : Nat) (a2 : Int32) (μ : zM) : tX1_ofLabel_6 ia0 a2 μ = tX1_ofLabel_8 zN ia0 a2 0 μ := (zs3 _ _ _ _).trans (rfl)
theorem eX1_ofLabel_0 (ia0 : Nat) (a1 : Int32) (μ : zM) : tX1_ofLabel_0 ia0 a1 μ = zif ((1000 : Int32) = 0) none (tX1_ofLabel_6 ia0 (a1 / 1000) μ) := (zs3 _ _ _ _).trans (rfl)
theorem uX1_ofLabel (ia0 : Nat) (a1 : Int32) (μ : zM) : gX1_ofLabel [.inr (.inr (1, ia0)), .inl a1] μ = tX1_ofLabel_0 ia0 a1 μ := rfl
/-! BaggageHandling$History.forget()V -/
noncomputable def tX2_forget_0 (μ : zM) : Option (Option zV × zM) := fX2_forget_0 [some (.inr (.inr (2, 0)))] [] μ
theorem eX2_forget_0 (μ : zM) : tX2_forget_0 μ = zlet (mS μ 2 0 1 0) fun μ1 => zlet (mS μ1 2 0 2 0) fun μ2 => some (none, μ2) := (zs3 _ _ _ _).trans (rfl)
theorem uX2_forget (μ : zM) : gX2_forget [.inr (.inr (2, 0))] μ = tX2_forget_0 μ := rfl
/-! BaggageHandling$Records.copyFrom(LBaggageHandling$Records;)V -/
noncomputable def tX4_copyFrom_0 (ia0 : Nat) (ia1 : Nat) (μ : zM) : Option (Option zV × zM) := fX4_copyFrom_0 [some (.inr (.inr (4, ia0))), some (.inr (.inr (4, ia1)))] [] μ
theorem eX4_copyFrom_0 (ia0 : Nat) (ia1 : Nat) (μ : zM) : tX4_copyFrom_0 ia0 ia1 μ = (qL (40, ia0)).bind fun v1 => (qC μ (40, ia1) (40, ia0) 0 0 v1).bind fun μ2 => (qL (41, ia0)).bind fun v3 => (qC μ2 (41, ia1) (41, ia0) 0 0 v3).bind fun μ4 => (qL (42, ia0)).bind fun v5 => (qC μ4 (42, ia1) (42, ia0) 0 0 v5).bind fun μ6 => some (none, μ6) := (zs3 _ _ _ _).trans (rfl)
theorem uX4_copyFrom (ia0 : Nat) (ia1 : Nat) (μ : zM) : gX4_copyFrom [.inr (.inr (4, ia0)), .inr (.inr (4, ia1))] μ = tX4_copyFrom_0 ia0 ia1 μ := rfl
/-! BaggageHandling$Queues.copyFrom(LBaggageHandling$Queues;)V -/
noncomputable def tX3_copyFrom_0 (ia0 : Nat) (ia1 : Nat) (μ : zM) : Option (Option zV × zM) := fX3_copyFrom_0 [some (.inr (.inr (3, ia0))), some (.inr (.inr (3, ia1)))] [] μ
theorem eX3_copyFrom_0 (ia0 : Nat) (ia1 : Nat) (μ : zM) : tX3_copyFrom_0 ia0 ia1 μ = (qC μ (36, ia1) (36, ia0) 0 0 60).bind fun μ1 => (qC μ1 (37, ia1) (37, ia0) 0 0 60).bind fun μ2 => (qC μ2 (38, ia1) (38, ia0) 0 0 60).bind fun μ3 => (qC μ3 (39, ia1) (39, ia0) 0 0 100).bind fun μ4 => some (none, μ4) := (zs3 _ _ _ _).trans (rfl)
theorem uX3_copyFrom (ia0 : Nat) (ia1 : Nat) (μ : zM) : gX3_copyFrom [.inr (.inr (3, ia0)), .inr (.inr (3, ia1))] μ = tX3_copyFrom_0 ia0 ia1 μ := rfl
/-! BaggageHandling$World.copyFrom(LBaggageHandling$World;)V -/
noncomputable def tX9_copyFrom_122 (ia0 : Nat) (ia1 : Nat) (is0 : Nat) (μ : zM) : Option (Option zV × zM) := fX9_copyFrom_122 [some (.inr (.inr (9, ia0))), some (.inr (.inr (9, ia1)))] [.inr (.inr (9, is0))] μ
noncomputable def tX9_copyFrom_0 (ia0 : Nat) (ia1 : Nat) (μ : zM) : Option (Option zV × zM) := fX9_copyFrom_0 [some (.inr (.inr (9, ia0))), some (.inr (.inr (9, ia1)))] [] μ
theorem eX9_copyFrom_122 (ia0 : Nat) (ia1 : Nat) (is0 : Nat) (μ : zM) : tX9_copyFrom_122 ia0 ia1 is0 μ = (qC μ (60, is0) (60, ia0) 0 0 60).bind fun μ1 => (qC μ1 (61, ia1) (61, ia0) 0 0 60).bind fun μ2 => some (none, μ2) := (zs3 _ _ _ _).trans (rfl)
theorem eX9_copyFrom_0 (ia0 : Nat) (ia1 : Nat) (μ : zM) : tX9_copyFrom_0 ia0 ia1 μ = zif (μ.2.1 9 ia1 0 < 2) ((qP μ (9, ia0) 0 (.inr (.inr (5, μ.2.1 9 ia1 0)))).bind fun μ2 => zlet (mS μ2 9 ia0 1 (μ2.1 9 ia1 1)) fun μ3 => zlet (mS μ3 9 ia0 2 (μ3.1 9 ia1 2)) fun μ4 => zlet (mS μ4 9 ia0 3 (μ4.1 9 ia1 3)) fun μ5 => (qC μ5 (57, ia1) (57, ia0) 0 0 8).bind fun μ6 => (qC μ6 (58, ia1) (58, ia0) 0 0 60).bind fun μ7 => zU (tX4_copyFrom_0 (2 * ia0) (2 * ia1) μ7) fun μ8 => zU (tX4_copyFrom_0 (2 * ia0 + 1) (2 * ia1 + 1) μ8) fun μ9 => zU (tX3_copyFrom_0 ia0 ia1 μ9) fun μ10 => zU (tX0_copyFrom_0 ia0 ia1 μ10) fun μ11 => (qC μ11 (59, ia1) (59, ia0) 0 0 60).bind fun μ12 => tX9_copyFrom_122 ia0 ia1 ia1 μ12) none := (zs3 _ _ _ _).trans (rfl)
theorem uX9_copyFrom (ia0 : Nat) (ia1 : Nat) (μ : zM) : gX9_copyFrom [.inr (.inr (9, ia0)), .inr (.inr (9, ia1))] μ = tX9_copyFrom_0 ia0 ia1 μ := rfl
/-! BaggageHandling$History.save(LBaggageHandling$World;)V -/
noncomputable def tX2_save_42 (s1 : Int32) (μ : zM) : Option (Option zV × zM) := fX2_save_42 [some (.inr (.inr (2, 0))), none, none] [.inl s1, .inr (.inr (2, 0))] μ
noncomputable def tX2_save_10 (ia1 : Nat) (ia2 : Nat) (μ : zM) : Option (Option zV × zM) := fX2_save_10 [some (.inr (.inr (2, 0))), some (.inr (.inr (9, ia1))), some (.inr (.inr (9, ia2)))] [] μ
noncomputable def tX2_save_0 (ia1 : Nat) (μ : zM) : Option (Option zV × zM) := fX2_save_0 [some (.inr (.inr (2, 0))), some (.inr (.inr (9, ia1))), none] [] μ
theorem eX2_save_42 (s1 : Int32) (μ : zM) : tX2_save_42 s1 μ = zlet (mS μ 2 0 1 s1) fun μ1 => zlet (mS μ1 2 0 2 (zif ((10 : Int32) < (μ1.1 2 0 2) + 1) 10 ((μ1.1 2 0 2) + 1))) fun μ2 => some (none, μ2) := (zs3 _ _ _ _).trans (rfl)
theorem eX2_save_10 (ia1 : Nat) (ia2 : Nat) (μ : zM) : tX2_save_10 ia1 ia2 μ = zU (tX9_copyFrom_0 ia2 ia1 μ) fun μ1 => zif ((μ1.1 2 0 1) + 1 < 10) (tX2_save_42 ((μ1.1 2 0 1) + 1) μ1) (tX2_save_42 0 μ1) := (zs3 _ _ _ _).trans (rfl)
theorem eX2_save_0 (ia1 : Nat) (μ : zM) : tX2_save_0 ia1 μ = (qX 10 (μ.1 2 0 1)).bind fun e1 => tX2_save_10 ia1 (2 + e1) μ := (zs3 _ _ _ _).trans (rfl)
theorem uX2_save (ia1 : Nat) (μ : zM) : gX2_save [.inr (.inr (2, 0)), .inr (.inr (9, ia1))] μ = tX2_save_0 ia1 μ := rfl
/-! BaggageHandling$History.restoreInto(LBaggageHandling$World;)V -/
noncomputable def tX2_restoreInto_26 (ia1 : Nat) (a2 : Int32) (ia3 : Nat) (μ : zM) : Option (Option zV × zM) := fX2_restoreInto_26 [some (.inr (.inr (2, 0))), some (.inr (.inr (9, ia1))), some (.inl a2), some (.inr (.inr (9, ia3)))] [] μ
noncomputable def tX2_restoreInto_19 (ia1 : Nat) (a2 : Int32) (μ : zM) : Option (Option zV × zM) := fX2_restoreInto_19 [some (.inr (.inr (2, 0))), some (.inr (.inr (9, ia1))), some (.inl a2), none] [] μ
noncomputable def tX2_restoreInto_18 (ia1 : Nat) (s0 : Int32) (μ : zM) : Option (Option zV × zM) := fX2_restoreInto_18 [some (.inr (.inr (2, 0))), some (.inr (.inr (9, ia1))), none, none] [.inl s0] μ
noncomputable def tX2_restoreInto_0 (ia1 : Nat) (μ : zM) : Option (Option zV × zM) := fX2_restoreInto_0 [some (.inr (.inr (2, 0))), some (.inr (.inr (9, ia1))), none, none] [] μ
theorem eX2_restoreInto_26 (ia1 : Nat) (a2 : Int32) (ia3 : Nat) (μ : zM) : tX2_restoreInto_26 ia1 a2 ia3 μ = zif (μ.1 2 0 2 = 0) (some (none, μ)) (zU (tX9_copyFrom_0 ia1 ia3 μ) fun μ1 => zlet (mS μ1 2 0 1 a2) fun μ2 => zlet (mS μ2 2 0 2 ((μ2.1 2 0 2) - 1)) fun μ3 => some (none, μ3)) := (zs3 _ _ _ _).trans (rfl)
theorem eX2_restoreInto_19 (ia1 : Nat) (a2 : Int32) (μ : zM) : tX2_restoreInto_19 ia1 a2 μ = (qX 10 a2).bind fun e1 => tX2_restoreInto_26 ia1 a2 (2 + e1) μ := (zs3 _ _ _ _).trans (rfl)
theorem eX2_restoreInto_18 (ia1 : Nat) (s0 : Int32) (μ : zM) : tX2_restoreInto_18 ia1 s0 μ = tX2_restoreInto_19 ia1 s0 μ := (zs3 _ _ _ _).trans (rfl)
theorem eX2_restoreInto_0 (ia1 : Nat) (μ : zM) : tX2_restoreInto_0 ia1 μ = zif (0 < μ.1 2 0 1) (tX2_restoreInto_18 ia1 ((μ.1 2 0 1) - 1) μ) (tX2_restoreInto_18 ia1 9 μ) := (zs3 _ _ _ _).trans (rfl)
theorem uX2_restoreInto (ia1 : Nat) (μ : zM) : gX2_restoreInto [.inr (.inr (2, 0)), .inr (.inr (9, ia1))] μ = tX2_restoreInto_0 ia1 μ := rfl
/-! BaggageHandling$Queues.removeAll()V -/
noncomputable def tX3_removeAll_0 (ia0 : Nat) (μ : zM) : Option (Option zV × zM) := fX3_removeAll_0 [some (.inr (.inr (3, ia0)))] [] μ
theorem eX3_removeAll_0 (ia0 : Nat) (μ : zM) : tX3_removeAll_0 ia0 μ = zU (tJ7_fill_53178_0 (36, ia0) (-1) μ) fun μ1 => zU (tJ7_fill_53178_0 (37, ia0) (-1) μ1) fun μ2 => zU (tJ7_fill_53178_0 (38, ia0) 0 μ2) fun μ3 => some (none, μ3) := (zs3 _ _ _ _).trans (rfl)
theorem uX3_removeAll (ia0 : Nat) (μ : zM) : gX3_removeAll [.inr (.inr (3, ia0))] μ = tX3_removeAll_0 ia0 μ := rfl
/-! BaggageHandling$Queues.add(II)V -/
noncomputable def tX3_add_28 (ia0 : Nat) (a1 : Int32) (a2 : Int32) (μ : zM) : Option (Option zV × zM) := fX3_add_28 [some (.inr (.inr (3, ia0))), some (.inl a1), some (.inl a2), none] [] μ
noncomputable def tX3_add_7 (ia0 : Nat) (a1 : Int32) (a2 : Int32) (a3 : Int32) (μ : zM) : Option (Option zV × zM) := fX3_add_7 [some (.inr (.inr (3, ia0))), some (.inl a1), some (.inl a2), some (.inl a3)] [] μ
noncomputable def tX3_add_0 (ia0 : Nat) (a1 : Int32) (a2 : Int32) (μ : zM) : Option (Option zV × zM) := fX3_add_0 [some (.inr (.inr (3, ia0))), some (.inl a1), some (.inl a2), none] [] μ
theorem eX3_add_28 (ia0 : Nat) (a1 : Int32) (a2 : Int32) (μ : zM) : tX3_add_28 ia0 a1 a2 μ = (wI μ (39, ia0) a2 (-1)).bind fun μ1 => (wI μ1 (37, ia0) a1 a2).bind fun μ2 => (qI μ2 (38, ia0) a1).bind fun v3 => (wI μ2 (38, ia0) a1 (v3 + 1)).bind fun μ4 => some (none, μ4) := (zs3 _ _ _ _).trans (rfl)
theorem eX3_add_7 (ia0 : Nat) (a1 : Int32) (a2 : Int32) (a3 : Int32) (μ : zM) : tX3_add_7 ia0 a1 a2 a3 μ = zif (a3 < 0) ((wI μ (36, ia0) a1 a2).bind fun μ1 => tX3_add_28 ia0 a1 a2 μ1) ((wI μ (39, ia0) a3 a2).bind fun μ2 => tX3_add_28 ia0 a1 a2 μ2) := (zs3 _ _ _ _).trans (rfl)
theorem eX3_add_0 (ia0 : Nat) (a1 : Int32) (a2 : Int32) (μ : zM) : tX3_add_0 ia0 a1 a2 μ = (qI μ (37, ia0) a1).bind fun v1 => tX3_add_7 ia0 a1 a2 v1 μ := (zs3 _ _ _ _).trans (rfl)
theorem uX3_add (ia0 : Nat) (a1 : Int32) (a2 : Int32) (μ : zM) : gX3_add [.inr (.inr (3, ia0)), .inl a1, .inl a2] μ = tX3_add_0 ia0 a1 a2 μ := rfl
/-! BaggageHandling$Queues.takeBehind(III)V -/
noncomputable def tX3_takeBehind_43 (ia0 : Nat) (a1 : Int32) (μ : zM) : Option (Option zV × zM) := fX3_takeBehind_43 [some (.inr (.inr (3, ia0))), some (.inl a1), none, none, none] [] μ
noncomputable def tX3_takeBehind_31 (ia0 : Nat) (a1 : Int32) (a2 : Int32) (a4 : Int32) (μ : zM) : Option (Option zV × zM) := fX3_takeBehind_31 [some (.inr (.inr (3, ia0))), some (.inl a1), some (.inl a2), none, some (.inl a4)] [] μ
noncomputable def tX3_takeBehind_8 (ia0 : Nat) (a1 : Int32) (a2 : Int32) (a4 : Int32) (μ : zM) : Option (Option zV × zM) := fX3_takeBehind_8 [some (.inr (.inr (3, ia0))), some (.inl a1), some (.inl a2), none, some (.inl a4)] [] μ
noncomputable def tX3_takeBehind_0 (ia0 : Nat) (a1 : Int32) (a2 : Int32) (a3 : Int32) (μ : zM) : Option (Option zV × zM) := fX3_takeBehind_0 [some (.inr (.inr (3, ia0))), some (.inl a1), some (.inl a2), some (.inl a3), none] [] μ
theorem eX3_takeBehind_43 (ia0 : Nat) (a1 : Int32) (μ : zM) : tX3_takeBehind_43 ia0 a1 μ = (qI μ (38, ia0) a1).bind fun v1 => (wI μ (38, ia0) a1 (v1 - 1)).bind fun μ2 => some (none, μ2) := (zs3 _ _ _ _).trans (rfl)
theorem eX3_takeBehind_31 (ia0 : Nat) (a1 : Int32) (a2 : Int32) (a4 : Int32) (μ : zM) : tX3_takeBehind_31 ia0 a1 a2 a4 μ = zif (a4 < 0) ((wI μ (37, ia0) a1 a2).bind fun μ1 => tX3_takeBehind_43 ia0 a1 μ1) (tX3_takeBehind_43 ia0 a1 μ) := (zs3 _ _ _ _).trans (rfl)
theorem eX3_takeBehind_8 (ia0 : Nat) (a1 : Int32) (a2 : Int32) (a4 : Int32) (μ : zM) : tX3_takeBehind_8 ia0 a1 a2 a4 μ = zif (a2 < 0) ((wI μ (36, ia0) a1 a4).bind fun μ1 => tX3_takeBehind_31 ia0 a1 a2 a4 μ1) ((wI μ (39, ia0) a2 a4).bind fun μ2 => tX3_takeBehind_31 ia0 a1 a2 a4 μ2) := (zs3 _ _ _ _).trans (rfl)
theorem eX3_takeBehind_0 (ia0 : Nat) (a1 : Int32) (a2 : Int32) (a3 : Int32) (μ : zM) : tX3_takeBehind_0 ia0 a1 a2 a3 μ = (qI μ (39, ia0) a3).bind fun v1 => tX3_takeBehind_8 ia0 a1 a2 v1 μ := (zs3 _ _ _ _).trans (rfl)
theorem uX3_takeBehind (ia0 : Nat) (a1 : Int32) (a2 : Int32) (a3 : Int32) (μ : zM) : gX3_takeBehind [.inr (.inr (3, ia0)), .inl a1, .inl a2, .inl a3] μ = tX3_takeBehind_0 ia0 a1 a2 a3 μ := rfl
/-! BaggageHandling$Queues.takeFirst(I)I -/
noncomputable def tX3_takeFirst_18 (a2 : Int32) (μ : zM) : Option (Option zV × zM) := fX3_takeFirst_18 [none, none, some (.inl a2)] [] μ
noncomputable def tX3_takeFirst_7 (ia0 : Nat) (a1 : Int32) (a2 : Int32) (μ : zM) : Option (Option zV × zM) := fX3_takeFirst_7 [some (.inr (.inr (3, ia0))), some (.inl a1), some (.inl a2)] [] μ
noncomputable def tX3_takeFirst_0 (ia0 : Nat) (a1 : Int32) (μ : zM) : Option (Option zV × zM) := fX3_takeFirst_0 [some (.inr (.inr (3, ia0))), some (.inl a1), none] [] μ
theorem eX3_takeFirst_18 (a2 : Int32) (μ : zM) : tX3_takeFirst_18 a2 μ = some (some (.inl a2), μ) := (zs3 _ _ _ _).trans (rfl)
theorem eX3_takeFirst_7 (ia0 : Nat) (a1 : Int32) (a2 : Int32) (μ : zM) : tX3_takeFirst_7 ia0 a1 a2 μ = zif (a2 < 0) (tX3_takeFirst_18 a2 μ) (zU (tX3_takeBehind_0 ia0 a1 (-1) a2 μ) fun μ1 => tX3_takeFirst_18 a2 μ1) := (zs3 _ _ _ _).trans (rfl)
theorem eX3_takeFirst_0 (ia0 : Nat) (a1 : Int32) (μ : zM) : tX3_takeFirst_0 ia0 a1 μ = (qI μ (36, ia0) a1).bind fun v1 => tX3_takeFirst_7 ia0 a1 v1 μ := (zs3 _ _ _ _).trans (rfl)
theorem uX3_takeFirst (ia0 : Nat) (a1 : Int32) (μ : zM) : gX3_takeFirst [.inr (.inr (3, ia0)), .inl a1] μ = tX3_takeFirst_0 ia0 a1 μ := rfl
/-! BaggageHandling$Records.removeAll()V -/
noncomputable def tX4_removeAll_0 (ia0 : Nat) (μ : zM) : Option (Option zV × zM) := fX4_removeAll_0 [some (.inr (.inr (4, ia0)))] [] μ
theorem eX4_removeAll_0 (ia0 : Nat) (μ : zM) : tX4_removeAll_0 ia0 μ = zU (tJ7_fill_53178_0 (40, ia0) (-2) μ) fun μ1 => some (none, μ1) := (zs3 _ _ _ _).trans (rfl)
theorem uX4_removeAll (ia0 : Nat) (μ : zM) : gX4_removeAll [.inr (.inr (4, ia0))] μ = tX4_removeAll_0 ia0 μ := rfl
/-! BaggageHandling$Records.has(I)Z -/
noncomputable def tX4_has_16 (s0 : Int32) (μ : zM) : Option (Option zV × zM) := fX4_has_16 [none, none] [.inl s0] μ
noncomputable def tX4_has_0 (ia0 : Nat) (a1 : Int32) (μ : zM) : Option (Option zV × zM) := fX4_has_0 [some (.inr (.inr (4, ia0))), some (.inl a1)] [] μ
theorem eX4_has_16 (s0 : Int32) (μ : zM) : tX4_has_16 s0 μ = zif (vp_nar .boolean s0 = s0) (some (some (.inl s0), μ)) none := (zs3 _ _ _ _).trans (rfl)
theorem eX4_has_0 (ia0 : Nat) (a1 : Int32) (μ : zM) : tX4_has_0 ia0 a1 μ = (qI μ (40, ia0) a1).bind fun v1 => zif (v1 = (-2)) (tX4_has_16 0 μ) (tX4_has_16 1 μ) := (zs3 _ _ _ _).trans (rfl)
theorem uX4_has (ia0 : Nat) (a1 : Int32) (μ : zM) : gX4_has [.inr (.inr (4, ia0)), .inl a1] μ = tX4_has_0 ia0 a1 μ := rfl
/-! BaggageHandling$Records.makeAt(I)V -/
noncomputable def tX4_makeAt_0 (ia0 : Nat) (a1 : Int32) (μ : zM) : Option (Option zV × zM) := fX4_makeAt_0 [some (.inr (.inr (4, ia0))), some (.inl a1)] [] μ
theorem eX4_makeAt_0 (ia0 : Nat) (a1 : Int32) (μ : zM) : tX4_makeAt_0 ia0 a1 μ = (wI μ (40, ia0) a1 0).bind fun μ1 => (wI μ1 (41, ia0) a1 0).bind fun μ2 => (wI μ2 (42, ia0) a1 0).bind fun μ3 => some (none, μ3) := (zs3 _ _ _ _).trans (rfl)
theorem uX4_makeAt (ia0 : Nat) (a1 : Int32) (μ : zM) : gX4_makeAt [.inr (.inr (4, ia0)), .inl a1] μ = tX4_makeAt_0 ia0 a1 μ := rfl
/-! BaggageHandling$Records.removeAt(I)V -/
noncomputable def tX4_removeAt_0 (ia0 : Nat) (a1 : Int32) (μ : zM) : Option (Option zV × zM) := fX4_removeAt_0 [some (.inr (.inr (4, ia0))), some (.inl a1)] [] μ
theorem eX4_removeAt_0 (ia0 : Nat) (a1 : Int32) (μ : zM) : tX4_removeAt_0 ia0 a1 μ = (wI μ (40, ia0) a1 (-2)).bind fun μ1 => some (none, μ1) := (zs3 _ _ _ _).trans (rfl)
theorem uX4_removeAt (ia0 : Nat) (a1 : Int32) (μ : zM) : gX4_removeAt [.inr (.inr (4, ia0)), .inl a1] μ = tX4_removeAt_0 ia0 a1 μ := rfl
/-! BaggageHandling$Records.moveIn(ILBaggageHandling$Records;I)V -/
noncomputable def tX4_moveIn_0 (ia0 : Nat) (a1 : Int32) (ia2 : Nat) (a3 : Int32) (μ : zM) : Option (Option zV × zM) := fX4_moveIn_0 [some (.inr (.inr (4, ia0))), some (.inl a1), some (.inr (.inr (4, ia2))), some (.inl a3)] [] μ
theorem eX4_moveIn_0 (ia0 : Nat) (a1 : Int32) (ia2 : Nat) (a3 : Int32) (μ : zM) : tX4_moveIn_0 ia0 a1 ia2 a3 μ = (qI μ (40, ia2) a3).bind fun v1 => (wI μ (40, ia0) a1 v1).bind fun μ2 => (qI μ2 (41, ia2) a3).bind fun v3 => (wI μ2 (41, ia0) a1 v3).bind fun μ4 => (qI μ4 (42, ia2) a3).bind fun v5 => (wI μ4 (42, ia0) a1 v5).bind fun μ6 => (wI μ6 (40, ia2) a3 (-2)).bind fun μ7 => some (none, μ7) := (zs3 _ _ _ _).trans (rfl)
theorem uX4_moveIn (ia0 : Nat) (a1 : Int32) (ia2 : Nat) (a3 : Int32) (μ : zM) : gX4_moveIn [.inr (.inr (4, ia0)), .inl a1, .inr (.inr (4, ia2)), .inl a3] μ = tX4_moveIn_0 ia0 a1 ia2 a3 μ := rfl
/-! BaggageHandling$Setup.clear()V -/
noncomputable def tX5_clear_0 (ia0 : Nat) (μ : zM) : Option (Option zV × zM) := fX5_clear_0 [some (.inr (.inr (5, ia0)))] [] μ
theorem eX5_clear_0 (ia0 : Nat) (μ : zM) : tX5_clear_0 ia0 μ = zlet (mS μ 5 ia0 0 10) fun μ1 => zlet (mS μ1 5 ia0 1 1) fun μ2 => zlet (mS μ2 5 ia0 2 3) fun μ3 => zlet (mS μ3 1 ia0 0 0) fun μ4 => zU (tJ7_fill_53178_0 (43, ia0) 0 μ4) fun μ5 => zU (tJ7_fill_53178_0 (49, ia0) 0 μ5) fun μ6 => zlet (mS μ6 5 ia0 13 0) fun μ7 => zlet (mS μ7 5 ia0 15 0) fun μ8 => some (none, μ8) := (zs3 _ _ _ _).trans (rfl)
theorem uX5_clear (ia0 : Nat) (μ : zM) : gX5_clear [.inr (.inr (5, ia0))] μ = tX5_clear_0 ia0 μ := rfl
/-! BaggageHandling$Setup.hasPosition(I)Z -/
noncomputable def tX5_hasPosition_17 (s0 : Int32) (μ : zM) : Option (Option zV × zM) := fX5_hasPosition_17 [none, none] [.inl s0] μ
noncomputable def tX5_hasPosition_16 (μ : zM) : Option (Option zV × zM) := fX5_hasPosition_16 [none, none] [] μ
noncomputable def tX5_hasPosition_0 (ia0 : Nat) (a1 : Int32) (μ : zM) : Option (Option zV × zM) := fX5_hasPosition_0 [some (.inr (.inr (5, ia0))), some (.inl a1)] [] μ
theorem eX5_hasPosition_17 (s0 : Int32) (μ : zM) : tX5_hasPosition_17 s0 μ = zif (vp_nar .boolean s0 = s0) (some (some (.inl s0), μ)) none := (zs3 _ _ _ _).trans (rfl)
theorem eX5_hasPosition_16 (μ : zM) : tX5_hasPosition_16 μ = tX5_hasPosition_17 0 μ := (zs3 _ _ _ _).trans (rfl)
theorem eX5_hasPosition_0 (ia0 : Nat) (a1 : Int32) (μ : zM) : tX5_hasPosition_0 ia0 a1 μ = zif (a1 < 0) (tX5_hasPosition_16 μ) (zif (a1 < μ.1 5 ia0 0) (tX5_hasPosition_17 1 μ) (tX5_hasPosition_16 μ)) := (zs3 _ _ _ _).trans (rfl)
theorem uX5_hasPosition (ia0 : Nat) (a1 : Int32) (μ : zM) : gX5_hasPosition [.inr (.inr (5, ia0)), .inl a1] μ = tX5_hasPosition_0 ia0 a1 μ := rfl
/-! BaggageHandling$Setup.addDevice(II)V -/
noncomputable def tX5_addDevice_22 (μ : zM) : Option (Option zV × zM) := fX5_addDevice_22 [none, none, none, none] [] μ
noncomputable def tX5_addDevice_7 (ia0 : Nat) (a1 : Int32) (a2 : Int32) (a3 : Int32) (μ : zM) : Option (Option zV × zM) := fX5_addDevice_7 [some (.inr (.inr (5, ia0))), some (.inl a1), some (.inl a2), some (.inl a3)] [] μ
noncomputable def tX5_addDevice_0 (ia0 : Nat) (a1 : Int32) (a2 : Int32) (μ : zM) : Option (Option zV × zM) := fX5_addDevice_0 [some (.inr (.inr (5, ia0))), some (.inl a1), some (.inl a2), none] [] μ
theorem eX5_addDevice_22 (μ : zM) : tX5_addDevice_22 μ = some (none, μ) := (zs3 _ _ _ _).trans (rfl)
theorem eX5_addDevice_7 (ia0 : Nat) (a1 : Int32) (a2 : Int32) (a3 : Int32) (μ : zM) : tX5_addDevice_7 ia0 a1 a2 a3 μ = zif (a3 < 6) (zif (μ.1 5 ia0 13 < 18) ((wI μ (43, ia0) a2 a1).bind fun μ1 => (wI μ1 (44, ia0) a2 a3).bind fun μ2 => (qX 7 a1).bind fun e3 => (wI μ2 (54, 7 * ia0 + e3) a3 a2).bind fun μ4 => (wI μ4 (49, ia0) a1 (a3 + 1)).bind fun μ5 => (wI μ5 (51, ia0) (μ5.1 5 ia0 13) a2).bind fun μ6 => zlet (mS μ6 5 ia0 13 ((μ6.1 5 ia0 13) + 1)) fun μ7 => some (none, μ7)) (tX5_addDevice_22 μ)) (tX5_addDevice_22 μ) := (zs3 _ _ _ _).trans (rfl)
theorem eX5_addDevice_0 (ia0 : Nat) (a1 : Int32) (a2 : Int32) (μ : zM) : tX5_addDevice_0 ia0 a1 a2 μ = (qI μ (49, ia0) a1).bind fun v1 => tX5_addDevice_7 ia0 a1 a2 v1 μ := (zs3 _ _ _ _).trans (rfl)
theorem uX5_addDevice (ia0 : Nat) (a1 : Int32) (a2 : Int32) (μ : zM) : gX5_addDevice [.inr (.inr (5, ia0)), .inl a1, .inl a2] μ = tX5_addDevice_0 ia0 a1 a2 μ := rfl
/-! BaggageHandling$Setup.listBusyPositions()V -/
noncomputable def tX5_listBusyPositions_42 (n2 : Nat) (ia0 : Nat) (a1 : Int32) (μ : zM) : Option (Option zV × zM) := fX5_listBusyPositions_42 (fX5_listBusyPositions_2 n2) [some (.inr (.inr (5, ia0))), some (.inl a1)] [] μ
noncomputable def tX5_listBusyPositions_39 (n2 : Nat) (ia0 : Nat) (a1 : Int32) (μ : zM) : Option (Option zV × zM) := fX5_listBusyPositions_39 (fX5_listBusyPositions_2 n2) [some (.inr (.inr (5, ia0))), some (.inl a1)] [] μ
noncomputable def tX5_listBusyPositions_2 (n : Nat) (ia0 : Nat) (a1 : Int32) (μ : zM) : Option (Option zV × zM) := fX5_listBusyPositions_2 n [some (.inr (.inr (5, ia0))), some (.inl a1)] [] μ
noncomputable def tX5_listBusyPositions_0 (ia0 : Nat) (μ : zM) : Option (Option zV × zM) := fX5_listBusyPositions_0 [some (.inr (.inr (5, ia0))), none] [] μ
theorem eX5_listBusyPositions_42 (n2 : Nat) (ia0 : Nat) (a1 : Int32) (μ : zM) : tX5_listBusyPositions_42 n2 ia0 a1 μ = tX5_listBusyPositions_2 n2 ia0 a1 μ := (zs3 _ _ _ _).trans (rfl)
theorem eX5_listBusyPositions_39 (n2 : Nat) (ia0 : Nat) (a1 : Int32) (μ : zM) : tX5_listBusyPositions_39 n2 ia0 a1 μ = tX5_listBusyPositions_42 n2 ia0 (a1 + 1) μ := (zs3 _ _ _ _).trans (rfl)
theorem eX5_listBusyPositions_2 (ia0 : Nat) (a1 : Int32) (n : Nat) (μ : zM) : tX5_listBusyPositions_2 (n + 1) ia0 a1 μ = zif (a1 < μ.1 5 ia0 0) ((qI μ (43, ia0) a1).bind fun v1 => zif (v1 = 0) (tX5_listBusyPositions_39 n ia0 a1 μ) ((wI μ (52, ia0) (μ.1 5 ia0 15) a1).bind fun μ2 => zlet (mS μ2 5 ia0 15 ((μ2.1 5 ia0 15) + 1)) fun μ3 => tX5_listBusyPositions_39 n ia0 a1 μ3)) (some (none, μ)) := (zs3 _ _ _ _).trans (rfl)
theorem eX5_listBusyPositions_0 (ia0 : Nat) (μ : zM) : tX5_listBusyPositions_0 ia0 μ = tX5_listBusyPositions_2 zN ia0 0 μ := (zs3 _ _ _ _).trans (rfl)
theorem uX5_listBusyPositions (ia0 : Nat) (μ : zM) : gX5_listBusyPositions [.inr (.inr (5, ia0))] μ = tX5_listBusyPositions_0 ia0 μ := rfl
/-! BaggageHandling$Setup.placeOf(II)I -/
noncomputable def tX5_placeOf_26 (s0 : Int32) (μ : zM) : Option (Option zV × zM) := fX5_placeOf_26 [none, none, none] [.inl s0] μ
noncomputable def tX5_placeOf_25 (μ : zM) : Option (Option zV × zM) := fX5_placeOf_25 [none, none, none] [] μ
noncomputable def tX5_placeOf_0 (ia0 : Nat) (a1 : Int32) (a2 : Int32) (μ : zM) : Option (Option zV × zM) := fX5_placeOf_0 [some (.inr (.inr (5, ia0))), some (.inl a1), some (.inl a2)] [] μ
theorem eX5_placeOf_26 (s0 : Int32) (μ : zM) : tX5_placeOf_26 s0 μ = some (some (.inl s0), μ) := (zs3 _ _ _ _).trans (rfl)
theorem eX5_placeOf_25 (μ : zM) : tX5_placeOf_25 μ = tX5_placeOf_26 (-1) μ := (zs3 _ _ _ _).trans (rfl)
theorem eX5_placeOf_0 (ia0 : Nat) (a1 : Int32) (a2 : Int32) (μ : zM) : tX5_placeOf_0 ia0 a1 a2 μ = zif (a2 < 0) (tX5_placeOf_25 μ) ((qI μ (49, ia0) a1).bind fun v1 => zif (a2 < v1) ((qX 7 a1).bind fun e2 => (qI μ (54, 7 * ia0 + e2) a2).bind fun v3 => tX5_placeOf_26 v3 μ) (tX5_placeOf_25 μ)) := (zs3 _ _ _ _).trans (rfl)
theorem uX5_placeOf (ia0 : Nat) (a1 : Int32) (a2 : Int32) (μ : zM) : gX5_placeOf [.inr (.inr (5, ia0)), .inl a1, .inl a2] μ = tX5_placeOf_0 ia0 a1 a2 μ := rfl
/-! BaggageHandling$Text.addSign(I)V -/
noncomputable def tX8_addSign_31 (μ : zM) : Option (Option zV × zM) := fX8_addSign_31 [none, none] [] μ
noncomputable def tX8_addSign_0 (a1 : Int32) (μ : zM) : Option (Option zV × zM) := fX8_addSign_0 [some (.inr (.inr (8, 0))), some (.inl a1)] [] μ
theorem eX8_addSign_31 (μ : zM) : tX8_addSign_31 μ = some (none, μ) := (zs3 _ _ _ _).trans (rfl)
theorem eX8_addSign_0 (a1 : Int32) (μ : zM) : tX8_addSign_0 a1 μ = zif (μ.1 8 0 1 < 1024) ((wB μ (56, 0) (μ.1 8 0 1) a1.toInt8.toInt32).bind fun μ1 => zlet (mS μ1 8 0 1 ((μ1.1 8 0 1) + 1)) fun μ2 => tX8_addSign_31 μ2) (tX8_addSign_31 μ) := (zs3 _ _ _ _).trans (rfl)
theorem uX8_addSign (a1 : Int32) (μ : zM) : gX8_addSign [.inr (.inr (8, 0)), .inl a1] μ = tX8_addSign_0 a1 μ := rfl
/-! BaggageHandling$Text.separate()V -/
noncomputable def tX8_separate_39 (μ : zM) : Option (Option zV × zM) := fX8_separate_39 [none] [] μ
noncomputable def tX8_separate_0 (μ : zM) : Option (Option zV × zM) := fX8_separate_0 [some (.inr (.inr (8, 0)))] [] μ
theorem eX8_separate_39 (μ : zM) : tX8_separate_39 μ = some (none, μ) := (zs3 _ _ _ _).trans (rfl)
theorem eX8_separate_0 (μ : zM) : tX8_separate_0 μ = zif (0 < μ.1 8 0 1) (zif ((1024 : Int32) < μ.1 8 0 1) (tX8_separate_39 μ) ((qB μ (56, 0) ((μ.1 8 0 1) - 1)).bind fun v1 => zif (v1 = 59) (tX8_separate_39 μ) (zU (tX8_addSign_0 32 μ) fun μ2 => tX8_separate_39 μ2))) (tX8_separate_39 μ) := (zs3 _ _ _ _).trans (rfl)
theorem uX8_separate (μ : zM) : gX8_separate [.inr (.inr (8, 0))] μ = tX8_separate_0 μ := rfl
/-! BaggageHandling$Text.addName(Ljava/lang/String;)V -/
noncomputable def tX8_addName_26 (n6 : Nat) (ia1 : Nat) (a2 : Int32) (μ : zM) : Option (Option zV × zM) := fX8_addName_26 (fX8_addName_6 n6) [some (.inr (.inr (8, 0))), some (.inr (.inr (75, ia1))), some (.inl a2)] [] μ
noncomputable def tX8_addName_6 (n : Nat) (ia1 : Nat) (a2 : Int32) (μ : zM) : Option (Option zV × zM) := fX8_addName_6 n [some (.inr (.inr (8, 0))), some (.inr (.inr (75, ia1))), some (.inl a2)] [] μ
noncomputable def tX8_addName_0 (ia1 : Nat) (μ : zM) : Option (Option zV × zM) := fX8_addName_0 [some (.inr (.inr (8, 0))), some (.inr (.inr (75, ia1))), none] [] μ
theorem eX8_addName_26 (n6 : Nat) (ia1 : Nat) (a2 : Int32) (μ : zM) : tX8_addName_26 n6 ia1 a2 μ = tX8_addName_6 n6 ia1 a2 μ := (zs3 _ _ _ _).trans (rfl)
theorem eX8_addName_6 (ia1 : Nat) (a2 : Int32) (n : Nat) (μ : zM) : tX8_addName_6 (n + 1) ia1 a2 μ = zI (tJ0_length_8abf5_0 ia1 μ) fun v2 μ1 => zif (a2 < v2) (zI (tJ0_charAt_5068e_0 ia1 a2 μ1) fun v4 μ3 => zU (tX8_addSign_0 v4 μ3) fun μ5 => tX8_addName_26 n ia1 (a2 + 1) μ5) (some (none, μ1)) := (zs3 _ _ _ _).trans (rfl)
theorem eX8_addName_0 (ia1 : Nat) (μ : zM) : tX8_addName_0 ia1 μ = zU (tX8_separate_0 μ) fun μ1 => tX8_addName_6 zN ia1 0 μ1 := (zs3 _ _ _ _).trans (rfl)
theorem uX8_addName (ia1 : Nat) (μ : zM) : gX8_addName [.inr (.inr (8, 0)), .inr (.inr (75, ia1))] μ = tX8_addName_0 ia1 μ := rfl
/-! BaggageHandling$Text.addValue(I)V -/
noncomputable def tX8_addValue_41 (n8 : Nat) (a1 : Int32) (a2 : Int32) (μ : zM) : Option (Option zV × zM) := fX8_addValue_41 (fX8_addValue_8 n8) [some (.inr (.inr (8, 0))), some (.inl a1), some (.inl a2)] [] μ
noncomputable def tX8_addValue_36 (n8 : Nat) (a1 : Int32) (a2 : Int32) (μ : zM) : Option (Option zV × zM) := fX8_addValue_36 (fX8_addValue_8 n8) [some (.inr (.inr (8, 0))), some (.inl a1), some (.inl a2)] [] μ
noncomputable def tX8_addValue_23 (n8 : Nat) (a1 : Int32) (a2 : Int32) (μ : zM) : Option (Option zV × zM) := fX8_addValue_23 (fX8_addValue_8 n8) [some (.inr (.inr (8, 0))), some (.inl a1), some (.inl a2)] [] μ
noncomputable def tX8_addValue_8 (n : Nat) (a1 : Int32) (a2 : Int32) (μ : zM) : Option (Option zV × zM) := fX8_addValue_8 n [some (.inr (.inr (8, 0))), some (.inl a1), some (.inl a2)] [] μ
noncomputable def tX8_addValue_0 (a1 : Int32) (μ : zM) : Option (Option zV × zM) := fX8_addValue_0 [some (.inr (.inr (8, 0))), some (.inl a1), none] [] μ
theorem eX8_addValue_41 (n8 : Nat) (a1 : Int32) (a2 : Int32) (μ : zM) : tX8_addValue_41 n8 a1 a2 μ = tX8_addValue_8 n8 a1 a2 μ := (zs3 _ _ _ _).trans (rfl)
theorem eX8_addValue_36 (n8 : Nat) (a1 : Int32) (a2 : Int32) (μ : zM) : tX8_addValue_36 n8 a1 a2 μ = zif ((10 : Int32) = 0) none (tX8_addValue_41 n8 a1 (a2 / 10) μ) := (zs3 _ _ _ _).trans (rfl)
theorem eX8_addValue_23 (n8 : Nat) (a1 : Int32) (a2 : Int32) (μ : zM) : tX8_addValue_23 n8 a1 a2 μ = zif (a2 = 0) none (zif ((10 : Int32) = 0) none (zU (tX8_addSign_0 (48 + ((a1 / a2) - (a1 / a2) / 10 * 10)) μ) fun μ1 => tX8_addValue_36 n8 a1 a2 μ1)) := (zs3 _ _ _ _).trans (rfl)
theorem eX8_addValue_8 (a1 : Int32) (a2 : Int32) (n : Nat) (μ : zM) : tX8_addValue_8 (n + 1) a1 a2 μ = zif (a2 < 1) (some (none, μ)) (zif (a1 < a2) (zif (a2 = 1) (tX8_addValue_23 n a1 a2 μ) (tX8_addValue_36 n a1 a2 μ)) (tX8_addValue_23 n a1 a2 μ)) := (zs3 _ _ _ _).trans (rfl)
theorem eX8_addValue_0 (a1 : Int32) (μ : zM) : tX8_addValue_0 a1 μ = zU (tX8_separate_0 μ) fun μ1 => tX8_addValue_8 zN a1 10000 μ1 := (zs3 _ _ _ _).trans (rfl)
theorem uX8_addValue (a1 : Int32) (μ : zM) : gX8_addValue [.inr (.inr (8, 0)), .inl a1] μ = tX8_addValue_0 a1 μ := rfl
/-! BaggageHandling$Text.addNamed(Ljava/lang/String;I)V -/
noncomputable def tX8_addNamed_0 (ia1 : Nat) (a2 : Int32) (μ : zM) : Option (Option zV × zM) := fX8_addNamed_0 [some (.inr (.inr (8, 0))), some (.inr (.inr (75, ia1))), some (.inl a2)] [] μ
theorem eX8_addNamed_0 (ia1 : Nat) (a2 : Int32) (μ : zM) : tX8_addNamed_0 ia1 a2 μ = zU (tX8_addName_0 ia1 μ) fun μ1 => zU (tX8_addValue_0 a2 μ1) fun μ2 => some (none, μ2) := (zs3 _ _ _ _).trans (rfl)
theorem uX8_addNamed (ia1 : Nat) (a2 : Int32) (μ : zM) : gX8_addNamed [.inr (.inr (8, 0)), .inr (.inr (75, ia1)), .inl a2] μ = tX8_addNamed_0 ia1 a2 μ := rfl
/-! BaggageHandling$Text.endClause()V -/
noncomputable def tX8_endClause_0 (μ : zM) : Option (Option zV × zM) := fX8_endClause_0 [some (.inr (.inr (8, 0)))] [] μ
theorem eX8_endClause_0 (μ : zM) : tX8_endClause_0 μ = zU (tX8_addSign_0 59 μ) fun μ1 => some (none, μ1) := (zs3 _ _ _ _).trans (rfl)
theorem uX8_endClause (μ : zM) : gX8_endClause [.inr (.inr (8, 0))] μ = tX8_endClause_0 μ := rfl
/-! BaggageHandling.wordOf(I)Ljava/lang/String; -/
noncomputable def tX10_wordOf_0 (a0 : Int32) (μ : zM) : Option (Option zV × zM) := fX10_wordOf_0 [some (.inl a0)] [] μ
theorem eX10_wordOf_0 (a0 : Int32) (μ : zM) : tX10_wordOf_0 a0 μ = zif (a0 = 1) (some (some (.inr (.inr (75, 0))), μ)) (zif (a0 = 2) (some (some (.inr (.inr (75, 1))), μ)) (zif (a0 = 3) (some (some (.inr (.inr (75, 2))), μ)) (zif (a0 = 4) (some (some (.inr (.inr (75, 3))), μ)) (zif (a0 = 5) (some (some (.inr (.inr (75, 4))), μ)) (some (some (.inr (.inr (75, 5))), μ)))))) := (zs3 _ _ _ _).trans (rfl)
theorem uX10_wordOf (a0 : Int32) (μ : zM) : gX10_wordOf [.inl a0] μ = tX10_wordOf_0 a0 μ := rfl
/-! BaggageHandling.isWithin(III)Z -/
noncomputable def tX10_isWithin_15 (s0 : Int32) (μ : zM) : Option (Option zV × zM) := fX10_isWithin_15 [none, none, none] [.inl s0] μ
noncomputable def tX10_isWithin_14 (μ : zM) : Option (Option zV × zM) := fX10_isWithin_14 [none, none, none] [] μ
noncomputable def tX10_isWithin_0 (a0 : Int32) (a1 : Int32) (a2 : Int32) (μ : zM) : Option (Option zV × zM) := fX10_isWithin_0 [some (.inl a0), some (.inl a1), some (.inl a2)] [] μ
theorem eX10_isWithin_15 (s0 : Int32) (μ : zM) : tX10_isWithin_15 s0 μ = zif (vp_nar .boolean s0 = s0) (some (some (.inl s0), μ)) none := (zs3 _ _ _ _).trans (rfl)
theorem eX10_isWithin_14 (μ : zM) : tX10_isWithin_14 μ = tX10_isWithin_15 0 μ := (zs3 _ _ _ _).trans (rfl)
theorem eX10_isWithin_0 (a0 : Int32) (a1 : Int32) (a2 : Int32) (μ : zM) : tX10_isWithin_0 a0 a1 a2 μ = zif (a0 < a1) (tX10_isWithin_14 μ) (zif (a2 < a0) (tX10_isWithin_14 μ) (tX10_isWithin_15 1 μ)) := (zs3 _ _ _ _).trans (rfl)
theorem uX10_isWithin (a0 : Int32) (a1 : Int32) (a2 : Int32) (μ : zM) : gX10_isWithin [.inl a0, .inl a1, .inl a2] μ = tX10_isWithin_0 a0 a1 a2 μ := rfl
/-! BaggageHandling.isOutlet(I)Z -/
noncomputable def tX10_isOutlet_0 (a0 : Int32) (μ : zM) : Option (Option zV × zM) := fX10_isOutlet_0 [some (.inl a0)] [] μ
theorem eX10_isOutlet_0 (a0 : Int32) (μ : zM) : tX10_isOutlet_0 a0 μ = zI (tX10_isWithin_0 a0 3 6 μ) fun v2 μ1 => zif (vp_nar .boolean v2 = v2) (some (some (.inl v2), μ1)) none := (zs3 _ _ _ _).trans (rfl)
theorem uX10_isOutlet (a0 : Int32) (μ : zM) : gX10_isOutlet [.inl a0] μ = tX10_isOutlet_0 a0 μ := rfl
/-! BaggageHandling.hasExit(I)Z -/
noncomputable def tX10_hasExit_17 (s0 : Int32) (μ : zM) : Option (Option zV × zM) := fX10_hasExit_17 [none] [.inl s0] μ
noncomputable def tX10_hasExit_16 (μ : zM) : Option (Option zV × zM) := fX10_hasExit_16 [none] [] μ
noncomputable def tX10_hasExit_0 (a0 : Int32) (μ : zM) : Option (Option zV × zM) := fX10_hasExit_0 [some (.inl a0)] [] μ
theorem eX10_hasExit_17 (s0 : Int32) (μ : zM) : tX10_hasExit_17 s0 μ = zif (vp_nar .boolean s0 = s0) (some (some (.inl s0), μ)) none := (zs3 _ _ _ _).trans (rfl)
theorem eX10_hasExit_16 (μ : zM) : tX10_hasExit_16 μ = tX10_hasExit_17 0 μ := (zs3 _ _ _ _).trans (rfl)
theorem eX10_hasExit_0 (a0 : Int32) (μ : zM) : tX10_hasExit_0 a0 μ = zI (tX10_isOutlet_0 a0 μ) fun v2 μ1 => zif (v2 = 0) (tX10_hasExit_16 μ1) (zif (a0 = 3) (tX10_hasExit_16 μ1) (tX10_hasExit_17 1 μ1)) := (zs3 _ _ _ _).trans (rfl)
theorem uX10_hasExit (a0 : Int32) (μ : zM) : gX10_hasExit [.inl a0] μ = tX10_hasExit_0 a0 μ := rfl
