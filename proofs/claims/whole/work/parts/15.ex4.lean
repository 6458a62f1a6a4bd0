/-! BaggageHandling.takeOff(I)I -/
noncomputable def tX10_takeOff_32 (a2 : Int32) (a3 : Int32) (μ : zM) : Option (Option zV × zM) := fX10_takeOff_32 [some (.inr (.inr (10, 0))), none, some (.inl a2), some (.inl a3)] [] μ
noncomputable def tX10_takeOff_22 (a2 : Int32) (μ : zM) : Option (Option zV × zM) := fX10_takeOff_22 [some (.inr (.inr (10, 0))), none, some (.inl a2), none] [] μ
noncomputable def tX10_takeOff_0 (a1 : Int32) (μ : zM) : Option (Option zV × zM) := fX10_takeOff_0 [some (.inr (.inr (10, 0))), some (.inl a1), none, none] [] μ
theorem eX10_takeOff_32 (a2 : Int32) (a3 : Int32) (μ : zM) : tX10_takeOff_32 a2 a3 μ = zif (a3 < 0) (some (some (.inl (-2)), μ)) (zU (tX2_save_0 0 μ) fun μ1 => (wI μ1 (58, 0) a2 (-1)).bind fun μ2 => zU (tX9_setAside_0 0 a3 μ2) fun μ3 => some (some (.inl a3), μ3)) := (zs3 _ _ _ _).trans (rfl)
theorem eX10_takeOff_22 (a2 : Int32) (μ : zM) : tX10_takeOff_22 a2 μ = (qI μ (58, 0) a2).bind fun v1 => tX10_takeOff_32 a2 v1 μ := (zs3 _ _ _ _).trans (rfl)
theorem eX10_takeOff_0 (a1 : Int32) (μ : zM) : tX10_takeOff_0 a1 μ = zif (μ.2.1 10 0 6 < 2) (zI (tX5_hasPosition_0 (μ.2.1 10 0 6) a1 μ) fun v3 μ2 => zif (v3 = 0) (some (some (.inl (-1)), μ2)) (zI (tX9_slotAt_0 0 a1 μ2) fun v5 μ4 => tX10_takeOff_22 v5 μ4)) none := (zs3 _ _ _ _).trans (rfl)
theorem uX10_takeOff (a1 : Int32) (μ : zM) : gX10_takeOff [.inr (.inr (10, 0)), .inl a1] μ = tX10_takeOff_0 a1 μ := rfl
/-! BaggageHandling.setHead(IZ)Z -/
noncomputable def tX10_setHead_34 (a2 : Int32) (a3 : Int32) (a4 : Int32) (μ : zM) : Option (Option zV × zM) := fX10_setHead_34 [some (.inr (.inr (10, 0))), none, some (.inl a2), some (.inl a3), some (.inl a4)] [] μ
noncomputable def tX10_setHead_32 (a2 : Int32) (a3 : Int32) (s0 : Int32) (μ : zM) : Option (Option zV × zM) := fX10_setHead_32 [some (.inr (.inr (10, 0))), none, some (.inl a2), some (.inl a3), none] [.inl s0] μ
noncomputable def tX10_setHead_15 (a2 : Int32) (a3 : Int32) (μ : zM) : Option (Option zV × zM) := fX10_setHead_15 [some (.inr (.inr (10, 0))), none, some (.inl a2), some (.inl a3), none] [] μ
noncomputable def tX10_setHead_0 (a1 : Int32) (a2 : Int32) (μ : zM) : Option (Option zV × zM) := fX10_setHead_0 [some (.inr (.inr (10, 0))), some (.inl a1), some (.inl a2), none, none] [] μ
theorem eX10_setHead_34 (a2 : Int32) (a3 : Int32) (a4 : Int32) (μ : zM) : tX10_setHead_34 a2 a3 a4 μ = zif (a4 = a2) (zif (vp_nar .boolean 0 = 0) (some (some (.inl 0), μ)) none) (zU (tX2_save_0 0 μ) fun μ1 => zlet (mS μ1 9 0 3 ((μ1.1 9 0 3) ^^^ a3)) fun μ2 => zif (vp_nar .boolean 1 = 1) (some (some (.inl 1), μ2)) none) := (zs3 _ _ _ _).trans (rfl)
theorem eX10_setHead_32 (a2 : Int32) (a3 : Int32) (s0 : Int32) (μ : zM) : tX10_setHead_32 a2 a3 s0 μ = tX10_setHead_34 a2 a3 s0 μ := (zs3 _ _ _ _).trans (rfl)
theorem eX10_setHead_15 (a2 : Int32) (a3 : Int32) (μ : zM) : tX10_setHead_15 a2 a3 μ = zif ((μ.1 9 0 3) &&& a3 = 0) (tX10_setHead_32 a2 a3 0 μ) (tX10_setHead_32 a2 a3 1 μ) := (zs3 _ _ _ _).trans (rfl)
theorem eX10_setHead_0 (a1 : Int32) (a2 : Int32) (μ : zM) : tX10_setHead_0 a1 a2 μ = zI (tX10_isWithin_0 a1 0 3 μ) fun v2 μ1 => zif (v2 = 0) (zif (vp_nar .boolean 0 = 0) (some (some (.inl 0), μ1)) none) (tX10_setHead_15 a2 (1 <<< (a1 &&& 31)) μ1) := (zs3 _ _ _ _).trans (rfl)
theorem uX10_setHead (a1 : Int32) (a2 : Int32) (μ : zM) : gX10_setHead [.inr (.inr (10, 0)), .inl a1, .inl a2] μ = tX10_setHead_0 a1 a2 μ := rfl
/-! BaggageHandling.loadChute(I)I -/
noncomputable def tX10_loadChute_92 (n51 : Nat) (a1 : Int32) (a2 : Int32) (a3 : Int32) (a4 : Int32) (μ : zM) : Option (Option zV × zM) := fX10_loadChute_92 (fX10_loadChute_51 n51) [some (.inr (.inr (10, 0))), some (.inl a1), some (.inl a2), some (.inl a3), some (.inl a4), none] [] μ
noncomputable def tX10_loadChute_89 (n51 : Nat) (a1 : Int32) (a2 : Int32) (a3 : Int32) (a4 : Int32) (μ : zM) : Option (Option zV × zM) := fX10_loadChute_89 (fX10_loadChute_51 n51) [some (.inr (.inr (10, 0))), some (.inl a1), some (.inl a2), some (.inl a3), some (.inl a4), none] [] μ
noncomputable def tX10_loadChute_70 (n51 : Nat) (a1 : Int32) (a2 : Int32) (a3 : Int32) (a4 : Int32) (a5 : Int32) (μ : zM) : Option (Option zV × zM) := fX10_loadChute_70 (fX10_loadChute_51 n51) [some (.inr (.inr (10, 0))), some (.inl a1), some (.inl a2), some (.inl a3), some (.inl a4), some (.inl a5)] [] μ
noncomputable def tX10_loadChute_51 (n : Nat) (a1 : Int32) (a2 : Int32) (a3 : Int32) (a4 : Int32) (μ : zM) : Option (Option zV × zM) := fX10_loadChute_51 n [some (.inr (.inr (10, 0))), some (.inl a1), some (.inl a2), some (.inl a3), some (.inl a4), none] [] μ
noncomputable def tX10_loadChute_30 (a1 : Int32) (a2 : Int32) (a3 : Int32) (μ : zM) : Option (Option zV × zM) := fX10_loadChute_30 [some (.inr (.inr (10, 0))), some (.inl a1), some (.inl a2), some (.inl a3), none, none] [] μ
noncomputable def tX10_loadChute_10 (a1 : Int32) (a2 : Int32) (μ : zM) : Option (Option zV × zM) := fX10_loadChute_10 [some (.inr (.inr (10, 0))), some (.inl a1), some (.inl a2), none, none, none] [] μ
noncomputable def tX10_loadChute_0 (a1 : Int32) (μ : zM) : Option (Option zV × zM) := fX10_loadChute_0 [some (.inr (.inr (10, 0))), some (.inl a1), none, none, none, none] [] μ
theorem eX10_loadChute_92 (n51 : Nat) (a1 : Int32) (a2 : Int32) (a3 : Int32) (a4 : Int32) (μ : zM) : tX10_loadChute_92 n51 a1 a2 a3 a4 μ = tX10_loadChute_51 n51 a1 a2 a3 a4 μ := (zs3 _ _ _ _).trans (rfl)
theorem eX10_loadChute_89 (n51 : Nat) (a1 : Int32) (a2 : Int32) (a3 : Int32) (a4 : Int32) (μ : zM) : tX10_loadChute_89 n51 a1 a2 a3 a4 μ = tX10_loadChute_92 n51 a1 a2 a3 (a4 + 1) μ := (zs3 _ _ _ _).trans (rfl)
theorem eX10_loadChute_70 (n51 : Nat) (a1 : Int32) (a2 : Int32) (a3 : Int32) (a4 : Int32) (a5 : Int32) (μ : zM) : tX10_loadChute_70 n51 a1 a2 a3 a4 a5 μ = zif (a5 < 0) (tX10_loadChute_89 n51 a1 a2 a3 a4 μ) (zU (tX0_put_0 0 a5 3 a1 μ) fun μ1 => tX10_loadChute_89 n51 a1 a2 a3 a4 μ1) := (zs3 _ _ _ _).trans (rfl)
theorem eX10_loadChute_51 (a1 : Int32) (a2 : Int32) (a3 : Int32) (a4 : Int32) (n : Nat) (μ : zM) : tX10_loadChute_51 (n + 1) a1 a2 a3 a4 μ = zif (a4 < a3) (zI (tX3_takeFirst_0 0 a2 μ) fun v2 μ1 => tX10_loadChute_70 n a1 a2 a3 a4 v2 μ1) (some (some (.inl a3), μ)) := (zs3 _ _ _ _).trans (rfl)
theorem eX10_loadChute_30 (a1 : Int32) (a2 : Int32) (a3 : Int32) (μ : zM) : tX10_loadChute_30 a1 a2 a3 μ = zif (a3 = 0) (some (some (.inl (-2)), μ)) (zU (tX2_save_0 0 μ) fun μ1 => tX10_loadChute_51 zN a1 a2 a3 0 μ1) := (zs3 _ _ _ _).trans (rfl)
theorem eX10_loadChute_10 (a1 : Int32) (a2 : Int32) (μ : zM) : tX10_loadChute_10 a1 a2 μ = zif (a2 = (-1)) (some (some (.inl (-1)), μ)) ((qI μ (38, 0) a2).bind fun v1 => tX10_loadChute_30 a1 a2 v1 μ) := (zs3 _ _ _ _).trans (rfl)
theorem eX10_loadChute_0 (a1 : Int32) (μ : zM) : tX10_loadChute_0 a1 μ = zif (μ.2.1 10 0 6 < 2) (zI (tX5_placeOf_0 (μ.2.1 10 0 6) 3 a1 μ) fun v3 μ2 => tX10_loadChute_10 a1 v3 μ2) none := (zs3 _ _ _ _).trans (rfl)
theorem uX10_loadChute (a1 : Int32) (μ : zM) : gX10_loadChute [.inr (.inr (10, 0)), .inl a1] μ = tX10_loadChute_0 a1 μ := rfl
/-! BaggageHandling.undo()I -/
noncomputable def tX10_undo_0 (μ : zM) : Option (Option zV × zM) := fX10_undo_0 [some (.inr (.inr (10, 0)))] [] μ
theorem eX10_undo_0 (μ : zM) : tX10_undo_0 μ = zif (μ.1 2 0 2 = 0) (some (some (.inl (-1)), μ)) (zU (tX2_restoreInto_0 0 μ) fun μ1 => some (some (.inl (μ1.1 2 0 2)), μ1)) := (zs3 _ _ _ _).trans (rfl)
theorem uX10_undo (μ : zM) : gX10_undo [.inr (.inr (10, 0))] μ = tX10_undo_0 μ := rfl
/-! BaggageHandling.tick()I -/
noncomputable def tX10_tick_0 (μ : zM) : Option (Option zV × zM) := fX10_tick_0 [some (.inr (.inr (10, 0)))] [] μ
theorem eX10_tick_0 (μ : zM) : tX10_tick_0 μ = some (some (.inl (μ.1 9 0 1)), μ) := (zs3 _ _ _ _).trans (rfl)
theorem uX10_tick (μ : zM) : gX10_tick [.inr (.inr (10, 0))] μ = tX10_tick_0 μ := rfl
/-! BaggageHandling.bagAt(I)I -/
noncomputable def tX10_bagAt_40 (s0 : Int32) (μ : zM) : Option (Option zV × zM) := fX10_bagAt_40 [none, none, none] [.inl s0] μ
noncomputable def tX10_bagAt_30 (a2 : Int32) (μ : zM) : Option (Option zV × zM) := fX10_bagAt_30 [none, none, some (.inl a2)] [] μ
noncomputable def tX10_bagAt_0 (a1 : Int32) (μ : zM) : Option (Option zV × zM) := fX10_bagAt_0 [some (.inr (.inr (10, 0))), some (.inl a1), none] [] μ
theorem eX10_bagAt_40 (s0 : Int32) (μ : zM) : tX10_bagAt_40 s0 μ = some (some (.inl s0), μ) := (zs3 _ _ _ _).trans (rfl)
theorem eX10_bagAt_30 (a2 : Int32) (μ : zM) : tX10_bagAt_30 a2 μ = zif (a2 < 0) (tX10_bagAt_40 (-2) μ) (tX10_bagAt_40 a2 μ) := (zs3 _ _ _ _).trans (rfl)
theorem eX10_bagAt_0 (a1 : Int32) (μ : zM) : tX10_bagAt_0 a1 μ = zif (μ.2.1 10 0 6 < 2) (zI (tX5_hasPosition_0 (μ.2.1 10 0 6) a1 μ) fun v3 μ2 => zif (v3 = 0) (some (some (.inl (-1)), μ2)) (zI (tX9_slotAt_0 0 a1 μ2) fun v5 μ4 => (qI μ4 (58, 0) v5).bind fun v6 => tX10_bagAt_30 v6 μ4)) none := (zs3 _ _ _ _).trans (rfl)
theorem uX10_bagAt (a1 : Int32) (μ : zM) : gX10_bagAt [.inr (.inr (10, 0)), .inl a1] μ = tX10_bagAt_0 a1 μ := rfl
/-! BaggageHandling.recordLabel(I)I -/
noncomputable def tX10_recordLabel_52 (s0 : Int32) (μ : zM) : Option (Option zV × zM) := fX10_recordLabel_52 [none, none, none] [.inl s0] μ
noncomputable def tX10_recordLabel_33 (a2 : Int32) (μ : zM) : Option (Option zV × zM) := fX10_recordLabel_33 [none, none, some (.inl a2)] [] μ
noncomputable def tX10_recordLabel_0 (a1 : Int32) (μ : zM) : Option (Option zV × zM) := fX10_recordLabel_0 [some (.inr (.inr (10, 0))), some (.inl a1), none] [] μ
theorem eX10_recordLabel_52 (s0 : Int32) (μ : zM) : tX10_recordLabel_52 s0 μ = some (some (.inl s0), μ) := (zs3 _ _ _ _).trans (rfl)
theorem eX10_recordLabel_33 (a2 : Int32) (μ : zM) : tX10_recordLabel_33 a2 μ = zif (a2 = (-2)) (some (some (.inl (-2)), μ)) (zif (a2 = (-1)) (tX10_recordLabel_52 1 μ) (tX10_recordLabel_52 a2 μ)) := (zs3 _ _ _ _).trans (rfl)
theorem eX10_recordLabel_0 (a1 : Int32) (μ : zM) : tX10_recordLabel_0 a1 μ = zif (μ.2.1 10 0 6 < 2) (zI (tX5_hasPosition_0 (μ.2.1 10 0 6) a1 μ) fun v3 μ2 => zif (v3 = 0) (some (some (.inl (-1)), μ2)) (zI (tX9_slotAt_0 0 a1 μ2) fun v5 μ4 => (qI μ4 (40, 2 * 0) v5).bind fun v6 => tX10_recordLabel_33 v6 μ4)) none := (zs3 _ _ _ _).trans (rfl)
theorem uX10_recordLabel (a1 : Int32) (μ : zM) : gX10_recordLabel [.inr (.inr (10, 0)), .inl a1] μ = tX10_recordLabel_0 a1 μ := rfl
/-! BaggageHandling.isCleared(I)Z -/
noncomputable def tX10_isCleared_56 (s0 : Int32) (μ : zM) : Option (Option zV × zM) := fX10_isCleared_56 [none, none, none] [.inl s0] μ
noncomputable def tX10_isCleared_55 (μ : zM) : Option (Option zV × zM) := fX10_isCleared_55 [none, none, none] [] μ
noncomputable def tX10_isCleared_22 (a2 : Int32) (μ : zM) : Option (Option zV × zM) := fX10_isCleared_22 [some (.inr (.inr (10, 0))), none, some (.inl a2)] [] μ
noncomputable def tX10_isCleared_0 (a1 : Int32) (μ : zM) : Option (Option zV × zM) := fX10_isCleared_0 [some (.inr (.inr (10, 0))), some (.inl a1), none] [] μ
theorem eX10_isCleared_56 (s0 : Int32) (μ : zM) : tX10_isCleared_56 s0 μ = zif (vp_nar .boolean s0 = s0) (some (some (.inl s0), μ)) none := (zs3 _ _ _ _).trans (rfl)
theorem eX10_isCleared_55 (μ : zM) : tX10_isCleared_55 μ = tX10_isCleared_56 0 μ := (zs3 _ _ _ _).trans (rfl)
theorem eX10_isCleared_22 (a2 : Int32) (μ : zM) : tX10_isCleared_22 a2 μ = zI (tX4_has_0 (2 * 0) a2 μ) fun v2 μ1 => zif (v2 = 0) (tX10_isCleared_55 μ1) ((qI μ1 (42, 2 * 0) a2).bind fun v3 => zif (v3 = 0) (tX10_isCleared_55 μ1) (tX10_isCleared_56 1 μ1)) := (zs3 _ _ _ _).trans (rfl)
theorem eX10_isCleared_0 (a1 : Int32) (μ : zM) : tX10_isCleared_0 a1 μ = zif (μ.2.1 10 0 6 < 2) (zI (tX5_hasPosition_0 (μ.2.1 10 0 6) a1 μ) fun v3 μ2 => zif (v3 = 0) (zif (vp_nar .boolean 0 = 0) (some (some (.inl 0), μ2)) none) (zI (tX9_slotAt_0 0 a1 μ2) fun v5 μ4 => tX10_isCleared_22 v5 μ4)) none := (zs3 _ _ _ _).trans (rfl)
theorem uX10_isCleared (a1 : Int32) (μ : zM) : gX10_isCleared [.inr (.inr (10, 0)), .inl a1] μ = tX10_isCleared_0 a1 μ := rfl
/-! BaggageHandling.passes(I)I -/
noncomputable def tX10_passes_53 (s0 : Int32) (μ : zM) : Option (Option zV × zM) := fX10_passes_53 [none, none, none] [.inl s0] μ
noncomputable def tX10_passes_22 (a2 : Int32) (μ : zM) : Option (Option zV × zM) := fX10_passes_22 [some (.inr (.inr (10, 0))), none, some (.inl a2)] [] μ
noncomputable def tX10_passes_0 (a1 : Int32) (μ : zM) : Option (Option zV × zM) := fX10_passes_0 [some (.inr (.inr (10, 0))), some (.inl a1), none] [] μ
theorem eX10_passes_53 (s0 : Int32) (μ : zM) : tX10_passes_53 s0 μ = some (some (.inl s0), μ) := (zs3 _ _ _ _).trans (rfl)
theorem eX10_passes_22 (a2 : Int32) (μ : zM) : tX10_passes_22 a2 μ = zI (tX4_has_0 (2 * 0) a2 μ) fun v2 μ1 => zif (v2 = 0) (tX10_passes_53 (-2) μ1) ((qI μ1 (41, 2 * 0) a2).bind fun v3 => tX10_passes_53 v3 μ1) := (zs3 _ _ _ _).trans (rfl)
theorem eX10_passes_0 (a1 : Int32) (μ : zM) : tX10_passes_0 a1 μ = zif (μ.2.1 10 0 6 < 2) (zI (tX5_hasPosition_0 (μ.2.1 10 0 6) a1 μ) fun v3 μ2 => zif (v3 = 0) (some (some (.inl (-1)), μ2)) (zI (tX9_slotAt_0 0 a1 μ2) fun v5 μ4 => tX10_passes_22 v5 μ4)) none := (zs3 _ _ _ _).trans (rfl)
theorem uX10_passes (a1 : Int32) (μ : zM) : gX10_passes [.inr (.inr (10, 0)), .inl a1] μ = tX10_passes_0 a1 μ := rfl
/-! BaggageHandling.destination(I)I -/
noncomputable def tX10_destination_49 (s0 : Int32) (μ : zM) : Option (Option zV × zM) := fX10_destination_49 [none, none, none] [.inl s0] μ
noncomputable def tX10_destination_22 (a2 : Int32) (μ : zM) : Option (Option zV × zM) := fX10_destination_22 [some (.inr (.inr (10, 0))), none, some (.inl a2)] [] μ
noncomputable def tX10_destination_0 (a1 : Int32) (μ : zM) : Option (Option zV × zM) := fX10_destination_0 [some (.inr (.inr (10, 0))), some (.inl a1), none] [] μ
theorem eX10_destination_49 (s0 : Int32) (μ : zM) : tX10_destination_49 s0 μ = some (some (.inl s0), μ) := (zs3 _ _ _ _).trans (rfl)
theorem eX10_destination_22 (a2 : Int32) (μ : zM) : tX10_destination_22 a2 μ = zI (tX4_has_0 (2 * 0) a2 μ) fun v2 μ1 => zif (v2 = 0) (tX10_destination_49 (-2) μ1) (zI (tX9_goalOf_0 0 a2 μ1) fun v4 μ3 => tX10_destination_49 v4 μ3) := (zs3 _ _ _ _).trans (rfl)
theorem eX10_destination_0 (a1 : Int32) (μ : zM) : tX10_destination_0 a1 μ = zif (μ.2.1 10 0 6 < 2) (zI (tX5_hasPosition_0 (μ.2.1 10 0 6) a1 μ) fun v3 μ2 => zif (v3 = 0) (some (some (.inl (-1)), μ2)) (zI (tX9_slotAt_0 0 a1 μ2) fun v5 μ4 => tX10_destination_22 v5 μ4)) none := (zs3 _ _ _ _).trans (rfl)
theorem uX10_destination (a1 : Int32) (μ : zM) : gX10_destination [.inr (.inr (10, 0)), .inl a1] μ = tX10_destination_0 a1 μ := rfl
/-! BaggageHandling.bags()I -/
noncomputable def tX10_bags_0 (μ : zM) : Option (Option zV × zM) := fX10_bags_0 [some (.inr (.inr (10, 0)))] [] μ
theorem eX10_bags_0 (μ : zM) : tX10_bags_0 μ = some (some (.inl (μ.1 0 0 0)), μ) := (zs3 _ _ _ _).trans (rfl)
theorem uX10_bags (μ : zM) : gX10_bags [.inr (.inr (10, 0))] μ = tX10_bags_0 μ := rfl
/-! BaggageHandling.bagState(I)I -/
noncomputable def tX10_bagState_30 (s0 : Int32) (μ : zM) : Option (Option zV × zM) := fX10_bagState_30 [none, none] [.inl s0] μ
noncomputable def tX10_bagState_0 (a1 : Int32) (μ : zM) : Option (Option zV × zM) := fX10_bagState_0 [some (.inr (.inr (10, 0))), some (.inl a1)] [] μ
theorem eX10_bagState_30 (s0 : Int32) (μ : zM) : tX10_bagState_30 s0 μ = some (some (.inl s0), μ) := (zs3 _ _ _ _).trans (rfl)
theorem eX10_bagState_0 (a1 : Int32) (μ : zM) : tX10_bagState_0 a1 μ = zI (tX0_has_0 0 a1 μ) fun v2 μ1 => zif (v2 = 0) (tX10_bagState_30 (-1) μ1) ((qI μ1 (26, 0) a1).bind fun v3 => tX10_bagState_30 v3 μ1) := (zs3 _ _ _ _).trans (rfl)
theorem uX10_bagState (a1 : Int32) (μ : zM) : gX10_bagState [.inr (.inr (10, 0)), .inl a1] μ = tX10_bagState_0 a1 μ := rfl
/-! BaggageHandling.bagPlace(I)I -/
noncomputable def tX10_bagPlace_41 (μ : zM) : Option (Option zV × zM) := fX10_bagPlace_41 [none, none, none, none] [] μ
noncomputable def tX10_bagPlace_74 (s0 : Int32) (μ : zM) : Option (Option zV × zM) := fX10_bagPlace_74 [none, none, none, none] [.inl s0] μ
noncomputable def tX10_bagPlace_57 (a2 : Int32) (a3 : Int32) (μ : zM) : Option (Option zV × zM) := fX10_bagPlace_57 [some (.inr (.inr (10, 0))), none, some (.inl a2), some (.inl a3)] [] μ
noncomputable def tX10_bagPlace_29 (a1 : Int32) (a2 : Int32) (μ : zM) : Option (Option zV × zM) := fX10_bagPlace_29 [some (.inr (.inr (10, 0))), some (.inl a1), some (.inl a2), none] [] μ
noncomputable def tX10_bagPlace_0 (a1 : Int32) (μ : zM) : Option (Option zV × zM) := fX10_bagPlace_0 [some (.inr (.inr (10, 0))), some (.inl a1), none, none] [] μ
theorem eX10_bagPlace_41 (μ : zM) : tX10_bagPlace_41 μ = some (some (.inl (-2)), μ) := (zs3 _ _ _ _).trans (rfl)
theorem eX10_bagPlace_74 (s0 : Int32) (μ : zM) : tX10_bagPlace_74 s0 μ = some (some (.inl s0), μ) := (zs3 _ _ _ _).trans (rfl)
theorem eX10_bagPlace_57 (a2 : Int32) (a3 : Int32) (μ : zM) : tX10_bagPlace_57 a2 a3 μ = zif (a2 = 1) (zI (tX9_positionOf_0 0 a3 μ) fun v2 μ1 => tX10_bagPlace_74 v2 μ1) (tX10_bagPlace_74 a3 μ) := (zs3 _ _ _ _).trans (rfl)
theorem eX10_bagPlace_29 (a1 : Int32) (a2 : Int32) (μ : zM) : tX10_bagPlace_29 a1 a2 μ = zif (a2 = 8) (tX10_bagPlace_41 μ) (zif (a2 = 9) (tX10_bagPlace_41 μ) ((qI μ (27, 0) a1).bind fun v1 => tX10_bagPlace_57 a2 v1 μ)) := (zs3 _ _ _ _).trans (rfl)
theorem eX10_bagPlace_0 (a1 : Int32) (μ : zM) : tX10_bagPlace_0 a1 μ = zI (tX0_has_0 0 a1 μ) fun v2 μ1 => zif (v2 = 0) (some (some (.inl (-1)), μ1)) ((qI μ1 (26, 0) a1).bind fun v3 => tX10_bagPlace_29 a1 v3 μ1) := (zs3 _ _ _ _).trans (rfl)
theorem uX10_bagPlace (a1 : Int32) (μ : zM) : gX10_bagPlace [.inr (.inr (10, 0)), .inl a1] μ = tX10_bagPlace_0 a1 μ := rfl
/-! BaggageHandling.deliveredAt(I)I -/
noncomputable def tX10_deliveredAt_47 (s0 : Int32) (μ : zM) : Option (Option zV × zM) := fX10_deliveredAt_47 [none, none] [.inl s0] μ
noncomputable def tX10_deliveredAt_0 (a1 : Int32) (μ : zM) : Option (Option zV × zM) := fX10_deliveredAt_0 [some (.inr (.inr (10, 0))), some (.inl a1)] [] μ
theorem eX10_deliveredAt_47 (s0 : Int32) (μ : zM) : tX10_deliveredAt_47 s0 μ = some (some (.inl s0), μ) := (zs3 _ _ _ _).trans (rfl)
theorem eX10_deliveredAt_0 (a1 : Int32) (μ : zM) : tX10_deliveredAt_0 a1 μ = zI (tX0_has_0 0 a1 μ) fun v2 μ1 => zif (v2 = 0) (some (some (.inl (-1)), μ1)) (zI (tX0_isDelivered_0 0 a1 μ1) fun v4 μ3 => zif (v4 = 0) (tX10_deliveredAt_47 (-2) μ3) ((qI μ3 (28, 0) a1).bind fun v5 => tX10_deliveredAt_47 v5 μ3)) := (zs3 _ _ _ _).trans (rfl)
theorem uX10_deliveredAt (a1 : Int32) (μ : zM) : gX10_deliveredAt [.inr (.inr (10, 0)), .inl a1] μ = tX10_deliveredAt_0 a1 μ := rfl
/-! BaggageHandling.properLabel(I)I -/
noncomputable def tX10_properLabel_35 (s0 : Int32) (μ : zM) : Option (Option zV × zM) := fX10_properLabel_35 [none, none, none] [.inl s0] μ
noncomputable def tX10_properLabel_25 (a2 : Int32) (μ : zM) : Option (Option zV × zM) := fX10_properLabel_25 [none, none, some (.inl a2)] [] μ
noncomputable def tX10_properLabel_0 (a1 : Int32) (μ : zM) : Option (Option zV × zM) := fX10_properLabel_0 [some (.inr (.inr (10, 0))), some (.inl a1), none] [] μ
theorem eX10_properLabel_35 (s0 : Int32) (μ : zM) : tX10_properLabel_35 s0 μ = some (some (.inl s0), μ) := (zs3 _ _ _ _).trans (rfl)
theorem eX10_properLabel_25 (a2 : Int32) (μ : zM) : tX10_properLabel_25 a2 μ = zif (a2 = 0) (tX10_properLabel_35 (-2) μ) (tX10_properLabel_35 a2 μ) := (zs3 _ _ _ _).trans (rfl)
theorem eX10_properLabel_0 (a1 : Int32) (μ : zM) : tX10_properLabel_0 a1 μ = zI (tX0_has_0 0 a1 μ) fun v2 μ1 => zif (v2 = 0) (some (some (.inl (-1)), μ1)) (zI (tX9_usableLabel_0 0 a1 μ1) fun v4 μ3 => tX10_properLabel_25 v4 μ3) := (zs3 _ _ _ _).trans (rfl)
theorem uX10_properLabel (a1 : Int32) (μ : zM) : gX10_properLabel [.inr (.inr (10, 0)), .inl a1] μ = tX10_properLabel_0 a1 μ := rfl
/-! BaggageHandling.sizeAt(I)I -/
noncomputable def tX10_sizeAt_21 (s0 : Int32) (μ : zM) : Option (Option zV × zM) := fX10_sizeAt_21 [none, none] [.inl s0] μ
noncomputable def tX10_sizeAt_0 (a1 : Int32) (μ : zM) : Option (Option zV × zM) := fX10_sizeAt_0 [some (.inr (.inr (10, 0))), some (.inl a1)] [] μ
theorem eX10_sizeAt_21 (s0 : Int32) (μ : zM) : tX10_sizeAt_21 s0 μ = some (some (.inl s0), μ) := (zs3 _ _ _ _).trans (rfl)
theorem eX10_sizeAt_0 (a1 : Int32) (μ : zM) : tX10_sizeAt_0 a1 μ = zif (a1 = (-1)) (tX10_sizeAt_21 (-1) μ) ((qI μ (38, 0) a1).bind fun v1 => tX10_sizeAt_21 v1 μ) := (zs3 _ _ _ _).trans (rfl)
theorem uX10_sizeAt (a1 : Int32) (μ : zM) : gX10_sizeAt [.inr (.inr (10, 0)), .inl a1] μ = tX10_sizeAt_0 a1 μ := rfl
/-! BaggageHandling.waiting(I)I -/
noncomputable def tX10_waiting_0 (a1 : Int32) (μ : zM) : Option (Option zV × zM) := fX10_waiting_0 [some (.inr (.inr (10, 0))), some (.inl a1)] [] μ
theorem eX10_waiting_0 (a1 : Int32) (μ : zM) : tX10_waiting_0 a1 μ = zif (μ.2.1 10 0 6 < 2) (zI (tX5_placeOf_0 (μ.2.1 10 0 6) 1 a1 μ) fun v3 μ2 => zI (tX10_sizeAt_0 v3 μ2) fun v5 μ4 => some (some (.inl v5), μ4)) none := (zs3 _ _ _ _).trans (rfl)
theorem uX10_waiting (a1 : Int32) (μ : zM) : gX10_waiting [.inr (.inr (10, 0)), .inl a1] μ = tX10_waiting_0 a1 μ := rfl
/-! BaggageHandling.chuteSize(I)I -/
noncomputable def tX10_chuteSize_0 (a1 : Int32) (μ : zM) : Option (Option zV × zM) := fX10_chuteSize_0 [some (.inr (.inr (10, 0))), some (.inl a1)] [] μ
theorem eX10_chuteSize_0 (a1 : Int32) (μ : zM) : tX10_chuteSize_0 a1 μ = zif (μ.2.1 10 0 6 < 2) (zI (tX5_placeOf_0 (μ.2.1 10 0 6) 3 a1 μ) fun v3 μ2 => zI (tX10_sizeAt_0 v3 μ2) fun v5 μ4 => some (some (.inl v5), μ4)) none := (zs3 _ _ _ _).trans (rfl)
theorem uX10_chuteSize (a1 : Int32) (μ : zM) : gX10_chuteSize [.inr (.inr (10, 0)), .inl a1] μ = tX10_chuteSize_0 a1 μ := rfl
/-! BaggageHandling.screenSize(I)I -/
noncomputable def tX10_screenSize_0 (a1 : Int32) (μ : zM) : Option (Option zV × zM) := fX10_screenSize_0 [some (.inr (.inr (10, 0))), some (.inl a1)] [] μ
theorem eX10_screenSize_0 (a1 : Int32) (μ : zM) : tX10_screenSize_0 a1 μ = zif (μ.2.1 10 0 6 < 2) (zI (tX5_placeOf_0 (μ.2.1 10 0 6) 4 a1 μ) fun v3 μ2 => zI (tX10_sizeAt_0 v3 μ2) fun v5 μ4 => some (some (.inl v5), μ4)) none := (zs3 _ _ _ _).trans (rfl)
theorem uX10_screenSize (a1 : Int32) (μ : zM) : gX10_screenSize [.inr (.inr (10, 0)), .inl a1] μ = tX10_screenSize_0 a1 μ := rfl
/-! BaggageHandling.screenLevel(I)I -/
noncomputable def tX10_screenLevel_45 (s0 : Int32) (μ : zM) : Option (Option zV × zM) := fX10_screenLevel_45 [none, none, none] [.inl s0] μ
noncomputable def tX10_screenLevel_10 (a2 : Int32) (μ : zM) : Option (Option zV × zM) := fX10_screenLevel_10 [some (.inr (.inr (10, 0))), none, some (.inl a2)] [] μ
noncomputable def tX10_screenLevel_0 (a1 : Int32) (μ : zM) : Option (Option zV × zM) := fX10_screenLevel_0 [some (.inr (.inr (10, 0))), some (.inl a1), none] [] μ
theorem eX10_screenLevel_45 (s0 : Int32) (μ : zM) : tX10_screenLevel_45 s0 μ = some (some (.inl s0), μ) := (zs3 _ _ _ _).trans (rfl)
theorem eX10_screenLevel_10 (a2 : Int32) (μ : zM) : tX10_screenLevel_10 a2 μ = zif (a2 = (-1)) (some (some (.inl (-1)), μ)) ((qI μ (38, 0) a2).bind fun v1 => zif (v1 = 0) (tX10_screenLevel_45 0 μ) ((qI μ (61, 0) a2).bind fun v2 => tX10_screenLevel_45 v2 μ)) := (zs3 _ _ _ _).trans (rfl)
theorem eX10_screenLevel_0 (a1 : Int32) (μ : zM) : tX10_screenLevel_0 a1 μ = zif (μ.2.1 10 0 6 < 2) (zI (tX5_placeOf_0 (μ.2.1 10 0 6) 4 a1 μ) fun v3 μ2 => tX10_screenLevel_10 v3 μ2) none := (zs3 _ _ _ _).trans (rfl)
theorem uX10_screenLevel (a1 : Int32) (μ : zM) : gX10_screenLevel [.inr (.inr (10, 0)), .inl a1] μ = tX10_screenLevel_0 a1 μ := rfl
/-! BaggageHandling.storeSize(I)I -/
noncomputable def tX10_storeSize_0 (a1 : Int32) (μ : zM) : Option (Option zV × zM) := fX10_storeSize_0 [some (.inr (.inr (10, 0))), some (.inl a1)] [] μ
theorem eX10_storeSize_0 (a1 : Int32) (μ : zM) : tX10_storeSize_0 a1 μ = zif (μ.2.1 10 0 6 < 2) (zI (tX5_placeOf_0 (μ.2.1 10 0 6) 5 a1 μ) fun v3 μ2 => zI (tX10_sizeAt_0 v3 μ2) fun v5 μ4 => some (some (.inl v5), μ4)) none := (zs3 _ _ _ _).trans (rfl)
theorem uX10_storeSize (a1 : Int32) (μ : zM) : gX10_storeSize [.inr (.inr (10, 0)), .inl a1] μ = tX10_storeSize_0 a1 μ := rfl
/-! BaggageHandling.stationSize(I)I -/
noncomputable def tX10_stationSize_0 (a1 : Int32) (μ : zM) : Option (Option zV × zM) := fX10_stationSize_0 [some (.inr (.inr (10, 0))), some (.inl a1)] [] μ
theorem eX10_stationSize_0 (a1 : Int32) (μ : zM) : tX10_stationSize_0 a1 μ = zif (μ.2.1 10 0 6 < 2) (zI (tX5_placeOf_0 (μ.2.1 10 0 6) 6 a1 μ) fun v3 μ2 => zI (tX10_sizeAt_0 v3 μ2) fun v5 μ4 => some (some (.inl v5), μ4)) none := (zs3 _ _ _ _).trans (rfl)
theorem uX10_stationSize (a1 : Int32) (μ : zM) : gX10_stationSize [.inr (.inr (10, 0)), .inl a1] μ = tX10_stationSize_0 a1 μ := rfl
/-! BaggageHandling.exitSize(I)I -/
noncomputable def tX10_exitSize_25 (μ : zM) : Option (Option zV × zM) := fX10_exitSize_25 [none, none] [] μ
noncomputable def tX10_exitSize_0 (a1 : Int32) (μ : zM) : Option (Option zV × zM) := fX10_exitSize_0 [some (.inr (.inr (10, 0))), some (.inl a1)] [] μ
theorem eX10_exitSize_25 (μ : zM) : tX10_exitSize_25 μ = some (some (.inl (-1)), μ) := (zs3 _ _ _ _).trans (rfl)
theorem eX10_exitSize_0 (a1 : Int32) (μ : zM) : tX10_exitSize_0 a1 μ = zif (μ.2.1 10 0 6 < 2) (zI (tX5_hasPosition_0 (μ.2.1 10 0 6) a1 μ) fun v3 μ2 => zif (v3 = 0) (tX10_exitSize_25 μ2) (zif (μ2.2.1 10 0 6 < 2) ((qI μ2 (43, μ2.2.1 10 0 6) a1).bind fun v5 => zif (v5 = 7) ((qI μ2 (38, 0) a1).bind fun v6 => some (some (.inl v6), μ2)) (tX10_exitSize_25 μ2)) none)) none := (zs3 _ _ _ _).trans (rfl)
theorem uX10_exitSize (a1 : Int32) (μ : zM) : gX10_exitSize [.inr (.inr (10, 0)), .inl a1] μ = tX10_exitSize_0 a1 μ := rfl
/-! BaggageHandling.readyAt(I)I -/
noncomputable def tX10_readyAt_26 (μ : zM) : Option (Option zV × zM) := fX10_readyAt_26 [none, none] [] μ
noncomputable def tX10_readyAt_0 (a1 : Int32) (μ : zM) : Option (Option zV × zM) := fX10_readyAt_0 [some (.inr (.inr (10, 0))), some (.inl a1)] [] μ
theorem eX10_readyAt_26 (μ : zM) : tX10_readyAt_26 μ = some (some (.inl (-1)), μ) := (zs3 _ _ _ _).trans (rfl)
theorem eX10_readyAt_0 (a1 : Int32) (μ : zM) : tX10_readyAt_0 a1 μ = zif (μ.2.1 10 0 6 < 2) (zI (tX5_hasPosition_0 (μ.2.1 10 0 6) a1 μ) fun v3 μ2 => zif (v3 = 0) (tX10_readyAt_26 μ2) (zif (μ2.2.1 10 0 6 < 2) ((qI μ2 (43, μ2.2.1 10 0 6) a1).bind fun v5 => zI (tX10_isOutlet_0 v5 μ2) fun v7 μ6 => zif (v7 = 0) (tX10_readyAt_26 μ6) ((qI μ6 (59, 0) a1).bind fun v8 => some (some (.inl v8), μ6))) none)) none := (zs3 _ _ _ _).trans (rfl)
theorem uX10_readyAt (a1 : Int32) (μ : zM) : gX10_readyAt [.inr (.inr (10, 0)), .inl a1] μ = tX10_readyAt_0 a1 μ := rfl
/-! BaggageHandling.onRing()I -/
noncomputable def tX10_onRing_0 (μ : zM) : Option (Option zV × zM) := fX10_onRing_0 [some (.inr (.inr (10, 0)))] [] μ
theorem eX10_onRing_0 (μ : zM) : tX10_onRing_0 μ = zI (tX9_ridersWith_0 0 1 μ) fun v2 μ1 => zI (tX9_ridersWith_0 0 0 μ1) fun v4 μ3 => some (some (.inl (v2 + v4)), μ3) := (zs3 _ _ _ _).trans (rfl)
theorem uX10_onRing (μ : zM) : gX10_onRing [.inr (.inr (10, 0))] μ = tX10_onRing_0 μ := rfl
/-! BaggageHandling.untracked()I -/
noncomputable def tX10_untracked_0 (μ : zM) : Option (Option zV × zM) := fX10_untracked_0 [some (.inr (.inr (10, 0)))] [] μ
theorem eX10_untracked_0 (μ : zM) : tX10_untracked_0 μ = zI (tX9_ridersWith_0 0 0 μ) fun v2 μ1 => some (some (.inl v2), μ1) := (zs3 _ _ _ _).trans (rfl)
theorem uX10_untracked (μ : zM) : gX10_untracked [.inr (.inr (10, 0))] μ = tX10_untracked_0 μ := rfl
/-! BaggageHandling.count(I)I -/
noncomputable def tX10_count_23 (s0 : Int32) (μ : zM) : Option (Option zV × zM) := fX10_count_23 [none, none] [.inl s0] μ
noncomputable def tX10_count_0 (a1 : Int32) (μ : zM) : Option (Option zV × zM) := fX10_count_0 [some (.inr (.inr (10, 0))), some (.inl a1)] [] μ
theorem eX10_count_23 (s0 : Int32) (μ : zM) : tX10_count_23 s0 μ = some (some (.inl s0), μ) := (zs3 _ _ _ _).trans (rfl)
theorem eX10_count_0 (a1 : Int32) (μ : zM) : tX10_count_0 a1 μ = zI (tX10_isWithin_0 a1 0 7 μ) fun v2 μ1 => zif (v2 = 0) (tX10_count_23 (-1) μ1) ((qI μ1 (57, 0) a1).bind fun v3 => tX10_count_23 v3 μ1) := (zs3 _ _ _ _).trans (rfl)
theorem uX10_count (a1 : Int32) (μ : zM) : gX10_count [.inr (.inr (10, 0)), .inl a1] μ = tX10_count_0 a1 μ := rfl
/-! BaggageHandling.misrouted(I)I -/
noncomputable def tX10_misrouted_81 (n19 : Nat) (a1 : Int32) (a2 : Int32) (a3 : Int32) (μ : zM) : Option (Option zV × zM) := fX10_misrouted_81 (fX10_misrouted_19 n19) [some (.inr (.inr (10, 0))), some (.inl a1), some (.inl a2), some (.inl a3)] [] μ
noncomputable def tX10_misrouted_78 (n19 : Nat) (a1 : Int32) (a2 : Int32) (a3 : Int32) (μ : zM) : Option (Option zV × zM) := fX10_misrouted_78 (fX10_misrouted_19 n19) [some (.inr (.inr (10, 0))), some (.inl a1), some (.inl a2), some (.inl a3)] [] μ
noncomputable def tX10_misrouted_19 (n : Nat) (a1 : Int32) (a2 : Int32) (a3 : Int32) (μ : zM) : Option (Option zV × zM) := fX10_misrouted_19 n [some (.inr (.inr (10, 0))), some (.inl a1), some (.inl a2), some (.inl a3)] [] μ
noncomputable def tX10_misrouted_17 (a1 : Int32) (a2 : Int32) (μ : zM) : Option (Option zV × zM) := fX10_misrouted_17 [some (.inr (.inr (10, 0))), some (.inl a1), some (.inl a2), none] [] μ
noncomputable def tX10_misrouted_0 (a1 : Int32) (μ : zM) : Option (Option zV × zM) := fX10_misrouted_0 [some (.inr (.inr (10, 0))), some (.inl a1), none, none] [] μ
theorem eX10_misrouted_81 (n19 : Nat) (a1 : Int32) (a2 : Int32) (a3 : Int32) (μ : zM) : tX10_misrouted_81 n19 a1 a2 a3 μ = tX10_misrouted_19 n19 a1 a2 a3 μ := (zs3 _ _ _ _).trans (rfl)
theorem eX10_misrouted_78 (n19 : Nat) (a1 : Int32) (a2 : Int32) (a3 : Int32) (μ : zM) : tX10_misrouted_78 n19 a1 a2 a3 μ = tX10_misrouted_81 n19 a1 a2 (a3 + 1) μ := (zs3 _ _ _ _).trans (rfl)
theorem eX10_misrouted_19 (a1 : Int32) (a2 : Int32) (a3 : Int32) (n : Nat) (μ : zM) : tX10_misrouted_19 (n + 1) a1 a2 a3 μ = zif (a3 < μ.1 0 0 0) (zI (tX0_isDelivered_0 0 a3 μ) fun v2 μ1 => zif (v2 = 0) (tX10_misrouted_78 n a1 a2 a3 μ1) ((qI μ1 (27, 0) a3).bind fun v3 => zif (v3 = a1) (zI (tX9_isStray_0 0 a3 a1 μ1) fun v5 μ4 => zif (v5 = 0) (tX10_misrouted_78 n a1 a2 a3 μ4) (tX10_misrouted_78 n a1 (a2 + 1) a3 μ4)) (tX10_misrouted_78 n a1 a2 a3 μ1))) (some (some (.inl a2), μ)) := (zs3 _ _ _ _).trans (rfl)
theorem eX10_misrouted_17 (a1 : Int32) (a2 : Int32) (μ : zM) : tX10_misrouted_17 a1 a2 μ = tX10_misrouted_19 zN a1 a2 0 μ := (zs3 _ _ _ _).trans (rfl)
theorem eX10_misrouted_0 (a1 : Int32) (μ : zM) : tX10_misrouted_0 a1 μ = zif (μ.2.1 10 0 6 < 2) (zI (tX5_placeOf_0 (μ.2.1 10 0 6) 3 a1 μ) fun v3 μ2 => zif (v3 = (-1)) (some (some (.inl (-1)), μ2)) (tX10_misrouted_17 a1 0 μ2)) none := (zs3 _ _ _ _).trans (rfl)
theorem uX10_misrouted (a1 : Int32) (μ : zM) : gX10_misrouted [.inr (.inr (10, 0)), .inl a1] μ = tX10_misrouted_0 a1 μ := rfl
/-! BaggageHandling.delivered(I)I -/
noncomputable def tX10_delivered_70 (n20 : Nat) (a1 : Int32) (a2 : Int32) (a3 : Int32) (μ : zM) : Option (Option zV × zM) := fX10_delivered_70 (fX10_delivered_20 n20) [some (.inr (.inr (10, 0))), some (.inl a1), some (.inl a2), some (.inl a3)] [] μ
noncomputable def tX10_delivered_67 (n20 : Nat) (a1 : Int32) (a2 : Int32) (a3 : Int32) (μ : zM) : Option (Option zV × zM) := fX10_delivered_67 (fX10_delivered_20 n20) [some (.inr (.inr (10, 0))), some (.inl a1), some (.inl a2), some (.inl a3)] [] μ
noncomputable def tX10_delivered_20 (n : Nat) (a1 : Int32) (a2 : Int32) (a3 : Int32) (μ : zM) : Option (Option zV × zM) := fX10_delivered_20 n [some (.inr (.inr (10, 0))), some (.inl a1), some (.inl a2), some (.inl a3)] [] μ
noncomputable def tX10_delivered_18 (a1 : Int32) (a2 : Int32) (μ : zM) : Option (Option zV × zM) := fX10_delivered_18 [some (.inr (.inr (10, 0))), some (.inl a1), some (.inl a2), none] [] μ
noncomputable def tX10_delivered_0 (a1 : Int32) (μ : zM) : Option (Option zV × zM) := fX10_delivered_0 [some (.inr (.inr (10, 0))), some (.inl a1), none, none] [] μ
theorem eX10_delivered_70 (n20 : Nat) (a1 : Int32) (a2 : Int32) (a3 : Int32) (μ : zM) : tX10_delivered_70 n20 a1 a2 a3 μ = tX10_delivered_20 n20 a1 a2 a3 μ := (zs3 _ _ _ _).trans (rfl)
theorem eX10_delivered_67 (n20 : Nat) (a1 : Int32) (a2 : Int32) (a3 : Int32) (μ : zM) : tX10_delivered_67 n20 a1 a2 a3 μ = tX10_delivered_70 n20 a1 a2 (a3 + 1) μ := (zs3 _ _ _ _).trans (rfl)
theorem eX10_delivered_20 (a1 : Int32) (a2 : Int32) (a3 : Int32) (n : Nat) (μ : zM) : tX10_delivered_20 (n + 1) a1 a2 a3 μ = zif (a3 < μ.1 0 0 0) (zI (tX0_isDelivered_0 0 a3 μ) fun v2 μ1 => zif (v2 = 0) (tX10_delivered_67 n a1 a2 a3 μ1) ((qI μ1 (29, 0) a3).bind fun v3 => zif (v3 = a1) (tX10_delivered_67 n a1 (a2 + 1) a3 μ1) (tX10_delivered_67 n a1 a2 a3 μ1))) (some (some (.inl a2), μ)) := (zs3 _ _ _ _).trans (rfl)
theorem eX10_delivered_18 (a1 : Int32) (a2 : Int32) (μ : zM) : tX10_delivered_18 a1 a2 μ = tX10_delivered_20 zN a1 a2 0 μ := (zs3 _ _ _ _).trans (rfl)
theorem eX10_delivered_0 (a1 : Int32) (μ : zM) : tX10_delivered_0 a1 μ = zif (μ.2.1 10 0 6 < 2) (zI (tX1_has_0 (μ.2.1 10 0 6) a1 μ) fun v3 μ2 => zif (v3 = 0) (some (some (.inl (-1)), μ2)) (tX10_delivered_18 a1 0 μ2)) none := (zs3 _ _ _ _).trans (rfl)
theorem uX10_delivered (a1 : Int32) (μ : zM) : gX10_delivered [.inr (.inr (10, 0)), .inl a1] μ = tX10_delivered_0 a1 μ := rfl
/-! BaggageHandling.ticksToChute(II)I -/
noncomputable def tX10_ticksToChute_25 (μ : zM) : Option (Option zV × zM) := fX10_ticksToChute_25 [none, none, none] [] μ
noncomputable def tX10_ticksToChute_0 (a1 : Int32) (a2 : Int32) (μ : zM) : Option (Option zV × zM) := fX10_ticksToChute_0 [some (.inr (.inr (10, 0))), some (.inl a1), some (.inl a2)] [] μ
theorem eX10_ticksToChute_25 (μ : zM) : tX10_ticksToChute_25 μ = some (some (.inl (-1)), μ) := (zs3 _ _ _ _).trans (rfl)
theorem eX10_ticksToChute_0 (a1 : Int32) (a2 : Int32) (μ : zM) : tX10_ticksToChute_0 a1 a2 μ = zI (tX0_has_0 0 a1 μ) fun v2 μ1 => zif (v2 = 0) (tX10_ticksToChute_25 μ1) (zI (tX10_isWithin_0 a2 1 300 μ1) fun v4 μ3 => zif (v4 = 0) (tX10_ticksToChute_25 μ3) (zU (tX9_copyFrom_0 1 0 μ3) fun μ5 => zI (tX9_ticksUntilDelivered_0 1 a1 a2 μ5) fun v7 μ6 => some (some (.inl v7), μ6))) := (zs3 _ _ _ _).trans (rfl)
theorem uX10_ticksToChute (a1 : Int32) (a2 : Int32) (μ : zM) : gX10_ticksToChute [.inr (.inr (10, 0)), .inl a1, .inl a2] μ = tX10_ticksToChute_0 a1 a2 μ := rfl
/-! BaggageHandling.forecastState(II)I -/
noncomputable def tX10_forecastState_25 (μ : zM) : Option (Option zV × zM) := fX10_forecastState_25 [none, none, none] [] μ
noncomputable def tX10_forecastState_0 (a1 : Int32) (a2 : Int32) (μ : zM) : Option (Option zV × zM) := fX10_forecastState_0 [some (.inr (.inr (10, 0))), some (.inl a1), some (.inl a2)] [] μ
theorem eX10_forecastState_25 (μ : zM) : tX10_forecastState_25 μ = some (some (.inl (-1)), μ) := (zs3 _ _ _ _).trans (rfl)
theorem eX10_forecastState_0 (a1 : Int32) (a2 : Int32) (μ : zM) : tX10_forecastState_0 a1 a2 μ = zI (tX0_has_0 0 a1 μ) fun v2 μ1 => zif (v2 = 0) (tX10_forecastState_25 μ1) (zI (tX10_isWithin_0 a2 1 300 μ1) fun v4 μ3 => zif (v4 = 0) (tX10_forecastState_25 μ3) (zU (tX9_copyFrom_0 1 0 μ3) fun μ5 => zI (tX9_deliveriesWithin_0 1 a2 μ5) fun v7 μ6 => (qI μ6 (26, 1) a1).bind fun v8 => some (some (.inl v8), μ6))) := (zs3 _ _ _ _).trans (rfl)
theorem uX10_forecastState (a1 : Int32) (a2 : Int32) (μ : zM) : gX10_forecastState [.inr (.inr (10, 0)), .inl a1, .inl a2] μ = tX10_forecastState_0 a1 a2 μ := rfl
/-! BaggageHandling.forecastDelivered(I)I -/
noncomputable def tX10_forecastDelivered_0 (a1 : Int32) (μ : zM) : Option (Option zV × zM) := fX10_forecastDelivered_0 [some (.inr (.inr (10, 0))), some (.inl a1)] [] μ
theorem eX10_forecastDelivered_0 (a1 : Int32) (μ : zM) : tX10_forecastDelivered_0 a1 μ = zI (tX10_isWithin_0 a1 1 300 μ) fun v2 μ1 => zif (v2 = 0) (some (some (.inl (-1)), μ1)) (zU (tX9_copyFrom_0 1 0 μ1) fun μ3 => zI (tX9_deliveriesWithin_0 1 a1 μ3) fun v5 μ4 => some (some (.inl v5), μ4)) := (zs3 _ _ _ _).trans (rfl)
theorem uX10_forecastDelivered (a1 : Int32) (μ : zM) : gX10_forecastDelivered [.inr (.inr (10, 0)), .inl a1] μ = tX10_forecastDelivered_0 a1 μ := rfl
/-! BaggageHandling.addTrialBag(II)I -/
noncomputable def tX10_addTrialBag_35 (a3 : Int32) (a4 : Int32) (μ : zM) : Option (Option zV × zM) := fX10_addTrialBag_35 [some (.inr (.inr (10, 0))), none, none, some (.inl a3), some (.inl a4)] [] μ
noncomputable def tX10_addTrialBag_17 (a1 : Int32) (a3 : Int32) (μ : zM) : Option (Option zV × zM) := fX10_addTrialBag_17 [some (.inr (.inr (10, 0))), some (.inl a1), none, some (.inl a3), none] [] μ
noncomputable def tX10_addTrialBag_0 (a1 : Int32) (a2 : Int32) (μ : zM) : Option (Option zV × zM) := fX10_addTrialBag_0 [some (.inr (.inr (10, 0))), some (.inl a1), some (.inl a2), none, none] [] μ
theorem eX10_addTrialBag_35 (a3 : Int32) (a4 : Int32) (μ : zM) : tX10_addTrialBag_35 a3 a4 μ = zU (tX0_describe_0 1 a3 a4 15 0 0 0 μ) fun μ1 => some (some (.inl a3), μ1) := (zs3 _ _ _ _).trans (rfl)
theorem eX10_addTrialBag_17 (a1 : Int32) (a3 : Int32) (μ : zM) : tX10_addTrialBag_17 a1 a3 μ = zif (μ.2.1 10 0 6 < 2) ((qI μ (31, μ.2.1 10 0 6) a1).bind fun v2 => tX10_addTrialBag_35 a3 (v2 * 1000) μ) none := (zs3 _ _ _ _).trans (rfl)
theorem eX10_addTrialBag_0 (a1 : Int32) (a2 : Int32) (μ : zM) : tX10_addTrialBag_0 a1 a2 μ = zif (μ.2.1 10 0 6 < 2) (zI (tX5_placeOf_0 (μ.2.1 10 0 6) 1 a2 μ) fun v3 μ2 => zI (tX9_addBag_0 1 v3 μ2) fun v5 μ4 => tX10_addTrialBag_17 a1 v5 μ4) none := (zs3 _ _ _ _).trans (rfl)
theorem uX10_addTrialBag (a1 : Int32) (a2 : Int32) (μ : zM) : gX10_addTrialBag [.inr (.inr (10, 0)), .inl a1, .inl a2] μ = tX10_addTrialBag_0 a1 a2 μ := rfl
/-! BaggageHandling.bestInlet(II)I -/
noncomputable def tX10_bestInlet_25 (μ : zM) : Option (Option zV × zM) := fX10_bestInlet_25 [none, none, none, none, none, none, none, none] [] μ
noncomputable def tX10_bestInlet_120 (n54 : Nat) (a1 : Int32) (a3 : Int32) (a4 : Int32) (a5 : Int32) (μ : zM) : Option (Option zV × zM) := fX10_bestInlet_120 (fX10_bestInlet_54 n54) [some (.inr (.inr (10, 0))), some (.inl a1), none, some (.inl a3), some (.inl a4), some (.inl a5), none, none] [] μ
noncomputable def tX10_bestInlet_117 (n54 : Nat) (a1 : Int32) (a3 : Int32) (a4 : Int32) (a5 : Int32) (μ : zM) : Option (Option zV × zM) := fX10_bestInlet_117 (fX10_bestInlet_54 n54) [some (.inr (.inr (10, 0))), some (.inl a1), none, some (.inl a3), some (.inl a4), some (.inl a5), none, none] [] μ
noncomputable def tX10_bestInlet_111 (n54 : Nat) (a1 : Int32) (a3 : Int32) (a5 : Int32) (a7 : Int32) (μ : zM) : Option (Option zV × zM) := fX10_bestInlet_111 (fX10_bestInlet_54 n54) [some (.inr (.inr (10, 0))), some (.inl a1), none, some (.inl a3), none, some (.inl a5), none, some (.inl a7)] [] μ
noncomputable def tX10_bestInlet_101 (n54 : Nat) (a1 : Int32) (a3 : Int32) (a4 : Int32) (a5 : Int32) (a7 : Int32) (μ : zM) : Option (Option zV × zM) := fX10_bestInlet_101 (fX10_bestInlet_54 n54) [some (.inr (.inr (10, 0))), some (.inl a1), none, some (.inl a3), some (.inl a4), some (.inl a5), none, some (.inl a7)] [] μ
noncomputable def tX10_bestInlet_88 (n54 : Nat) (a1 : Int32) (a3 : Int32) (a4 : Int32) (a5 : Int32) (a6 : Int32) (μ : zM) : Option (Option zV × zM) := fX10_bestInlet_88 (fX10_bestInlet_54 n54) [some (.inr (.inr (10, 0))), some (.inl a1), none, some (.inl a3), some (.inl a4), some (.inl a5), some (.inl a6), none] [] μ
noncomputable def tX10_bestInlet_54 (n : Nat) (a1 : Int32) (a3 : Int32) (a4 : Int32) (a5 : Int32) (μ : zM) : Option (Option zV × zM) := fX10_bestInlet_54 n [some (.inr (.inr (10, 0))), some (.inl a1), none, some (.inl a3), some (.inl a4), some (.inl a5), none, none] [] μ
noncomputable def tX10_bestInlet_51 (a1 : Int32) (a3 : Int32) (a4 : Int32) (μ : zM) : Option (Option zV × zM) := fX10_bestInlet_51 [some (.inr (.inr (10, 0))), some (.inl a1), none, some (.inl a3), some (.inl a4), none, none, none] [] μ
noncomputable def tX10_bestInlet_48 (a1 : Int32) (a2 : Int32) (a3 : Int32) (μ : zM) : Option (Option zV × zM) := fX10_bestInlet_48 [some (.inr (.inr (10, 0))), some (.inl a1), some (.inl a2), some (.inl a3), none, none, none, none] [] μ
noncomputable def tX10_bestInlet_0 (a1 : Int32) (a2 : Int32) (μ : zM) : Option (Option zV × zM) := fX10_bestInlet_0 [some (.inr (.inr (10, 0))), some (.inl a1), some (.inl a2), none, none, none, none, none] [] μ
theorem eX10_bestInlet_25 (μ : zM) : tX10_bestInlet_25 μ = some (some (.inl (-1)), μ) := (zs3 _ _ _ _).trans (rfl)
theorem eX10_bestInlet_120 (n54 : Nat) (a1 : Int32) (a3 : Int32) (a4 : Int32) (a5 : Int32) (μ : zM) : tX10_bestInlet_120 n54 a1 a3 a4 a5 μ = tX10_bestInlet_54 n54 a1 a3 a4 a5 μ := (zs3 _ _ _ _).trans (rfl)
theorem eX10_bestInlet_117 (n54 : Nat) (a1 : Int32) (a3 : Int32) (a4 : Int32) (a5 : Int32) (μ : zM) : tX10_bestInlet_117 n54 a1 a3 a4 a5 μ = tX10_bestInlet_120 n54 a1 a3 a4 (a5 + 1) μ := (zs3 _ _ _ _).trans (rfl)
theorem eX10_bestInlet_111 (n54 : Nat) (a1 : Int32) (a3 : Int32) (a5 : Int32) (a7 : Int32) (μ : zM) : tX10_bestInlet_111 n54 a1 a3 a5 a7 μ = tX10_bestInlet_117 n54 a1 a3 (a7 - 1) a5 μ := (zs3 _ _ _ _).trans (rfl)
theorem eX10_bestInlet_101 (n54 : Nat) (a1 : Int32) (a3 : Int32) (a4 : Int32) (a5 : Int32) (a7 : Int32) (μ : zM) : tX10_bestInlet_101 n54 a1 a3 a4 a5 a7 μ = zif (a7 = (-2)) (tX10_bestInlet_117 n54 a1 a3 a4 a5 μ) (tX10_bestInlet_111 n54 a1 a5 a5 a7 μ) := (zs3 _ _ _ _).trans (rfl)
theorem eX10_bestInlet_88 (n54 : Nat) (a1 : Int32) (a3 : Int32) (a4 : Int32) (a5 : Int32) (a6 : Int32) (μ : zM) : tX10_bestInlet_88 n54 a1 a3 a4 a5 a6 μ = zI (tX9_ticksUntilDelivered_0 1 a6 a4 μ) fun v2 μ1 => tX10_bestInlet_101 n54 a1 a3 a4 a5 v2 μ1 := (zs3 _ _ _ _).trans (rfl)
theorem eX10_bestInlet_54 (a1 : Int32) (a3 : Int32) (a4 : Int32) (a5 : Int32) (n : Nat) (μ : zM) : tX10_bestInlet_54 (n + 1) a1 a3 a4 a5 μ = zif (μ.2.1 10 0 6 < 2) ((qI μ (49, μ.2.1 10 0 6) 1).bind fun v2 => zif (a5 < v2) (zU (tX9_copyFrom_0 1 0 μ) fun μ3 => zI (tX10_addTrialBag_0 a1 a5 μ3) fun v5 μ4 => tX10_bestInlet_88 n a1 a3 a4 a5 v5 μ4) (some (some (.inl a3), μ))) none := (zs3 _ _ _ _).trans (rfl)
theorem eX10_bestInlet_51 (a1 : Int32) (a3 : Int32) (a4 : Int32) (μ : zM) : tX10_bestInlet_51 a1 a3 a4 μ = tX10_bestInlet_54 zN a1 a3 a4 0 μ := (zs3 _ _ _ _).trans (rfl)
theorem eX10_bestInlet_48 (a1 : Int32) (a2 : Int32) (a3 : Int32) (μ : zM) : tX10_bestInlet_48 a1 a2 a3 μ = tX10_bestInlet_51 a1 a3 a2 μ := (zs3 _ _ _ _).trans (rfl)
theorem eX10_bestInlet_0 (a1 : Int32) (a2 : Int32) (μ : zM) : tX10_bestInlet_0 a1 a2 μ = zif (μ.2.1 10 0 6 < 2) (zI (tX1_has_0 (μ.2.1 10 0 6) a1 μ) fun v3 μ2 => zif (v3 = 0) (tX10_bestInlet_25 μ2) (zI (tX10_isWithin_0 a2 1 300 μ2) fun v5 μ4 => zif (v5 = 0) (tX10_bestInlet_25 μ4) (zif (μ4.1 0 0 0 < 100) (tX10_bestInlet_48 a1 a2 (-2) μ4) (some (some (.inl (-2)), μ4))))) none := (zs3 _ _ _ _).trans (rfl)
theorem uX10_bestInlet (a1 : Int32) (a2 : Int32) (μ : zM) : gX10_bestInlet [.inr (.inr (10, 0)), .inl a1, .inl a2] μ = tX10_bestInlet_0 a1 a2 μ := rfl
/-! BaggageHandling.arrivesInTime(III)Z -/
noncomputable def tX10_arrivesInTime_121 (s0 : Int32) (μ : zM) : Option (Option zV × zM) := fX10_arrivesInTime_121 [none, none, none, none, none, none, none] [.inl s0] μ
noncomputable def tX10_arrivesInTime_120 (μ : zM) : Option (Option zV × zM) := fX10_arrivesInTime_120 [none, none, none, none, none, none, none] [] μ
noncomputable def tX10_arrivesInTime_81 (a1 : Int32) (a5 : Int32) (a6 : Int32) (μ : zM) : Option (Option zV × zM) := fX10_arrivesInTime_81 [some (.inr (.inr (10, 0))), some (.inl a1), none, none, none, some (.inl a5), some (.inl a6)] [] μ
noncomputable def tX10_arrivesInTime_62 (a1 : Int32) (a4 : Int32) (a5 : Int32) (μ : zM) : Option (Option zV × zM) := fX10_arrivesInTime_62 [some (.inr (.inr (10, 0))), some (.inl a1), none, none, some (.inl a4), some (.inl a5), none] [] μ
noncomputable def tX10_arrivesInTime_26 (a1 : Int32) (a2 : Int32) (a3 : Int32) (a4 : Int32) (μ : zM) : Option (Option zV × zM) := fX10_arrivesInTime_26 [some (.inr (.inr (10, 0))), some (.inl a1), some (.inl a2), some (.inl a3), some (.inl a4), none, none] [] μ
noncomputable def tX10_arrivesInTime_0 (a1 : Int32) (a2 : Int32) (a3 : Int32) (μ : zM) : Option (Option zV × zM) := fX10_arrivesInTime_0 [some (.inr (.inr (10, 0))), some (.inl a1), some (.inl a2), some (.inl a3), none, none, none] [] μ
theorem eX10_arrivesInTime_121 (s0 : Int32) (μ : zM) : tX10_arrivesInTime_121 s0 μ = zif (vp_nar .boolean s0 = s0) (some (some (.inl s0), μ)) none := (zs3 _ _ _ _).trans (rfl)
theorem eX10_arrivesInTime_120 (μ : zM) : tX10_arrivesInTime_120 μ = tX10_arrivesInTime_121 0 μ := (zs3 _ _ _ _).trans (rfl)
theorem eX10_arrivesInTime_81 (a1 : Int32) (a5 : Int32) (a6 : Int32) (μ : zM) : tX10_arrivesInTime_81 a1 a5 a6 μ = zif (a6 = (-2)) (tX10_arrivesInTime_120 μ) ((qI μ (27, 1) a5).bind fun v1 => zif (μ.2.1 10 0 6 < 2) ((qI μ (32, μ.2.1 10 0 6) a1).bind fun v3 => zif (v1 = v3) (tX10_arrivesInTime_121 1 μ) (tX10_arrivesInTime_120 μ)) none) := (zs3 _ _ _ _).trans (rfl)
theorem eX10_arrivesInTime_62 (a1 : Int32) (a4 : Int32) (a5 : Int32) (μ : zM) : tX10_arrivesInTime_62 a1 a4 a5 μ = zI (tX9_ticksUntilDelivered_0 1 a5 (zif (a4 < 300) a4 300) μ) fun v2 μ1 => tX10_arrivesInTime_81 a1 a5 v2 μ1 := (zs3 _ _ _ _).trans (rfl)
theorem eX10_arrivesInTime_26 (a1 : Int32) (a2 : Int32) (a3 : Int32) (a4 : Int32) (μ : zM) : tX10_arrivesInTime_26 a1 a2 a3 a4 μ = zif (a4 < 1) (zif (vp_nar .boolean 0 = 0) (some (some (.inl 0), μ)) none) (zU (tX9_copyFrom_0 1 0 μ) fun μ1 => zI (tX9_deliveriesWithin_0 1 a3 μ1) fun v3 μ2 => zI (tX10_addTrialBag_0 a1 a2 μ2) fun v5 μ4 => tX10_arrivesInTime_62 a1 a4 v5 μ4) := (zs3 _ _ _ _).trans (rfl)
theorem eX10_arrivesInTime_0 (a1 : Int32) (a2 : Int32) (a3 : Int32) (μ : zM) : tX10_arrivesInTime_0 a1 a2 a3 μ = zif (μ.2.1 10 0 6 < 2) ((qI μ (34, μ.2.1 10 0 6) a1).bind fun v2 => tX10_arrivesInTime_26 a1 a2 a3 ((v2 - 1) - ((μ.1 9 0 1) + a3)) μ) none := (zs3 _ _ _ _).trans (rfl)
theorem uX10_arrivesInTime (a1 : Int32) (a2 : Int32) (a3 : Int32) (μ : zM) : gX10_arrivesInTime [.inr (.inr (10, 0)), .inl a1, .inl a2, .inl a3] μ = tX10_arrivesInTime_0 a1 a2 a3 μ := rfl
/-! BaggageHandling.latestDelay(II)I -/
noncomputable def tX10_latestDelay_27 (μ : zM) : Option (Option zV × zM) := fX10_latestDelay_27 [none, none, none, none] [] μ
noncomputable def tX10_latestDelay_69 (n50 : Nat) (a1 : Int32) (a2 : Int32) (a3 : Int32) (μ : zM) : Option (Option zV × zM) := fX10_latestDelay_69 (fX10_latestDelay_50 n50) [some (.inr (.inr (10, 0))), some (.inl a1), some (.inl a2), some (.inl a3)] [] μ
noncomputable def tX10_latestDelay_50 (n : Nat) (a1 : Int32) (a2 : Int32) (a3 : Int32) (μ : zM) : Option (Option zV × zM) := fX10_latestDelay_50 n [some (.inr (.inr (10, 0))), some (.inl a1), some (.inl a2), some (.inl a3)] [] μ
noncomputable def tX10_latestDelay_0 (a1 : Int32) (a2 : Int32) (μ : zM) : Option (Option zV × zM) := fX10_latestDelay_0 [some (.inr (.inr (10, 0))), some (.inl a1), some (.inl a2), none] [] μ
theorem eX10_latestDelay_27 (μ : zM) : tX10_latestDelay_27 μ = some (some (.inl (-1)), μ) := (zs3 _ _ _ _).trans (rfl)
theorem eX10_latestDelay_69 (n50 : Nat) (a1 : Int32) (a2 : Int32) (a3 : Int32) (μ : zM) : tX10_latestDelay_69 n50 a1 a2 a3 μ = tX10_latestDelay_50 n50 a1 a2 a3 μ := (zs3 _ _ _ _).trans (rfl)
theorem eX10_latestDelay_50 (a1 : Int32) (a2 : Int32) (a3 : Int32) (n : Nat) (μ : zM) : tX10_latestDelay_50 (n + 1) a1 a2 a3 μ = zif (a3 < 0) (some (some (.inl (-2)), μ)) (zI (tX10_arrivesInTime_0 a1 a2 a3 μ) fun v2 μ1 => zif (v2 = 0) (tX10_latestDelay_69 n a1 a2 (a3 + (-1)) μ1) (some (some (.inl a3), μ1))) := (zs3 _ _ _ _).trans (rfl)
theorem eX10_latestDelay_0 (a1 : Int32) (a2 : Int32) (μ : zM) : tX10_latestDelay_0 a1 a2 μ = zif (μ.2.1 10 0 6 < 2) (zI (tX1_has_0 (μ.2.1 10 0 6) a1 μ) fun v3 μ2 => zif (v3 = 0) (tX10_latestDelay_27 μ2) (zif (μ2.2.1 10 0 6 < 2) (zI (tX5_placeOf_0 (μ2.2.1 10 0 6) 1 a2 μ2) fun v6 μ5 => zif (v6 = (-1)) (tX10_latestDelay_27 μ5) (zif (μ5.1 0 0 0 < 100) (tX10_latestDelay_50 zN a1 a2 30 μ5) (some (some (.inl (-2)), μ5)))) none)) none := (zs3 _ _ _ _).trans (rfl)
theorem uX10_latestDelay (a1 : Int32) (a2 : Int32) (μ : zM) : gX10_latestDelay [.inr (.inr (10, 0)), .inl a1, .inl a2] μ = tX10_latestDelay_0 a1 a2 μ := rfl
/-! BaggageHandling.mapLength()I -/
noncomputable def tX10_mapLength_0 (μ : zM) : Option (Option zV × zM) := fX10_mapLength_0 [some (.inr (.inr (10, 0)))] [] μ
theorem eX10_mapLength_0 (μ : zM) : tX10_mapLength_0 μ = zif (μ.2.1 10 0 6 < 2) (some (some (.inl ((μ.1 5 (μ.2.1 10 0 6) 0) + 1)), μ)) none := (zs3 _ _ _ _).trans (rfl)
theorem uX10_mapLength (μ : zM) : gX10_mapLength [.inr (.inr (10, 0))] μ = tX10_mapLength_0 μ := rfl
