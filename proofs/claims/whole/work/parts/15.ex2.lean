/-! BaggageHandling$Tape.addWord(I)V -/
noncomputable def tX7_addWord_40 (n3 : Nat) (a1 : Int32) (a2 : Int32) (μ : zM) : Option (Option zV × zM) := fX7_addWord_40 (fX7_addWord_3 n3) [some (.inr (.inr (7, 0))), some (.inl a1), some (.inl a2)] [] μ
noncomputable def tX7_addWord_3 (n : Nat) (a1 : Int32) (a2 : Int32) (μ : zM) : Option (Option zV × zM) := fX7_addWord_3 n [some (.inr (.inr (7, 0))), some (.inl a1), some (.inl a2)] [] μ
noncomputable def tX7_addWord_0 (a1 : Int32) (μ : zM) : Option (Option zV × zM) := fX7_addWord_0 [some (.inr (.inr (7, 0))), some (.inl a1), none] [] μ
theorem eX7_addWord_40 (n3 : Nat) (a1 : Int32) (a2 : Int32) (μ : zM) : tX7_addWord_40 n3 a1 a2 μ = tX7_addWord_3 n3 a1 (a2 + (-8)) μ := rfl
theorem eX7_addWord_3 (a1 : Int32) (a2 : Int32) (n : Nat) (μ : zM) : tX7_addWord_3 (n + 1) a1 a2 μ = if a2 < 0 then some (none, μ) else if μ.1 7 0 1 < 900 then (wB μ (55, 0) (μ.1 7 0 1) (((a1.toUInt32 >>> (a2.toUInt32 &&& Int32.toUInt32 31)).toInt32).toInt8.toInt32)).bind fun μ1 => zlet (mS μ1 7 0 1 ((μ1.1 7 0 1) + 1)) fun μ2 => tX7_addWord_40 n a1 a2 μ2 else tX7_addWord_40 n a1 a2 μ := rfl
theorem eX7_addWord_0 (a1 : Int32) (μ : zM) : tX7_addWord_0 a1 μ = tX7_addWord_3 zN a1 24 μ := rfl
theorem uX7_addWord (a1 : Int32) (μ : zM) : gX7_addWord [.inr (.inr (7, 0)), .inl a1] μ = tX7_addWord_0 a1 μ := rfl
/-! BaggageHandling$World.begin(LBaggageHandling$Setup;)V -/
noncomputable def tX9_begin_0 (ia0 : Nat) (ia1 : Nat) (μ : zM) : Option (Option zV × zM) := fX9_begin_0 [some (.inr (.inr (9, ia0))), some (.inr (.inr (5, ia1)))] [] μ
theorem eX9_begin_0 (ia0 : Nat) (ia1 : Nat) (μ : zM) : tX9_begin_0 ia0 ia1 μ = (zput μ (9, ia0) 0 (.inr (.inr (5, ia1)))).bind fun μ1 => zlet (mS μ1 9 ia0 1 0) fun μ2 => zlet (mS μ2 9 ia0 2 0) fun μ3 => zlet (mS μ3 9 ia0 3 15) fun μ4 => zlet (mS μ4 0 ia0 0 0) fun μ5 => zU (tX4_removeAll_0 (2 * ia0) μ5) fun μ6 => zU (tX4_removeAll_0 (2 * ia0 + 1) μ6) fun μ7 => zU (tX3_removeAll_0 ia0 μ7) fun μ8 => zU (tJ7_fill_53178_0 (57, ia0) 0 μ8) fun μ9 => zU (tJ7_fill_53178_0 (58, ia0) (-1) μ9) fun μ10 => zU (tJ7_fill_53178_0 (59, ia0) 0 μ10) fun μ11 => zU (tJ7_fill_53178_0 (60, ia0) 0 μ11) fun μ12 => zU (tJ7_fill_53178_0 (61, ia0) 1 μ12) fun μ13 => some (none, μ13) := rfl
theorem uX9_begin (ia0 : Nat) (ia1 : Nat) (μ : zM) : gX9_begin [.inr (.inr (9, ia0)), .inr (.inr (5, ia1))] μ = tX9_begin_0 ia0 ia1 μ := rfl
/-! BaggageHandling$World.wrapped(I)I -/
noncomputable def tX9_wrapped_38 (s0 : Int32) (μ : zM) : Option (Option zV × zM) := fX9_wrapped_38 [none, none] [.inl s0] μ
noncomputable def tX9_wrapped_0 (ia0 : Nat) (a1 : Int32) (μ : zM) : Option (Option zV × zM) := fX9_wrapped_0 [some (.inr (.inr (9, ia0))), some (.inl a1)] [] μ
theorem eX9_wrapped_38 (s0 : Int32) (μ : zM) : tX9_wrapped_38 s0 μ = some (some (.inl s0), μ) := rfl
theorem eX9_wrapped_0 (ia0 : Nat) (a1 : Int32) (μ : zM) : tX9_wrapped_0 ia0 a1 μ = if a1 < 0 then if μ.2.1 9 ia0 0 < 2 then some (some (.inl (a1 + (μ.1 5 (μ.2.1 9 ia0 0) 0))), μ) else none else if μ.2.1 9 ia0 0 < 2 then if a1 < μ.1 5 (μ.2.1 9 ia0 0) 0 then tX9_wrapped_38 a1 μ else if μ.2.1 9 ia0 0 < 2 then tX9_wrapped_38 (a1 - (μ.1 5 (μ.2.1 9 ia0 0) 0)) μ else none else none := rfl
theorem uX9_wrapped (ia0 : Nat) (a1 : Int32) (μ : zM) : gX9_wrapped [.inr (.inr (9, ia0)), .inl a1] μ = tX9_wrapped_0 ia0 a1 μ := rfl
/-! BaggageHandling$World.slotAt(I)I -/
noncomputable def tX9_slotAt_0 (ia0 : Nat) (a1 : Int32) (μ : zM) : Option (Option zV × zM) := fX9_slotAt_0 [some (.inr (.inr (9, ia0))), some (.inl a1)] [] μ
theorem eX9_slotAt_0 (ia0 : Nat) (a1 : Int32) (μ : zM) : tX9_slotAt_0 ia0 a1 μ = zI (tX9_wrapped_0 ia0 (a1 - (μ.1 9 ia0 2)) μ) fun v2 μ1 => some (some (.inl v2), μ1) := rfl
theorem uX9_slotAt (ia0 : Nat) (a1 : Int32) (μ : zM) : gX9_slotAt [.inr (.inr (9, ia0)), .inl a1] μ = tX9_slotAt_0 ia0 a1 μ := rfl
/-! BaggageHandling$World.positionOf(I)I -/
noncomputable def tX9_positionOf_0 (ia0 : Nat) (a1 : Int32) (μ : zM) : Option (Option zV × zM) := fX9_positionOf_0 [some (.inr (.inr (9, ia0))), some (.inl a1)] [] μ
theorem eX9_positionOf_0 (ia0 : Nat) (a1 : Int32) (μ : zM) : tX9_positionOf_0 ia0 a1 μ = zI (tX9_wrapped_0 ia0 (a1 + (μ.1 9 ia0 2)) μ) fun v2 μ1 => some (some (.inl v2), μ1) := rfl
theorem uX9_positionOf (ia0 : Nat) (a1 : Int32) (μ : zM) : gX9_positionOf [.inr (.inr (9, ia0)), .inl a1] μ = tX9_positionOf_0 ia0 a1 μ := rfl
/-! BaggageHandling$World.addBag(I)I -/
noncomputable def tX9_addBag_25 (μ : zM) : Option (Option zV × zM) := fX9_addBag_25 [none, none, none] [] μ
noncomputable def tX9_addBag_0 (ia0 : Nat) (a1 : Int32) (μ : zM) : Option (Option zV × zM) := fX9_addBag_0 [some (.inr (.inr (9, ia0))), some (.inl a1), none] [] μ
theorem eX9_addBag_25 (μ : zM) : tX9_addBag_25 μ = some (some (.inl (-1)), μ) := rfl
theorem eX9_addBag_0 (ia0 : Nat) (a1 : Int32) (μ : zM) : tX9_addBag_0 ia0 a1 μ = if μ.1 0 ia0 0 < 100 then if μ.2.1 9 ia0 0 < 2 then zI (tX5_hasPosition_0 (μ.2.1 9 ia0 0) a1 μ) fun v3 μ2 => if v3 = 0 then tX9_addBag_25 μ2 else zlet (mS μ2 0 ia0 0 ((μ.1 0 ia0 0) + 1)) fun μ4 => if μ4.2.1 9 ia0 0 < 2 then (qI μ4 (44, μ4.2.1 9 ia0 0) a1).bind fun v6 => zU (tX0_put_0 ia0 (μ.1 0 ia0 0) 0 v6 μ4) fun μ7 => zU (tX4_makeAt_0 (2 * ia0 + 1) (μ.1 0 ia0 0) μ7) fun μ8 => zU (tX3_add_0 ia0 a1 (μ.1 0 ia0 0) μ8) fun μ9 => some (some (.inl (μ.1 0 ia0 0)), μ9) else none else none else tX9_addBag_25 μ := rfl
theorem uX9_addBag (ia0 : Nat) (a1 : Int32) (μ : zM) : gX9_addBag [.inr (.inr (9, ia0)), .inl a1] μ = tX9_addBag_0 ia0 a1 μ := rfl
/-! BaggageHandling$World.setAside(I)V -/
noncomputable def tX9_setAside_0 (ia0 : Nat) (a1 : Int32) (μ : zM) : Option (Option zV × zM) := fX9_setAside_0 [some (.inr (.inr (9, ia0))), some (.inl a1)] [] μ
theorem eX9_setAside_0 (ia0 : Nat) (a1 : Int32) (μ : zM) : tX9_setAside_0 ia0 a1 μ = zU (tX0_put_0 ia0 a1 8 (-1) μ) fun μ1 => zU (tX4_removeAt_0 (2 * ia0 + 1) a1 μ1) fun μ2 => (qI μ2 (57, ia0) 5).bind fun v3 => (wI μ2 (57, ia0) 5 (v3 + 1)).bind fun μ4 => some (none, μ4) := rfl
theorem uX9_setAside (ia0 : Nat) (a1 : Int32) (μ : zM) : gX9_setAside [.inr (.inr (9, ia0)), .inl a1] μ = tX9_setAside_0 ia0 a1 μ := rfl
/-! BaggageHandling$World.usableLabel(I)I -/
noncomputable def tX9_usableLabel_99 (μ : zM) : Option (Option zV × zM) := fX9_usableLabel_99 [none, none, none, none, none] [] μ
noncomputable def tX9_usableLabel_48 (ia0 : Nat) (a1 : Int32) (μ : zM) : Option (Option zV × zM) := fX9_usableLabel_48 [some (.inr (.inr (9, ia0))), some (.inl a1), none, none, none] [] μ
noncomputable def tX9_usableLabel_0 (ia0 : Nat) (a1 : Int32) (μ : zM) : Option (Option zV × zM) := fX9_usableLabel_0 [some (.inr (.inr (9, ia0))), some (.inl a1), none, none, none] [] μ
theorem eX9_usableLabel_99 (μ : zM) : tX9_usableLabel_99 μ = some (some (.inl 0), μ) := rfl
theorem eX9_usableLabel_48 (ia0 : Nat) (a1 : Int32) (μ : zM) : tX9_usableLabel_48 ia0 a1 μ = (qI μ (23, ia0) a1).bind fun v1 => if μ.2.1 9 ia0 0 < 2 then zI (tX1_ofLabel_0 (μ.2.1 9 ia0 0) v1 μ) fun v4 μ3 => if v4 = (-1) then tX9_usableLabel_99 μ3 else if μ3.2.1 9 ia0 0 < 2 then (qI μ3 (34, μ3.2.1 9 ia0 0) v4).bind fun v6 => if μ3.1 9 ia0 1 < v6 then some (some (.inl v1), μ3) else tX9_usableLabel_99 μ3 else none else none := rfl
theorem eX9_usableLabel_0 (ia0 : Nat) (a1 : Int32) (μ : zM) : tX9_usableLabel_0 ia0 a1 μ = (qI μ (21, ia0) a1).bind fun v1 => if μ.2.1 9 ia0 0 < 2 then zI (tX1_ofLabel_0 (μ.2.1 9 ia0 0) v1 μ) fun v4 μ3 => if v4 = (-1) then tX9_usableLabel_48 ia0 a1 μ3 else if μ3.2.1 9 ia0 0 < 2 then (qI μ3 (34, μ3.2.1 9 ia0 0) v4).bind fun v6 => if μ3.1 9 ia0 1 < v6 then some (some (.inl v1), μ3) else tX9_usableLabel_48 ia0 a1 μ3 else none else none := rfl
theorem uX9_usableLabel (ia0 : Nat) (a1 : Int32) (μ : zM) : gX9_usableLabel [.inr (.inr (9, ia0)), .inl a1] μ = tX9_usableLabel_0 ia0 a1 μ := rfl
/-! BaggageHandling$World.sendToExit(II)V -/
noncomputable def tX9_sendToExit_0 (ia0 : Nat) (a1 : Int32) (a2 : Int32) (μ : zM) : Option (Option zV × zM) := fX9_sendToExit_0 [some (.inr (.inr (9, ia0))), some (.inl a1), some (.inl a2), none] [] μ
theorem eX9_sendToExit_0 (ia0 : Nat) (a1 : Int32) (a2 : Int32) (μ : zM) : tX9_sendToExit_0 ia0 a1 a2 μ = if μ.2.1 9 ia0 0 < 2 then (qI μ (47, μ.2.1 9 ia0 0) a1).bind fun v2 => zU (tX0_put_0 ia0 a2 7 v2 μ) fun μ3 => zU (tX3_add_0 ia0 v2 a2 μ3) fun μ4 => some (none, μ4) else none := rfl
theorem uX9_sendToExit (ia0 : Nat) (a1 : Int32) (a2 : Int32) (μ : zM) : gX9_sendToExit [.inr (.inr (9, ia0)), .inl a1, .inl a2] μ = tX9_sendToExit_0 ia0 a1 a2 μ := rfl
/-! BaggageHandling$World.workStation(I)V -/
noncomputable def tX9_workStation_0 (ia0 : Nat) (a1 : Int32) (μ : zM) : Option (Option zV × zM) := fX9_workStation_0 [some (.inr (.inr (9, ia0))), some (.inl a1), none, none] [] μ
theorem eX9_workStation_0 (ia0 : Nat) (a1 : Int32) (μ : zM) : tX9_workStation_0 ia0 a1 μ = (qI μ (36, ia0) a1).bind fun v1 => if v1 < 0 then some (none, μ) else (qI μ (60, ia0) a1).bind fun v2 => (wI μ (60, ia0) a1 (v2 + 1)).bind fun μ3 => (qI μ3 (60, ia0) a1).bind fun v4 => if μ3.2.1 9 ia0 0 < 2 then (qX 4 1).bind fun e6 => (qI μ3 (53, 4 * (μ3.2.1 9 ia0 0) + e6) a1).bind fun v7 => if v4 < v7 then some (none, μ3) else (wI μ3 (60, ia0) a1 0).bind fun μ8 => zI (tX3_takeFirst_0 ia0 a1 μ8) fun v10 μ9 => zI (tX9_usableLabel_0 ia0 v1 μ9) fun v12 μ11 => if v12 = 0 then zU (tX9_setAside_0 ia0 v1 μ11) fun μ13 => some (none, μ13) else (wI μ11 (40, 2 * ia0 + 1) v1 v12).bind fun μ14 => (wI μ14 (41, 2 * ia0 + 1) v1 0).bind fun μ15 => zU (tX9_sendToExit_0 ia0 a1 v1 μ15) fun μ16 => some (none, μ16) else none := rfl
theorem uX9_workStation (ia0 : Nat) (a1 : Int32) (μ : zM) : gX9_workStation [.inr (.inr (9, ia0)), .inl a1] μ = tX9_workStation_0 ia0 a1 μ := rfl
/-! BaggageHandling$World.workScreen(I)V -/
noncomputable def tX9_workScreen_31 (μ : zM) : Option (Option zV × zM) := fX9_workScreen_31 [none, none, none, none, none] [] μ
noncomputable def tX9_workScreen_180 (μ : zM) : Option (Option zV × zM) := fX9_workScreen_180 [none, none, none, none, none] [] μ
noncomputable def tX9_workScreen_110 (ia0 : Nat) (a1 : Int32) (a2 : Int32) (a4 : Int32) (μ : zM) : Option (Option zV × zM) := fX9_workScreen_110 [some (.inr (.inr (9, ia0))), some (.inl a1), some (.inl a2), none, some (.inl a4)] [] μ
noncomputable def tX9_workScreen_88 (ia0 : Nat) (a1 : Int32) (a2 : Int32) (a3 : Int32) (s0 : Int32) (μ : zM) : Option (Option zV × zM) := fX9_workScreen_88 [some (.inr (.inr (9, ia0))), some (.inl a1), some (.inl a2), some (.inl a3), none] [.inl s0] μ
noncomputable def tX9_workScreen_0 (ia0 : Nat) (a1 : Int32) (μ : zM) : Option (Option zV × zM) := fX9_workScreen_0 [some (.inr (.inr (9, ia0))), some (.inl a1), none, none, none] [] μ
theorem eX9_workScreen_31 (μ : zM) : tX9_workScreen_31 μ = some (none, μ) := rfl
theorem eX9_workScreen_180 (μ : zM) : tX9_workScreen_180 μ = some (none, μ) := rfl
theorem eX9_workScreen_110 (ia0 : Nat) (a1 : Int32) (a2 : Int32) (a4 : Int32) (μ : zM) : tX9_workScreen_110 ia0 a1 a2 a4 μ = (wI μ (61, ia0) a1 1).bind fun μ1 => zI (tX3_takeFirst_0 ia0 a1 μ1) fun v3 μ2 => if a4 = 0 then zU (tX0_put_0 ia0 a2 9 (-1) μ2) fun μ4 => zU (tX4_removeAt_0 (2 * ia0 + 1) a2 μ4) fun μ5 => (qI μ5 (57, ia0) 6).bind fun v6 => (wI μ5 (57, ia0) 6 (v6 + 1)).bind fun μ7 => tX9_workScreen_180 μ7 else (wI μ2 (42, 2 * ia0 + 1) a2 1).bind fun μ8 => zU (tX9_sendToExit_0 ia0 a1 a2 μ8) fun μ9 => tX9_workScreen_180 μ9 := rfl
theorem eX9_workScreen_88 (ia0 : Nat) (a1 : Int32) (a2 : Int32) (a3 : Int32) (s0 : Int32) (μ : zM) : tX9_workScreen_88 ia0 a1 a2 a3 s0 μ = if s0 = 0 then if a3 < 3 then (wI μ (61, ia0) a1 (a3 + 1)).bind fun μ1 => some (none, μ1) else tX9_workScreen_110 ia0 a1 a2 s0 μ else tX9_workScreen_110 ia0 a1 a2 s0 μ := rfl
theorem eX9_workScreen_0 (ia0 : Nat) (a1 : Int32) (μ : zM) : tX9_workScreen_0 ia0 a1 μ = (qI μ (36, ia0) a1).bind fun v1 => (qI μ (61, ia0) a1).bind fun v2 => if v1 < 0 then tX9_workScreen_31 μ else if v2 < 1 then tX9_workScreen_31 μ else if v2 ≤ 3 then (qI μ (60, ia0) a1).bind fun v3 => (wI μ (60, ia0) a1 (v3 + 1)).bind fun μ4 => (qI μ4 (60, ia0) a1).bind fun v5 => if μ4.2.1 9 ia0 0 < 2 then (qX 4 v2).bind fun e7 => (qI μ4 (53, 4 * (μ4.2.1 9 ia0 0) + e7) a1).bind fun v8 => if v5 < v8 then some (none, μ4) else (wI μ4 (60, ia0) a1 0).bind fun μ9 => (qI μ9 (25, ia0) v1).bind fun v10 => if v10 < v2 then tX9_workScreen_88 ia0 a1 v1 v2 1 μ9 else tX9_workScreen_88 ia0 a1 v1 v2 0 μ9 else none else tX9_workScreen_31 μ := rfl
theorem uX9_workScreen (ia0 : Nat) (a1 : Int32) (μ : zM) : gX9_workScreen [.inr (.inr (9, ia0)), .inl a1] μ = tX9_workScreen_0 ia0 a1 μ := rfl
/-! BaggageHandling$World.workStore(I)V -/
noncomputable def tX9_workStore_162 (μ : zM) : Option (Option zV × zM) := fX9_workStore_162 [none, none, none, none, none, none, none, none, none, none] [] μ
noncomputable def tX9_workStore_142 (ia0 : Nat) (a1 : Int32) (a2 : Int32) (a3 : Int32) (μ : zM) : Option (Option zV × zM) := fX9_workStore_142 [some (.inr (.inr (9, ia0))), some (.inl a1), some (.inl a2), some (.inl a3), none, none, none, none, none, none] [] μ
noncomputable def tX9_workStore_120 (n24 : Nat) (ia0 : Nat) (a1 : Int32) (a2 : Int32) (a3 : Int32) (a4 : Int32) (a6 : Int32) (a7 : Int32) (μ : zM) : Option (Option zV × zM) := fX9_workStore_120 (fX9_workStore_24 n24) [some (.inr (.inr (9, ia0))), some (.inl a1), some (.inl a2), some (.inl a3), some (.inl a4), none, some (.inl a6), some (.inl a7), none, none] [] μ
noncomputable def tX9_workStore_110 (n24 : Nat) (ia0 : Nat) (a1 : Int32) (a5 : Int32) (a6 : Int32) (a7 : Int32) (a9 : Int32) (μ : zM) : Option (Option zV × zM) := fX9_workStore_110 (fX9_workStore_24 n24) [some (.inr (.inr (9, ia0))), some (.inl a1), none, none, none, some (.inl a5), some (.inl a6), some (.inl a7), none, some (.inl a9)] [] μ
noncomputable def tX9_workStore_24 (n : Nat) (ia0 : Nat) (a1 : Int32) (a2 : Int32) (a3 : Int32) (a4 : Int32) (a5 : Int32) (a6 : Int32) (a7 : Int32) (μ : zM) : Option (Option zV × zM) := fX9_workStore_24 n [some (.inr (.inr (9, ia0))), some (.inl a1), some (.inl a2), some (.inl a3), some (.inl a4), some (.inl a5), some (.inl a6), some (.inl a7), none, none] [] μ
noncomputable def tX9_workStore_0 (ia0 : Nat) (a1 : Int32) (μ : zM) : Option (Option zV × zM) := fX9_workStore_0 [some (.inr (.inr (9, ia0))), some (.inl a1), none, none, none, none, none, none, none, none] [] μ
theorem eX9_workStore_162 (μ : zM) : tX9_workStore_162 μ = some (none, μ) := rfl
theorem eX9_workStore_142 (ia0 : Nat) (a1 : Int32) (a2 : Int32) (a3 : Int32) (μ : zM) : tX9_workStore_142 ia0 a1 a2 a3 μ = if a2 < 0 then tX9_workStore_162 μ else zU (tX3_takeBehind_0 ia0 a1 a3 a2 μ) fun μ1 => zU (tX9_sendToExit_0 ia0 a1 a2 μ1) fun μ2 => tX9_workStore_162 μ2 := rfl
theorem eX9_workStore_120 (n24 : Nat) (ia0 : Nat) (a1 : Int32) (a2 : Int32) (a3 : Int32) (a4 : Int32) (a6 : Int32) (a7 : Int32) (μ : zM) : tX9_workStore_120 n24 ia0 a1 a2 a3 a4 a6 a7 μ = (qI μ (39, ia0) a6).bind fun v1 => tX9_workStore_24 n24 ia0 a1 a2 a3 a4 a6 v1 (a7 + 1) μ := rfl
theorem eX9_workStore_110 (n24 : Nat) (ia0 : Nat) (a1 : Int32) (a5 : Int32) (a6 : Int32) (a7 : Int32) (a9 : Int32) (μ : zM) : tX9_workStore_110 n24 ia0 a1 a5 a6 a7 a9 μ = tX9_workStore_120 n24 ia0 a1 a6 a5 a9 a6 a7 μ := rfl
theorem eX9_workStore_24 (ia0 : Nat) (a1 : Int32) (a2 : Int32) (a3 : Int32) (a4 : Int32) (a5 : Int32) (a6 : Int32) (a7 : Int32) (n : Nat) (μ : zM) : tX9_workStore_24 (n + 1) ia0 a1 a2 a3 a4 a5 a6 a7 μ = if a7 < 100 then if a6 < 0 then tX9_workStore_142 ia0 a1 a2 a3 μ else if μ.2.1 9 ia0 0 < 2 then (qI μ (40, 2 * ia0 + 1) a6).bind fun v2 => zI (tX1_ofLabel_0 (μ.2.1 9 ia0 0) v2 μ) fun v4 μ3 => if v4 = (-1) then tX9_workStore_120 n ia0 a1 a2 a3 a4 a6 a7 μ3 else if μ3.2.1 9 ia0 0 < 2 then (qI μ3 (33, μ3.2.1 9 ia0 0) v4).bind fun v6 => if μ3.1 9 ia0 1 < v6 then tX9_workStore_120 n ia0 a1 a2 a3 a4 a6 a7 μ3 else if μ3.2.1 9 ia0 0 < 2 then (qI μ3 (34, μ3.2.1 9 ia0 0) v4).bind fun v8 => if a2 < 0 then tX9_workStore_110 n ia0 a1 a5 a6 a7 v8 μ3 else if v8 < a4 then tX9_workStore_110 n ia0 a1 a5 a6 a7 v8 μ3 else tX9_workStore_120 n ia0 a1 a2 a3 a4 a6 a7 μ3 else none else none else none else tX9_workStore_142 ia0 a1 a2 a3 μ := rfl
theorem eX9_workStore_0 (ia0 : Nat) (a1 : Int32) (μ : zM) : tX9_workStore_0 ia0 a1 μ = (qI μ (36, ia0) a1).bind fun v1 => tX9_workStore_24 zN ia0 a1 (-1) (-1) 0 (-1) v1 0 μ := rfl
theorem uX9_workStore (ia0 : Nat) (a1 : Int32) (μ : zM) : gX9_workStore [.inr (.inr (9, ia0)), .inl a1] μ = tX9_workStore_0 ia0 a1 μ := rfl
/-! BaggageHandling$World.isLone(IZ)Z -/
noncomputable def tX9_isLone_52 (s0 : Int32) (μ : zM) : Option (Option zV × zM) := fX9_isLone_52 [none, none, none, none, none] [.inl s0] μ
noncomputable def tX9_isLone_51 (μ : zM) : Option (Option zV × zM) := fX9_isLone_51 [none, none, none, none, none] [] μ
noncomputable def tX9_isLone_34 (a2 : Int32) (a3 : Int32) (s0 : Int32) (μ : zM) : Option (Option zV × zM) := fX9_isLone_34 [none, none, some (.inl a2), some (.inl a3), none] [.inl s0] μ
noncomputable def tX9_isLone_14 (ia0 : Nat) (a1 : Int32) (a2 : Int32) (s0 : Int32) (μ : zM) : Option (Option zV × zM) := fX9_isLone_14 [some (.inr (.inr (9, ia0))), some (.inl a1), some (.inl a2), none, none] [.inl s0] μ
noncomputable def tX9_isLone_0 (ia0 : Nat) (a1 : Int32) (a2 : Int32) (μ : zM) : Option (Option zV × zM) := fX9_isLone_0 [some (.inr (.inr (9, ia0))), some (.inl a1), some (.inl a2), none, none] [] μ
theorem eX9_isLone_52 (s0 : Int32) (μ : zM) : tX9_isLone_52 s0 μ = if vp_nar .boolean s0 = s0 then some (some (.inl s0), μ) else none := rfl
theorem eX9_isLone_51 (μ : zM) : tX9_isLone_51 μ = tX9_isLone_52 0 μ := rfl
theorem eX9_isLone_34 (a2 : Int32) (a3 : Int32) (s0 : Int32) (μ : zM) : tX9_isLone_34 a2 a3 s0 μ = if s0 = a2 then if a3 = a2 then tX9_isLone_51 μ else tX9_isLone_52 1 μ else tX9_isLone_51 μ := rfl
theorem eX9_isLone_14 (ia0 : Nat) (a1 : Int32) (a2 : Int32) (s0 : Int32) (μ : zM) : tX9_isLone_14 ia0 a1 a2 s0 μ = (qI μ (40, 2 * ia0) a1).bind fun v1 => if v1 = (-2) then tX9_isLone_34 a2 s0 0 μ else tX9_isLone_34 a2 s0 1 μ := rfl
theorem eX9_isLone_0 (ia0 : Nat) (a1 : Int32) (a2 : Int32) (μ : zM) : tX9_isLone_0 ia0 a1 a2 μ = (qI μ (58, ia0) a1).bind fun v1 => if v1 < 0 then tX9_isLone_14 ia0 a1 a2 0 μ else tX9_isLone_14 ia0 a1 a2 1 μ := rfl
theorem uX9_isLone (ia0 : Nat) (a1 : Int32) (a2 : Int32) (μ : zM) : gX9_isLone [.inr (.inr (9, ia0)), .inl a1, .inl a2] μ = tX9_isLone_0 ia0 a1 a2 μ := rfl
/-! BaggageHandling$World.loneNear(IZ)I -/
noncomputable def tX9_loneNear_2 (n : Nat) (ia0 : Nat) (a1 : Int32) (a2 : Int32) (a3 : Int32) (μ : zM) : Option (Option zV × zM) := fX9_loneNear_2 n [some (.inr (.inr (9, ia0))), some (.inl a1), some (.inl a2), some (.inl a3), none, none] [] μ
noncomputable def tX9_loneNear_0 (ia0 : Nat) (a1 : Int32) (a2 : Int32) (μ : zM) : Option (Option zV × zM) := fX9_loneNear_0 [some (.inr (.inr (9, ia0))), some (.inl a1), some (.inl a2), none, none, none] [] μ
theorem eX9_loneNear_2 (ia0 : Nat) (a1 : Int32) (a2 : Int32) (a3 : Int32) (n : Nat) (μ : zM) : tX9_loneNear_2 (n + 1) ia0 a1 a2 a3 μ = if μ.2.1 9 ia0 0 < 2 then if a3 ≤ μ.1 5 (μ.2.1 9 ia0 0) 1 then zI (tX9_wrapped_0 ia0 (a1 - a3) μ) fun v3 μ2 => zI (tX9_isLone_0 ia0 v3 a2 μ2) fun v5 μ4 => if v5 = 0 then zI (tX9_wrapped_0 ia0 (a1 + a3) μ4) fun v7 μ6 => zI (tX9_isLone_0 ia0 v7 a2 μ6) fun v9 μ8 => if v9 = 0 then tX9_loneNear_2 n ia0 a1 a2 (a3 + 1) μ8 else some (some (.inl v7), μ8) else some (some (.inl v3), μ4) else some (some (.inl (-1)), μ) else none := rfl
theorem eX9_loneNear_0 (ia0 : Nat) (a1 : Int32) (a2 : Int32) (μ : zM) : tX9_loneNear_0 ia0 a1 a2 μ = tX9_loneNear_2 zN ia0 a1 a2 1 μ := rfl
theorem uX9_loneNear (ia0 : Nat) (a1 : Int32) (a2 : Int32) (μ : zM) : gX9_loneNear [.inr (.inr (9, ia0)), .inl a1, .inl a2] μ = tX9_loneNear_0 ia0 a1 a2 μ := rfl
/-! BaggageHandling$World.findRecordFor(I)V -/
noncomputable def tX9_findRecordFor_45 (μ : zM) : Option (Option zV × zM) := fX9_findRecordFor_45 [none, none, none] [] μ
noncomputable def tX9_findRecordFor_0 (ia0 : Nat) (a1 : Int32) (μ : zM) : Option (Option zV × zM) := fX9_findRecordFor_0 [some (.inr (.inr (9, ia0))), some (.inl a1), none] [] μ
theorem eX9_findRecordFor_45 (μ : zM) : tX9_findRecordFor_45 μ = some (none, μ) := rfl
theorem eX9_findRecordFor_0 (ia0 : Nat) (a1 : Int32) (μ : zM) : tX9_findRecordFor_0 ia0 a1 μ = zI (tX9_loneNear_0 ia0 a1 1 μ) fun v2 μ1 => if v2 < 0 then zU (tX4_makeAt_0 (2 * ia0) a1 μ1) fun μ3 => (qI μ3 (57, ia0) 0).bind fun v4 => (wI μ3 (57, ia0) 0 (v4 + 1)).bind fun μ5 => tX9_findRecordFor_45 μ5 else zU (tX4_moveIn_0 (2 * ia0) a1 (2 * ia0) v2 μ1) fun μ6 => tX9_findRecordFor_45 μ6 := rfl
theorem uX9_findRecordFor (ia0 : Nat) (a1 : Int32) (μ : zM) : gX9_findRecordFor [.inr (.inr (9, ia0)), .inl a1] μ = tX9_findRecordFor_0 ia0 a1 μ := rfl
/-! BaggageHandling$World.codeSeen(I)I -/
noncomputable def tX9_codeSeen_77 (a3 : Int32) (μ : zM) : Option (Option zV × zM) := fX9_codeSeen_77 [none, none, none, some (.inl a3), none, none] [] μ
noncomputable def tX9_codeSeen_148 (s0 : Int32) (μ : zM) : Option (Option zV × zM) := fX9_codeSeen_148 [none, none, none, none, none, none] [.inl s0] μ
noncomputable def tX9_codeSeen_127 (a2 : Int32) (a3 : Int32) (a4 : Int32) (s0 : Int32) (μ : zM) : Option (Option zV × zM) := fX9_codeSeen_127 [none, none, some (.inl a2), some (.inl a3), some (.inl a4), none] [.inl s0] μ
noncomputable def tX9_codeSeen_105 (ia0 : Nat) (a2 : Int32) (a3 : Int32) (s0 : Int32) (μ : zM) : Option (Option zV × zM) := fX9_codeSeen_105 [some (.inr (.inr (9, ia0))), none, some (.inl a2), some (.inl a3), none, none] [.inl s0] μ
noncomputable def tX9_codeSeen_67 (ia0 : Nat) (a2 : Int32) (s0 : Int32) (μ : zM) : Option (Option zV × zM) := fX9_codeSeen_67 [some (.inr (.inr (9, ia0))), none, some (.inl a2), none, none, none] [.inl s0] μ
noncomputable def tX9_codeSeen_36 (ia0 : Nat) (a1 : Int32) (s0 : Int32) (μ : zM) : Option (Option zV × zM) := fX9_codeSeen_36 [some (.inr (.inr (9, ia0))), some (.inl a1), none, none, none, none] [.inl s0] μ
noncomputable def tX9_codeSeen_0 (ia0 : Nat) (a1 : Int32) (μ : zM) : Option (Option zV × zM) := fX9_codeSeen_0 [some (.inr (.inr (9, ia0))), some (.inl a1), none, none, none, none] [] μ
theorem eX9_codeSeen_77 (a3 : Int32) (μ : zM) : tX9_codeSeen_77 a3 μ = some (some (.inl a3), μ) := rfl
theorem eX9_codeSeen_148 (s0 : Int32) (μ : zM) : tX9_codeSeen_148 s0 μ = some (some (.inl s0), μ) := rfl
theorem eX9_codeSeen_127 (a2 : Int32) (a3 : Int32) (a4 : Int32) (s0 : Int32) (μ : zM) : tX9_codeSeen_127 a2 a3 a4 s0 μ = if a4 = s0 then some (some (.inl (-1)), μ) else if a4 = 0 then tX9_codeSeen_148 a3 μ else tX9_codeSeen_148 a2 μ := rfl
theorem eX9_codeSeen_105 (ia0 : Nat) (a2 : Int32) (a3 : Int32) (s0 : Int32) (μ : zM) : tX9_codeSeen_105 ia0 a2 a3 s0 μ = if μ.2.1 9 ia0 0 < 2 then zI (tX1_ofLabel_0 (μ.2.1 9 ia0 0) a3 μ) fun v3 μ2 => if v3 = (-1) then tX9_codeSeen_127 a2 a3 s0 0 μ2 else tX9_codeSeen_127 a2 a3 s0 1 μ2 else none := rfl
theorem eX9_codeSeen_67 (ia0 : Nat) (a2 : Int32) (s0 : Int32) (μ : zM) : tX9_codeSeen_67 ia0 a2 s0 μ = if a2 = 0 then tX9_codeSeen_77 s0 μ else if a2 = s0 then tX9_codeSeen_77 s0 μ else if s0 = 0 then some (some (.inl a2), μ) else if μ.2.1 9 ia0 0 < 2 then zI (tX1_ofLabel_0 (μ.2.1 9 ia0 0) a2 μ) fun v3 μ2 => if v3 = (-1) then tX9_codeSeen_105 ia0 a2 s0 0 μ2 else tX9_codeSeen_105 ia0 a2 s0 1 μ2 else none := rfl
theorem eX9_codeSeen_36 (ia0 : Nat) (a1 : Int32) (s0 : Int32) (μ : zM) : tX9_codeSeen_36 ia0 a1 s0 μ = (qI μ (24, ia0) a1).bind fun v1 => if v1 &&& (μ.1 9 ia0 3) = 0 then tX9_codeSeen_67 ia0 s0 0 μ else (qI μ (23, ia0) a1).bind fun v2 => tX9_codeSeen_67 ia0 s0 v2 μ := rfl
theorem eX9_codeSeen_0 (ia0 : Nat) (a1 : Int32) (μ : zM) : tX9_codeSeen_0 ia0 a1 μ = if a1 < 0 then some (some (.inl 0), μ) else (qI μ (22, ia0) a1).bind fun v1 => if v1 &&& (μ.1 9 ia0 3) = 0 then tX9_codeSeen_36 ia0 a1 0 μ else (qI μ (21, ia0) a1).bind fun v2 => tX9_codeSeen_36 ia0 a1 v2 μ := rfl
theorem uX9_codeSeen (ia0 : Nat) (a1 : Int32) (μ : zM) : gX9_codeSeen [.inr (.inr (9, ia0)), .inl a1] μ = tX9_codeSeen_0 ia0 a1 μ := rfl
/-! BaggageHandling$World.readLabels(I)V -/
noncomputable def tX9_readLabels_95 (μ : zM) : Option (Option zV × zM) := fX9_readLabels_95 [none, none, none, none] [] μ
noncomputable def tX9_readLabels_63 (ia0 : Nat) (a1 : Int32) (a2 : Int32) (μ : zM) : Option (Option zV × zM) := fX9_readLabels_63 [some (.inr (.inr (9, ia0))), some (.inl a1), some (.inl a2), none] [] μ
noncomputable def tX9_readLabels_0 (ia0 : Nat) (a1 : Int32) (μ : zM) : Option (Option zV × zM) := fX9_readLabels_0 [some (.inr (.inr (9, ia0))), some (.inl a1), none, none] [] μ
theorem eX9_readLabels_95 (μ : zM) : tX9_readLabels_95 μ = some (none, μ) := rfl
theorem eX9_readLabels_63 (ia0 : Nat) (a1 : Int32) (a2 : Int32) (μ : zM) : tX9_readLabels_63 ia0 a1 a2 μ = (wI μ (40, 2 * ia0) a1 a2).bind fun μ1 => tX9_readLabels_95 μ1 := rfl
theorem eX9_readLabels_0 (ia0 : Nat) (a1 : Int32) (μ : zM) : tX9_readLabels_0 ia0 a1 μ = (qI μ (41, 2 * ia0) a1).bind fun v1 => (wI μ (41, 2 * ia0) a1 (v1 + 1)).bind fun μ2 => (qI μ2 (58, ia0) a1).bind fun v3 => zI (tX9_codeSeen_0 ia0 v3 μ2) fun v5 μ4 => (qI μ4 (40, 2 * ia0) a1).bind fun v6 => if v5 < 1000 then if v5 = (-1) then if v6 = 0 then (wI μ4 (40, 2 * ia0) a1 (-1)).bind fun μ7 => tX9_readLabels_95 μ7 else tX9_readLabels_95 μ4 else tX9_readLabels_95 μ4 else if v6 < 1000 then tX9_readLabels_63 ia0 a1 v5 μ4 else if v6 = v5 then tX9_readLabels_63 ia0 a1 v5 μ4 else (qI μ4 (57, ia0) 2).bind fun v8 => (wI μ4 (57, ia0) 2 (v8 + 1)).bind fun μ9 => tX9_readLabels_63 ia0 a1 v5 μ9 := rfl
theorem uX9_readLabels (ia0 : Nat) (a1 : Int32) (μ : zM) : gX9_readLabels [.inr (.inr (9, ia0)), .inl a1] μ = tX9_readLabels_0 ia0 a1 μ := rfl
/-! BaggageHandling$World.findBagFor(I)V -/
noncomputable def tX9_findBagFor_45 (μ : zM) : Option (Option zV × zM) := fX9_findBagFor_45 [none, none, none] [] μ
noncomputable def tX9_findBagFor_0 (ia0 : Nat) (a1 : Int32) (μ : zM) : Option (Option zV × zM) := fX9_findBagFor_0 [some (.inr (.inr (9, ia0))), some (.inl a1), none] [] μ
theorem eX9_findBagFor_45 (μ : zM) : tX9_findBagFor_45 μ = some (none, μ) := rfl
theorem eX9_findBagFor_0 (ia0 : Nat) (a1 : Int32) (μ : zM) : tX9_findBagFor_0 ia0 a1 μ = zI (tX9_loneNear_0 ia0 a1 0 μ) fun v2 μ1 => if v2 < 0 then zU (tX4_removeAt_0 (2 * ia0) a1 μ1) fun μ3 => (qI μ3 (57, ia0) 1).bind fun v4 => (wI μ3 (57, ia0) 1 (v4 + 1)).bind fun μ5 => tX9_findBagFor_45 μ5 else zU (tX4_moveIn_0 (2 * ia0) v2 (2 * ia0) a1 μ1) fun μ6 => tX9_findBagFor_45 μ6 := rfl
theorem uX9_findBagFor (ia0 : Nat) (a1 : Int32) (μ : zM) : gX9_findBagFor [.inr (.inr (9, ia0)), .inl a1] μ = tX9_findBagFor_0 ia0 a1 μ := rfl
/-! BaggageHandling$World.scan(I)V -/
noncomputable def tX9_scan_58 (μ : zM) : Option (Option zV × zM) := fX9_scan_58 [none, none, none, none] [] μ
noncomputable def tX9_scan_37 (ia0 : Nat) (a1 : Int32) (a2 : Int32) (a3 : Int32) (μ : zM) : Option (Option zV × zM) := fX9_scan_37 [some (.inr (.inr (9, ia0))), some (.inl a1), some (.inl a2), some (.inl a3)] [] μ
noncomputable def tX9_scan_14 (ia0 : Nat) (a1 : Int32) (s0 : Int32) (μ : zM) : Option (Option zV × zM) := fX9_scan_14 [some (.inr (.inr (9, ia0))), some (.inl a1), none, none] [.inl s0] μ
noncomputable def tX9_scan_0 (ia0 : Nat) (a1 : Int32) (μ : zM) : Option (Option zV × zM) := fX9_scan_0 [some (.inr (.inr (9, ia0))), some (.inl a1), none, none] [] μ
theorem eX9_scan_58 (μ : zM) : tX9_scan_58 μ = some (none, μ) := rfl
theorem eX9_scan_37 (ia0 : Nat) (a1 : Int32) (a2 : Int32) (a3 : Int32) (μ : zM) : tX9_scan_37 ia0 a1 a2 a3 μ = if a2 = 0 then if a3 = 0 then tX9_scan_58 μ else zU (tX9_findBagFor_0 ia0 a1 μ) fun μ1 => tX9_scan_58 μ1 else zU (tX9_readLabels_0 ia0 a1 μ) fun μ2 => tX9_scan_58 μ2 := rfl
theorem eX9_scan_14 (ia0 : Nat) (a1 : Int32) (s0 : Int32) (μ : zM) : tX9_scan_14 ia0 a1 s0 μ = zI (tX4_has_0 (2 * ia0) a1 μ) fun v2 μ1 => if s0 = 0 then tX9_scan_37 ia0 a1 s0 v2 μ1 else if v2 = 0 then zU (tX9_findRecordFor_0 ia0 a1 μ1) fun μ3 => tX9_scan_37 ia0 a1 s0 v2 μ3 else tX9_scan_37 ia0 a1 s0 v2 μ1 := rfl
theorem eX9_scan_0 (ia0 : Nat) (a1 : Int32) (μ : zM) : tX9_scan_0 ia0 a1 μ = (qI μ (58, ia0) a1).bind fun v1 => if v1 < 0 then tX9_scan_14 ia0 a1 0 μ else tX9_scan_14 ia0 a1 1 μ := rfl
theorem uX9_scan (ia0 : Nat) (a1 : Int32) (μ : zM) : gX9_scan [.inr (.inr (9, ia0)), .inl a1] μ = tX9_scan_0 ia0 a1 μ := rfl
/-! BaggageHandling$World.goalOf(I)I -/
noncomputable def tX9_goalOf_50 (μ : zM) : Option (Option zV × zM) := fX9_goalOf_50 [none, none, none, none, none] [] μ
noncomputable def tX9_goalOf_106 (μ : zM) : Option (Option zV × zM) := fX9_goalOf_106 [none, none, none, none, none] [] μ
noncomputable def tX9_goalOf_30 (ia0 : Nat) (a1 : Int32) (a2 : Int32) (a3 : Int32) (μ : zM) : Option (Option zV × zM) := fX9_goalOf_30 [some (.inr (.inr (9, ia0))), some (.inl a1), some (.inl a2), some (.inl a3), none] [] μ
noncomputable def tX9_goalOf_0 (ia0 : Nat) (a1 : Int32) (μ : zM) : Option (Option zV × zM) := fX9_goalOf_0 [some (.inr (.inr (9, ia0))), some (.inl a1), none, none, none] [] μ
theorem eX9_goalOf_50 (μ : zM) : tX9_goalOf_50 μ = some (some (.inl 6), μ) := rfl
theorem eX9_goalOf_106 (μ : zM) : tX9_goalOf_106 μ = some (some (.inl 6), μ) := rfl
theorem eX9_goalOf_30 (ia0 : Nat) (a1 : Int32) (a2 : Int32) (a3 : Int32) (μ : zM) : tX9_goalOf_30 ia0 a1 a2 a3 μ = if μ.2.1 9 ia0 0 < 2 then if a3 ≤ μ.1 5 (μ.2.1 9 ia0 0) 2 then if a2 = 0 then tX9_goalOf_50 μ else if a2 = (-1) then tX9_goalOf_50 μ else (qI μ (42, 2 * ia0) a1).bind fun v2 => if v2 = 0 then some (some (.inl 4), μ) else if μ.2.1 9 ia0 0 < 2 then zI (tX1_ofLabel_0 (μ.2.1 9 ia0 0) a2 μ) fun v5 μ4 => if v5 = (-1) then tX9_goalOf_106 μ4 else if μ4.2.1 9 ia0 0 < 2 then (qI μ4 (34, μ4.2.1 9 ia0 0) v5).bind fun v7 => if μ4.1 9 ia0 1 < v7 then if μ4.2.1 9 ia0 0 < 2 then (qI μ4 (33, μ4.2.1 9 ia0 0) v5).bind fun v9 => if μ4.1 9 ia0 1 < v9 then some (some (.inl 5), μ4) else if μ4.2.1 9 ia0 0 < 2 then (qI μ4 (32, μ4.2.1 9 ia0 0) v5).bind fun v11 => some (some (.inl (10 + v11)), μ4) else none else none else tX9_goalOf_106 μ4 else none else none else tX9_goalOf_50 μ else none := rfl
theorem eX9_goalOf_0 (ia0 : Nat) (a1 : Int32) (μ : zM) : tX9_goalOf_0 ia0 a1 μ = (qI μ (40, 2 * ia0) a1).bind fun v1 => (qI μ (41, 2 * ia0) a1).bind fun v2 => if v2 = 0 then if v1 = 0 then some (some (.inl 0), μ) else tX9_goalOf_30 ia0 a1 v1 v2 μ else tX9_goalOf_30 ia0 a1 v1 v2 μ := rfl
theorem uX9_goalOf (ia0 : Nat) (a1 : Int32) (μ : zM) : gX9_goalOf [.inr (.inr (9, ia0)), .inl a1] μ = tX9_goalOf_0 ia0 a1 μ := rfl
