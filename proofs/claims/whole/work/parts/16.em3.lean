/-! BaggageHandlingModel.arrives(IIIIII)I -/
noncomputable def tX11_arrives_92 (n64 : Nat) (a1 : Int32) (a7 : Int32) (a8 : Int32) (μ : zM) : Option (Option zV × zM) := fX11_arrives_92 (fX11_arrives_64 n64) [some (.inr (.inr (11, 0))), some (.inl a1), none, none, none, none, none, some (.inl a7), some (.inl a8)] [] μ
noncomputable def tX11_arrives_64 (n : Nat) (a1 : Int32) (a7 : Int32) (a8 : Int32) (μ : zM) : Option (Option zV × zM) := fX11_arrives_64 n [some (.inr (.inr (11, 0))), some (.inl a1), none, none, none, none, none, some (.inl a7), some (.inl a8)] [] μ
noncomputable def tX11_arrives_8 (a1 : Int32) (a2 : Int32) (a3 : Int32) (a4 : Int32) (a5 : Int32) (a6 : Int32) (a7 : Int32) (μ : zM) : Option (Option zV × zM) := fX11_arrives_8 [some (.inr (.inr (11, 0))), some (.inl a1), some (.inl a2), some (.inl a3), some (.inl a4), some (.inl a5), some (.inl a6), some (.inl a7), none] [] μ
noncomputable def tX11_arrives_0 (a1 : Int32) (a2 : Int32) (a3 : Int32) (a4 : Int32) (a5 : Int32) (a6 : Int32) (μ : zM) : Option (Option zV × zM) := fX11_arrives_0 [some (.inr (.inr (11, 0))), some (.inl a1), some (.inl a2), some (.inl a3), some (.inl a4), some (.inl a5), some (.inl a6), none, none] [] μ
theorem eX11_arrives_92 (n64 : Nat) (a1 : Int32) (a7 : Int32) (a8 : Int32) (μ : zM) : tX11_arrives_92 n64 a1 a7 a8 μ = tX11_arrives_64 n64 a1 a7 a8 μ := (zs3 _ _ _ _).trans (rfl)
theorem eX11_arrives_64 (a1 : Int32) (a7 : Int32) (a8 : Int32) (n : Nat) (μ : zM) : tX11_arrives_64 (n + 1) a1 a7 a8 μ = zif (a8 < 8) ((wI μ (65, 0) ((400 + (8 * a7)) + a8) 0).bind fun μ1 => tX11_arrives_92 n a1 a7 (a8 + 1) μ1) ((wI μ (65, 0) ((400 + (8 * a7)) + 7) (-2)).bind fun μ2 => zU (tX11_goes_0 a7 0 a1 μ2) fun μ3 => some (some (.inl a7), μ3)) := (zs3 _ _ _ _).trans (rfl)
theorem eX11_arrives_8 (a1 : Int32) (a2 : Int32) (a3 : Int32) (a4 : Int32) (a5 : Int32) (a6 : Int32) (a7 : Int32) (μ : zM) : tX11_arrives_8 a1 a2 a3 a4 a5 a6 a7 μ = (wI μ (68, 0) a7 a2).bind fun μ1 => (wI μ1 (69, 0) a7 a3).bind fun μ2 => (wI μ2 (70, 0) a7 a4).bind fun μ3 => (wI μ3 (71, 0) a7 a5).bind fun μ4 => (wI μ4 (72, 0) a7 a6).bind fun μ5 => (qI μ5 (65, 0) 1).bind fun v6 => (wI μ5 (65, 0) 1 (v6 + 1)).bind fun μ7 => tX11_arrives_64 zN a1 a7 0 μ7 := (zs3 _ _ _ _).trans (rfl)
theorem eX11_arrives_0 (a1 : Int32) (a2 : Int32) (a3 : Int32) (a4 : Int32) (a5 : Int32) (a6 : Int32) (μ : zM) : tX11_arrives_0 a1 a2 a3 a4 a5 a6 μ = (qI μ (65, 0) 1).bind fun v1 => tX11_arrives_8 a1 a2 a3 a4 a5 a6 v1 μ := (zs3 _ _ _ _).trans (rfl)
theorem uX11_arrives (a1 : Int32) (a2 : Int32) (a3 : Int32) (a4 : Int32) (a5 : Int32) (a6 : Int32) (μ : zM) : gX11_arrives [.inr (.inr (11, 0)), .inl a1, .inl a2, .inl a3, .inl a4, .inl a5, .inl a6] μ = tX11_arrives_0 a1 a2 a3 a4 a5 a6 μ := rfl
/-! BaggageHandlingModel.checkIn(IIIIII)I -/
noncomputable def tX11_checkIn_62 (μ : zM) : Option (Option zV × zM) := fX11_checkIn_62 [none, none, none, none, none, none, none] [] μ
noncomputable def tX11_checkIn_0 (a1 : Int32) (a2 : Int32) (a3 : Int32) (a4 : Int32) (a5 : Int32) (a6 : Int32) (μ : zM) : Option (Option zV × zM) := fX11_checkIn_0 [some (.inr (.inr (11, 0))), some (.inl a1), some (.inl a2), some (.inl a3), some (.inl a4), some (.inl a5), some (.inl a6)] [] μ
theorem eX11_checkIn_62 (μ : zM) : tX11_checkIn_62 μ = some (some (.inl (-1)), μ) := (zs3 _ _ _ _).trans (rfl)
theorem eX11_checkIn_0 (a1 : Int32) (a2 : Int32) (a3 : Int32) (a4 : Int32) (a5 : Int32) (a6 : Int32) (μ : zM) : tX11_checkIn_0 a1 a2 a3 a4 a5 a6 μ = zI (tX11_isDevice_0 1 a1 μ) fun v2 μ1 => zif (v2 = 0) (tX11_checkIn_62 μ1) (zI (tX11_isLabel_0 a2 μ1) fun v4 μ3 => zif (v4 = 0) (tX11_checkIn_62 μ3) (zI (tX11_isLabel_0 a4 μ3) fun v6 μ5 => zif (v6 = 0) (tX11_checkIn_62 μ5) (zI (tX11_in_0 a3.toInt64 0 15 μ5) fun v8 μ7 => zif (v8 = 0) (tX11_checkIn_62 μ7) (zI (tX11_in_0 a5.toInt64 0 15 μ7) fun v10 μ9 => zif (v10 = 0) (tX11_checkIn_62 μ9) (zI (tX11_in_0 a6.toInt64 0 3 μ9) fun v12 μ11 => zif (v12 = 0) (tX11_checkIn_62 μ11) ((qI μ11 (65, 0) 1).bind fun v13 => zif (v13 = 100) (some (some (.inl (-2)), μ11)) (zU (tX11_keeps_0 μ11) fun μ14 => zI (tX11_arrives_0 a1 a2 a3 a4 a5 a6 μ14) fun v16 μ15 => some (some (.inl v16), μ15)))))))) := (zs3 _ _ _ _).trans (rfl)
theorem uX11_checkIn (a1 : Int32) (a2 : Int32) (a3 : Int32) (a4 : Int32) (a5 : Int32) (a6 : Int32) (μ : zM) : gX11_checkIn [.inr (.inr (11, 0)), .inl a1, .inl a2, .inl a3, .inl a4, .inl a5, .inl a6] μ = tX11_checkIn_0 a1 a2 a3 a4 a5 a6 μ := rfl
/-! BaggageHandlingModel.run(I)I -/
noncomputable def tX11_run_26 (μ : zM) : Option (Option zV × zM) := fX11_run_26 [none, none, none, none] [] μ
noncomputable def tX11_run_54 (n42 : Nat) (a1 : Int32) (a2 : Int32) (a3 : Int32) (μ : zM) : Option (Option zV × zM) := fX11_run_54 (fX11_run_42 n42) [some (.inr (.inr (11, 0))), some (.inl a1), some (.inl a2), some (.inl a3)] [] μ
noncomputable def tX11_run_42 (n : Nat) (a1 : Int32) (a2 : Int32) (a3 : Int32) (μ : zM) : Option (Option zV × zM) := fX11_run_42 n [some (.inr (.inr (11, 0))), some (.inl a1), some (.inl a2), some (.inl a3)] [] μ
noncomputable def tX11_run_40 (a1 : Int32) (a2 : Int32) (μ : zM) : Option (Option zV × zM) := fX11_run_40 [some (.inr (.inr (11, 0))), some (.inl a1), some (.inl a2), none] [] μ
noncomputable def tX11_run_0 (a1 : Int32) (μ : zM) : Option (Option zV × zM) := fX11_run_0 [some (.inr (.inr (11, 0))), some (.inl a1), none, none] [] μ
theorem eX11_run_26 (μ : zM) : tX11_run_26 μ = some (some (.inl (-1)), μ) := (zs3 _ _ _ _).trans (rfl)
theorem eX11_run_54 (n42 : Nat) (a1 : Int32) (a2 : Int32) (a3 : Int32) (μ : zM) : tX11_run_54 n42 a1 a2 a3 μ = tX11_run_42 n42 a1 a2 a3 μ := (zs3 _ _ _ _).trans (rfl)
theorem eX11_run_42 (a1 : Int32) (a2 : Int32) (a3 : Int32) (n : Nat) (μ : zM) : tX11_run_42 (n + 1) a1 a2 a3 μ = zif (a3 < a1) (zU (tX11_ticks_0 μ) fun μ1 => tX11_run_54 n a1 a2 (a3 + 1) μ1) ((qI μ (65, 0) 10).bind fun v2 => some (some (.inl (v2 - a2)), μ)) := (zs3 _ _ _ _).trans (rfl)
theorem eX11_run_40 (a1 : Int32) (a2 : Int32) (μ : zM) : tX11_run_40 a1 a2 μ = tX11_run_42 zN a1 a2 0 μ := (zs3 _ _ _ _).trans (rfl)
theorem eX11_run_0 (a1 : Int32) (μ : zM) : tX11_run_0 a1 μ = zI (tX11_in_0 a1.toInt64 1 300 μ) fun v2 μ1 => zif (v2 = 0) (tX11_run_26 μ1) ((qI μ1 (65, 0) 0).bind fun v3 => zif ((100000 : Int32) < v3 + a1) (tX11_run_26 μ1) (zU (tX11_keeps_0 μ1) fun μ4 => (qI μ4 (65, 0) 10).bind fun v5 => tX11_run_40 a1 v5 μ4)) := (zs3 _ _ _ _).trans (rfl)
theorem uX11_run (a1 : Int32) (μ : zM) : gX11_run [.inr (.inr (11, 0)), .inl a1] μ = tX11_run_0 a1 μ := rfl
/-! BaggageHandlingModel.slip(I)Z -/
noncomputable def tX11_slip_20 (μ : zM) : Option (Option zV × zM) := fX11_slip_20 [none, none, none, none] [] μ
noncomputable def tX11_slip_68 (a1 : Int32) (a2 : Int32) (a3 : Int32) (μ : zM) : Option (Option zV × zM) := fX11_slip_68 [some (.inr (.inr (11, 0))), some (.inl a1), some (.inl a2), some (.inl a3)] [] μ
noncomputable def tX11_slip_40 (a1 : Int32) (a2 : Int32) (μ : zM) : Option (Option zV × zM) := fX11_slip_40 [some (.inr (.inr (11, 0))), some (.inl a1), some (.inl a2), none] [] μ
noncomputable def tX11_slip_0 (a1 : Int32) (μ : zM) : Option (Option zV × zM) := fX11_slip_0 [some (.inr (.inr (11, 0))), some (.inl a1), none, none] [] μ
theorem eX11_slip_20 (μ : zM) : tX11_slip_20 μ = zif (vp_nar .boolean 0 = 0) (some (some (.inl 0), μ)) none := (zs3 _ _ _ _).trans (rfl)
theorem eX11_slip_68 (a1 : Int32) (a2 : Int32) (a3 : Int32) (μ : zM) : tX11_slip_68 a1 a2 a3 μ = (wI μ (65, 0) (90 + a2) a3).bind fun μ1 => (wI μ1 (65, 0) (90 + a1) (-2)).bind fun μ2 => (wI μ2 (65, 0) ((400 + (8 * a3)) + 1) a2).bind fun μ3 => zif (vp_nar .boolean 1 = 1) (some (some (.inl 1), μ3)) none := (zs3 _ _ _ _).trans (rfl)
theorem eX11_slip_40 (a1 : Int32) (a2 : Int32) (μ : zM) : tX11_slip_40 a1 a2 μ = (qI μ (65, 0) (90 + a2)).bind fun v1 => zif (v1 < 0) (zU (tX11_keeps_0 μ) fun μ2 => (qI μ2 (65, 0) (90 + a1)).bind fun v3 => tX11_slip_68 a1 a2 v3 μ2) (zif (vp_nar .boolean 0 = 0) (some (some (.inl 0), μ)) none) := (zs3 _ _ _ _).trans (rfl)
theorem eX11_slip_0 (a1 : Int32) (μ : zM) : tX11_slip_0 a1 μ = zI (tX11_isPosition_0 a1 μ) fun v2 μ1 => zif (v2 = 0) (tX11_slip_20 μ1) ((qI μ1 (65, 0) (90 + a1)).bind fun v3 => zif (v3 < 0) (tX11_slip_20 μ1) ((qI μ1 (63, 0) 0).bind fun v4 => (qI μ1 (63, 0) 0).bind fun v5 => zif (v5 = 0) none (tX11_slip_40 a1 (((a1 + v4) - 1) - ((a1 + v4) - 1) / v5 * v5) μ1))) := (zs3 _ _ _ _).trans (rfl)
theorem uX11_slip (a1 : Int32) (μ : zM) : gX11_slip [.inr (.inr (11, 0)), .inl a1] μ = tX11_slip_0 a1 μ := rfl
/-! BaggageHandlingModel.takeOff(I)I -/
noncomputable def tX11_takeOff_20 (a1 : Int32) (a2 : Int32) (μ : zM) : Option (Option zV × zM) := fX11_takeOff_20 [some (.inr (.inr (11, 0))), some (.inl a1), some (.inl a2)] [] μ
noncomputable def tX11_takeOff_0 (a1 : Int32) (μ : zM) : Option (Option zV × zM) := fX11_takeOff_0 [some (.inr (.inr (11, 0))), some (.inl a1), none] [] μ
theorem eX11_takeOff_20 (a1 : Int32) (a2 : Int32) (μ : zM) : tX11_takeOff_20 a1 a2 μ = zif (a2 < 0) (some (some (.inl (-2)), μ)) (zU (tX11_keeps_0 μ) fun μ1 => (wI μ1 (65, 0) (90 + a1) (-2)).bind fun μ2 => zU (tX11_goes_0 a2 8 (-2) μ2) fun μ3 => zU (tX11_counts_0 5 μ3) fun μ4 => some (some (.inl a2), μ4)) := (zs3 _ _ _ _).trans (rfl)
theorem eX11_takeOff_0 (a1 : Int32) (μ : zM) : tX11_takeOff_0 a1 μ = zI (tX11_isPosition_0 a1 μ) fun v2 μ1 => zif (v2 = 0) (some (some (.inl (-1)), μ1)) ((qI μ1 (65, 0) (90 + a1)).bind fun v3 => tX11_takeOff_20 a1 v3 μ1) := (zs3 _ _ _ _).trans (rfl)
theorem uX11_takeOff (a1 : Int32) (μ : zM) : gX11_takeOff [.inr (.inr (11, 0)), .inl a1] μ = tX11_takeOff_0 a1 μ := rfl
/-! BaggageHandlingModel.setHead(IZ)Z -/
noncomputable def tX11_setHead_35 (μ : zM) : Option (Option zV × zM) := fX11_setHead_35 [none, none, none, none] [] μ
noncomputable def tX11_setHead_10 (a1 : Int32) (a3 : Int32) (μ : zM) : Option (Option zV × zM) := fX11_setHead_10 [some (.inr (.inr (11, 0))), some (.inl a1), none, some (.inl a3)] [] μ
noncomputable def tX11_setHead_9 (a1 : Int32) (s0 : Int32) (μ : zM) : Option (Option zV × zM) := fX11_setHead_9 [some (.inr (.inr (11, 0))), some (.inl a1), none, none] [.inl s0] μ
noncomputable def tX11_setHead_0 (a1 : Int32) (a2 : Int32) (μ : zM) : Option (Option zV × zM) := fX11_setHead_0 [some (.inr (.inr (11, 0))), some (.inl a1), some (.inl a2), none] [] μ
theorem eX11_setHead_35 (μ : zM) : tX11_setHead_35 μ = zif (vp_nar .boolean 0 = 0) (some (some (.inl 0), μ)) none := (zs3 _ _ _ _).trans (rfl)
theorem eX11_setHead_10 (a1 : Int32) (a3 : Int32) (μ : zM) : tX11_setHead_10 a1 a3 μ = zI (tX11_in_0 a1.toInt64 0 3 μ) fun v2 μ1 => zif (v2 = 0) (tX11_setHead_35 μ1) ((qI μ1 (65, 0) (11 + a1)).bind fun v3 => zif (v3 = a3) (tX11_setHead_35 μ1) (zU (tX11_keeps_0 μ1) fun μ4 => (wI μ4 (65, 0) (11 + a1) a3).bind fun μ5 => zif (vp_nar .boolean 1 = 1) (some (some (.inl 1), μ5)) none)) := (zs3 _ _ _ _).trans (rfl)
theorem eX11_setHead_9 (a1 : Int32) (s0 : Int32) (μ : zM) : tX11_setHead_9 a1 s0 μ = tX11_setHead_10 a1 s0 μ := (zs3 _ _ _ _).trans (rfl)
theorem eX11_setHead_0 (a1 : Int32) (a2 : Int32) (μ : zM) : tX11_setHead_0 a1 a2 μ = zif (a2 = 0) (tX11_setHead_9 a1 0 μ) (tX11_setHead_9 a1 1 μ) := (zs3 _ _ _ _).trans (rfl)
theorem uX11_setHead (a1 : Int32) (a2 : Int32) (μ : zM) : gX11_setHead [.inr (.inr (11, 0)), .inl a1, .inl a2] μ = tX11_setHead_0 a1 a2 μ := rfl
/-! BaggageHandlingModel.loadChute(I)I -/
noncomputable def tX11_loadChute_80 (n31 : Nat) (a1 : Int32) (a2 : Int32) (a3 : Int32) (μ : zM) : Option (Option zV × zM) := fX11_loadChute_80 (fX11_loadChute_31 n31) [some (.inr (.inr (11, 0))), some (.inl a1), some (.inl a2), some (.inl a3)] [] μ
noncomputable def tX11_loadChute_77 (n31 : Nat) (a1 : Int32) (a2 : Int32) (a3 : Int32) (μ : zM) : Option (Option zV × zM) := fX11_loadChute_77 (fX11_loadChute_31 n31) [some (.inr (.inr (11, 0))), some (.inl a1), some (.inl a2), some (.inl a3)] [] μ
noncomputable def tX11_loadChute_31 (n : Nat) (a1 : Int32) (a2 : Int32) (a3 : Int32) (μ : zM) : Option (Option zV × zM) := fX11_loadChute_31 n [some (.inr (.inr (11, 0))), some (.inl a1), some (.inl a2), some (.inl a3)] [] μ
noncomputable def tX11_loadChute_18 (a1 : Int32) (a2 : Int32) (μ : zM) : Option (Option zV × zM) := fX11_loadChute_18 [some (.inr (.inr (11, 0))), some (.inl a1), some (.inl a2), none] [] μ
noncomputable def tX11_loadChute_0 (a1 : Int32) (μ : zM) : Option (Option zV × zM) := fX11_loadChute_0 [some (.inr (.inr (11, 0))), some (.inl a1), none, none] [] μ
theorem eX11_loadChute_80 (n31 : Nat) (a1 : Int32) (a2 : Int32) (a3 : Int32) (μ : zM) : tX11_loadChute_80 n31 a1 a2 a3 μ = tX11_loadChute_31 n31 a1 a2 a3 μ := (zs3 _ _ _ _).trans (rfl)
theorem eX11_loadChute_77 (n31 : Nat) (a1 : Int32) (a2 : Int32) (a3 : Int32) (μ : zM) : tX11_loadChute_77 n31 a1 a2 a3 μ = tX11_loadChute_80 n31 a1 a2 (a3 + 1) μ := (zs3 _ _ _ _).trans (rfl)
theorem eX11_loadChute_31 (a1 : Int32) (a2 : Int32) (a3 : Int32) (n : Nat) (μ : zM) : tX11_loadChute_31 (n + 1) a1 a2 a3 μ = (qI μ (65, 0) 1).bind fun v1 => zif (a3 < v1) (zI (tX11_ofBag_0 a3 0 μ) fun v3 μ2 => zif (v3 = 2) (zI (tX11_ofBag_0 a3 1 μ2) fun v5 μ4 => zif (v5 = a1) ((wI μ4 (65, 0) ((400 + (8 * a3)) + 0) 3).bind fun μ6 => tX11_loadChute_77 n a1 a2 a3 μ6) (tX11_loadChute_77 n a1 a2 a3 μ4)) (tX11_loadChute_77 n a1 a2 a3 μ2)) (some (some (.inl a2), μ)) := (zs3 _ _ _ _).trans (rfl)
theorem eX11_loadChute_18 (a1 : Int32) (a2 : Int32) (μ : zM) : tX11_loadChute_18 a1 a2 μ = zif (a2 = 0) (some (some (.inl (-2)), μ)) (zU (tX11_keeps_0 μ) fun μ1 => tX11_loadChute_31 zN a1 a2 0 μ1) := (zs3 _ _ _ _).trans (rfl)
theorem eX11_loadChute_0 (a1 : Int32) (μ : zM) : tX11_loadChute_0 a1 μ = zI (tX11_isDevice_0 3 a1 μ) fun v2 μ1 => zif (v2 = 0) (some (some (.inl (-1)), μ1)) (zI (tX11_manyIn_0 2 a1 μ1) fun v4 μ3 => tX11_loadChute_18 a1 v4 μ3) := (zs3 _ _ _ _).trans (rfl)
theorem uX11_loadChute (a1 : Int32) (μ : zM) : gX11_loadChute [.inr (.inr (11, 0)), .inl a1] μ = tX11_loadChute_0 a1 μ := rfl
/-! BaggageHandlingModel.positions()I -/
noncomputable def tX11_positions_0 (μ : zM) : Option (Option zV × zM) := fX11_positions_0 [some (.inr (.inr (11, 0)))] [] μ
theorem eX11_positions_0 (μ : zM) : tX11_positions_0 μ = (qI μ (63, 0) 0).bind fun v1 => some (some (.inl v1), μ) := (zs3 _ _ _ _).trans (rfl)
theorem uX11_positions (μ : zM) : gX11_positions [.inr (.inr (11, 0))] μ = tX11_positions_0 μ := rfl
/-! BaggageHandlingModel.deviceAt(I)I -/
noncomputable def tX11_deviceAt_21 (s0 : Int32) (μ : zM) : Option (Option zV × zM) := fX11_deviceAt_21 [none, none] [.inl s0] μ
noncomputable def tX11_deviceAt_0 (a1 : Int32) (μ : zM) : Option (Option zV × zM) := fX11_deviceAt_0 [some (.inr (.inr (11, 0))), some (.inl a1)] [] μ
theorem eX11_deviceAt_21 (s0 : Int32) (μ : zM) : tX11_deviceAt_21 s0 μ = some (some (.inl s0), μ) := (zs3 _ _ _ _).trans (rfl)
theorem eX11_deviceAt_0 (a1 : Int32) (μ : zM) : tX11_deviceAt_0 a1 μ = zI (tX11_isPosition_0 a1 μ) fun v2 μ1 => zif (v2 = 0) (tX11_deviceAt_21 (-1) μ1) ((qI μ1 (63, 0) (20 + a1)).bind fun v3 => tX11_deviceAt_21 v3 μ1) := (zs3 _ _ _ _).trans (rfl)
theorem uX11_deviceAt (a1 : Int32) (μ : zM) : gX11_deviceAt [.inr (.inr (11, 0)), .inl a1] μ = tX11_deviceAt_0 a1 μ := rfl
/-! BaggageHandlingModel.devices(I)I -/
noncomputable def tX11_devices_21 (s0 : Int32) (μ : zM) : Option (Option zV × zM) := fX11_devices_21 [none, none] [.inl s0] μ
noncomputable def tX11_devices_0 (a1 : Int32) (μ : zM) : Option (Option zV × zM) := fX11_devices_0 [some (.inr (.inr (11, 0))), some (.inl a1)] [] μ
theorem eX11_devices_21 (s0 : Int32) (μ : zM) : tX11_devices_21 s0 μ = some (some (.inl s0), μ) := (zs3 _ _ _ _).trans (rfl)
theorem eX11_devices_0 (a1 : Int32) (μ : zM) : tX11_devices_0 a1 μ = zI (tX11_in_0 a1.toInt64 1 6 μ) fun v2 μ1 => zif (v2 = 0) (tX11_devices_21 (-1) μ1) (zI (tX11_many_0 a1 μ1) fun v4 μ3 => tX11_devices_21 v4 μ3) := (zs3 _ _ _ _).trans (rfl)
theorem uX11_devices (a1 : Int32) (μ : zM) : gX11_devices [.inr (.inr (11, 0)), .inl a1] μ = tX11_devices_0 a1 μ := rfl
/-! BaggageHandlingModel.flights()I -/
noncomputable def tX11_flights_0 (μ : zM) : Option (Option zV × zM) := fX11_flights_0 [some (.inr (.inr (11, 0)))] [] μ
theorem eX11_flights_0 (μ : zM) : tX11_flights_0 μ = (qI μ (63, 0) 4).bind fun v1 => some (some (.inl v1), μ) := (zs3 _ _ _ _).trans (rfl)
theorem uX11_flights (μ : zM) : gX11_flights [.inr (.inr (11, 0))] μ = tX11_flights_0 μ := rfl
/-! BaggageHandlingModel.flightNumber(I)I -/
noncomputable def tX11_flightNumber_18 (s0 : Int32) (μ : zM) : Option (Option zV × zM) := fX11_flightNumber_18 [none, none] [.inl s0] μ
noncomputable def tX11_flightNumber_0 (a1 : Int32) (μ : zM) : Option (Option zV × zM) := fX11_flightNumber_0 [some (.inr (.inr (11, 0))), some (.inl a1)] [] μ
theorem eX11_flightNumber_18 (s0 : Int32) (μ : zM) : tX11_flightNumber_18 s0 μ = some (some (.inl s0), μ) := (zs3 _ _ _ _).trans (rfl)
theorem eX11_flightNumber_0 (a1 : Int32) (μ : zM) : tX11_flightNumber_0 a1 μ = zI (tX11_isFlight_0 a1 μ) fun v2 μ1 => zif (v2 = 0) (tX11_flightNumber_18 (-1) μ1) (zI (tX11_ofFlight_0 a1 0 μ1) fun v4 μ3 => tX11_flightNumber_18 v4 μ3) := (zs3 _ _ _ _).trans (rfl)
theorem uX11_flightNumber (a1 : Int32) (μ : zM) : gX11_flightNumber [.inr (.inr (11, 0)), .inl a1] μ = tX11_flightNumber_0 a1 μ := rfl
/-! BaggageHandlingModel.flightState(I)I -/
noncomputable def tX11_flightState_17 (s0 : Int32) (μ : zM) : Option (Option zV × zM) := fX11_flightState_17 [none, none] [.inl s0] μ
noncomputable def tX11_flightState_0 (a1 : Int32) (μ : zM) : Option (Option zV × zM) := fX11_flightState_0 [some (.inr (.inr (11, 0))), some (.inl a1)] [] μ
theorem eX11_flightState_17 (s0 : Int32) (μ : zM) : tX11_flightState_17 s0 μ = some (some (.inl s0), μ) := (zs3 _ _ _ _).trans (rfl)
theorem eX11_flightState_0 (a1 : Int32) (μ : zM) : tX11_flightState_0 a1 μ = zI (tX11_isFlight_0 a1 μ) fun v2 μ1 => zif (v2 = 0) (tX11_flightState_17 (-1) μ1) (zI (tX11_flightIs_0 a1 μ1) fun v4 μ3 => tX11_flightState_17 v4 μ3) := (zs3 _ _ _ _).trans (rfl)
theorem uX11_flightState (a1 : Int32) (μ : zM) : gX11_flightState [.inr (.inr (11, 0)), .inl a1] μ = tX11_flightState_0 a1 μ := rfl
/-! BaggageHandlingModel.tick()I -/
noncomputable def tX11_tick_0 (μ : zM) : Option (Option zV × zM) := fX11_tick_0 [some (.inr (.inr (11, 0)))] [] μ
theorem eX11_tick_0 (μ : zM) : tX11_tick_0 μ = (qI μ (65, 0) 0).bind fun v1 => some (some (.inl v1), μ) := (zs3 _ _ _ _).trans (rfl)
theorem uX11_tick (μ : zM) : gX11_tick [.inr (.inr (11, 0))] μ = tX11_tick_0 μ := rfl
/-! BaggageHandlingModel.bagAt(I)I -/
noncomputable def tX11_bagAt_21 (s0 : Int32) (μ : zM) : Option (Option zV × zM) := fX11_bagAt_21 [none, none] [.inl s0] μ
noncomputable def tX11_bagAt_0 (a1 : Int32) (μ : zM) : Option (Option zV × zM) := fX11_bagAt_0 [some (.inr (.inr (11, 0))), some (.inl a1)] [] μ
theorem eX11_bagAt_21 (s0 : Int32) (μ : zM) : tX11_bagAt_21 s0 μ = some (some (.inl s0), μ) := (zs3 _ _ _ _).trans (rfl)
theorem eX11_bagAt_0 (a1 : Int32) (μ : zM) : tX11_bagAt_0 a1 μ = zI (tX11_isPosition_0 a1 μ) fun v2 μ1 => zif (v2 = 0) (tX11_bagAt_21 (-1) μ1) ((qI μ1 (65, 0) (90 + a1)).bind fun v3 => tX11_bagAt_21 v3 μ1) := (zs3 _ _ _ _).trans (rfl)
theorem uX11_bagAt (a1 : Int32) (μ : zM) : gX11_bagAt [.inr (.inr (11, 0)), .inl a1] μ = tX11_bagAt_0 a1 μ := rfl
/-! BaggageHandlingModel.hasRecord(I)Z -/
noncomputable def tX11_hasRecord_27 (s0 : Int32) (μ : zM) : Option (Option zV × zM) := fX11_hasRecord_27 [none, none] [.inl s0] μ
noncomputable def tX11_hasRecord_26 (μ : zM) : Option (Option zV × zM) := fX11_hasRecord_26 [none, none] [] μ
noncomputable def tX11_hasRecord_0 (a1 : Int32) (μ : zM) : Option (Option zV × zM) := fX11_hasRecord_0 [some (.inr (.inr (11, 0))), some (.inl a1)] [] μ
theorem eX11_hasRecord_27 (s0 : Int32) (μ : zM) : tX11_hasRecord_27 s0 μ = zif (vp_nar .boolean s0 = s0) (some (some (.inl s0), μ)) none := (zs3 _ _ _ _).trans (rfl)
theorem eX11_hasRecord_26 (μ : zM) : tX11_hasRecord_26 μ = tX11_hasRecord_27 0 μ := (zs3 _ _ _ _).trans (rfl)
theorem eX11_hasRecord_0 (a1 : Int32) (μ : zM) : tX11_hasRecord_0 a1 μ = zI (tX11_isPosition_0 a1 μ) fun v2 μ1 => zif (v2 = 0) (tX11_hasRecord_26 μ1) ((qI μ1 (65, 0) (150 + a1)).bind fun v3 => zif (v3 = 1) (tX11_hasRecord_27 1 μ1) (tX11_hasRecord_26 μ1)) := (zs3 _ _ _ _).trans (rfl)
theorem uX11_hasRecord (a1 : Int32) (μ : zM) : gX11_hasRecord [.inr (.inr (11, 0)), .inl a1] μ = tX11_hasRecord_0 a1 μ := rfl
/-! BaggageHandlingModel.recordLabel(I)I -/
noncomputable def tX11_recordLabel_48 (s0 : Int32) (μ : zM) : Option (Option zV × zM) := fX11_recordLabel_48 [none, none] [.inl s0] μ
noncomputable def tX11_recordLabel_0 (a1 : Int32) (μ : zM) : Option (Option zV × zM) := fX11_recordLabel_0 [some (.inr (.inr (11, 0))), some (.inl a1)] [] μ
theorem eX11_recordLabel_48 (s0 : Int32) (μ : zM) : tX11_recordLabel_48 s0 μ = some (some (.inl s0), μ) := (zs3 _ _ _ _).trans (rfl)
theorem eX11_recordLabel_0 (a1 : Int32) (μ : zM) : tX11_recordLabel_0 a1 μ = zI (tX11_isPosition_0 a1 μ) fun v2 μ1 => zif (v2 = 0) (some (some (.inl (-1)), μ1)) (zI (tX11_hasRecord_0 a1 μ1) fun v4 μ3 => zif (v4 = 0) (some (some (.inl (-2)), μ3)) ((qI μ3 (65, 0) (210 + a1)).bind fun v5 => zif (v5 < 0) (tX11_recordLabel_48 1 μ3) ((qI μ3 (65, 0) (210 + a1)).bind fun v6 => tX11_recordLabel_48 v6 μ3))) := (zs3 _ _ _ _).trans (rfl)
theorem uX11_recordLabel (a1 : Int32) (μ : zM) : gX11_recordLabel [.inr (.inr (11, 0)), .inl a1] μ = tX11_recordLabel_0 a1 μ := rfl
/-! BaggageHandlingModel.isCleared(I)Z -/
noncomputable def tX11_isCleared_27 (s0 : Int32) (μ : zM) : Option (Option zV × zM) := fX11_isCleared_27 [none, none] [.inl s0] μ
noncomputable def tX11_isCleared_26 (μ : zM) : Option (Option zV × zM) := fX11_isCleared_26 [none, none] [] μ
noncomputable def tX11_isCleared_0 (a1 : Int32) (μ : zM) : Option (Option zV × zM) := fX11_isCleared_0 [some (.inr (.inr (11, 0))), some (.inl a1)] [] μ
theorem eX11_isCleared_27 (s0 : Int32) (μ : zM) : tX11_isCleared_27 s0 μ = zif (vp_nar .boolean s0 = s0) (some (some (.inl s0), μ)) none := (zs3 _ _ _ _).trans (rfl)
theorem eX11_isCleared_26 (μ : zM) : tX11_isCleared_26 μ = tX11_isCleared_27 0 μ := (zs3 _ _ _ _).trans (rfl)
theorem eX11_isCleared_0 (a1 : Int32) (μ : zM) : tX11_isCleared_0 a1 μ = zI (tX11_hasRecord_0 a1 μ) fun v2 μ1 => zif (v2 = 0) (tX11_isCleared_26 μ1) ((qI μ1 (65, 0) (270 + a1)).bind fun v3 => zif (v3 = 1) (tX11_isCleared_27 1 μ1) (tX11_isCleared_26 μ1)) := (zs3 _ _ _ _).trans (rfl)
theorem uX11_isCleared (a1 : Int32) (μ : zM) : gX11_isCleared [.inr (.inr (11, 0)), .inl a1] μ = tX11_isCleared_0 a1 μ := rfl
/-! BaggageHandlingModel.passes(I)I -/
noncomputable def tX11_passes_35 (s0 : Int32) (μ : zM) : Option (Option zV × zM) := fX11_passes_35 [none, none] [.inl s0] μ
noncomputable def tX11_passes_0 (a1 : Int32) (μ : zM) : Option (Option zV × zM) := fX11_passes_0 [some (.inr (.inr (11, 0))), some (.inl a1)] [] μ
theorem eX11_passes_35 (s0 : Int32) (μ : zM) : tX11_passes_35 s0 μ = some (some (.inl s0), μ) := (zs3 _ _ _ _).trans (rfl)
theorem eX11_passes_0 (a1 : Int32) (μ : zM) : tX11_passes_0 a1 μ = zI (tX11_isPosition_0 a1 μ) fun v2 μ1 => zif (v2 = 0) (tX11_passes_35 (-1) μ1) (zI (tX11_hasRecord_0 a1 μ1) fun v4 μ3 => zif (v4 = 0) (tX11_passes_35 (-2) μ3) ((qI μ3 (65, 0) (330 + a1)).bind fun v5 => tX11_passes_35 v5 μ3)) := (zs3 _ _ _ _).trans (rfl)
theorem uX11_passes (a1 : Int32) (μ : zM) : gX11_passes [.inr (.inr (11, 0)), .inl a1] μ = tX11_passes_0 a1 μ := rfl
/-! BaggageHandlingModel.destination(I)I -/
noncomputable def tX11_destination_30 (s0 : Int32) (μ : zM) : Option (Option zV × zM) := fX11_destination_30 [none, none] [.inl s0] μ
noncomputable def tX11_destination_0 (a1 : Int32) (μ : zM) : Option (Option zV × zM) := fX11_destination_0 [some (.inr (.inr (11, 0))), some (.inl a1)] [] μ
theorem eX11_destination_30 (s0 : Int32) (μ : zM) : tX11_destination_30 s0 μ = some (some (.inl s0), μ) := (zs3 _ _ _ _).trans (rfl)
theorem eX11_destination_0 (a1 : Int32) (μ : zM) : tX11_destination_0 a1 μ = zI (tX11_isPosition_0 a1 μ) fun v2 μ1 => zif (v2 = 0) (tX11_destination_30 (-1) μ1) (zI (tX11_hasRecord_0 a1 μ1) fun v4 μ3 => zif (v4 = 0) (tX11_destination_30 (-2) μ3) (zI (tX11_destinationAt_0 a1 μ3) fun v6 μ5 => tX11_destination_30 v6 μ5)) := (zs3 _ _ _ _).trans (rfl)
theorem uX11_destination (a1 : Int32) (μ : zM) : gX11_destination [.inr (.inr (11, 0)), .inl a1] μ = tX11_destination_0 a1 μ := rfl
/-! BaggageHandlingModel.bags()I -/
noncomputable def tX11_bags_0 (μ : zM) : Option (Option zV × zM) := fX11_bags_0 [some (.inr (.inr (11, 0)))] [] μ
theorem eX11_bags_0 (μ : zM) : tX11_bags_0 μ = (qI μ (65, 0) 1).bind fun v1 => some (some (.inl v1), μ) := (zs3 _ _ _ _).trans (rfl)
theorem uX11_bags (μ : zM) : gX11_bags [.inr (.inr (11, 0))] μ = tX11_bags_0 μ := rfl
/-! BaggageHandlingModel.bagState(I)I -/
noncomputable def tX11_bagState_18 (s0 : Int32) (μ : zM) : Option (Option zV × zM) := fX11_bagState_18 [none, none] [.inl s0] μ
noncomputable def tX11_bagState_0 (a1 : Int32) (μ : zM) : Option (Option zV × zM) := fX11_bagState_0 [some (.inr (.inr (11, 0))), some (.inl a1)] [] μ
theorem eX11_bagState_18 (s0 : Int32) (μ : zM) : tX11_bagState_18 s0 μ = some (some (.inl s0), μ) := (zs3 _ _ _ _).trans (rfl)
theorem eX11_bagState_0 (a1 : Int32) (μ : zM) : tX11_bagState_0 a1 μ = zI (tX11_isBag_0 a1 μ) fun v2 μ1 => zif (v2 = 0) (tX11_bagState_18 (-1) μ1) (zI (tX11_ofBag_0 a1 0 μ1) fun v4 μ3 => tX11_bagState_18 v4 μ3) := (zs3 _ _ _ _).trans (rfl)
theorem uX11_bagState (a1 : Int32) (μ : zM) : gX11_bagState [.inr (.inr (11, 0)), .inl a1] μ = tX11_bagState_0 a1 μ := rfl
/-! BaggageHandlingModel.bagPlace(I)I -/
noncomputable def tX11_bagPlace_18 (s0 : Int32) (μ : zM) : Option (Option zV × zM) := fX11_bagPlace_18 [none, none] [.inl s0] μ
noncomputable def tX11_bagPlace_0 (a1 : Int32) (μ : zM) : Option (Option zV × zM) := fX11_bagPlace_0 [some (.inr (.inr (11, 0))), some (.inl a1)] [] μ
theorem eX11_bagPlace_18 (s0 : Int32) (μ : zM) : tX11_bagPlace_18 s0 μ = some (some (.inl s0), μ) := (zs3 _ _ _ _).trans (rfl)
theorem eX11_bagPlace_0 (a1 : Int32) (μ : zM) : tX11_bagPlace_0 a1 μ = zI (tX11_isBag_0 a1 μ) fun v2 μ1 => zif (v2 = 0) (tX11_bagPlace_18 (-1) μ1) (zI (tX11_ofBag_0 a1 1 μ1) fun v4 μ3 => tX11_bagPlace_18 v4 μ3) := (zs3 _ _ _ _).trans (rfl)
theorem uX11_bagPlace (a1 : Int32) (μ : zM) : gX11_bagPlace [.inr (.inr (11, 0)), .inl a1] μ = tX11_bagPlace_0 a1 μ := rfl
/-! BaggageHandlingModel.isIn(I)Z -/
noncomputable def tX11_isIn_25 (s0 : Int32) (μ : zM) : Option (Option zV × zM) := fX11_isIn_25 [none, none] [.inl s0] μ
noncomputable def tX11_isIn_20 (μ : zM) : Option (Option zV × zM) := fX11_isIn_20 [none, none] [] μ
noncomputable def tX11_isIn_0 (a1 : Int32) (μ : zM) : Option (Option zV × zM) := fX11_isIn_0 [some (.inr (.inr (11, 0))), some (.inl a1)] [] μ
theorem eX11_isIn_25 (s0 : Int32) (μ : zM) : tX11_isIn_25 s0 μ = zif (vp_nar .boolean s0 = s0) (some (some (.inl s0), μ)) none := (zs3 _ _ _ _).trans (rfl)
theorem eX11_isIn_20 (μ : zM) : tX11_isIn_20 μ = tX11_isIn_25 1 μ := (zs3 _ _ _ _).trans (rfl)
theorem eX11_isIn_0 (a1 : Int32) (μ : zM) : tX11_isIn_0 a1 μ = zI (tX11_ofBag_0 a1 0 μ) fun v2 μ1 => zif (v2 = 2) (tX11_isIn_20 μ1) (zI (tX11_ofBag_0 a1 0 μ1) fun v4 μ3 => zif (v4 = 3) (tX11_isIn_20 μ3) (tX11_isIn_25 0 μ3)) := (zs3 _ _ _ _).trans (rfl)
theorem uX11_isIn (a1 : Int32) (μ : zM) : gX11_isIn [.inr (.inr (11, 0)), .inl a1] μ = tX11_isIn_0 a1 μ := rfl
/-! BaggageHandlingModel.deliveredAt(I)I -/
noncomputable def tX11_deliveredAt_32 (s0 : Int32) (μ : zM) : Option (Option zV × zM) := fX11_deliveredAt_32 [none, none] [.inl s0] μ
noncomputable def tX11_deliveredAt_0 (a1 : Int32) (μ : zM) : Option (Option zV × zM) := fX11_deliveredAt_0 [some (.inr (.inr (11, 0))), some (.inl a1)] [] μ
theorem eX11_deliveredAt_32 (s0 : Int32) (μ : zM) : tX11_deliveredAt_32 s0 μ = some (some (.inl s0), μ) := (zs3 _ _ _ _).trans (rfl)
theorem eX11_deliveredAt_0 (a1 : Int32) (μ : zM) : tX11_deliveredAt_0 a1 μ = zI (tX11_isBag_0 a1 μ) fun v2 μ1 => zif (v2 = 0) (tX11_deliveredAt_32 (-1) μ1) (zI (tX11_isIn_0 a1 μ1) fun v4 μ3 => zif (v4 = 0) (tX11_deliveredAt_32 (-2) μ3) (zI (tX11_ofBag_0 a1 6 μ3) fun v6 μ5 => tX11_deliveredAt_32 v6 μ5)) := (zs3 _ _ _ _).trans (rfl)
theorem uX11_deliveredAt (a1 : Int32) (μ : zM) : gX11_deliveredAt [.inr (.inr (11, 0)), .inl a1] μ = tX11_deliveredAt_0 a1 μ := rfl
/-! BaggageHandlingModel.properLabel(I)I -/
noncomputable def tX11_properLabel_17 (s0 : Int32) (μ : zM) : Option (Option zV × zM) := fX11_properLabel_17 [none, none] [.inl s0] μ
noncomputable def tX11_properLabel_0 (a1 : Int32) (μ : zM) : Option (Option zV × zM) := fX11_properLabel_0 [some (.inr (.inr (11, 0))), some (.inl a1)] [] μ
theorem eX11_properLabel_17 (s0 : Int32) (μ : zM) : tX11_properLabel_17 s0 μ = some (some (.inl s0), μ) := (zs3 _ _ _ _).trans (rfl)
theorem eX11_properLabel_0 (a1 : Int32) (μ : zM) : tX11_properLabel_0 a1 μ = zI (tX11_isBag_0 a1 μ) fun v2 μ1 => zif (v2 = 0) (tX11_properLabel_17 (-1) μ1) (zI (tX11_properOf_0 a1 μ1) fun v4 μ3 => tX11_properLabel_17 v4 μ3) := (zs3 _ _ _ _).trans (rfl)
theorem uX11_properLabel (a1 : Int32) (μ : zM) : gX11_properLabel [.inr (.inr (11, 0)), .inl a1] μ = tX11_properLabel_0 a1 μ := rfl
/-! BaggageHandlingModel.sizeOf(III)I -/
noncomputable def tX11_sizeOf_19 (s0 : Int32) (μ : zM) : Option (Option zV × zM) := fX11_sizeOf_19 [none, none, none, none] [.inl s0] μ
noncomputable def tX11_sizeOf_0 (a1 : Int32) (a2 : Int32) (a3 : Int32) (μ : zM) : Option (Option zV × zM) := fX11_sizeOf_0 [some (.inr (.inr (11, 0))), some (.inl a1), some (.inl a2), some (.inl a3)] [] μ
theorem eX11_sizeOf_19 (s0 : Int32) (μ : zM) : tX11_sizeOf_19 s0 μ = some (some (.inl s0), μ) := (zs3 _ _ _ _).trans (rfl)
theorem eX11_sizeOf_0 (a1 : Int32) (a2 : Int32) (a3 : Int32) (μ : zM) : tX11_sizeOf_0 a1 a2 a3 μ = zI (tX11_isDevice_0 a1 a2 μ) fun v2 μ1 => zif (v2 = 0) (tX11_sizeOf_19 (-1) μ1) (zI (tX11_manyIn_0 a3 a2 μ1) fun v4 μ3 => tX11_sizeOf_19 v4 μ3) := (zs3 _ _ _ _).trans (rfl)
theorem uX11_sizeOf (a1 : Int32) (a2 : Int32) (a3 : Int32) (μ : zM) : gX11_sizeOf [.inr (.inr (11, 0)), .inl a1, .inl a2, .inl a3] μ = tX11_sizeOf_0 a1 a2 a3 μ := rfl
/-! BaggageHandlingModel.waiting(I)I -/
noncomputable def tX11_waiting_0 (a1 : Int32) (μ : zM) : Option (Option zV × zM) := fX11_waiting_0 [some (.inr (.inr (11, 0))), some (.inl a1)] [] μ
theorem eX11_waiting_0 (a1 : Int32) (μ : zM) : tX11_waiting_0 a1 μ = zI (tX11_sizeOf_0 1 a1 0 μ) fun v2 μ1 => some (some (.inl v2), μ1) := (zs3 _ _ _ _).trans (rfl)
theorem uX11_waiting (a1 : Int32) (μ : zM) : gX11_waiting [.inr (.inr (11, 0)), .inl a1] μ = tX11_waiting_0 a1 μ := rfl
/-! BaggageHandlingModel.chuteSize(I)I -/
noncomputable def tX11_chuteSize_0 (a1 : Int32) (μ : zM) : Option (Option zV × zM) := fX11_chuteSize_0 [some (.inr (.inr (11, 0))), some (.inl a1)] [] μ
theorem eX11_chuteSize_0 (a1 : Int32) (μ : zM) : tX11_chuteSize_0 a1 μ = zI (tX11_sizeOf_0 3 a1 2 μ) fun v2 μ1 => some (some (.inl v2), μ1) := (zs3 _ _ _ _).trans (rfl)
theorem uX11_chuteSize (a1 : Int32) (μ : zM) : gX11_chuteSize [.inr (.inr (11, 0)), .inl a1] μ = tX11_chuteSize_0 a1 μ := rfl
/-! BaggageHandlingModel.screenSize(I)I -/
noncomputable def tX11_screenSize_0 (a1 : Int32) (μ : zM) : Option (Option zV × zM) := fX11_screenSize_0 [some (.inr (.inr (11, 0))), some (.inl a1)] [] μ
theorem eX11_screenSize_0 (a1 : Int32) (μ : zM) : tX11_screenSize_0 a1 μ = zI (tX11_sizeOf_0 4 a1 4 μ) fun v2 μ1 => some (some (.inl v2), μ1) := (zs3 _ _ _ _).trans (rfl)
theorem uX11_screenSize (a1 : Int32) (μ : zM) : gX11_screenSize [.inr (.inr (11, 0)), .inl a1] μ = tX11_screenSize_0 a1 μ := rfl
/-! BaggageHandlingModel.screenLevel(I)I -/
noncomputable def tX11_screenLevel_35 (s0 : Int32) (μ : zM) : Option (Option zV × zM) := fX11_screenLevel_35 [none, none] [.inl s0] μ
noncomputable def tX11_screenLevel_0 (a1 : Int32) (μ : zM) : Option (Option zV × zM) := fX11_screenLevel_0 [some (.inr (.inr (11, 0))), some (.inl a1)] [] μ
theorem eX11_screenLevel_35 (s0 : Int32) (μ : zM) : tX11_screenLevel_35 s0 μ = some (some (.inl s0), μ) := (zs3 _ _ _ _).trans (rfl)
theorem eX11_screenLevel_0 (a1 : Int32) (μ : zM) : tX11_screenLevel_0 a1 μ = zI (tX11_isDevice_0 4 a1 μ) fun v2 μ1 => zif (v2 = 0) (some (some (.inl (-1)), μ1)) (zI (tX11_manyIn_0 4 a1 μ1) fun v4 μ3 => zif (v4 = 0) (tX11_screenLevel_35 0 μ3) ((qI μ3 (65, 0) (77 + a1)).bind fun v5 => tX11_screenLevel_35 (v5 + 1) μ3)) := (zs3 _ _ _ _).trans (rfl)
theorem uX11_screenLevel (a1 : Int32) (μ : zM) : gX11_screenLevel [.inr (.inr (11, 0)), .inl a1] μ = tX11_screenLevel_0 a1 μ := rfl
/-! BaggageHandlingModel.storeSize(I)I -/
noncomputable def tX11_storeSize_0 (a1 : Int32) (μ : zM) : Option (Option zV × zM) := fX11_storeSize_0 [some (.inr (.inr (11, 0))), some (.inl a1)] [] μ
theorem eX11_storeSize_0 (a1 : Int32) (μ : zM) : tX11_storeSize_0 a1 μ = zI (tX11_sizeOf_0 5 a1 5 μ) fun v2 μ1 => some (some (.inl v2), μ1) := (zs3 _ _ _ _).trans (rfl)
theorem uX11_storeSize (a1 : Int32) (μ : zM) : gX11_storeSize [.inr (.inr (11, 0)), .inl a1] μ = tX11_storeSize_0 a1 μ := rfl
/-! BaggageHandlingModel.stationSize(I)I -/
noncomputable def tX11_stationSize_0 (a1 : Int32) (μ : zM) : Option (Option zV × zM) := fX11_stationSize_0 [some (.inr (.inr (11, 0))), some (.inl a1)] [] μ
theorem eX11_stationSize_0 (a1 : Int32) (μ : zM) : tX11_stationSize_0 a1 μ = zI (tX11_sizeOf_0 6 a1 6 μ) fun v2 μ1 => some (some (.inl v2), μ1) := (zs3 _ _ _ _).trans (rfl)
theorem uX11_stationSize (a1 : Int32) (μ : zM) : gX11_stationSize [.inr (.inr (11, 0)), .inl a1] μ = tX11_stationSize_0 a1 μ := rfl
/-! BaggageHandlingModel.exitSize(I)I -/
noncomputable def tX11_exitSize_33 (s0 : Int32) (μ : zM) : Option (Option zV × zM) := fX11_exitSize_33 [none, none] [.inl s0] μ
noncomputable def tX11_exitSize_32 (μ : zM) : Option (Option zV × zM) := fX11_exitSize_32 [none, none] [] μ
noncomputable def tX11_exitSize_0 (a1 : Int32) (μ : zM) : Option (Option zV × zM) := fX11_exitSize_0 [some (.inr (.inr (11, 0))), some (.inl a1)] [] μ
theorem eX11_exitSize_33 (s0 : Int32) (μ : zM) : tX11_exitSize_33 s0 μ = some (some (.inl s0), μ) := (zs3 _ _ _ _).trans (rfl)
theorem eX11_exitSize_32 (μ : zM) : tX11_exitSize_32 μ = tX11_exitSize_33 (-1) μ := (zs3 _ _ _ _).trans (rfl)
theorem eX11_exitSize_0 (a1 : Int32) (μ : zM) : tX11_exitSize_0 a1 μ = zI (tX11_isPosition_0 a1 μ) fun v2 μ1 => zif (v2 = 0) (tX11_exitSize_32 μ1) ((qI μ1 (63, 0) (20 + a1)).bind fun v3 => zif (v3 = 7) (zI (tX11_manyIn_0 7 a1 μ1) fun v5 μ4 => tX11_exitSize_33 v5 μ4) (tX11_exitSize_32 μ1)) := (zs3 _ _ _ _).trans (rfl)
theorem uX11_exitSize (a1 : Int32) (μ : zM) : gX11_exitSize [.inr (.inr (11, 0)), .inl a1] μ = tX11_exitSize_0 a1 μ := rfl
/-! BaggageHandlingModel.readyAt(I)I -/
noncomputable def tX11_readyAt_43 (s0 : Int32) (μ : zM) : Option (Option zV × zM) := fX11_readyAt_43 [none, none] [.inl s0] μ
noncomputable def tX11_readyAt_42 (μ : zM) : Option (Option zV × zM) := fX11_readyAt_42 [none, none] [] μ
noncomputable def tX11_readyAt_0 (a1 : Int32) (μ : zM) : Option (Option zV × zM) := fX11_readyAt_0 [some (.inr (.inr (11, 0))), some (.inl a1)] [] μ
theorem eX11_readyAt_43 (s0 : Int32) (μ : zM) : tX11_readyAt_43 s0 μ = some (some (.inl s0), μ) := (zs3 _ _ _ _).trans (rfl)
theorem eX11_readyAt_42 (μ : zM) : tX11_readyAt_42 μ = tX11_readyAt_43 (-1) μ := (zs3 _ _ _ _).trans (rfl)
theorem eX11_readyAt_0 (a1 : Int32) (μ : zM) : tX11_readyAt_0 a1 μ = zI (tX11_isPosition_0 a1 μ) fun v2 μ1 => zif (v2 = 0) (tX11_readyAt_42 μ1) ((qI μ1 (63, 0) (20 + a1)).bind fun v3 => zI (tX11_in_0 v3.toInt64 3 6 μ1) fun v5 μ4 => zif (v5 = 0) (tX11_readyAt_42 μ4) ((qI μ4 (65, 0) (15 + a1)).bind fun v6 => tX11_readyAt_43 v6 μ4)) := (zs3 _ _ _ _).trans (rfl)
theorem uX11_readyAt (a1 : Int32) (μ : zM) : gX11_readyAt [.inr (.inr (11, 0)), .inl a1] μ = tX11_readyAt_0 a1 μ := rfl
/-! BaggageHandlingModel.onRing()I -/
noncomputable def tX11_onRing_37 (n4 : Nat) (a1 : Int32) (a2 : Int32) (μ : zM) : Option (Option zV × zM) := fX11_onRing_37 (fX11_onRing_4 n4) [some (.inr (.inr (11, 0))), some (.inl a1), some (.inl a2)] [] μ
noncomputable def tX11_onRing_34 (n4 : Nat) (a1 : Int32) (a2 : Int32) (μ : zM) : Option (Option zV × zM) := fX11_onRing_34 (fX11_onRing_4 n4) [some (.inr (.inr (11, 0))), some (.inl a1), some (.inl a2)] [] μ
noncomputable def tX11_onRing_32 (n4 : Nat) (a2 : Int32) (s0 : Int32) (s1 : Int32) (μ : zM) : Option (Option zV × zM) := fX11_onRing_32 (fX11_onRing_4 n4) [some (.inr (.inr (11, 0))), none, some (.inl a2)] [.inl s1, .inl s0] μ
noncomputable def tX11_onRing_4 (n : Nat) (a1 : Int32) (a2 : Int32) (μ : zM) : Option (Option zV × zM) := fX11_onRing_4 n [some (.inr (.inr (11, 0))), some (.inl a1), some (.inl a2)] [] μ
noncomputable def tX11_onRing_2 (a1 : Int32) (μ : zM) : Option (Option zV × zM) := fX11_onRing_2 [some (.inr (.inr (11, 0))), some (.inl a1), none] [] μ
noncomputable def tX11_onRing_0 (μ : zM) : Option (Option zV × zM) := fX11_onRing_0 [some (.inr (.inr (11, 0))), none, none] [] μ
theorem eX11_onRing_37 (n4 : Nat) (a1 : Int32) (a2 : Int32) (μ : zM) : tX11_onRing_37 n4 a1 a2 μ = tX11_onRing_4 n4 a1 a2 μ := (zs3 _ _ _ _).trans (rfl)
theorem eX11_onRing_34 (n4 : Nat) (a1 : Int32) (a2 : Int32) (μ : zM) : tX11_onRing_34 n4 a1 a2 μ = tX11_onRing_37 n4 a1 (a2 + 1) μ := (zs3 _ _ _ _).trans (rfl)
theorem eX11_onRing_32 (n4 : Nat) (a2 : Int32) (s0 : Int32) (s1 : Int32) (μ : zM) : tX11_onRing_32 n4 a2 s0 s1 μ = tX11_onRing_34 n4 (s0 + s1) a2 μ := (zs3 _ _ _ _).trans (rfl)
theorem eX11_onRing_4 (a1 : Int32) (a2 : Int32) (n : Nat) (μ : zM) : tX11_onRing_4 (n + 1) a1 a2 μ = (qI μ (63, 0) 0).bind fun v1 => zif (a2 < v1) ((qI μ (65, 0) (90 + a2)).bind fun v2 => zif (v2 < 0) (tX11_onRing_32 n a2 a1 0 μ) (tX11_onRing_32 n a2 a1 1 μ)) (some (some (.inl a1), μ)) := (zs3 _ _ _ _).trans (rfl)
theorem eX11_onRing_2 (a1 : Int32) (μ : zM) : tX11_onRing_2 a1 μ = tX11_onRing_4 zN a1 0 μ := (zs3 _ _ _ _).trans (rfl)
theorem eX11_onRing_0 (μ : zM) : tX11_onRing_0 μ = tX11_onRing_2 0 μ := (zs3 _ _ _ _).trans (rfl)
theorem uX11_onRing (μ : zM) : gX11_onRing [.inr (.inr (11, 0))] μ = tX11_onRing_0 μ := rfl
/-! BaggageHandlingModel.untracked()I -/
noncomputable def tX11_untracked_50 (n4 : Nat) (a1 : Int32) (a2 : Int32) (μ : zM) : Option (Option zV × zM) := fX11_untracked_50 (fX11_untracked_4 n4) [some (.inr (.inr (11, 0))), some (.inl a1), some (.inl a2)] [] μ
noncomputable def tX11_untracked_47 (n4 : Nat) (a1 : Int32) (a2 : Int32) (μ : zM) : Option (Option zV × zM) := fX11_untracked_47 (fX11_untracked_4 n4) [some (.inr (.inr (11, 0))), some (.inl a1), some (.inl a2)] [] μ
noncomputable def tX11_untracked_45 (n4 : Nat) (a2 : Int32) (s0 : Int32) (s1 : Int32) (μ : zM) : Option (Option zV × zM) := fX11_untracked_45 (fX11_untracked_4 n4) [some (.inr (.inr (11, 0))), none, some (.inl a2)] [.inl s1, .inl s0] μ
noncomputable def tX11_untracked_44 (n4 : Nat) (a2 : Int32) (s0 : Int32) (μ : zM) : Option (Option zV × zM) := fX11_untracked_44 (fX11_untracked_4 n4) [some (.inr (.inr (11, 0))), none, some (.inl a2)] [.inl s0] μ
noncomputable def tX11_untracked_4 (n : Nat) (a1 : Int32) (a2 : Int32) (μ : zM) : Option (Option zV × zM) := fX11_untracked_4 n [some (.inr (.inr (11, 0))), some (.inl a1), some (.inl a2)] [] μ
noncomputable def tX11_untracked_2 (a1 : Int32) (μ : zM) : Option (Option zV × zM) := fX11_untracked_2 [some (.inr (.inr (11, 0))), some (.inl a1), none] [] μ
noncomputable def tX11_untracked_0 (μ : zM) : Option (Option zV × zM) := fX11_untracked_0 [some (.inr (.inr (11, 0))), none, none] [] μ
theorem eX11_untracked_50 (n4 : Nat) (a1 : Int32) (a2 : Int32) (μ : zM) : tX11_untracked_50 n4 a1 a2 μ = tX11_untracked_4 n4 a1 a2 μ := (zs3 _ _ _ _).trans (rfl)
theorem eX11_untracked_47 (n4 : Nat) (a1 : Int32) (a2 : Int32) (μ : zM) : tX11_untracked_47 n4 a1 a2 μ = tX11_untracked_50 n4 a1 (a2 + 1) μ := (zs3 _ _ _ _).trans (rfl)
theorem eX11_untracked_45 (n4 : Nat) (a2 : Int32) (s0 : Int32) (s1 : Int32) (μ : zM) : tX11_untracked_45 n4 a2 s0 s1 μ = tX11_untracked_47 n4 (s0 + s1) a2 μ := (zs3 _ _ _ _).trans (rfl)
theorem eX11_untracked_44 (n4 : Nat) (a2 : Int32) (s0 : Int32) (μ : zM) : tX11_untracked_44 n4 a2 s0 μ = tX11_untracked_45 n4 a2 s0 0 μ := (zs3 _ _ _ _).trans (rfl)
theorem eX11_untracked_4 (a1 : Int32) (a2 : Int32) (n : Nat) (μ : zM) : tX11_untracked_4 (n + 1) a1 a2 μ = (qI μ (63, 0) 0).bind fun v1 => zif (a2 < v1) ((qI μ (65, 0) (90 + a2)).bind fun v2 => zif (v2 < 0) (tX11_untracked_44 n a2 a1 μ) ((qI μ (65, 0) (150 + a2)).bind fun v3 => zif (v3 = 0) (tX11_untracked_45 n a2 a1 1 μ) (tX11_untracked_44 n a2 a1 μ))) (some (some (.inl a1), μ)) := (zs3 _ _ _ _).trans (rfl)
theorem eX11_untracked_2 (a1 : Int32) (μ : zM) : tX11_untracked_2 a1 μ = tX11_untracked_4 zN a1 0 μ := (zs3 _ _ _ _).trans (rfl)
theorem eX11_untracked_0 (μ : zM) : tX11_untracked_0 μ = tX11_untracked_2 0 μ := (zs3 _ _ _ _).trans (rfl)
theorem uX11_untracked (μ : zM) : gX11_untracked [.inr (.inr (11, 0))] μ = tX11_untracked_0 μ := rfl
/-! BaggageHandlingModel.count(I)I -/
noncomputable def tX11_count_24 (s0 : Int32) (μ : zM) : Option (Option zV × zM) := fX11_count_24 [none, none] [.inl s0] μ
noncomputable def tX11_count_0 (a1 : Int32) (μ : zM) : Option (Option zV × zM) := fX11_count_0 [some (.inr (.inr (11, 0))), some (.inl a1)] [] μ
theorem eX11_count_24 (s0 : Int32) (μ : zM) : tX11_count_24 s0 μ = some (some (.inl s0), μ) := (zs3 _ _ _ _).trans (rfl)
theorem eX11_count_0 (a1 : Int32) (μ : zM) : tX11_count_0 a1 μ = zI (tX11_in_0 a1.toInt64 0 7 μ) fun v2 μ1 => zif (v2 = 0) (tX11_count_24 (-1) μ1) ((qI μ1 (65, 0) (3 + a1)).bind fun v3 => tX11_count_24 v3 μ1) := (zs3 _ _ _ _).trans (rfl)
theorem uX11_count (a1 : Int32) (μ : zM) : gX11_count [.inr (.inr (11, 0)), .inl a1] μ = tX11_count_0 a1 μ := rfl
/-! BaggageHandlingModel.isFor(II)Z -/
noncomputable def tX11_isFor_25 (s0 : Int32) (μ : zM) : Option (Option zV × zM) := fX11_isFor_25 [none, none, none, none] [.inl s0] μ
noncomputable def tX11_isFor_24 (μ : zM) : Option (Option zV × zM) := fX11_isFor_24 [none, none, none, none] [] μ
noncomputable def tX11_isFor_6 (a2 : Int32) (a3 : Int32) (μ : zM) : Option (Option zV × zM) := fX11_isFor_6 [some (.inr (.inr (11, 0))), none, some (.inl a2), some (.inl a3)] [] μ
noncomputable def tX11_isFor_0 (a1 : Int32) (a2 : Int32) (μ : zM) : Option (Option zV × zM) := fX11_isFor_0 [some (.inr (.inr (11, 0))), some (.inl a1), some (.inl a2), none] [] μ
theorem eX11_isFor_25 (s0 : Int32) (μ : zM) : tX11_isFor_25 s0 μ = zif (vp_nar .boolean s0 = s0) (some (some (.inl s0), μ)) none := (zs3 _ _ _ _).trans (rfl)
theorem eX11_isFor_24 (μ : zM) : tX11_isFor_24 μ = tX11_isFor_25 0 μ := (zs3 _ _ _ _).trans (rfl)
theorem eX11_isFor_6 (a2 : Int32) (a3 : Int32) (μ : zM) : tX11_isFor_6 a2 a3 μ = zif (a3 < 0) (tX11_isFor_24 μ) (zI (tX11_ofFlight_0 a3 1 μ) fun v2 μ1 => zif (v2 = a2) (tX11_isFor_25 1 μ1) (tX11_isFor_24 μ1)) := (zs3 _ _ _ _).trans (rfl)
theorem eX11_isFor_0 (a1 : Int32) (a2 : Int32) (μ : zM) : tX11_isFor_0 a1 a2 μ = zI (tX11_flightBy_0 a1 μ) fun v2 μ1 => tX11_isFor_6 a2 v2 μ1 := (zs3 _ _ _ _).trans (rfl)
theorem uX11_isFor (a1 : Int32) (a2 : Int32) (μ : zM) : gX11_isFor [.inr (.inr (11, 0)), .inl a1, .inl a2] μ = tX11_isFor_0 a1 a2 μ := rfl
/-! BaggageHandlingModel.misrouted(I)I -/
noncomputable def tX11_misrouted_82 (n15 : Nat) (a1 : Int32) (a2 : Int32) (a3 : Int32) (μ : zM) : Option (Option zV × zM) := fX11_misrouted_82 (fX11_misrouted_15 n15) [some (.inr (.inr (11, 0))), some (.inl a1), some (.inl a2), some (.inl a3)] [] μ
noncomputable def tX11_misrouted_79 (n15 : Nat) (a1 : Int32) (a2 : Int32) (a3 : Int32) (μ : zM) : Option (Option zV × zM) := fX11_misrouted_79 (fX11_misrouted_15 n15) [some (.inr (.inr (11, 0))), some (.inl a1), some (.inl a2), some (.inl a3)] [] μ
noncomputable def tX11_misrouted_77 (n15 : Nat) (a1 : Int32) (a3 : Int32) (s0 : Int32) (s1 : Int32) (μ : zM) : Option (Option zV × zM) := fX11_misrouted_77 (fX11_misrouted_15 n15) [some (.inr (.inr (11, 0))), some (.inl a1), none, some (.inl a3)] [.inl s1, .inl s0] μ
noncomputable def tX11_misrouted_76 (n15 : Nat) (a1 : Int32) (a3 : Int32) (s0 : Int32) (μ : zM) : Option (Option zV × zM) := fX11_misrouted_76 (fX11_misrouted_15 n15) [some (.inr (.inr (11, 0))), some (.inl a1), none, some (.inl a3)] [.inl s0] μ
noncomputable def tX11_misrouted_15 (n : Nat) (a1 : Int32) (a2 : Int32) (a3 : Int32) (μ : zM) : Option (Option zV × zM) := fX11_misrouted_15 n [some (.inr (.inr (11, 0))), some (.inl a1), some (.inl a2), some (.inl a3)] [] μ
noncomputable def tX11_misrouted_13 (a1 : Int32) (a2 : Int32) (μ : zM) : Option (Option zV × zM) := fX11_misrouted_13 [some (.inr (.inr (11, 0))), some (.inl a1), some (.inl a2), none] [] μ
noncomputable def tX11_misrouted_0 (a1 : Int32) (μ : zM) : Option (Option zV × zM) := fX11_misrouted_0 [some (.inr (.inr (11, 0))), some (.inl a1), none, none] [] μ
theorem eX11_misrouted_82 (n15 : Nat) (a1 : Int32) (a2 : Int32) (a3 : Int32) (μ : zM) : tX11_misrouted_82 n15 a1 a2 a3 μ = tX11_misrouted_15 n15 a1 a2 a3 μ := (zs3 _ _ _ _).trans (rfl)
theorem eX11_misrouted_79 (n15 : Nat) (a1 : Int32) (a2 : Int32) (a3 : Int32) (μ : zM) : tX11_misrouted_79 n15 a1 a2 a3 μ = tX11_misrouted_82 n15 a1 a2 (a3 + 1) μ := (zs3 _ _ _ _).trans (rfl)
theorem eX11_misrouted_77 (n15 : Nat) (a1 : Int32) (a3 : Int32) (s0 : Int32) (s1 : Int32) (μ : zM) : tX11_misrouted_77 n15 a1 a3 s0 s1 μ = tX11_misrouted_79 n15 a1 (s0 + s1) a3 μ := (zs3 _ _ _ _).trans (rfl)
theorem eX11_misrouted_76 (n15 : Nat) (a1 : Int32) (a3 : Int32) (s0 : Int32) (μ : zM) : tX11_misrouted_76 n15 a1 a3 s0 μ = tX11_misrouted_77 n15 a1 a3 s0 0 μ := (zs3 _ _ _ _).trans (rfl)
theorem eX11_misrouted_15 (a1 : Int32) (a2 : Int32) (a3 : Int32) (n : Nat) (μ : zM) : tX11_misrouted_15 (n + 1) a1 a2 a3 μ = (qI μ (65, 0) 1).bind fun v1 => zif (a3 < v1) (zI (tX11_isIn_0 a3 μ) fun v3 μ2 => zif (v3 = 0) (tX11_misrouted_76 n a1 a3 a2 μ2) (zI (tX11_ofBag_0 a3 1 μ2) fun v5 μ4 => zif (v5 = a1) ((qI μ4 (68, 0) a3).bind fun v6 => zI (tX11_isFor_0 v6 a1 μ4) fun v8 μ7 => zif (v8 = 0) ((qI μ7 (70, 0) a3).bind fun v9 => zI (tX11_isFor_0 v9 a1 μ7) fun v11 μ10 => zif (v11 = 0) (tX11_misrouted_77 n a1 a3 a2 1 μ10) (tX11_misrouted_76 n a1 a3 a2 μ10)) (tX11_misrouted_76 n a1 a3 a2 μ7)) (tX11_misrouted_76 n a1 a3 a2 μ4))) (some (some (.inl a2), μ)) := (zs3 _ _ _ _).trans (rfl)
theorem eX11_misrouted_13 (a1 : Int32) (a2 : Int32) (μ : zM) : tX11_misrouted_13 a1 a2 μ = tX11_misrouted_15 zN a1 a2 0 μ := (zs3 _ _ _ _).trans (rfl)
theorem eX11_misrouted_0 (a1 : Int32) (μ : zM) : tX11_misrouted_0 a1 μ = zI (tX11_isDevice_0 3 a1 μ) fun v2 μ1 => zif (v2 = 0) (some (some (.inl (-1)), μ1)) (tX11_misrouted_13 a1 0 μ1) := (zs3 _ _ _ _).trans (rfl)
theorem uX11_misrouted (a1 : Int32) (μ : zM) : gX11_misrouted [.inr (.inr (11, 0)), .inl a1] μ = tX11_misrouted_0 a1 μ := rfl
/-! BaggageHandlingModel.delivered(I)I -/
noncomputable def tX11_delivered_54 (n14 : Nat) (a1 : Int32) (a2 : Int32) (a3 : Int32) (μ : zM) : Option (Option zV × zM) := fX11_delivered_54 (fX11_delivered_14 n14) [some (.inr (.inr (11, 0))), some (.inl a1), some (.inl a2), some (.inl a3)] [] μ
noncomputable def tX11_delivered_51 (n14 : Nat) (a1 : Int32) (a2 : Int32) (a3 : Int32) (μ : zM) : Option (Option zV × zM) := fX11_delivered_51 (fX11_delivered_14 n14) [some (.inr (.inr (11, 0))), some (.inl a1), some (.inl a2), some (.inl a3)] [] μ
noncomputable def tX11_delivered_49 (n14 : Nat) (a1 : Int32) (a3 : Int32) (s0 : Int32) (s1 : Int32) (μ : zM) : Option (Option zV × zM) := fX11_delivered_49 (fX11_delivered_14 n14) [some (.inr (.inr (11, 0))), some (.inl a1), none, some (.inl a3)] [.inl s1, .inl s0] μ
noncomputable def tX11_delivered_48 (n14 : Nat) (a1 : Int32) (a3 : Int32) (s0 : Int32) (μ : zM) : Option (Option zV × zM) := fX11_delivered_48 (fX11_delivered_14 n14) [some (.inr (.inr (11, 0))), some (.inl a1), none, some (.inl a3)] [.inl s0] μ
noncomputable def tX11_delivered_14 (n : Nat) (a1 : Int32) (a2 : Int32) (a3 : Int32) (μ : zM) : Option (Option zV × zM) := fX11_delivered_14 n [some (.inr (.inr (11, 0))), some (.inl a1), some (.inl a2), some (.inl a3)] [] μ
noncomputable def tX11_delivered_12 (a1 : Int32) (a2 : Int32) (μ : zM) : Option (Option zV × zM) := fX11_delivered_12 [some (.inr (.inr (11, 0))), some (.inl a1), some (.inl a2), none] [] μ
noncomputable def tX11_delivered_0 (a1 : Int32) (μ : zM) : Option (Option zV × zM) := fX11_delivered_0 [some (.inr (.inr (11, 0))), some (.inl a1), none, none] [] μ
theorem eX11_delivered_54 (n14 : Nat) (a1 : Int32) (a2 : Int32) (a3 : Int32) (μ : zM) : tX11_delivered_54 n14 a1 a2 a3 μ = tX11_delivered_14 n14 a1 a2 a3 μ := (zs3 _ _ _ _).trans (rfl)
theorem eX11_delivered_51 (n14 : Nat) (a1 : Int32) (a2 : Int32) (a3 : Int32) (μ : zM) : tX11_delivered_51 n14 a1 a2 a3 μ = tX11_delivered_54 n14 a1 a2 (a3 + 1) μ := (zs3 _ _ _ _).trans (rfl)
theorem eX11_delivered_49 (n14 : Nat) (a1 : Int32) (a3 : Int32) (s0 : Int32) (s1 : Int32) (μ : zM) : tX11_delivered_49 n14 a1 a3 s0 s1 μ = tX11_delivered_51 n14 a1 (s0 + s1) a3 μ := (zs3 _ _ _ _).trans (rfl)
theorem eX11_delivered_48 (n14 : Nat) (a1 : Int32) (a3 : Int32) (s0 : Int32) (μ : zM) : tX11_delivered_48 n14 a1 a3 s0 μ = tX11_delivered_49 n14 a1 a3 s0 0 μ := (zs3 _ _ _ _).trans (rfl)
theorem eX11_delivered_14 (a1 : Int32) (a2 : Int32) (a3 : Int32) (n : Nat) (μ : zM) : tX11_delivered_14 (n + 1) a1 a2 a3 μ = (qI μ (65, 0) 1).bind fun v1 => zif (a3 < v1) (zI (tX11_isIn_0 a3 μ) fun v3 μ2 => zif (v3 = 0) (tX11_delivered_48 n a1 a3 a2 μ2) (zI (tX11_ofBag_0 a3 7 μ2) fun v5 μ4 => zif (v5 = a1) (tX11_delivered_49 n a1 a3 a2 1 μ4) (tX11_delivered_48 n a1 a3 a2 μ4))) (some (some (.inl a2), μ)) := (zs3 _ _ _ _).trans (rfl)
theorem eX11_delivered_12 (a1 : Int32) (a2 : Int32) (μ : zM) : tX11_delivered_12 a1 a2 μ = tX11_delivered_14 zN a1 a2 0 μ := (zs3 _ _ _ _).trans (rfl)
theorem eX11_delivered_0 (a1 : Int32) (μ : zM) : tX11_delivered_0 a1 μ = zI (tX11_isFlight_0 a1 μ) fun v2 μ1 => zif (v2 = 0) (some (some (.inl (-1)), μ1)) (tX11_delivered_12 a1 0 μ1) := (zs3 _ _ _ _).trans (rfl)
theorem uX11_delivered (a1 : Int32) (μ : zM) : gX11_delivered [.inr (.inr (11, 0)), .inl a1] μ = tX11_delivered_0 a1 μ := rfl
