/-! BaggageHandlingModel.begins()V -/
noncomputable def tX11_begins_67 (n47 : Nat) (a1 : Int32) (μ : zM) : Option (Option zV × zM) := fX11_begins_67 (fX11_begins_47 n47) [some (.inr (.inr (11, 0))), some (.inl a1)] [] μ
noncomputable def tX11_begins_47 (n : Nat) (a1 : Int32) (μ : zM) : Option (Option zV × zM) := fX11_begins_47 n [some (.inr (.inr (11, 0))), some (.inl a1)] [] μ
noncomputable def tX11_begins_42 (n24 : Nat) (a1 : Int32) (μ : zM) : Option (Option zV × zM) := fX11_begins_42 (fX11_begins_24 n24) [some (.inr (.inr (11, 0))), some (.inl a1)] [] μ
noncomputable def tX11_begins_24 (n : Nat) (a1 : Int32) (μ : zM) : Option (Option zV × zM) := fX11_begins_24 n [some (.inr (.inr (11, 0))), some (.inl a1)] [] μ
noncomputable def tX11_begins_19 (n2 : Nat) (a1 : Int32) (μ : zM) : Option (Option zV × zM) := fX11_begins_19 (fX11_begins_2 n2) [some (.inr (.inr (11, 0))), some (.inl a1)] [] μ
noncomputable def tX11_begins_2 (n : Nat) (a1 : Int32) (μ : zM) : Option (Option zV × zM) := fX11_begins_2 n [some (.inr (.inr (11, 0))), some (.inl a1)] [] μ
noncomputable def tX11_begins_0 (μ : zM) : Option (Option zV × zM) := fX11_begins_0 [some (.inr (.inr (11, 0))), none] [] μ
theorem eX11_begins_67 (n47 : Nat) (a1 : Int32) (μ : zM) : tX11_begins_67 n47 a1 μ = tX11_begins_47 n47 a1 μ := (zs3 _ _ _ _).trans (rfl)
theorem eX11_begins_47 (a1 : Int32) (n : Nat) (μ : zM) : tX11_begins_47 (n + 1) a1 μ = zif (a1 < 60) ((wI μ (65, 0) (90 + a1) (-2)).bind fun μ1 => tX11_begins_67 n (a1 + 1) μ1) (zlet (mS μ 11 0 14 0) fun μ2 => some (none, μ2)) := (zs3 _ _ _ _).trans (rfl)
theorem eX11_begins_42 (n24 : Nat) (a1 : Int32) (μ : zM) : tX11_begins_42 n24 a1 μ = tX11_begins_24 n24 a1 μ := (zs3 _ _ _ _).trans (rfl)
theorem eX11_begins_24 (a1 : Int32) (n : Nat) (μ : zM) : tX11_begins_24 (n + 1) a1 μ = zif (a1 < 4) ((wI μ (65, 0) (11 + a1) 1).bind fun μ1 => tX11_begins_42 n (a1 + 1) μ1) (tX11_begins_47 zN 0 μ) := (zs3 _ _ _ _).trans (rfl)
theorem eX11_begins_19 (n2 : Nat) (a1 : Int32) (μ : zM) : tX11_begins_19 n2 a1 μ = tX11_begins_2 n2 a1 μ := (zs3 _ _ _ _).trans (rfl)
theorem eX11_begins_2 (a1 : Int32) (n : Nat) (μ : zM) : tX11_begins_2 (n + 1) a1 μ = zif (a1 < 1200) ((wI μ (65, 0) a1 0).bind fun μ1 => tX11_begins_19 n (a1 + 1) μ1) (tX11_begins_24 zN 0 μ) := (zs3 _ _ _ _).trans (rfl)
theorem eX11_begins_0 (μ : zM) : tX11_begins_0 μ = tX11_begins_2 zN 0 μ := (zs3 _ _ _ _).trans (rfl)
theorem uX11_begins (μ : zM) : gX11_begins [.inr (.inr (11, 0))] μ = tX11_begins_0 μ := rfl
/-! BaggageHandlingModel.load()I -/
noncomputable def tX11_load_48 (n26 : Nat) (a1 : Int32) (μ : zM) : Option (Option zV × zM) := fX11_load_48 (fX11_load_26 n26) [some (.inr (.inr (11, 0))), some (.inl a1)] [] μ
noncomputable def tX11_load_26 (n : Nat) (a1 : Int32) (μ : zM) : Option (Option zV × zM) := fX11_load_26 n [some (.inr (.inr (11, 0))), some (.inl a1)] [] μ
noncomputable def tX11_load_0 (μ : zM) : Option (Option zV × zM) := fX11_load_0 [some (.inr (.inr (11, 0))), none] [] μ
theorem eX11_load_48 (n26 : Nat) (a1 : Int32) (μ : zM) : tX11_load_48 n26 a1 μ = tX11_load_26 n26 a1 μ := (zs3 _ _ _ _).trans (rfl)
theorem eX11_load_26 (a1 : Int32) (n : Nat) (μ : zM) : tX11_load_26 (n + 1) a1 μ = zif (a1 < 400) ((qI μ (64, 0) a1).bind fun v1 => (wI μ (63, 0) a1 v1).bind fun μ2 => tX11_load_48 n (a1 + 1) μ2) (zU (tX11_begins_0 μ) fun μ3 => (qI μ3 (63, 0) 0).bind fun v4 => some (some (.inl v4), μ3)) := (zs3 _ _ _ _).trans (rfl)
theorem eX11_load_0 (μ : zM) : tX11_load_0 μ = zlet (mS μ 11 0 2 (-2)) fun μ1 => zU (tX11_reads_0 μ1) fun μ2 => zlet (mS μ2 11 0 1 0) fun μ3 => zif (μ3.1 11 0 10 = 0) (some (some (.inl (-1)), μ3)) (tX11_load_26 zN 0 μ3) := (zs3 _ _ _ _).trans (rfl)
theorem uX11_load (μ : zM) : gX11_load [.inr (.inr (11, 0))] μ = tX11_load_0 μ := rfl
/-! BaggageHandlingModel.errorPosition()I -/
noncomputable def tX11_errorPosition_0 (μ : zM) : Option (Option zV × zM) := fX11_errorPosition_0 [some (.inr (.inr (11, 0)))] [] μ
theorem eX11_errorPosition_0 (μ : zM) : tX11_errorPosition_0 μ = some (some (.inl (μ.1 11 0 2)), μ) := (zs3 _ _ _ _).trans (rfl)
theorem uX11_errorPosition (μ : zM) : gX11_errorPosition [.inr (.inr (11, 0))] μ = tX11_errorPosition_0 μ := rfl
/-! BaggageHandlingModel.many(I)I -/
noncomputable def tX11_many_0 (a1 : Int32) (μ : zM) : Option (Option zV × zM) := fX11_many_0 [some (.inr (.inr (11, 0))), some (.inl a1)] [] μ
theorem eX11_many_0 (a1 : Int32) (μ : zM) : tX11_many_0 a1 μ = (qI μ (63, 0) (10 + a1)).bind fun v1 => some (some (.inl v1), μ) := (zs3 _ _ _ _).trans (rfl)
theorem uX11_many (a1 : Int32) (μ : zM) : gX11_many [.inr (.inr (11, 0)), .inl a1] μ = tX11_many_0 a1 μ := rfl
/-! BaggageHandlingModel.isDevice(II)Z -/
noncomputable def tX11_isDevice_0 (a1 : Int32) (a2 : Int32) (μ : zM) : Option (Option zV × zM) := fX11_isDevice_0 [some (.inr (.inr (11, 0))), some (.inl a1), some (.inl a2)] [] μ
theorem eX11_isDevice_0 (a1 : Int32) (a2 : Int32) (μ : zM) : tX11_isDevice_0 a1 a2 μ = zI (tX11_many_0 a1 μ) fun v2 μ1 => zI (tX11_in_0 a2.toInt64 0 ((v2 - 1).toInt64) μ1) fun v4 μ3 => zif (vp_nar .boolean v4 = v4) (some (some (.inl v4), μ3)) none := (zs3 _ _ _ _).trans (rfl)
theorem uX11_isDevice (a1 : Int32) (a2 : Int32) (μ : zM) : gX11_isDevice [.inr (.inr (11, 0)), .inl a1, .inl a2] μ = tX11_isDevice_0 a1 a2 μ := rfl
/-! BaggageHandlingModel.ofDevice(III)I -/
noncomputable def tX11_ofDevice_0 (a1 : Int32) (a2 : Int32) (a3 : Int32) (μ : zM) : Option (Option zV × zM) := fX11_ofDevice_0 [some (.inr (.inr (11, 0))), some (.inl a1), some (.inl a2), some (.inl a3)] [] μ
theorem eX11_ofDevice_0 (a1 : Int32) (a2 : Int32) (a3 : Int32) (μ : zM) : tX11_ofDevice_0 a1 a2 a3 μ = (qI μ (63, 0) ((340 + (6 * a1)) + a2)).bind fun v1 => (qI μ (63, 0) ((140 + (8 * v1)) + a3)).bind fun v2 => some (some (.inl v2), μ) := (zs3 _ _ _ _).trans (rfl)
theorem uX11_ofDevice (a1 : Int32) (a2 : Int32) (a3 : Int32) (μ : zM) : gX11_ofDevice [.inr (.inr (11, 0)), .inl a1, .inl a2, .inl a3] μ = tX11_ofDevice_0 a1 a2 a3 μ := rfl
/-! BaggageHandlingModel.isPosition(I)Z -/
noncomputable def tX11_isPosition_0 (a1 : Int32) (μ : zM) : Option (Option zV × zM) := fX11_isPosition_0 [some (.inr (.inr (11, 0))), some (.inl a1)] [] μ
theorem eX11_isPosition_0 (a1 : Int32) (μ : zM) : tX11_isPosition_0 a1 μ = (qI μ (63, 0) 0).bind fun v1 => zI (tX11_in_0 a1.toInt64 0 ((v1 - 1).toInt64) μ) fun v3 μ2 => zif (vp_nar .boolean v3 = v3) (some (some (.inl v3), μ2)) none := (zs3 _ _ _ _).trans (rfl)
theorem uX11_isPosition (a1 : Int32) (μ : zM) : gX11_isPosition [.inr (.inr (11, 0)), .inl a1] μ = tX11_isPosition_0 a1 μ := rfl
/-! BaggageHandlingModel.isBag(I)Z -/
noncomputable def tX11_isBag_0 (a1 : Int32) (μ : zM) : Option (Option zV × zM) := fX11_isBag_0 [some (.inr (.inr (11, 0))), some (.inl a1)] [] μ
theorem eX11_isBag_0 (a1 : Int32) (μ : zM) : tX11_isBag_0 a1 μ = (qI μ (65, 0) 1).bind fun v1 => zI (tX11_in_0 a1.toInt64 0 ((v1 - 1).toInt64) μ) fun v3 μ2 => zif (vp_nar .boolean v3 = v3) (some (some (.inl v3), μ2)) none := (zs3 _ _ _ _).trans (rfl)
theorem uX11_isBag (a1 : Int32) (μ : zM) : gX11_isBag [.inr (.inr (11, 0)), .inl a1] μ = tX11_isBag_0 a1 μ := rfl
/-! BaggageHandlingModel.isFlight(I)Z -/
noncomputable def tX11_isFlight_0 (a1 : Int32) (μ : zM) : Option (Option zV × zM) := fX11_isFlight_0 [some (.inr (.inr (11, 0))), some (.inl a1)] [] μ
theorem eX11_isFlight_0 (a1 : Int32) (μ : zM) : tX11_isFlight_0 a1 μ = (qI μ (63, 0) 4).bind fun v1 => zI (tX11_in_0 a1.toInt64 0 ((v1 - 1).toInt64) μ) fun v3 μ2 => zif (vp_nar .boolean v3 = v3) (some (some (.inl v3), μ2)) none := (zs3 _ _ _ _).trans (rfl)
theorem uX11_isFlight (a1 : Int32) (μ : zM) : gX11_isFlight [.inr (.inr (11, 0)), .inl a1] μ = tX11_isFlight_0 a1 μ := rfl
/-! BaggageHandlingModel.ofFlight(II)I -/
noncomputable def tX11_ofFlight_0 (a1 : Int32) (a2 : Int32) (μ : zM) : Option (Option zV × zM) := fX11_ofFlight_0 [some (.inr (.inr (11, 0))), some (.inl a1), some (.inl a2)] [] μ
theorem eX11_ofFlight_0 (a1 : Int32) (a2 : Int32) (μ : zM) : tX11_ofFlight_0 a1 a2 μ = (qI μ (63, 0) ((290 + (4 * a1)) + a2)).bind fun v1 => some (some (.inl v1), μ) := (zs3 _ _ _ _).trans (rfl)
theorem uX11_ofFlight (a1 : Int32) (a2 : Int32) (μ : zM) : gX11_ofFlight [.inr (.inr (11, 0)), .inl a1, .inl a2] μ = tX11_ofFlight_0 a1 a2 μ := rfl
/-! BaggageHandlingModel.ofBag(II)I -/
noncomputable def tX11_ofBag_0 (a1 : Int32) (a2 : Int32) (μ : zM) : Option (Option zV × zM) := fX11_ofBag_0 [some (.inr (.inr (11, 0))), some (.inl a1), some (.inl a2)] [] μ
theorem eX11_ofBag_0 (a1 : Int32) (a2 : Int32) (μ : zM) : tX11_ofBag_0 a1 a2 μ = (qI μ (65, 0) ((400 + (8 * a1)) + a2)).bind fun v1 => some (some (.inl v1), μ) := (zs3 _ _ _ _).trans (rfl)
theorem uX11_ofBag (a1 : Int32) (a2 : Int32) (μ : zM) : gX11_ofBag [.inr (.inr (11, 0)), .inl a1, .inl a2] μ = tX11_ofBag_0 a1 a2 μ := rfl
/-! BaggageHandlingModel.flightIs(I)I -/
noncomputable def tX11_flightIs_36 (s0 : Int32) (μ : zM) : Option (Option zV × zM) := fX11_flightIs_36 [none, none, none] [.inl s0] μ
noncomputable def tX11_flightIs_7 (a1 : Int32) (a2 : Int32) (μ : zM) : Option (Option zV × zM) := fX11_flightIs_7 [some (.inr (.inr (11, 0))), some (.inl a1), some (.inl a2)] [] μ
noncomputable def tX11_flightIs_0 (a1 : Int32) (μ : zM) : Option (Option zV × zM) := fX11_flightIs_0 [some (.inr (.inr (11, 0))), some (.inl a1), none] [] μ
theorem eX11_flightIs_36 (s0 : Int32) (μ : zM) : tX11_flightIs_36 s0 μ = some (some (.inl s0), μ) := (zs3 _ _ _ _).trans (rfl)
theorem eX11_flightIs_7 (a1 : Int32) (a2 : Int32) (μ : zM) : tX11_flightIs_7 a1 a2 μ = zI (tX11_ofFlight_0 a1 2 μ) fun v2 μ1 => zif (a2 < v2) (tX11_flightIs_36 0 μ1) (zI (tX11_ofFlight_0 a1 3 μ1) fun v4 μ3 => zif (a2 < v4) (tX11_flightIs_36 1 μ3) (tX11_flightIs_36 2 μ3)) := (zs3 _ _ _ _).trans (rfl)
theorem eX11_flightIs_0 (a1 : Int32) (μ : zM) : tX11_flightIs_0 a1 μ = (qI μ (65, 0) 0).bind fun v1 => tX11_flightIs_7 a1 v1 μ := (zs3 _ _ _ _).trans (rfl)
theorem uX11_flightIs (a1 : Int32) (μ : zM) : gX11_flightIs [.inr (.inr (11, 0)), .inl a1] μ = tX11_flightIs_0 a1 μ := rfl
/-! BaggageHandlingModel.flightBy(I)I -/
noncomputable def tX11_flightBy_38 (n2 : Nat) (a1 : Int32) (a2 : Int32) (μ : zM) : Option (Option zV × zM) := fX11_flightBy_38 (fX11_flightBy_2 n2) [some (.inr (.inr (11, 0))), some (.inl a1), some (.inl a2)] [] μ
noncomputable def tX11_flightBy_35 (n2 : Nat) (a1 : Int32) (a2 : Int32) (μ : zM) : Option (Option zV × zM) := fX11_flightBy_35 (fX11_flightBy_2 n2) [some (.inr (.inr (11, 0))), some (.inl a1), some (.inl a2)] [] μ
noncomputable def tX11_flightBy_2 (n : Nat) (a1 : Int32) (a2 : Int32) (μ : zM) : Option (Option zV × zM) := fX11_flightBy_2 n [some (.inr (.inr (11, 0))), some (.inl a1), some (.inl a2)] [] μ
noncomputable def tX11_flightBy_0 (a1 : Int32) (μ : zM) : Option (Option zV × zM) := fX11_flightBy_0 [some (.inr (.inr (11, 0))), some (.inl a1), none] [] μ
theorem eX11_flightBy_38 (n2 : Nat) (a1 : Int32) (a2 : Int32) (μ : zM) : tX11_flightBy_38 n2 a1 a2 μ = tX11_flightBy_2 n2 a1 a2 μ := (zs3 _ _ _ _).trans (rfl)
theorem eX11_flightBy_35 (n2 : Nat) (a1 : Int32) (a2 : Int32) (μ : zM) : tX11_flightBy_35 n2 a1 a2 μ = tX11_flightBy_38 n2 a1 (a2 + 1) μ := (zs3 _ _ _ _).trans (rfl)
theorem eX11_flightBy_2 (a1 : Int32) (a2 : Int32) (n : Nat) (μ : zM) : tX11_flightBy_2 (n + 1) a1 a2 μ = (qI μ (63, 0) 4).bind fun v1 => zif (a2 < v1) (zif (a1 < 1000) (tX11_flightBy_35 n a1 a2 μ) (zif ((1000 : Int32) = 0) none (zI (tX11_ofFlight_0 a2 0 μ) fun v3 μ2 => zif (a1 / 1000 = v3) (some (some (.inl a2), μ2)) (tX11_flightBy_35 n a1 a2 μ2)))) (some (some (.inl (-2)), μ)) := (zs3 _ _ _ _).trans (rfl)
theorem eX11_flightBy_0 (a1 : Int32) (μ : zM) : tX11_flightBy_0 a1 μ = tX11_flightBy_2 zN a1 0 μ := (zs3 _ _ _ _).trans (rfl)
theorem uX11_flightBy (a1 : Int32) (μ : zM) : gX11_flightBy [.inr (.inr (11, 0)), .inl a1] μ = tX11_flightBy_0 a1 μ := rfl
/-! BaggageHandlingModel.isGood(I)Z -/
noncomputable def tX11_isGood_24 (s0 : Int32) (μ : zM) : Option (Option zV × zM) := fX11_isGood_24 [none, none, none] [.inl s0] μ
noncomputable def tX11_isGood_23 (μ : zM) : Option (Option zV × zM) := fX11_isGood_23 [none, none, none] [] μ
noncomputable def tX11_isGood_6 (a2 : Int32) (μ : zM) : Option (Option zV × zM) := fX11_isGood_6 [some (.inr (.inr (11, 0))), none, some (.inl a2)] [] μ
noncomputable def tX11_isGood_0 (a1 : Int32) (μ : zM) : Option (Option zV × zM) := fX11_isGood_0 [some (.inr (.inr (11, 0))), some (.inl a1), none] [] μ
theorem eX11_isGood_24 (s0 : Int32) (μ : zM) : tX11_isGood_24 s0 μ = zif (vp_nar .boolean s0 = s0) (some (some (.inl s0), μ)) none := (zs3 _ _ _ _).trans (rfl)
theorem eX11_isGood_23 (μ : zM) : tX11_isGood_23 μ = tX11_isGood_24 0 μ := (zs3 _ _ _ _).trans (rfl)
theorem eX11_isGood_6 (a2 : Int32) (μ : zM) : tX11_isGood_6 a2 μ = zif (a2 < 0) (tX11_isGood_23 μ) (zI (tX11_flightIs_0 a2 μ) fun v2 μ1 => zif (v2 < 2) (tX11_isGood_24 1 μ1) (tX11_isGood_23 μ1)) := (zs3 _ _ _ _).trans (rfl)
theorem eX11_isGood_0 (a1 : Int32) (μ : zM) : tX11_isGood_0 a1 μ = zI (tX11_flightBy_0 a1 μ) fun v2 μ1 => tX11_isGood_6 v2 μ1 := (zs3 _ _ _ _).trans (rfl)
theorem uX11_isGood (a1 : Int32) (μ : zM) : gX11_isGood [.inr (.inr (11, 0)), .inl a1] μ = tX11_isGood_0 a1 μ := rfl
/-! BaggageHandlingModel.properOf(I)I -/
noncomputable def tX11_properOf_46 (s0 : Int32) (μ : zM) : Option (Option zV × zM) := fX11_properOf_46 [none, none] [.inl s0] μ
noncomputable def tX11_properOf_0 (a1 : Int32) (μ : zM) : Option (Option zV × zM) := fX11_properOf_0 [some (.inr (.inr (11, 0))), some (.inl a1)] [] μ
theorem eX11_properOf_46 (s0 : Int32) (μ : zM) : tX11_properOf_46 s0 μ = some (some (.inl s0), μ) := (zs3 _ _ _ _).trans (rfl)
theorem eX11_properOf_0 (a1 : Int32) (μ : zM) : tX11_properOf_0 a1 μ = (qI μ (68, 0) a1).bind fun v1 => zI (tX11_isGood_0 v1 μ) fun v3 μ2 => zif (v3 = 0) ((qI μ2 (70, 0) a1).bind fun v4 => zI (tX11_isGood_0 v4 μ2) fun v6 μ5 => zif (v6 = 0) (tX11_properOf_46 (-2) μ5) ((qI μ5 (70, 0) a1).bind fun v7 => tX11_properOf_46 v7 μ5)) ((qI μ2 (68, 0) a1).bind fun v8 => tX11_properOf_46 v8 μ2) := (zs3 _ _ _ _).trans (rfl)
theorem uX11_properOf (a1 : Int32) (μ : zM) : gX11_properOf [.inr (.inr (11, 0)), .inl a1] μ = tX11_properOf_0 a1 μ := rfl
/-! BaggageHandlingModel.destinationAt(I)I -/
noncomputable def tX11_destinationAt_53 (μ : zM) : Option (Option zV × zM) := fX11_destinationAt_53 [none, none, none, none] [] μ
noncomputable def tX11_destinationAt_90 (μ : zM) : Option (Option zV × zM) := fX11_destinationAt_90 [none, none, none, none] [] μ
noncomputable def tX11_destinationAt_114 (s0 : Int32) (μ : zM) : Option (Option zV × zM) := fX11_destinationAt_114 [none, none, none, none] [.inl s0] μ
noncomputable def tX11_destinationAt_77 (a3 : Int32) (μ : zM) : Option (Option zV × zM) := fX11_destinationAt_77 [some (.inr (.inr (11, 0))), none, none, some (.inl a3)] [] μ
noncomputable def tX11_destinationAt_30 (a1 : Int32) (a2 : Int32) (μ : zM) : Option (Option zV × zM) := fX11_destinationAt_30 [some (.inr (.inr (11, 0))), some (.inl a1), some (.inl a2), none] [] μ
noncomputable def tX11_destinationAt_11 (a1 : Int32) (a2 : Int32) (μ : zM) : Option (Option zV × zM) := fX11_destinationAt_11 [some (.inr (.inr (11, 0))), some (.inl a1), some (.inl a2), none] [] μ
noncomputable def tX11_destinationAt_0 (a1 : Int32) (μ : zM) : Option (Option zV × zM) := fX11_destinationAt_0 [some (.inr (.inr (11, 0))), some (.inl a1), none, none] [] μ
theorem eX11_destinationAt_53 (μ : zM) : tX11_destinationAt_53 μ = some (some (.inl 6), μ) := (zs3 _ _ _ _).trans (rfl)
theorem eX11_destinationAt_90 (μ : zM) : tX11_destinationAt_90 μ = some (some (.inl 6), μ) := (zs3 _ _ _ _).trans (rfl)
theorem eX11_destinationAt_114 (s0 : Int32) (μ : zM) : tX11_destinationAt_114 s0 μ = some (some (.inl s0), μ) := (zs3 _ _ _ _).trans (rfl)
theorem eX11_destinationAt_77 (a3 : Int32) (μ : zM) : tX11_destinationAt_77 a3 μ = zif (a3 < 0) (tX11_destinationAt_90 μ) (zI (tX11_flightIs_0 a3 μ) fun v2 μ1 => zif (v2 = 2) (tX11_destinationAt_90 μ1) (zI (tX11_flightIs_0 a3 μ1) fun v4 μ3 => zif (v4 = 0) (tX11_destinationAt_114 5 μ3) (zI (tX11_ofFlight_0 a3 1 μ3) fun v6 μ5 => tX11_destinationAt_114 (10 + v6) μ5))) := (zs3 _ _ _ _).trans (rfl)
theorem eX11_destinationAt_30 (a1 : Int32) (a2 : Int32) (μ : zM) : tX11_destinationAt_30 a1 a2 μ = (qI μ (65, 0) (330 + a1)).bind fun v1 => (qI μ (63, 0) 3).bind fun v2 => zif (v2 < v1) (tX11_destinationAt_53 μ) (zif (0 < a2) ((qI μ (65, 0) (270 + a1)).bind fun v3 => zif (v3 = 0) (some (some (.inl 4), μ)) (zI (tX11_flightBy_0 a2 μ) fun v5 μ4 => tX11_destinationAt_77 v5 μ4)) (tX11_destinationAt_53 μ)) := (zs3 _ _ _ _).trans (rfl)
theorem eX11_destinationAt_11 (a1 : Int32) (a2 : Int32) (μ : zM) : tX11_destinationAt_11 a1 a2 μ = (qI μ (65, 0) (330 + a1)).bind fun v1 => zif (v1 = 0) (zif (a2 = 0) (some (some (.inl 0), μ)) (tX11_destinationAt_30 a1 a2 μ)) (tX11_destinationAt_30 a1 a2 μ) := (zs3 _ _ _ _).trans (rfl)
theorem eX11_destinationAt_0 (a1 : Int32) (μ : zM) : tX11_destinationAt_0 a1 μ = (qI μ (65, 0) (210 + a1)).bind fun v1 => tX11_destinationAt_11 a1 v1 μ := (zs3 _ _ _ _).trans (rfl)
theorem uX11_destinationAt (a1 : Int32) (μ : zM) : gX11_destinationAt [.inr (.inr (11, 0)), .inl a1] μ = tX11_destinationAt_0 a1 μ := rfl
/-! BaggageHandlingModel.manyIn(II)I -/
noncomputable def tX11_manyIn_49 (n5 : Nat) (a1 : Int32) (a2 : Int32) (a3 : Int32) (a4 : Int32) (μ : zM) : Option (Option zV × zM) := fX11_manyIn_49 (fX11_manyIn_5 n5) [some (.inr (.inr (11, 0))), some (.inl a1), some (.inl a2), some (.inl a3), some (.inl a4)] [] μ
noncomputable def tX11_manyIn_46 (n5 : Nat) (a1 : Int32) (a2 : Int32) (a3 : Int32) (a4 : Int32) (μ : zM) : Option (Option zV × zM) := fX11_manyIn_46 (fX11_manyIn_5 n5) [some (.inr (.inr (11, 0))), some (.inl a1), some (.inl a2), some (.inl a3), some (.inl a4)] [] μ
noncomputable def tX11_manyIn_44 (n5 : Nat) (a1 : Int32) (a2 : Int32) (a4 : Int32) (s0 : Int32) (s1 : Int32) (μ : zM) : Option (Option zV × zM) := fX11_manyIn_44 (fX11_manyIn_5 n5) [some (.inr (.inr (11, 0))), some (.inl a1), some (.inl a2), none, some (.inl a4)] [.inl s1, .inl s0] μ
noncomputable def tX11_manyIn_43 (n5 : Nat) (a1 : Int32) (a2 : Int32) (a4 : Int32) (s0 : Int32) (μ : zM) : Option (Option zV × zM) := fX11_manyIn_43 (fX11_manyIn_5 n5) [some (.inr (.inr (11, 0))), some (.inl a1), some (.inl a2), none, some (.inl a4)] [.inl s0] μ
noncomputable def tX11_manyIn_5 (n : Nat) (a1 : Int32) (a2 : Int32) (a3 : Int32) (a4 : Int32) (μ : zM) : Option (Option zV × zM) := fX11_manyIn_5 n [some (.inr (.inr (11, 0))), some (.inl a1), some (.inl a2), some (.inl a3), some (.inl a4)] [] μ
noncomputable def tX11_manyIn_2 (a1 : Int32) (a2 : Int32) (a3 : Int32) (μ : zM) : Option (Option zV × zM) := fX11_manyIn_2 [some (.inr (.inr (11, 0))), some (.inl a1), some (.inl a2), some (.inl a3), none] [] μ
noncomputable def tX11_manyIn_0 (a1 : Int32) (a2 : Int32) (μ : zM) : Option (Option zV × zM) := fX11_manyIn_0 [some (.inr (.inr (11, 0))), some (.inl a1), some (.inl a2), none, none] [] μ
theorem eX11_manyIn_49 (n5 : Nat) (a1 : Int32) (a2 : Int32) (a3 : Int32) (a4 : Int32) (μ : zM) : tX11_manyIn_49 n5 a1 a2 a3 a4 μ = tX11_manyIn_5 n5 a1 a2 a3 a4 μ := (zs3 _ _ _ _).trans (rfl)
theorem eX11_manyIn_46 (n5 : Nat) (a1 : Int32) (a2 : Int32) (a3 : Int32) (a4 : Int32) (μ : zM) : tX11_manyIn_46 n5 a1 a2 a3 a4 μ = tX11_manyIn_49 n5 a1 a2 a3 (a4 + 1) μ := (zs3 _ _ _ _).trans (rfl)
theorem eX11_manyIn_44 (n5 : Nat) (a1 : Int32) (a2 : Int32) (a4 : Int32) (s0 : Int32) (s1 : Int32) (μ : zM) : tX11_manyIn_44 n5 a1 a2 a4 s0 s1 μ = tX11_manyIn_46 n5 a1 a2 (s0 + s1) a4 μ := (zs3 _ _ _ _).trans (rfl)
theorem eX11_manyIn_43 (n5 : Nat) (a1 : Int32) (a2 : Int32) (a4 : Int32) (s0 : Int32) (μ : zM) : tX11_manyIn_43 n5 a1 a2 a4 s0 μ = tX11_manyIn_44 n5 a1 a2 a4 s0 0 μ := (zs3 _ _ _ _).trans (rfl)
theorem eX11_manyIn_5 (a1 : Int32) (a2 : Int32) (a3 : Int32) (a4 : Int32) (n : Nat) (μ : zM) : tX11_manyIn_5 (n + 1) a1 a2 a3 a4 μ = (qI μ (65, 0) 1).bind fun v1 => zif (a4 < v1) (zI (tX11_ofBag_0 a4 0 μ) fun v3 μ2 => zif (v3 = a1) (zI (tX11_ofBag_0 a4 1 μ2) fun v5 μ4 => zif (v5 = a2) (tX11_manyIn_44 n a1 a2 a4 a3 1 μ4) (tX11_manyIn_43 n a1 a2 a4 a3 μ4)) (tX11_manyIn_43 n a1 a2 a4 a3 μ2)) (some (some (.inl a3), μ)) := (zs3 _ _ _ _).trans (rfl)
theorem eX11_manyIn_2 (a1 : Int32) (a2 : Int32) (a3 : Int32) (μ : zM) : tX11_manyIn_2 a1 a2 a3 μ = tX11_manyIn_5 zN a1 a2 a3 0 μ := (zs3 _ _ _ _).trans (rfl)
theorem eX11_manyIn_0 (a1 : Int32) (a2 : Int32) (μ : zM) : tX11_manyIn_0 a1 a2 μ = tX11_manyIn_2 a1 a2 0 μ := (zs3 _ _ _ _).trans (rfl)
theorem uX11_manyIn (a1 : Int32) (a2 : Int32) (μ : zM) : gX11_manyIn [.inr (.inr (11, 0)), .inl a1, .inl a2] μ = tX11_manyIn_0 a1 a2 μ := rfl
/-! BaggageHandlingModel.firstIn(II)I -/
noncomputable def tX11_firstIn_77 (n6 : Nat) (a1 : Int32) (a2 : Int32) (a3 : Int32) (a4 : Int32) (μ : zM) : Option (Option zV × zM) := fX11_firstIn_77 (fX11_firstIn_6 n6) [some (.inr (.inr (11, 0))), some (.inl a1), some (.inl a2), some (.inl a3), some (.inl a4), none] [] μ
noncomputable def tX11_firstIn_74 (n6 : Nat) (a1 : Int32) (a2 : Int32) (a3 : Int32) (a4 : Int32) (μ : zM) : Option (Option zV × zM) := fX11_firstIn_74 (fX11_firstIn_6 n6) [some (.inr (.inr (11, 0))), some (.inl a1), some (.inl a2), some (.inl a3), some (.inl a4), none] [] μ
noncomputable def tX11_firstIn_71 (n6 : Nat) (a1 : Int32) (a2 : Int32) (a4 : Int32) (μ : zM) : Option (Option zV × zM) := fX11_firstIn_71 (fX11_firstIn_6 n6) [some (.inr (.inr (11, 0))), some (.inl a1), some (.inl a2), none, some (.inl a4), none] [] μ
noncomputable def tX11_firstIn_46 (n6 : Nat) (a1 : Int32) (a2 : Int32) (a3 : Int32) (a4 : Int32) (a5 : Int32) (μ : zM) : Option (Option zV × zM) := fX11_firstIn_46 (fX11_firstIn_6 n6) [some (.inr (.inr (11, 0))), some (.inl a1), some (.inl a2), some (.inl a3), some (.inl a4), some (.inl a5)] [] μ
noncomputable def tX11_firstIn_44 (n6 : Nat) (a1 : Int32) (a2 : Int32) (a3 : Int32) (a4 : Int32) (s0 : Int32) (μ : zM) : Option (Option zV × zM) := fX11_firstIn_44 (fX11_firstIn_6 n6) [some (.inr (.inr (11, 0))), some (.inl a1), some (.inl a2), some (.inl a3), some (.inl a4), none] [.inl s0] μ
noncomputable def tX11_firstIn_43 (n6 : Nat) (a1 : Int32) (a2 : Int32) (a3 : Int32) (a4 : Int32) (μ : zM) : Option (Option zV × zM) := fX11_firstIn_43 (fX11_firstIn_6 n6) [some (.inr (.inr (11, 0))), some (.inl a1), some (.inl a2), some (.inl a3), some (.inl a4), none] [] μ
noncomputable def tX11_firstIn_6 (n : Nat) (a1 : Int32) (a2 : Int32) (a3 : Int32) (a4 : Int32) (μ : zM) : Option (Option zV × zM) := fX11_firstIn_6 n [some (.inr (.inr (11, 0))), some (.inl a1), some (.inl a2), some (.inl a3), some (.inl a4), none] [] μ
noncomputable def tX11_firstIn_3 (a1 : Int32) (a2 : Int32) (a3 : Int32) (μ : zM) : Option (Option zV × zM) := fX11_firstIn_3 [some (.inr (.inr (11, 0))), some (.inl a1), some (.inl a2), some (.inl a3), none, none] [] μ
noncomputable def tX11_firstIn_0 (a1 : Int32) (a2 : Int32) (μ : zM) : Option (Option zV × zM) := fX11_firstIn_0 [some (.inr (.inr (11, 0))), some (.inl a1), some (.inl a2), none, none, none] [] μ
theorem eX11_firstIn_77 (n6 : Nat) (a1 : Int32) (a2 : Int32) (a3 : Int32) (a4 : Int32) (μ : zM) : tX11_firstIn_77 n6 a1 a2 a3 a4 μ = tX11_firstIn_6 n6 a1 a2 a3 a4 μ := (zs3 _ _ _ _).trans (rfl)
theorem eX11_firstIn_74 (n6 : Nat) (a1 : Int32) (a2 : Int32) (a3 : Int32) (a4 : Int32) (μ : zM) : tX11_firstIn_74 n6 a1 a2 a3 a4 μ = tX11_firstIn_77 n6 a1 a2 a3 (a4 + 1) μ := (zs3 _ _ _ _).trans (rfl)
theorem eX11_firstIn_71 (n6 : Nat) (a1 : Int32) (a2 : Int32) (a4 : Int32) (μ : zM) : tX11_firstIn_71 n6 a1 a2 a4 μ = tX11_firstIn_74 n6 a1 a2 a4 a4 μ := (zs3 _ _ _ _).trans (rfl)
theorem eX11_firstIn_46 (n6 : Nat) (a1 : Int32) (a2 : Int32) (a3 : Int32) (a4 : Int32) (a5 : Int32) (μ : zM) : tX11_firstIn_46 n6 a1 a2 a3 a4 a5 μ = zif (a5 = 0) (tX11_firstIn_74 n6 a1 a2 a3 a4 μ) (zif (a3 < 0) (tX11_firstIn_71 n6 a1 a2 a4 μ) (zI (tX11_ofBag_0 a4 2 μ) fun v2 μ1 => zI (tX11_ofBag_0 a3 2 μ1) fun v4 μ3 => zif (v2 < v4) (tX11_firstIn_71 n6 a1 a2 a4 μ3) (tX11_firstIn_74 n6 a1 a2 a3 a4 μ3))) := (zs3 _ _ _ _).trans (rfl)
theorem eX11_firstIn_44 (n6 : Nat) (a1 : Int32) (a2 : Int32) (a3 : Int32) (a4 : Int32) (s0 : Int32) (μ : zM) : tX11_firstIn_44 n6 a1 a2 a3 a4 s0 μ = tX11_firstIn_46 n6 a1 a2 a3 a4 s0 μ := (zs3 _ _ _ _).trans (rfl)
theorem eX11_firstIn_43 (n6 : Nat) (a1 : Int32) (a2 : Int32) (a3 : Int32) (a4 : Int32) (μ : zM) : tX11_firstIn_43 n6 a1 a2 a3 a4 μ = tX11_firstIn_44 n6 a1 a2 a3 a4 0 μ := (zs3 _ _ _ _).trans (rfl)
theorem eX11_firstIn_6 (a1 : Int32) (a2 : Int32) (a3 : Int32) (a4 : Int32) (n : Nat) (μ : zM) : tX11_firstIn_6 (n + 1) a1 a2 a3 a4 μ = (qI μ (65, 0) 1).bind fun v1 => zif (a4 < v1) (zI (tX11_ofBag_0 a4 0 μ) fun v3 μ2 => zif (v3 = a1) (zI (tX11_ofBag_0 a4 1 μ2) fun v5 μ4 => zif (v5 = a2) (tX11_firstIn_44 n a1 a2 a3 a4 1 μ4) (tX11_firstIn_43 n a1 a2 a3 a4 μ4)) (tX11_firstIn_43 n a1 a2 a3 a4 μ2)) (some (some (.inl a3), μ)) := (zs3 _ _ _ _).trans (rfl)
theorem eX11_firstIn_3 (a1 : Int32) (a2 : Int32) (a3 : Int32) (μ : zM) : tX11_firstIn_3 a1 a2 a3 μ = tX11_firstIn_6 zN a1 a2 a3 0 μ := (zs3 _ _ _ _).trans (rfl)
theorem eX11_firstIn_0 (a1 : Int32) (a2 : Int32) (μ : zM) : tX11_firstIn_0 a1 a2 μ = tX11_firstIn_3 a1 a2 (-2) μ := (zs3 _ _ _ _).trans (rfl)
theorem uX11_firstIn (a1 : Int32) (a2 : Int32) (μ : zM) : gX11_firstIn [.inr (.inr (11, 0)), .inl a1, .inl a2] μ = tX11_firstIn_0 a1 a2 μ := rfl
/-! BaggageHandlingModel.goes(III)V -/
noncomputable def tX11_goes_0 (a1 : Int32) (a2 : Int32) (a3 : Int32) (μ : zM) : Option (Option zV × zM) := fX11_goes_0 [some (.inr (.inr (11, 0))), some (.inl a1), some (.inl a2), some (.inl a3)] [] μ
theorem eX11_goes_0 (a1 : Int32) (a2 : Int32) (a3 : Int32) (μ : zM) : tX11_goes_0 a1 a2 a3 μ = (wI μ (65, 0) ((400 + (8 * a1)) + 0) a2).bind fun μ1 => (wI μ1 (65, 0) ((400 + (8 * a1)) + 1) a3).bind fun μ2 => (qI μ2 (65, 0) 2).bind fun v3 => (wI μ2 (65, 0) ((400 + (8 * a1)) + 2) v3).bind fun μ4 => (qI μ4 (65, 0) 2).bind fun v5 => (wI μ4 (65, 0) 2 (v5 + 1)).bind fun μ6 => some (none, μ6) := (zs3 _ _ _ _).trans (rfl)
theorem uX11_goes (a1 : Int32) (a2 : Int32) (a3 : Int32) (μ : zM) : gX11_goes [.inr (.inr (11, 0)), .inl a1, .inl a2, .inl a3] μ = tX11_goes_0 a1 a2 a3 μ := rfl
/-! BaggageHandlingModel.counts(I)V -/
noncomputable def tX11_counts_0 (a1 : Int32) (μ : zM) : Option (Option zV × zM) := fX11_counts_0 [some (.inr (.inr (11, 0))), some (.inl a1)] [] μ
theorem eX11_counts_0 (a1 : Int32) (μ : zM) : tX11_counts_0 a1 μ = (qI μ (65, 0) (3 + a1)).bind fun v1 => (wI μ (65, 0) (3 + a1) (v1 + 1)).bind fun μ2 => some (none, μ2) := (zs3 _ _ _ _).trans (rfl)
theorem uX11_counts (a1 : Int32) (μ : zM) : gX11_counts [.inr (.inr (11, 0)), .inl a1] μ = tX11_counts_0 a1 μ := rfl
/-! BaggageHandlingModel.turns(I)V -/
noncomputable def tX11_turns_51 (n23 : Nat) (a1 : Int32) (a3 : Int32) (a4 : Int32) (μ : zM) : Option (Option zV × zM) := fX11_turns_51 (fX11_turns_23 n23) [some (.inr (.inr (11, 0))), some (.inl a1), none, some (.inl a3), some (.inl a4)] [] μ
noncomputable def tX11_turns_23 (n : Nat) (a1 : Int32) (a3 : Int32) (a4 : Int32) (μ : zM) : Option (Option zV × zM) := fX11_turns_23 n [some (.inr (.inr (11, 0))), some (.inl a1), none, some (.inl a3), some (.inl a4)] [] μ
noncomputable def tX11_turns_18 (a1 : Int32) (a2 : Int32) (a3 : Int32) (μ : zM) : Option (Option zV × zM) := fX11_turns_18 [some (.inr (.inr (11, 0))), some (.inl a1), some (.inl a2), some (.inl a3), none] [] μ
noncomputable def tX11_turns_7 (a1 : Int32) (a2 : Int32) (μ : zM) : Option (Option zV × zM) := fX11_turns_7 [some (.inr (.inr (11, 0))), some (.inl a1), some (.inl a2), none, none] [] μ
noncomputable def tX11_turns_0 (a1 : Int32) (μ : zM) : Option (Option zV × zM) := fX11_turns_0 [some (.inr (.inr (11, 0))), some (.inl a1), none, none, none] [] μ
theorem eX11_turns_51 (n23 : Nat) (a1 : Int32) (a3 : Int32) (a4 : Int32) (μ : zM) : tX11_turns_51 n23 a1 a3 a4 μ = tX11_turns_23 n23 a1 a3 a4 μ := (zs3 _ _ _ _).trans (rfl)
theorem eX11_turns_23 (a1 : Int32) (a3 : Int32) (a4 : Int32) (n : Nat) (μ : zM) : tX11_turns_23 (n + 1) a1 a3 a4 μ = zif (0 < a4) ((qI μ (65, 0) ((a1 + a4) - 1)).bind fun v1 => (wI μ (65, 0) (a1 + a4) v1).bind fun μ2 => tX11_turns_51 n a1 a3 (a4 + (-1)) μ2) ((wI μ (65, 0) a1 a3).bind fun μ3 => some (none, μ3)) := (zs3 _ _ _ _).trans (rfl)
theorem eX11_turns_18 (a1 : Int32) (a2 : Int32) (a3 : Int32) (μ : zM) : tX11_turns_18 a1 a2 a3 μ = tX11_turns_23 zN a1 a3 (a2 - 1) μ := (zs3 _ _ _ _).trans (rfl)
theorem eX11_turns_7 (a1 : Int32) (a2 : Int32) (μ : zM) : tX11_turns_7 a1 a2 μ = (qI μ (65, 0) ((a1 + a2) - 1)).bind fun v1 => tX11_turns_18 a1 a2 v1 μ := (zs3 _ _ _ _).trans (rfl)
theorem eX11_turns_0 (a1 : Int32) (μ : zM) : tX11_turns_0 a1 μ = (qI μ (63, 0) 0).bind fun v1 => tX11_turns_7 a1 v1 μ := (zs3 _ _ _ _).trans (rfl)
theorem uX11_turns (a1 : Int32) (μ : zM) : gX11_turns [.inr (.inr (11, 0)), .inl a1] μ = tX11_turns_0 a1 μ := rfl
/-! BaggageHandlingModel.moves()V -/
noncomputable def tX11_moves_79 (n36 : Nat) (a1 : Int32) (μ : zM) : Option (Option zV × zM) := fX11_moves_79 (fX11_moves_36 n36) [some (.inr (.inr (11, 0))), some (.inl a1), none] [] μ
noncomputable def tX11_moves_76 (n36 : Nat) (a1 : Int32) (μ : zM) : Option (Option zV × zM) := fX11_moves_76 (fX11_moves_36 n36) [some (.inr (.inr (11, 0))), some (.inl a1), none] [] μ
noncomputable def tX11_moves_56 (n36 : Nat) (a1 : Int32) (a2 : Int32) (μ : zM) : Option (Option zV × zM) := fX11_moves_56 (fX11_moves_36 n36) [some (.inr (.inr (11, 0))), some (.inl a1), some (.inl a2)] [] μ
noncomputable def tX11_moves_36 (n : Nat) (a1 : Int32) (μ : zM) : Option (Option zV × zM) := fX11_moves_36 n [some (.inr (.inr (11, 0))), some (.inl a1), none] [] μ
noncomputable def tX11_moves_0 (μ : zM) : Option (Option zV × zM) := fX11_moves_0 [some (.inr (.inr (11, 0))), none, none] [] μ
theorem eX11_moves_79 (n36 : Nat) (a1 : Int32) (μ : zM) : tX11_moves_79 n36 a1 μ = tX11_moves_36 n36 a1 μ := (zs3 _ _ _ _).trans (rfl)
theorem eX11_moves_76 (n36 : Nat) (a1 : Int32) (μ : zM) : tX11_moves_76 n36 a1 μ = tX11_moves_79 n36 (a1 + 1) μ := (zs3 _ _ _ _).trans (rfl)
theorem eX11_moves_56 (n36 : Nat) (a1 : Int32) (a2 : Int32) (μ : zM) : tX11_moves_56 n36 a1 a2 μ = zif (a2 < 0) (tX11_moves_76 n36 a1 μ) ((wI μ (65, 0) ((400 + (8 * a2)) + 1) a1).bind fun μ1 => tX11_moves_76 n36 a1 μ1) := (zs3 _ _ _ _).trans (rfl)
theorem eX11_moves_36 (a1 : Int32) (n : Nat) (μ : zM) : tX11_moves_36 (n + 1) a1 μ = (qI μ (63, 0) 0).bind fun v1 => zif (a1 < v1) ((qI μ (65, 0) (90 + a1)).bind fun v2 => tX11_moves_56 n a1 v2 μ) (some (none, μ)) := (zs3 _ _ _ _).trans (rfl)
theorem eX11_moves_0 (μ : zM) : tX11_moves_0 μ = zU (tX11_turns_0 90 μ) fun μ1 => zU (tX11_turns_0 150 μ1) fun μ2 => zU (tX11_turns_0 210 μ2) fun μ3 => zU (tX11_turns_0 270 μ3) fun μ4 => zU (tX11_turns_0 330 μ4) fun μ5 => tX11_moves_36 zN 0 μ5 := (zs3 _ _ _ _).trans (rfl)
theorem uX11_moves (μ : zM) : gX11_moves [.inr (.inr (11, 0))] μ = tX11_moves_0 μ := rfl
/-! BaggageHandlingModel.stationWorks(I)V -/
noncomputable def tX11_stationWorks_63 (a1 : Int32) (a2 : Int32) (a3 : Int32) (μ : zM) : Option (Option zV × zM) := fX11_stationWorks_63 [some (.inr (.inr (11, 0))), some (.inl a1), some (.inl a2), some (.inl a3)] [] μ
noncomputable def tX11_stationWorks_8 (a1 : Int32) (a2 : Int32) (μ : zM) : Option (Option zV × zM) := fX11_stationWorks_8 [some (.inr (.inr (11, 0))), some (.inl a1), some (.inl a2), none] [] μ
noncomputable def tX11_stationWorks_0 (a1 : Int32) (μ : zM) : Option (Option zV × zM) := fX11_stationWorks_0 [some (.inr (.inr (11, 0))), some (.inl a1), none, none] [] μ
theorem eX11_stationWorks_63 (a1 : Int32) (a2 : Int32) (a3 : Int32) (μ : zM) : tX11_stationWorks_63 a1 a2 a3 μ = zif (a3 = (-2)) (zU (tX11_goes_0 a2 8 (-2) μ) fun μ1 => zU (tX11_counts_0 5 μ1) fun μ2 => some (none, μ2)) ((wI μ (65, 0) ((400 + (8 * a2)) + 3) a3).bind fun μ3 => (wI μ3 (65, 0) ((400 + (8 * a2)) + 5) 0).bind fun μ4 => zI (tX11_ofDevice_0 6 a1 7 μ4) fun v6 μ5 => zU (tX11_goes_0 a2 7 v6 μ5) fun μ7 => some (none, μ7)) := (zs3 _ _ _ _).trans (rfl)
theorem eX11_stationWorks_8 (a1 : Int32) (a2 : Int32) (μ : zM) : tX11_stationWorks_8 a1 a2 μ = zif (a2 < 0) (some (none, μ)) ((qI μ (65, 0) (79 + a1)).bind fun v1 => (wI μ (65, 0) (79 + a1) (v1 + 1)).bind fun μ2 => (qI μ2 (65, 0) (79 + a1)).bind fun v3 => zI (tX11_ofDevice_0 6 a1 4 μ2) fun v5 μ4 => zif (v3 < v5) (some (none, μ4)) ((wI μ4 (65, 0) (79 + a1) 0).bind fun μ6 => zI (tX11_properOf_0 a2 μ6) fun v8 μ7 => tX11_stationWorks_63 a1 a2 v8 μ7)) := (zs3 _ _ _ _).trans (rfl)
theorem eX11_stationWorks_0 (a1 : Int32) (μ : zM) : tX11_stationWorks_0 a1 μ = zI (tX11_firstIn_0 6 a1 μ) fun v2 μ1 => tX11_stationWorks_8 a1 v2 μ1 := (zs3 _ _ _ _).trans (rfl)
theorem uX11_stationWorks (a1 : Int32) (μ : zM) : gX11_stationWorks [.inr (.inr (11, 0)), .inl a1] μ = tX11_stationWorks_0 a1 μ := rfl
/-! BaggageHandlingModel.screenWorks(I)V -/
noncomputable def tX11_screenWorks_156 (μ : zM) : Option (Option zV × zM) := fX11_screenWorks_156 [none, none, none, none] [] μ
noncomputable def tX11_screenWorks_112 (s1 : Int32) (s2 : Int32) (s4 : Int32) (s5 : Int32) (μ : zM) : Option (Option zV × zM) := fX11_screenWorks_112 [none, none, none, none] [.inl s5, .inl s4, .inr (.inr (11, 0)), .inl s2, .inl s1, .inr (.inr (11, 0))] μ
noncomputable def tX11_screenWorks_24 (a1 : Int32) (a2 : Int32) (a3 : Int32) (μ : zM) : Option (Option zV × zM) := fX11_screenWorks_24 [some (.inr (.inr (11, 0))), some (.inl a1), some (.inl a2), some (.inl a3)] [] μ
noncomputable def tX11_screenWorks_7 (a1 : Int32) (a2 : Int32) (μ : zM) : Option (Option zV × zM) := fX11_screenWorks_7 [some (.inr (.inr (11, 0))), some (.inl a1), some (.inl a2), none] [] μ
noncomputable def tX11_screenWorks_0 (a1 : Int32) (μ : zM) : Option (Option zV × zM) := fX11_screenWorks_0 [some (.inr (.inr (11, 0))), some (.inl a1), none, none] [] μ
theorem eX11_screenWorks_156 (μ : zM) : tX11_screenWorks_156 μ = some (none, μ) := (zs3 _ _ _ _).trans (rfl)
theorem eX11_screenWorks_112 (s1 : Int32) (s2 : Int32) (s4 : Int32) (s5 : Int32) (μ : zM) : tX11_screenWorks_112 s1 s2 s4 s5 μ = zI (tX11_ofDevice_0 s4 s5 7 μ) fun v2 μ1 => zU (tX11_goes_0 s1 s2 v2 μ1) fun μ3 => tX11_screenWorks_156 μ3 := (zs3 _ _ _ _).trans (rfl)
theorem eX11_screenWorks_24 (a1 : Int32) (a2 : Int32) (a3 : Int32) (μ : zM) : tX11_screenWorks_24 a1 a2 a3 μ = (qI μ (65, 0) (75 + a1)).bind fun v1 => (wI μ (65, 0) (75 + a1) (v1 + 1)).bind fun μ2 => (qI μ2 (65, 0) (75 + a1)).bind fun v3 => zI (tX11_ofDevice_0 4 a1 (3 + a3) μ2) fun v5 μ4 => zif (v3 < v5) (some (none, μ4)) ((wI μ4 (65, 0) (75 + a1) 0).bind fun μ6 => (wI μ6 (65, 0) (77 + a1) 0).bind fun μ7 => (qI μ7 (72, 0) a2).bind fun v8 => zif (v8 < a3) ((wI μ7 (65, 0) ((400 + (8 * a2)) + 4) 1).bind fun μ9 => tX11_screenWorks_112 a2 7 4 a1 μ9) (zif (a3 < 3) ((wI μ7 (65, 0) (77 + a1) a3).bind fun μ10 => tX11_screenWorks_156 μ10) (zU (tX11_goes_0 a2 9 (-2) μ7) fun μ11 => zU (tX11_counts_0 6 μ11) fun μ12 => tX11_screenWorks_156 μ12))) := (zs3 _ _ _ _).trans (rfl)
theorem eX11_screenWorks_7 (a1 : Int32) (a2 : Int32) (μ : zM) : tX11_screenWorks_7 a1 a2 μ = zif (a2 < 0) (some (none, μ)) ((qI μ (65, 0) (77 + a1)).bind fun v1 => tX11_screenWorks_24 a1 a2 (v1 + 1) μ) := (zs3 _ _ _ _).trans (rfl)
theorem eX11_screenWorks_0 (a1 : Int32) (μ : zM) : tX11_screenWorks_0 a1 μ = zI (tX11_firstIn_0 4 a1 μ) fun v2 μ1 => tX11_screenWorks_7 a1 v2 μ1 := (zs3 _ _ _ _).trans (rfl)
theorem uX11_screenWorks (a1 : Int32) (μ : zM) : gX11_screenWorks [.inr (.inr (11, 0)), .inl a1] μ = tX11_screenWorks_0 a1 μ := rfl
/-! BaggageHandlingModel.storeWorks(I)V -/
noncomputable def tX11_storeWorks_148 (μ : zM) : Option (Option zV × zM) := fX11_storeWorks_148 [none, none, none, none, none, none, none] [] μ
noncomputable def tX11_storeWorks_126 (n8 : Nat) (a1 : Int32) (a2 : Int32) (a3 : Int32) (a4 : Int32) (μ : zM) : Option (Option zV × zM) := fX11_storeWorks_126 (fX11_storeWorks_8 n8) [some (.inr (.inr (11, 0))), some (.inl a1), some (.inl a2), some (.inl a3), some (.inl a4), none, none] [] μ
noncomputable def tX11_storeWorks_123 (n8 : Nat) (a1 : Int32) (a2 : Int32) (a3 : Int32) (a4 : Int32) (μ : zM) : Option (Option zV × zM) := fX11_storeWorks_123 (fX11_storeWorks_8 n8) [some (.inr (.inr (11, 0))), some (.inl a1), some (.inl a2), some (.inl a3), some (.inl a4), none, none] [] μ
noncomputable def tX11_storeWorks_120 (n8 : Nat) (a1 : Int32) (a2 : Int32) (a4 : Int32) (a6 : Int32) (μ : zM) : Option (Option zV × zM) := fX11_storeWorks_120 (fX11_storeWorks_8 n8) [some (.inr (.inr (11, 0))), some (.inl a1), some (.inl a2), none, some (.inl a4), none, some (.inl a6)] [] μ
noncomputable def tX11_storeWorks_117 (n8 : Nat) (a1 : Int32) (a4 : Int32) (a6 : Int32) (μ : zM) : Option (Option zV × zM) := fX11_storeWorks_117 (fX11_storeWorks_8 n8) [some (.inr (.inr (11, 0))), some (.inl a1), none, none, some (.inl a4), none, some (.inl a6)] [] μ
noncomputable def tX11_storeWorks_85 (n8 : Nat) (a1 : Int32) (a2 : Int32) (a3 : Int32) (a4 : Int32) (a6 : Int32) (μ : zM) : Option (Option zV × zM) := fX11_storeWorks_85 (fX11_storeWorks_8 n8) [some (.inr (.inr (11, 0))), some (.inl a1), some (.inl a2), some (.inl a3), some (.inl a4), none, some (.inl a6)] [] μ
noncomputable def tX11_storeWorks_59 (n8 : Nat) (a1 : Int32) (a2 : Int32) (a3 : Int32) (a4 : Int32) (a5 : Int32) (μ : zM) : Option (Option zV × zM) := fX11_storeWorks_59 (fX11_storeWorks_8 n8) [some (.inr (.inr (11, 0))), some (.inl a1), some (.inl a2), some (.inl a3), some (.inl a4), some (.inl a5), none] [] μ
noncomputable def tX11_storeWorks_57 (n8 : Nat) (a1 : Int32) (a2 : Int32) (a3 : Int32) (a4 : Int32) (s0 : Int32) (μ : zM) : Option (Option zV × zM) := fX11_storeWorks_57 (fX11_storeWorks_8 n8) [some (.inr (.inr (11, 0))), some (.inl a1), some (.inl a2), some (.inl a3), some (.inl a4), none, none] [.inl s0] μ
noncomputable def tX11_storeWorks_55 (n8 : Nat) (a1 : Int32) (a2 : Int32) (a3 : Int32) (a4 : Int32) (μ : zM) : Option (Option zV × zM) := fX11_storeWorks_55 (fX11_storeWorks_8 n8) [some (.inr (.inr (11, 0))), some (.inl a1), some (.inl a2), some (.inl a3), some (.inl a4), none, none] [] μ
noncomputable def tX11_storeWorks_8 (n : Nat) (a1 : Int32) (a2 : Int32) (a3 : Int32) (a4 : Int32) (μ : zM) : Option (Option zV × zM) := fX11_storeWorks_8 n [some (.inr (.inr (11, 0))), some (.inl a1), some (.inl a2), some (.inl a3), some (.inl a4), none, none] [] μ
noncomputable def tX11_storeWorks_5 (a1 : Int32) (a2 : Int32) (a3 : Int32) (μ : zM) : Option (Option zV × zM) := fX11_storeWorks_5 [some (.inr (.inr (11, 0))), some (.inl a1), some (.inl a2), some (.inl a3), none, none, none] [] μ
noncomputable def tX11_storeWorks_3 (a1 : Int32) (a2 : Int32) (μ : zM) : Option (Option zV × zM) := fX11_storeWorks_3 [some (.inr (.inr (11, 0))), some (.inl a1), some (.inl a2), none, none, none, none] [] μ
noncomputable def tX11_storeWorks_0 (a1 : Int32) (μ : zM) : Option (Option zV × zM) := fX11_storeWorks_0 [some (.inr (.inr (11, 0))), some (.inl a1), none, none, none, none, none] [] μ
theorem eX11_storeWorks_148 (μ : zM) : tX11_storeWorks_148 μ = some (none, μ) := (zs3 _ _ _ _).trans (rfl)
theorem eX11_storeWorks_126 (n8 : Nat) (a1 : Int32) (a2 : Int32) (a3 : Int32) (a4 : Int32) (μ : zM) : tX11_storeWorks_126 n8 a1 a2 a3 a4 μ = tX11_storeWorks_8 n8 a1 a2 a3 a4 μ := (zs3 _ _ _ _).trans (rfl)
theorem eX11_storeWorks_123 (n8 : Nat) (a1 : Int32) (a2 : Int32) (a3 : Int32) (a4 : Int32) (μ : zM) : tX11_storeWorks_123 n8 a1 a2 a3 a4 μ = tX11_storeWorks_126 n8 a1 a2 a3 (a4 + 1) μ := (zs3 _ _ _ _).trans (rfl)
theorem eX11_storeWorks_120 (n8 : Nat) (a1 : Int32) (a2 : Int32) (a4 : Int32) (a6 : Int32) (μ : zM) : tX11_storeWorks_120 n8 a1 a2 a4 a6 μ = tX11_storeWorks_123 n8 a1 a2 a6 a4 μ := (zs3 _ _ _ _).trans (rfl)
theorem eX11_storeWorks_117 (n8 : Nat) (a1 : Int32) (a4 : Int32) (a6 : Int32) (μ : zM) : tX11_storeWorks_117 n8 a1 a4 a6 μ = tX11_storeWorks_120 n8 a1 a4 a4 a6 μ := (zs3 _ _ _ _).trans (rfl)
theorem eX11_storeWorks_85 (n8 : Nat) (a1 : Int32) (a2 : Int32) (a3 : Int32) (a4 : Int32) (a6 : Int32) (μ : zM) : tX11_storeWorks_85 n8 a1 a2 a3 a4 a6 μ = zif (a2 < 0) (tX11_storeWorks_117 n8 a1 a4 a6 μ) (zif (a6 < a3) (tX11_storeWorks_117 n8 a1 a4 a6 μ) (zif (a6 = a3) (zI (tX11_ofBag_0 a4 2 μ) fun v2 μ1 => zI (tX11_ofBag_0 a2 2 μ1) fun v4 μ3 => zif (v2 < v4) (tX11_storeWorks_117 n8 a1 a4 a6 μ3) (tX11_storeWorks_123 n8 a1 a2 a3 a4 μ3)) (tX11_storeWorks_123 n8 a1 a2 a3 a4 μ))) := (zs3 _ _ _ _).trans (rfl)
theorem eX11_storeWorks_59 (n8 : Nat) (a1 : Int32) (a2 : Int32) (a3 : Int32) (a4 : Int32) (a5 : Int32) (μ : zM) : tX11_storeWorks_59 n8 a1 a2 a3 a4 a5 μ = zif (a5 < 0) (tX11_storeWorks_123 n8 a1 a2 a3 a4 μ) (zI (tX11_flightIs_0 a5 μ) fun v2 μ1 => zif (v2 = 0) (tX11_storeWorks_123 n8 a1 a2 a3 a4 μ1) (zI (tX11_ofFlight_0 a5 3 μ1) fun v4 μ3 => tX11_storeWorks_85 n8 a1 a2 a3 a4 v4 μ3)) := (zs3 _ _ _ _).trans (rfl)
theorem eX11_storeWorks_57 (n8 : Nat) (a1 : Int32) (a2 : Int32) (a3 : Int32) (a4 : Int32) (s0 : Int32) (μ : zM) : tX11_storeWorks_57 n8 a1 a2 a3 a4 s0 μ = tX11_storeWorks_59 n8 a1 a2 a3 a4 s0 μ := (zs3 _ _ _ _).trans (rfl)
theorem eX11_storeWorks_55 (n8 : Nat) (a1 : Int32) (a2 : Int32) (a3 : Int32) (a4 : Int32) (μ : zM) : tX11_storeWorks_55 n8 a1 a2 a3 a4 μ = tX11_storeWorks_57 n8 a1 a2 a3 a4 (-2) μ := (zs3 _ _ _ _).trans (rfl)
theorem eX11_storeWorks_8 (a1 : Int32) (a2 : Int32) (a3 : Int32) (a4 : Int32) (n : Nat) (μ : zM) : tX11_storeWorks_8 (n + 1) a1 a2 a3 a4 μ = (qI μ (65, 0) 1).bind fun v1 => zif (a4 < v1) (zI (tX11_ofBag_0 a4 0 μ) fun v3 μ2 => zif (v3 = 5) (zI (tX11_ofBag_0 a4 1 μ2) fun v5 μ4 => zif (v5 = a1) (zI (tX11_ofBag_0 a4 3 μ4) fun v7 μ6 => zI (tX11_flightBy_0 v7 μ6) fun v9 μ8 => tX11_storeWorks_57 n a1 a2 a3 a4 v9 μ8) (tX11_storeWorks_55 n a1 a2 a3 a4 μ4)) (tX11_storeWorks_55 n a1 a2 a3 a4 μ2)) (zif (a2 < 0) (tX11_storeWorks_148 μ) (zI (tX11_ofDevice_0 5 a1 7 μ) fun v11 μ10 => zU (tX11_goes_0 a2 7 v11 μ10) fun μ12 => tX11_storeWorks_148 μ12)) := (zs3 _ _ _ _).trans (rfl)
theorem eX11_storeWorks_5 (a1 : Int32) (a2 : Int32) (a3 : Int32) (μ : zM) : tX11_storeWorks_5 a1 a2 a3 μ = tX11_storeWorks_8 zN a1 a2 a3 0 μ := (zs3 _ _ _ _).trans (rfl)
theorem eX11_storeWorks_3 (a1 : Int32) (a2 : Int32) (μ : zM) : tX11_storeWorks_3 a1 a2 μ = tX11_storeWorks_5 a1 a2 0 μ := (zs3 _ _ _ _).trans (rfl)
theorem eX11_storeWorks_0 (a1 : Int32) (μ : zM) : tX11_storeWorks_0 a1 μ = tX11_storeWorks_3 a1 (-2) μ := (zs3 _ _ _ _).trans (rfl)
theorem uX11_storeWorks (a1 : Int32) (μ : zM) : gX11_storeWorks [.inr (.inr (11, 0)), .inl a1] μ = tX11_storeWorks_0 a1 μ := rfl
/-! BaggageHandlingModel.isClear(I)Z -/
noncomputable def tX11_isClear_30 (s0 : Int32) (μ : zM) : Option (Option zV × zM) := fX11_isClear_30 [none, none] [.inl s0] μ
noncomputable def tX11_isClear_29 (μ : zM) : Option (Option zV × zM) := fX11_isClear_29 [none, none] [] μ
noncomputable def tX11_isClear_0 (a1 : Int32) (μ : zM) : Option (Option zV × zM) := fX11_isClear_0 [some (.inr (.inr (11, 0))), some (.inl a1)] [] μ
theorem eX11_isClear_30 (s0 : Int32) (μ : zM) : tX11_isClear_30 s0 μ = zif (vp_nar .boolean s0 = s0) (some (some (.inl s0), μ)) none := (zs3 _ _ _ _).trans (rfl)
theorem eX11_isClear_29 (μ : zM) : tX11_isClear_29 μ = tX11_isClear_30 0 μ := (zs3 _ _ _ _).trans (rfl)
theorem eX11_isClear_0 (a1 : Int32) (μ : zM) : tX11_isClear_0 a1 μ = (qI μ (65, 0) (90 + a1)).bind fun v1 => zif (v1 < 0) ((qI μ (65, 0) (150 + a1)).bind fun v2 => zif (v2 = 0) (tX11_isClear_30 1 μ) (tX11_isClear_29 μ)) (tX11_isClear_29 μ) := (zs3 _ _ _ _).trans (rfl)
theorem uX11_isClear (a1 : Int32) (μ : zM) : gX11_isClear [.inr (.inr (11, 0)), .inl a1] μ = tX11_isClear_0 a1 μ := rfl
/-! BaggageHandlingModel.newRecord(I)V -/
noncomputable def tX11_newRecord_0 (a1 : Int32) (μ : zM) : Option (Option zV × zM) := fX11_newRecord_0 [some (.inr (.inr (11, 0))), some (.inl a1)] [] μ
theorem eX11_newRecord_0 (a1 : Int32) (μ : zM) : tX11_newRecord_0 a1 μ = (wI μ (65, 0) (150 + a1) 1).bind fun μ1 => (wI μ1 (65, 0) (210 + a1) 0).bind fun μ2 => (wI μ2 (65, 0) (270 + a1) 0).bind fun μ3 => (wI μ3 (65, 0) (330 + a1) 0).bind fun μ4 => some (none, μ4) := (zs3 _ _ _ _).trans (rfl)
theorem uX11_newRecord (a1 : Int32) (μ : zM) : gX11_newRecord [.inr (.inr (11, 0)), .inl a1] μ = tX11_newRecord_0 a1 μ := rfl
/-! BaggageHandlingModel.dropRecord(I)V -/
noncomputable def tX11_dropRecord_0 (a1 : Int32) (μ : zM) : Option (Option zV × zM) := fX11_dropRecord_0 [some (.inr (.inr (11, 0))), some (.inl a1)] [] μ
theorem eX11_dropRecord_0 (a1 : Int32) (μ : zM) : tX11_dropRecord_0 a1 μ = zU (tX11_newRecord_0 a1 μ) fun μ1 => (wI μ1 (65, 0) (150 + a1) 0).bind fun μ2 => some (none, μ2) := (zs3 _ _ _ _).trans (rfl)
theorem uX11_dropRecord (a1 : Int32) (μ : zM) : gX11_dropRecord [.inr (.inr (11, 0)), .inl a1] μ = tX11_dropRecord_0 a1 μ := rfl
/-! BaggageHandlingModel.entersRing(II)V -/
noncomputable def tX11_entersRing_0 (a1 : Int32) (a2 : Int32) (μ : zM) : Option (Option zV × zM) := fX11_entersRing_0 [some (.inr (.inr (11, 0))), some (.inl a1), some (.inl a2)] [] μ
theorem eX11_entersRing_0 (a1 : Int32) (a2 : Int32) (μ : zM) : tX11_entersRing_0 a1 a2 μ = (wI μ (65, 0) (90 + a2) a1).bind fun μ1 => zU (tX11_goes_0 a1 1 a2 μ1) fun μ2 => some (none, μ2) := (zs3 _ _ _ _).trans (rfl)
theorem uX11_entersRing (a1 : Int32) (a2 : Int32) (μ : zM) : gX11_entersRing [.inr (.inr (11, 0)), .inl a1, .inl a2] μ = tX11_entersRing_0 a1 a2 μ := rfl
