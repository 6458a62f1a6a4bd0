/-! BaggageHandlingModel.laysAside()V -/
noncomputable def tX11_laysAside_24 (n2 : Nat) (a1 : Int32) (μ : zM) : Option (Option zV × zM) := fX11_laysAside_24 (fX11_laysAside_2 n2) [some (.inr (.inr (11, 0))), some (.inl a1)] [] μ
noncomputable def tX11_laysAside_2 (n : Nat) (a1 : Int32) (μ : zM) : Option (Option zV × zM) := fX11_laysAside_2 n [some (.inr (.inr (11, 0))), some (.inl a1)] [] μ
noncomputable def tX11_laysAside_0 (μ : zM) : Option (Option zV × zM) := fX11_laysAside_0 [some (.inr (.inr (11, 0))), none] [] μ
theorem eX11_laysAside_24 (n2 : Nat) (a1 : Int32) (μ : zM) : tX11_laysAside_24 n2 a1 μ = tX11_laysAside_2 n2 a1 μ := (zs3 _ _ _ _).trans (rfl)
theorem eX11_laysAside_2 (a1 : Int32) (n : Nat) (μ : zM) : tX11_laysAside_2 (n + 1) a1 μ = zif (a1 < 1200) ((qI μ (65, 0) a1).bind fun v1 => (wI μ (66, 0) a1 v1).bind fun μ2 => tX11_laysAside_24 n (a1 + 1) μ2) (some (none, μ)) := (zs3 _ _ _ _).trans (rfl)
theorem eX11_laysAside_0 (μ : zM) : tX11_laysAside_0 μ = tX11_laysAside_2 zN 0 μ := (zs3 _ _ _ _).trans (rfl)
theorem uX11_laysAside (μ : zM) : gX11_laysAside [.inr (.inr (11, 0))] μ = tX11_laysAside_0 μ := rfl
/-! BaggageHandlingModel.comesBack()V -/
noncomputable def tX11_comesBack_24 (n2 : Nat) (a1 : Int32) (μ : zM) : Option (Option zV × zM) := fX11_comesBack_24 (fX11_comesBack_2 n2) [some (.inr (.inr (11, 0))), some (.inl a1)] [] μ
noncomputable def tX11_comesBack_2 (n : Nat) (a1 : Int32) (μ : zM) : Option (Option zV × zM) := fX11_comesBack_2 n [some (.inr (.inr (11, 0))), some (.inl a1)] [] μ
noncomputable def tX11_comesBack_0 (μ : zM) : Option (Option zV × zM) := fX11_comesBack_0 [some (.inr (.inr (11, 0))), none] [] μ
theorem eX11_comesBack_24 (n2 : Nat) (a1 : Int32) (μ : zM) : tX11_comesBack_24 n2 a1 μ = tX11_comesBack_2 n2 a1 μ := (zs3 _ _ _ _).trans (rfl)
theorem eX11_comesBack_2 (a1 : Int32) (n : Nat) (μ : zM) : tX11_comesBack_2 (n + 1) a1 μ = zif (a1 < 1200) ((qI μ (66, 0) a1).bind fun v1 => (wI μ (65, 0) a1 v1).bind fun μ2 => tX11_comesBack_24 n (a1 + 1) μ2) (some (none, μ)) := (zs3 _ _ _ _).trans (rfl)
theorem eX11_comesBack_0 (μ : zM) : tX11_comesBack_0 μ = tX11_comesBack_2 zN 0 μ := (zs3 _ _ _ _).trans (rfl)
theorem uX11_comesBack (μ : zM) : gX11_comesBack [.inr (.inr (11, 0))] μ = tX11_comesBack_0 μ := rfl
/-! BaggageHandlingModel.ticksFor(II)I -/
noncomputable def tX11_ticksFor_39 (s0 : Int32) (μ : zM) : Option (Option zV × zM) := fX11_ticksFor_39 [none, none, none, none] [.inl s0] μ
noncomputable def tX11_ticksFor_25 (a1 : Int32) (a3 : Int32) (μ : zM) : Option (Option zV × zM) := fX11_ticksFor_25 [some (.inr (.inr (11, 0))), some (.inl a1), none, some (.inl a3)] [] μ
noncomputable def tX11_ticksFor_22 (n2 : Nat) (a1 : Int32) (a2 : Int32) (a3 : Int32) (μ : zM) : Option (Option zV × zM) := fX11_ticksFor_22 (fX11_ticksFor_2 n2) [some (.inr (.inr (11, 0))), some (.inl a1), some (.inl a2), some (.inl a3)] [] μ
noncomputable def tX11_ticksFor_2 (n : Nat) (a1 : Int32) (a2 : Int32) (a3 : Int32) (μ : zM) : Option (Option zV × zM) := fX11_ticksFor_2 n [some (.inr (.inr (11, 0))), some (.inl a1), some (.inl a2), some (.inl a3)] [] μ
noncomputable def tX11_ticksFor_0 (a1 : Int32) (a2 : Int32) (μ : zM) : Option (Option zV × zM) := fX11_ticksFor_0 [some (.inr (.inr (11, 0))), some (.inl a1), some (.inl a2), none] [] μ
theorem eX11_ticksFor_39 (s0 : Int32) (μ : zM) : tX11_ticksFor_39 s0 μ = some (some (.inl s0), μ) := (zs3 _ _ _ _).trans (rfl)
theorem eX11_ticksFor_25 (a1 : Int32) (a3 : Int32) (μ : zM) : tX11_ticksFor_25 a1 a3 μ = zI (tX11_isIn_0 a1 μ) fun v2 μ1 => zif (v2 = 0) (tX11_ticksFor_39 (-2) μ1) (tX11_ticksFor_39 a3 μ1) := (zs3 _ _ _ _).trans (rfl)
theorem eX11_ticksFor_22 (n2 : Nat) (a1 : Int32) (a2 : Int32) (a3 : Int32) (μ : zM) : tX11_ticksFor_22 n2 a1 a2 a3 μ = tX11_ticksFor_2 n2 a1 a2 a3 μ := (zs3 _ _ _ _).trans (rfl)
theorem eX11_ticksFor_2 (a1 : Int32) (a2 : Int32) (a3 : Int32) (n : Nat) (μ : zM) : tX11_ticksFor_2 (n + 1) a1 a2 a3 μ = zif (a3 < a2) (zI (tX11_isIn_0 a1 μ) fun v2 μ1 => zif (v2 = 0) (zU (tX11_ticks_0 μ1) fun μ3 => tX11_ticksFor_22 n a1 a2 (a3 + 1) μ3) (tX11_ticksFor_25 a1 a3 μ1)) (tX11_ticksFor_25 a1 a3 μ) := (zs3 _ _ _ _).trans (rfl)
theorem eX11_ticksFor_0 (a1 : Int32) (a2 : Int32) (μ : zM) : tX11_ticksFor_0 a1 a2 μ = tX11_ticksFor_2 zN a1 a2 0 μ := (zs3 _ _ _ _).trans (rfl)
theorem uX11_ticksFor (a1 : Int32) (a2 : Int32) (μ : zM) : gX11_ticksFor [.inr (.inr (11, 0)), .inl a1, .inl a2] μ = tX11_ticksFor_0 a1 a2 μ := rfl
/-! BaggageHandlingModel.ticksToChute(II)I -/
noncomputable def tX11_ticksToChute_20 (μ : zM) : Option (Option zV × zM) := fX11_ticksToChute_20 [none, none, none, none] [] μ
noncomputable def tX11_ticksToChute_33 (a3 : Int32) (μ : zM) : Option (Option zV × zM) := fX11_ticksToChute_33 [some (.inr (.inr (11, 0))), none, none, some (.inl a3)] [] μ
noncomputable def tX11_ticksToChute_0 (a1 : Int32) (a2 : Int32) (μ : zM) : Option (Option zV × zM) := fX11_ticksToChute_0 [some (.inr (.inr (11, 0))), some (.inl a1), some (.inl a2), none] [] μ
theorem eX11_ticksToChute_20 (μ : zM) : tX11_ticksToChute_20 μ = some (some (.inl (-1)), μ) := (zs3 _ _ _ _).trans (rfl)
theorem eX11_ticksToChute_33 (a3 : Int32) (μ : zM) : tX11_ticksToChute_33 a3 μ = zU (tX11_comesBack_0 μ) fun μ1 => some (some (.inl a3), μ1) := (zs3 _ _ _ _).trans (rfl)
theorem eX11_ticksToChute_0 (a1 : Int32) (a2 : Int32) (μ : zM) : tX11_ticksToChute_0 a1 a2 μ = zI (tX11_isBag_0 a1 μ) fun v2 μ1 => zif (v2 = 0) (tX11_ticksToChute_20 μ1) (zI (tX11_in_0 a2.toInt64 1 300 μ1) fun v4 μ3 => zif (v4 = 0) (tX11_ticksToChute_20 μ3) (zU (tX11_laysAside_0 μ3) fun μ5 => zI (tX11_ticksFor_0 a1 a2 μ5) fun v7 μ6 => tX11_ticksToChute_33 v7 μ6)) := (zs3 _ _ _ _).trans (rfl)
theorem uX11_ticksToChute (a1 : Int32) (a2 : Int32) (μ : zM) : gX11_ticksToChute [.inr (.inr (11, 0)), .inl a1, .inl a2] μ = tX11_ticksToChute_0 a1 a2 μ := rfl
/-! BaggageHandlingModel.forecastState(II)I -/
noncomputable def tX11_forecastState_20 (μ : zM) : Option (Option zV × zM) := fX11_forecastState_20 [none, none, none, none] [] μ
noncomputable def tX11_forecastState_50 (a3 : Int32) (μ : zM) : Option (Option zV × zM) := fX11_forecastState_50 [some (.inr (.inr (11, 0))), none, none, some (.inl a3)] [] μ
noncomputable def tX11_forecastState_40 (n28 : Nat) (a1 : Int32) (a2 : Int32) (a3 : Int32) (μ : zM) : Option (Option zV × zM) := fX11_forecastState_40 (fX11_forecastState_28 n28) [some (.inr (.inr (11, 0))), some (.inl a1), some (.inl a2), some (.inl a3)] [] μ
noncomputable def tX11_forecastState_28 (n : Nat) (a1 : Int32) (a2 : Int32) (a3 : Int32) (μ : zM) : Option (Option zV × zM) := fX11_forecastState_28 n [some (.inr (.inr (11, 0))), some (.inl a1), some (.inl a2), some (.inl a3)] [] μ
noncomputable def tX11_forecastState_0 (a1 : Int32) (a2 : Int32) (μ : zM) : Option (Option zV × zM) := fX11_forecastState_0 [some (.inr (.inr (11, 0))), some (.inl a1), some (.inl a2), none] [] μ
theorem eX11_forecastState_20 (μ : zM) : tX11_forecastState_20 μ = some (some (.inl (-1)), μ) := (zs3 _ _ _ _).trans (rfl)
theorem eX11_forecastState_50 (a3 : Int32) (μ : zM) : tX11_forecastState_50 a3 μ = zU (tX11_comesBack_0 μ) fun μ1 => some (some (.inl a3), μ1) := (zs3 _ _ _ _).trans (rfl)
theorem eX11_forecastState_40 (n28 : Nat) (a1 : Int32) (a2 : Int32) (a3 : Int32) (μ : zM) : tX11_forecastState_40 n28 a1 a2 a3 μ = tX11_forecastState_28 n28 a1 a2 a3 μ := (zs3 _ _ _ _).trans (rfl)
theorem eX11_forecastState_28 (a1 : Int32) (a2 : Int32) (a3 : Int32) (n : Nat) (μ : zM) : tX11_forecastState_28 (n + 1) a1 a2 a3 μ = zif (a3 < a2) (zU (tX11_ticks_0 μ) fun μ1 => tX11_forecastState_40 n a1 a2 (a3 + 1) μ1) (zI (tX11_ofBag_0 a1 0 μ) fun v3 μ2 => tX11_forecastState_50 v3 μ2) := (zs3 _ _ _ _).trans (rfl)
theorem eX11_forecastState_0 (a1 : Int32) (a2 : Int32) (μ : zM) : tX11_forecastState_0 a1 a2 μ = zI (tX11_isBag_0 a1 μ) fun v2 μ1 => zif (v2 = 0) (tX11_forecastState_20 μ1) (zI (tX11_in_0 a2.toInt64 1 300 μ1) fun v4 μ3 => zif (v4 = 0) (tX11_forecastState_20 μ3) (zU (tX11_laysAside_0 μ3) fun μ5 => tX11_forecastState_28 zN a1 a2 0 μ5)) := (zs3 _ _ _ _).trans (rfl)
theorem uX11_forecastState (a1 : Int32) (a2 : Int32) (μ : zM) : gX11_forecastState [.inr (.inr (11, 0)), .inl a1, .inl a2] μ = tX11_forecastState_0 a1 a2 μ := rfl
/-! BaggageHandlingModel.forecastDelivered(I)I -/
noncomputable def tX11_forecastDelivered_51 (a2 : Int32) (μ : zM) : Option (Option zV × zM) := fX11_forecastDelivered_51 [some (.inr (.inr (11, 0))), none, some (.inl a2)] [] μ
noncomputable def tX11_forecastDelivered_32 (n20 : Nat) (a1 : Int32) (a2 : Int32) (μ : zM) : Option (Option zV × zM) := fX11_forecastDelivered_32 (fX11_forecastDelivered_20 n20) [some (.inr (.inr (11, 0))), some (.inl a1), some (.inl a2)] [] μ
noncomputable def tX11_forecastDelivered_20 (n : Nat) (a1 : Int32) (a2 : Int32) (μ : zM) : Option (Option zV × zM) := fX11_forecastDelivered_20 n [some (.inr (.inr (11, 0))), some (.inl a1), some (.inl a2)] [] μ
noncomputable def tX11_forecastDelivered_0 (a1 : Int32) (μ : zM) : Option (Option zV × zM) := fX11_forecastDelivered_0 [some (.inr (.inr (11, 0))), some (.inl a1), none] [] μ
theorem eX11_forecastDelivered_51 (a2 : Int32) (μ : zM) : tX11_forecastDelivered_51 a2 μ = zU (tX11_comesBack_0 μ) fun μ1 => some (some (.inl a2), μ1) := (zs3 _ _ _ _).trans (rfl)
theorem eX11_forecastDelivered_32 (n20 : Nat) (a1 : Int32) (a2 : Int32) (μ : zM) : tX11_forecastDelivered_32 n20 a1 a2 μ = tX11_forecastDelivered_20 n20 a1 a2 μ := (zs3 _ _ _ _).trans (rfl)
theorem eX11_forecastDelivered_20 (a1 : Int32) (a2 : Int32) (n : Nat) (μ : zM) : tX11_forecastDelivered_20 (n + 1) a1 a2 μ = zif (a2 < a1) (zU (tX11_ticks_0 μ) fun μ1 => tX11_forecastDelivered_32 n a1 (a2 + 1) μ1) ((qI μ (65, 0) 10).bind fun v2 => (qI μ (66, 0) 10).bind fun v3 => tX11_forecastDelivered_51 (v2 - v3) μ) := (zs3 _ _ _ _).trans (rfl)
theorem eX11_forecastDelivered_0 (a1 : Int32) (μ : zM) : tX11_forecastDelivered_0 a1 μ = zI (tX11_in_0 a1.toInt64 1 300 μ) fun v2 μ1 => zif (v2 = 0) (some (some (.inl (-1)), μ1)) (zU (tX11_laysAside_0 μ1) fun μ3 => tX11_forecastDelivered_20 zN a1 0 μ3) := (zs3 _ _ _ _).trans (rfl)
theorem uX11_forecastDelivered (a1 : Int32) (μ : zM) : gX11_forecastDelivered [.inr (.inr (11, 0)), .inl a1] μ = tX11_forecastDelivered_0 a1 μ := rfl
/-! BaggageHandlingModel.additional(II)I -/
noncomputable def tX11_additional_0 (a1 : Int32) (a2 : Int32) (μ : zM) : Option (Option zV × zM) := fX11_additional_0 [some (.inr (.inr (11, 0))), some (.inl a1), some (.inl a2)] [] μ
theorem eX11_additional_0 (a1 : Int32) (a2 : Int32) (μ : zM) : tX11_additional_0 a1 a2 μ = zI (tX11_ofFlight_0 a1 0 μ) fun v2 μ1 => zI (tX11_arrives_0 a2 (1000 * v2) 15 0 0 0 μ1) fun v4 μ3 => some (some (.inl v4), μ3) := (zs3 _ _ _ _).trans (rfl)
theorem uX11_additional (a1 : Int32) (a2 : Int32) (μ : zM) : gX11_additional [.inr (.inr (11, 0)), .inl a1, .inl a2] μ = tX11_additional_0 a1 a2 μ := rfl
/-! BaggageHandlingModel.bestInlet(II)I -/
noncomputable def tX11_bestInlet_20 (μ : zM) : Option (Option zV × zM) := fX11_bestInlet_20 [none, none, none, none, none, none, none] [] μ
noncomputable def tX11_bestInlet_103 (n45 : Nat) (a1 : Int32) (a2 : Int32) (a3 : Int32) (a4 : Int32) (a5 : Int32) (μ : zM) : Option (Option zV × zM) := fX11_bestInlet_103 (fX11_bestInlet_45 n45) [some (.inr (.inr (11, 0))), some (.inl a1), some (.inl a2), some (.inl a3), some (.inl a4), some (.inl a5), none] [] μ
noncomputable def tX11_bestInlet_100 (n45 : Nat) (a1 : Int32) (a2 : Int32) (a3 : Int32) (a4 : Int32) (a5 : Int32) (μ : zM) : Option (Option zV × zM) := fX11_bestInlet_100 (fX11_bestInlet_45 n45) [some (.inr (.inr (11, 0))), some (.inl a1), some (.inl a2), some (.inl a3), some (.inl a4), some (.inl a5), none] [] μ
noncomputable def tX11_bestInlet_96 (n45 : Nat) (a1 : Int32) (a2 : Int32) (a3 : Int32) (a5 : Int32) (a6 : Int32) (μ : zM) : Option (Option zV × zM) := fX11_bestInlet_96 (fX11_bestInlet_45 n45) [some (.inr (.inr (11, 0))), some (.inl a1), some (.inl a2), some (.inl a3), none, some (.inl a5), some (.inl a6)] [] μ
noncomputable def tX11_bestInlet_93 (n45 : Nat) (a1 : Int32) (a2 : Int32) (a5 : Int32) (a6 : Int32) (μ : zM) : Option (Option zV × zM) := fX11_bestInlet_93 (fX11_bestInlet_45 n45) [some (.inr (.inr (11, 0))), some (.inl a1), some (.inl a2), none, none, some (.inl a5), some (.inl a6)] [] μ
noncomputable def tX11_bestInlet_73 (n45 : Nat) (a1 : Int32) (a2 : Int32) (a3 : Int32) (a4 : Int32) (a5 : Int32) (a6 : Int32) (μ : zM) : Option (Option zV × zM) := fX11_bestInlet_73 (fX11_bestInlet_45 n45) [some (.inr (.inr (11, 0))), some (.inl a1), some (.inl a2), some (.inl a3), some (.inl a4), some (.inl a5), some (.inl a6)] [] μ
noncomputable def tX11_bestInlet_45 (n : Nat) (a1 : Int32) (a2 : Int32) (a3 : Int32) (a4 : Int32) (a5 : Int32) (μ : zM) : Option (Option zV × zM) := fX11_bestInlet_45 n [some (.inr (.inr (11, 0))), some (.inl a1), some (.inl a2), some (.inl a3), some (.inl a4), some (.inl a5), none] [] μ
noncomputable def tX11_bestInlet_42 (a1 : Int32) (a2 : Int32) (a3 : Int32) (a4 : Int32) (μ : zM) : Option (Option zV × zM) := fX11_bestInlet_42 [some (.inr (.inr (11, 0))), some (.inl a1), some (.inl a2), some (.inl a3), some (.inl a4), none, none] [] μ
noncomputable def tX11_bestInlet_39 (a1 : Int32) (a2 : Int32) (a3 : Int32) (μ : zM) : Option (Option zV × zM) := fX11_bestInlet_39 [some (.inr (.inr (11, 0))), some (.inl a1), some (.inl a2), some (.inl a3), none, none, none] [] μ
noncomputable def tX11_bestInlet_0 (a1 : Int32) (a2 : Int32) (μ : zM) : Option (Option zV × zM) := fX11_bestInlet_0 [some (.inr (.inr (11, 0))), some (.inl a1), some (.inl a2), none, none, none, none] [] μ
theorem eX11_bestInlet_20 (μ : zM) : tX11_bestInlet_20 μ = some (some (.inl (-1)), μ) := (zs3 _ _ _ _).trans (rfl)
theorem eX11_bestInlet_103 (n45 : Nat) (a1 : Int32) (a2 : Int32) (a3 : Int32) (a4 : Int32) (a5 : Int32) (μ : zM) : tX11_bestInlet_103 n45 a1 a2 a3 a4 a5 μ = tX11_bestInlet_45 n45 a1 a2 a3 a4 a5 μ := (zs3 _ _ _ _).trans (rfl)
theorem eX11_bestInlet_100 (n45 : Nat) (a1 : Int32) (a2 : Int32) (a3 : Int32) (a4 : Int32) (a5 : Int32) (μ : zM) : tX11_bestInlet_100 n45 a1 a2 a3 a4 a5 μ = tX11_bestInlet_103 n45 a1 a2 a3 a4 (a5 + 1) μ := (zs3 _ _ _ _).trans (rfl)
theorem eX11_bestInlet_96 (n45 : Nat) (a1 : Int32) (a2 : Int32) (a3 : Int32) (a5 : Int32) (a6 : Int32) (μ : zM) : tX11_bestInlet_96 n45 a1 a2 a3 a5 a6 μ = tX11_bestInlet_100 n45 a1 a2 a3 a6 a5 μ := (zs3 _ _ _ _).trans (rfl)
theorem eX11_bestInlet_93 (n45 : Nat) (a1 : Int32) (a2 : Int32) (a5 : Int32) (a6 : Int32) (μ : zM) : tX11_bestInlet_93 n45 a1 a2 a5 a6 μ = tX11_bestInlet_96 n45 a1 a2 a5 a5 a6 μ := (zs3 _ _ _ _).trans (rfl)
theorem eX11_bestInlet_73 (n45 : Nat) (a1 : Int32) (a2 : Int32) (a3 : Int32) (a4 : Int32) (a5 : Int32) (a6 : Int32) (μ : zM) : tX11_bestInlet_73 n45 a1 a2 a3 a4 a5 a6 μ = zU (tX11_comesBack_0 μ) fun μ1 => zif (a6 < 0) (tX11_bestInlet_100 n45 a1 a2 a3 a4 a5 μ1) (zif (a3 < 0) (tX11_bestInlet_93 n45 a1 a2 a5 a6 μ1) (zif (a6 < a4) (tX11_bestInlet_93 n45 a1 a2 a5 a6 μ1) (tX11_bestInlet_100 n45 a1 a2 a3 a4 a5 μ1))) := (zs3 _ _ _ _).trans (rfl)
theorem eX11_bestInlet_45 (a1 : Int32) (a2 : Int32) (a3 : Int32) (a4 : Int32) (a5 : Int32) (n : Nat) (μ : zM) : tX11_bestInlet_45 (n + 1) a1 a2 a3 a4 a5 μ = zI (tX11_many_0 1 μ) fun v2 μ1 => zif (a5 < v2) (zU (tX11_laysAside_0 μ1) fun μ3 => zI (tX11_additional_0 a1 a5 μ3) fun v5 μ4 => zI (tX11_ticksFor_0 v5 a2 μ4) fun v7 μ6 => tX11_bestInlet_73 n a1 a2 a3 a4 a5 v7 μ6) (some (some (.inl a3), μ1)) := (zs3 _ _ _ _).trans (rfl)
theorem eX11_bestInlet_42 (a1 : Int32) (a2 : Int32) (a3 : Int32) (a4 : Int32) (μ : zM) : tX11_bestInlet_42 a1 a2 a3 a4 μ = tX11_bestInlet_45 zN a1 a2 a3 a4 0 μ := (zs3 _ _ _ _).trans (rfl)
theorem eX11_bestInlet_39 (a1 : Int32) (a2 : Int32) (a3 : Int32) (μ : zM) : tX11_bestInlet_39 a1 a2 a3 μ = tX11_bestInlet_42 a1 a2 a3 0 μ := (zs3 _ _ _ _).trans (rfl)
theorem eX11_bestInlet_0 (a1 : Int32) (a2 : Int32) (μ : zM) : tX11_bestInlet_0 a1 a2 μ = zI (tX11_isFlight_0 a1 μ) fun v2 μ1 => zif (v2 = 0) (tX11_bestInlet_20 μ1) (zI (tX11_in_0 a2.toInt64 1 300 μ1) fun v4 μ3 => zif (v4 = 0) (tX11_bestInlet_20 μ3) ((qI μ3 (65, 0) 1).bind fun v5 => zif (v5 = 100) (some (some (.inl (-2)), μ3)) (tX11_bestInlet_39 a1 a2 (-2) μ3))) := (zs3 _ _ _ _).trans (rfl)
theorem uX11_bestInlet (a1 : Int32) (a2 : Int32) (μ : zM) : gX11_bestInlet [.inr (.inr (11, 0)), .inl a1, .inl a2] μ = tX11_bestInlet_0 a1 a2 μ := rfl
/-! BaggageHandlingModel.isInTime(III)Z -/
noncomputable def tX11_isInTime_85 (a6 : Int32) (μ : zM) : Option (Option zV × zM) := fX11_isInTime_85 [some (.inr (.inr (11, 0))), none, none, none, none, none, some (.inl a6)] [] μ
noncomputable def tX11_isInTime_83 (s0 : Int32) (μ : zM) : Option (Option zV × zM) := fX11_isInTime_83 [some (.inr (.inr (11, 0))), none, none, none, none, none, none] [.inl s0] μ
noncomputable def tX11_isInTime_82 (μ : zM) : Option (Option zV × zM) := fX11_isInTime_82 [some (.inr (.inr (11, 0))), none, none, none, none, none, none] [] μ
noncomputable def tX11_isInTime_42 (a1 : Int32) (a4 : Int32) (a5 : Int32) (μ : zM) : Option (Option zV × zM) := fX11_isInTime_42 [some (.inr (.inr (11, 0))), some (.inl a1), none, none, some (.inl a4), some (.inl a5), none] [] μ
noncomputable def tX11_isInTime_31 (a1 : Int32) (a4 : Int32) (μ : zM) : Option (Option zV × zM) := fX11_isInTime_31 [some (.inr (.inr (11, 0))), some (.inl a1), none, none, some (.inl a4), none, none] [] μ
noncomputable def tX11_isInTime_20 (n7 : Nat) (a1 : Int32) (a2 : Int32) (a3 : Int32) (a4 : Int32) (μ : zM) : Option (Option zV × zM) := fX11_isInTime_20 (fX11_isInTime_7 n7) [some (.inr (.inr (11, 0))), some (.inl a1), some (.inl a2), some (.inl a3), some (.inl a4), none, none] [] μ
noncomputable def tX11_isInTime_7 (n : Nat) (a1 : Int32) (a2 : Int32) (a3 : Int32) (a4 : Int32) (μ : zM) : Option (Option zV × zM) := fX11_isInTime_7 n [some (.inr (.inr (11, 0))), some (.inl a1), some (.inl a2), some (.inl a3), some (.inl a4), none, none] [] μ
noncomputable def tX11_isInTime_0 (a1 : Int32) (a2 : Int32) (a3 : Int32) (μ : zM) : Option (Option zV × zM) := fX11_isInTime_0 [some (.inr (.inr (11, 0))), some (.inl a1), some (.inl a2), some (.inl a3), none, none, none] [] μ
theorem eX11_isInTime_85 (a6 : Int32) (μ : zM) : tX11_isInTime_85 a6 μ = zU (tX11_comesBack_0 μ) fun μ1 => zif (vp_nar .boolean a6 = a6) (some (some (.inl a6), μ1)) none := (zs3 _ _ _ _).trans (rfl)
theorem eX11_isInTime_83 (s0 : Int32) (μ : zM) : tX11_isInTime_83 s0 μ = tX11_isInTime_85 s0 μ := (zs3 _ _ _ _).trans (rfl)
theorem eX11_isInTime_82 (μ : zM) : tX11_isInTime_82 μ = tX11_isInTime_83 0 μ := (zs3 _ _ _ _).trans (rfl)
theorem eX11_isInTime_42 (a1 : Int32) (a4 : Int32) (a5 : Int32) (μ : zM) : tX11_isInTime_42 a1 a4 a5 μ = zif (a5 < 0) (tX11_isInTime_82 μ) (zI (tX11_ofBag_0 a4 1 μ) fun v2 μ1 => zI (tX11_ofFlight_0 a1 1 μ1) fun v4 μ3 => zif (v2 = v4) ((qI μ3 (65, 0) 0).bind fun v5 => zI (tX11_ofFlight_0 a1 3 μ3) fun v7 μ6 => zif (v5 < v7) (tX11_isInTime_83 1 μ6) (tX11_isInTime_82 μ6)) (tX11_isInTime_82 μ3)) := (zs3 _ _ _ _).trans (rfl)
theorem eX11_isInTime_31 (a1 : Int32) (a4 : Int32) (μ : zM) : tX11_isInTime_31 a1 a4 μ = zI (tX11_ticksFor_0 a4 300 μ) fun v2 μ1 => tX11_isInTime_42 a1 a4 v2 μ1 := (zs3 _ _ _ _).trans (rfl)
theorem eX11_isInTime_20 (n7 : Nat) (a1 : Int32) (a2 : Int32) (a3 : Int32) (a4 : Int32) (μ : zM) : tX11_isInTime_20 n7 a1 a2 a3 a4 μ = tX11_isInTime_7 n7 a1 a2 a3 a4 μ := (zs3 _ _ _ _).trans (rfl)
theorem eX11_isInTime_7 (a1 : Int32) (a2 : Int32) (a3 : Int32) (a4 : Int32) (n : Nat) (μ : zM) : tX11_isInTime_7 (n + 1) a1 a2 a3 a4 μ = zif (a4 < a3) (zU (tX11_ticks_0 μ) fun μ1 => tX11_isInTime_20 n a1 a2 a3 (a4 + 1) μ1) (zI (tX11_additional_0 a1 a2 μ) fun v3 μ2 => tX11_isInTime_31 a1 v3 μ2) := (zs3 _ _ _ _).trans (rfl)
theorem eX11_isInTime_0 (a1 : Int32) (a2 : Int32) (a3 : Int32) (μ : zM) : tX11_isInTime_0 a1 a2 a3 μ = zU (tX11_laysAside_0 μ) fun μ1 => tX11_isInTime_7 zN a1 a2 a3 0 μ1 := (zs3 _ _ _ _).trans (rfl)
theorem uX11_isInTime (a1 : Int32) (a2 : Int32) (a3 : Int32) (μ : zM) : gX11_isInTime [.inr (.inr (11, 0)), .inl a1, .inl a2, .inl a3] μ = tX11_isInTime_0 a1 a2 a3 μ := rfl
/-! BaggageHandlingModel.latestDelay(II)I -/
noncomputable def tX11_latestDelay_17 (μ : zM) : Option (Option zV × zM) := fX11_latestDelay_17 [none, none, none, none] [] μ
noncomputable def tX11_latestDelay_55 (n36 : Nat) (a1 : Int32) (a2 : Int32) (a3 : Int32) (μ : zM) : Option (Option zV × zM) := fX11_latestDelay_55 (fX11_latestDelay_36 n36) [some (.inr (.inr (11, 0))), some (.inl a1), some (.inl a2), some (.inl a3)] [] μ
noncomputable def tX11_latestDelay_36 (n : Nat) (a1 : Int32) (a2 : Int32) (a3 : Int32) (μ : zM) : Option (Option zV × zM) := fX11_latestDelay_36 n [some (.inr (.inr (11, 0))), some (.inl a1), some (.inl a2), some (.inl a3)] [] μ
noncomputable def tX11_latestDelay_0 (a1 : Int32) (a2 : Int32) (μ : zM) : Option (Option zV × zM) := fX11_latestDelay_0 [some (.inr (.inr (11, 0))), some (.inl a1), some (.inl a2), none] [] μ
theorem eX11_latestDelay_17 (μ : zM) : tX11_latestDelay_17 μ = some (some (.inl (-1)), μ) := (zs3 _ _ _ _).trans (rfl)
theorem eX11_latestDelay_55 (n36 : Nat) (a1 : Int32) (a2 : Int32) (a3 : Int32) (μ : zM) : tX11_latestDelay_55 n36 a1 a2 a3 μ = tX11_latestDelay_36 n36 a1 a2 a3 μ := (zs3 _ _ _ _).trans (rfl)
theorem eX11_latestDelay_36 (a1 : Int32) (a2 : Int32) (a3 : Int32) (n : Nat) (μ : zM) : tX11_latestDelay_36 (n + 1) a1 a2 a3 μ = zif (a3 < 0) (some (some (.inl (-2)), μ)) (zI (tX11_isInTime_0 a1 a2 a3 μ) fun v2 μ1 => zif (v2 = 0) (tX11_latestDelay_55 n a1 a2 (a3 + (-1)) μ1) (some (some (.inl a3), μ1))) := (zs3 _ _ _ _).trans (rfl)
theorem eX11_latestDelay_0 (a1 : Int32) (a2 : Int32) (μ : zM) : tX11_latestDelay_0 a1 a2 μ = zI (tX11_isFlight_0 a1 μ) fun v2 μ1 => zif (v2 = 0) (tX11_latestDelay_17 μ1) (zI (tX11_isDevice_0 1 a2 μ1) fun v4 μ3 => zif (v4 = 0) (tX11_latestDelay_17 μ3) ((qI μ3 (65, 0) 1).bind fun v5 => zif (v5 = 100) (some (some (.inl (-2)), μ3)) (tX11_latestDelay_36 zN a1 a2 30 μ3))) := (zs3 _ _ _ _).trans (rfl)
theorem uX11_latestDelay (a1 : Int32) (a2 : Int32) (μ : zM) : gX11_latestDelay [.inr (.inr (11, 0)), .inl a1, .inl a2] μ = tX11_latestDelay_0 a1 a2 μ := rfl
/-! BaggageHandlingModel.says(I)V -/
noncomputable def tX11_says_0 (a1 : Int32) (μ : zM) : Option (Option zV × zM) := fX11_says_0 [some (.inr (.inr (11, 0))), some (.inl a1)] [] μ
theorem eX11_says_0 (a1 : Int32) (μ : zM) : tX11_says_0 a1 μ = (wI μ (73, 0) (μ.1 11 0 21) a1).bind fun μ1 => zlet (mS μ1 11 0 21 ((μ1.1 11 0 21) + 1)) fun μ2 => some (none, μ2) := (zs3 _ _ _ _).trans (rfl)
theorem uX11_says (a1 : Int32) (μ : zM) : gX11_says [.inr (.inr (11, 0)), .inl a1] μ = tX11_says_0 a1 μ := rfl
/-! BaggageHandlingModel.saysWord(J)V -/
noncomputable def tX11_saysWord_34 (n3 : Nat) (a1 : Int64) (a3 : Int32) (μ : zM) : Option (Option zV × zM) := fX11_saysWord_34 (fX11_saysWord_3 n3) [some (.inr (.inr (11, 0))), some (.inr (.inl a1)), none, some (.inl a3), none] [] μ
noncomputable def tX11_saysWord_31 (n3 : Nat) (a1 : Int64) (a3 : Int32) (μ : zM) : Option (Option zV × zM) := fX11_saysWord_31 (fX11_saysWord_3 n3) [some (.inr (.inr (11, 0))), some (.inr (.inl a1)), none, some (.inl a3), none] [] μ
noncomputable def tX11_saysWord_17 (n3 : Nat) (a1 : Int64) (a3 : Int32) (a4 : Int32) (μ : zM) : Option (Option zV × zM) := fX11_saysWord_17 (fX11_saysWord_3 n3) [some (.inr (.inr (11, 0))), some (.inr (.inl a1)), none, some (.inl a3), some (.inl a4)] [] μ
noncomputable def tX11_saysWord_3 (n : Nat) (a1 : Int64) (a3 : Int32) (μ : zM) : Option (Option zV × zM) := fX11_saysWord_3 n [some (.inr (.inr (11, 0))), some (.inr (.inl a1)), none, some (.inl a3), none] [] μ
noncomputable def tX11_saysWord_0 (a1 : Int64) (μ : zM) : Option (Option zV × zM) := fX11_saysWord_0 [some (.inr (.inr (11, 0))), some (.inr (.inl a1)), none, none, none] [] μ
theorem eX11_saysWord_34 (n3 : Nat) (a1 : Int64) (a3 : Int32) (μ : zM) : tX11_saysWord_34 n3 a1 a3 μ = tX11_saysWord_3 n3 a1 a3 μ := (zs3 _ _ _ _).trans (rfl)
theorem eX11_saysWord_31 (n3 : Nat) (a1 : Int64) (a3 : Int32) (μ : zM) : tX11_saysWord_31 n3 a1 a3 μ = tX11_saysWord_34 n3 a1 (a3 + (-5)) μ := (zs3 _ _ _ _).trans (rfl)
theorem eX11_saysWord_17 (n3 : Nat) (a1 : Int64) (a3 : Int32) (a4 : Int32) (μ : zM) : tX11_saysWord_17 n3 a1 a3 a4 μ = zif (0 < a4) (zU (tX11_says_0 (96 + a4) μ) fun μ1 => tX11_saysWord_31 n3 a1 a3 μ1) (tX11_saysWord_31 n3 a1 a3 μ) := (zs3 _ _ _ _).trans (rfl)
theorem eX11_saysWord_3 (a1 : Int64) (a3 : Int32) (n : Nat) (μ : zM) : tX11_saysWord_3 (n + 1) a1 a3 μ = zif (a3 < 0) (some (none, μ)) (tX11_saysWord_17 n a1 a3 (((a1 >>> (a3.toInt64 &&& 63)) &&& 31).toInt32) μ) := (zs3 _ _ _ _).trans (rfl)
theorem eX11_saysWord_0 (a1 : Int64) (μ : zM) : tX11_saysWord_0 a1 μ = tX11_saysWord_3 zN a1 35 μ := (zs3 _ _ _ _).trans (rfl)
theorem uX11_saysWord (a1 : Int64) (μ : zM) : gX11_saysWord [.inr (.inr (11, 0)), .inr (.inl a1)] μ = tX11_saysWord_0 a1 μ := rfl
/-! BaggageHandlingModel.saysNumber(I)V -/
noncomputable def tX11_saysNumber_46 (n24 : Nat) (a1 : Int32) (a2 : Int32) (μ : zM) : Option (Option zV × zM) := fX11_saysNumber_46 (fX11_saysNumber_24 n24) [some (.inr (.inr (11, 0))), some (.inl a1), some (.inl a2)] [] μ
noncomputable def tX11_saysNumber_24 (n : Nat) (a1 : Int32) (a2 : Int32) (μ : zM) : Option (Option zV × zM) := fX11_saysNumber_24 n [some (.inr (.inr (11, 0))), some (.inl a1), some (.inl a2)] [] μ
noncomputable def tX11_saysNumber_15 (n2 : Nat) (a1 : Int32) (a2 : Int32) (μ : zM) : Option (Option zV × zM) := fX11_saysNumber_15 (fX11_saysNumber_2 n2) [some (.inr (.inr (11, 0))), some (.inl a1), some (.inl a2)] [] μ
noncomputable def tX11_saysNumber_2 (n : Nat) (a1 : Int32) (a2 : Int32) (μ : zM) : Option (Option zV × zM) := fX11_saysNumber_2 n [some (.inr (.inr (11, 0))), some (.inl a1), some (.inl a2)] [] μ
noncomputable def tX11_saysNumber_0 (a1 : Int32) (μ : zM) : Option (Option zV × zM) := fX11_saysNumber_0 [some (.inr (.inr (11, 0))), some (.inl a1), none] [] μ
theorem eX11_saysNumber_46 (n24 : Nat) (a1 : Int32) (a2 : Int32) (μ : zM) : tX11_saysNumber_46 n24 a1 a2 μ = tX11_saysNumber_24 n24 a1 a2 μ := (zs3 _ _ _ _).trans (rfl)
theorem eX11_saysNumber_24 (a1 : Int32) (a2 : Int32) (n : Nat) (μ : zM) : tX11_saysNumber_24 (n + 1) a1 a2 μ = zif (0 < a2) (zif (a2 = 0) none (zif ((10 : Int32) = 0) none (zU (tX11_says_0 (48 + ((a1 / a2) - (a1 / a2) / 10 * 10)) μ) fun μ1 => zif ((10 : Int32) = 0) none (tX11_saysNumber_46 n a1 (a2 / 10) μ1)))) (some (none, μ)) := (zs3 _ _ _ _).trans (rfl)
theorem eX11_saysNumber_15 (n2 : Nat) (a1 : Int32) (a2 : Int32) (μ : zM) : tX11_saysNumber_15 n2 a1 a2 μ = tX11_saysNumber_2 n2 a1 a2 μ := (zs3 _ _ _ _).trans (rfl)
theorem eX11_saysNumber_2 (a1 : Int32) (a2 : Int32) (n : Nat) (μ : zM) : tX11_saysNumber_2 (n + 1) a1 a2 μ = zif (a2 = 0) none (zif ((9 : Int32) < a1 / a2) (tX11_saysNumber_15 n a1 (a2 * 10) μ) (zU (tX11_says_0 32 μ) fun μ1 => tX11_saysNumber_24 zN a1 a2 μ1)) := (zs3 _ _ _ _).trans (rfl)
theorem eX11_saysNumber_0 (a1 : Int32) (μ : zM) : tX11_saysNumber_0 a1 μ = tX11_saysNumber_2 zN a1 1 μ := (zs3 _ _ _ _).trans (rfl)
theorem uX11_saysNumber (a1 : Int32) (μ : zM) : gX11_saysNumber [.inr (.inr (11, 0)), .inl a1] μ = tX11_saysNumber_0 a1 μ := rfl
/-! BaggageHandlingModel.saysBoth(JI)V -/
noncomputable def tX11_saysBoth_0 (a1 : Int64) (a3 : Int32) (μ : zM) : Option (Option zV × zM) := fX11_saysBoth_0 [some (.inr (.inr (11, 0))), some (.inr (.inl a1)), none, some (.inl a3)] [] μ
theorem eX11_saysBoth_0 (a1 : Int64) (a3 : Int32) (μ : zM) : tX11_saysBoth_0 a1 a3 μ = zU (tX11_says_0 32 μ) fun μ1 => zU (tX11_saysWord_0 a1 μ1) fun μ2 => zU (tX11_saysNumber_0 a3 μ2) fun μ3 => some (none, μ3) := (zs3 _ _ _ _).trans (rfl)
theorem uX11_saysBoth (a1 : Int64) (a3 : Int32) (μ : zM) : gX11_saysBoth [.inr (.inr (11, 0)), .inr (.inl a1), .inl a3] μ = tX11_saysBoth_0 a1 a3 μ := rfl
/-! BaggageHandlingModel.wordOf(I)J -/
noncomputable def tX11_wordOf_58 (s0 : Int64) (μ : zM) : Option (Option zV × zM) := fX11_wordOf_58 [none] [.inr (.inl s0)] μ
noncomputable def tX11_wordOf_0 (a0 : Int32) (μ : zM) : Option (Option zV × zM) := fX11_wordOf_0 [some (.inl a0)] [] μ
theorem eX11_wordOf_58 (s0 : Int64) (μ : zM) : tX11_wordOf_58 s0 μ = some (some (.inr (.inl s0)), μ) := (zs3 _ _ _ _).trans (rfl)
theorem eX11_wordOf_0 (a0 : Int32) (μ : zM) : tX11_wordOf_0 a0 μ = zif (a0 = 1) (tX11_wordOf_58 9908404 μ) (zif (a0 = 2) (tX11_wordOf_58 20503279794 μ) (zif (a0 = 3) (tX11_wordOf_58 3430021 μ) (zif (a0 = 4) (tX11_wordOf_58 641275054 μ) (zif (a0 = 5) (tX11_wordOf_58 20594245 μ) (tX11_wordOf_58 21073896942 μ))))) := (zs3 _ _ _ _).trans (rfl)
theorem uX11_wordOf (a0 : Int32) (μ : zM) : gX11_wordOf [.inl a0] μ = tX11_wordOf_0 a0 μ := rfl
/-! BaggageHandlingModel.saysDevice(I)V -/
noncomputable def tX11_saysDevice_149 (μ : zM) : Option (Option zV × zM) := fX11_saysDevice_149 [some (.inr (.inr (11, 0))), none, none] [] μ
noncomputable def tX11_saysDevice_128 (a1 : Int32) (a2 : Int32) (μ : zM) : Option (Option zV × zM) := fX11_saysDevice_128 [some (.inr (.inr (11, 0))), some (.inl a1), some (.inl a2)] [] μ
noncomputable def tX11_saysDevice_107 (a1 : Int32) (a2 : Int32) (μ : zM) : Option (Option zV × zM) := fX11_saysDevice_107 [some (.inr (.inr (11, 0))), some (.inl a1), some (.inl a2)] [] μ
noncomputable def tX11_saysDevice_62 (a1 : Int32) (a2 : Int32) (μ : zM) : Option (Option zV × zM) := fX11_saysDevice_62 [some (.inr (.inr (11, 0))), some (.inl a1), some (.inl a2)] [] μ
noncomputable def tX11_saysDevice_7 (a1 : Int32) (a2 : Int32) (μ : zM) : Option (Option zV × zM) := fX11_saysDevice_7 [some (.inr (.inr (11, 0))), some (.inl a1), some (.inl a2)] [] μ
noncomputable def tX11_saysDevice_0 (a1 : Int32) (μ : zM) : Option (Option zV × zM) := fX11_saysDevice_0 [some (.inr (.inr (11, 0))), some (.inl a1), none] [] μ
theorem eX11_saysDevice_149 (μ : zM) : tX11_saysDevice_149 μ = zU (tX11_says_0 59 μ) fun μ1 => some (none, μ1) := (zs3 _ _ _ _).trans (rfl)
theorem eX11_saysDevice_128 (a1 : Int32) (a2 : Int32) (μ : zM) : tX11_saysDevice_128 a1 a2 μ = zif ((3 : Int32) < a2) ((qI μ (63, 0) (a1 + 7)).bind fun v1 => zU (tX11_saysBoth_0 188724 v1 μ) fun μ2 => tX11_saysDevice_149 μ2) (tX11_saysDevice_149 μ) := (zs3 _ _ _ _).trans (rfl)
theorem eX11_saysDevice_107 (a1 : Int32) (a2 : Int32) (μ : zM) : tX11_saysDevice_107 a1 a2 μ = zif (a2 = 6) ((qI μ (63, 0) (a1 + 4)).bind fun v1 => zU (tX11_saysBoth_0 664997 v1 μ) fun μ2 => tX11_saysDevice_128 a1 a2 μ2) (tX11_saysDevice_128 a1 a2 μ) := (zs3 _ _ _ _).trans (rfl)
theorem eX11_saysDevice_62 (a1 : Int32) (a2 : Int32) (μ : zM) : tX11_saysDevice_62 a1 a2 μ = zif (a2 = 4) ((qI μ (63, 0) (a1 + 4)).bind fun v1 => zU (tX11_saysBoth_0 21279923 v1 μ) fun μ2 => (qI μ2 (63, 0) (a1 + 5)).bind fun v3 => zU (tX11_saysNumber_0 v3 μ2) fun μ4 => (qI μ4 (63, 0) (a1 + 6)).bind fun v5 => zU (tX11_saysNumber_0 v5 μ4) fun μ6 => tX11_saysDevice_107 a1 a2 μ6) (tX11_saysDevice_107 a1 a2 μ) := (zs3 _ _ _ _).trans (rfl)
theorem eX11_saysDevice_7 (a1 : Int32) (a2 : Int32) (μ : zM) : tX11_saysDevice_7 a1 a2 μ = zJ (tX11_wordOf_0 a2 μ) fun v2 μ1 => zU (tX11_saysWord_0 v2 μ1) fun μ3 => (qI μ3 (63, 0) (a1 + 1)).bind fun v4 => zU (tX11_saysNumber_0 v4 μ3) fun μ5 => zif (a2 < 3) (tX11_saysDevice_62 a1 a2 μ5) ((qI μ5 (63, 0) (a1 + 2)).bind fun v6 => zU (tX11_saysBoth_0 605677 v6 μ5) fun μ7 => (qI μ7 (63, 0) (a1 + 3)).bind fun v8 => zU (tX11_saysBoth_0 661966952 v8 μ7) fun μ9 => tX11_saysDevice_62 a1 a2 μ9) := (zs3 _ _ _ _).trans (rfl)
theorem eX11_saysDevice_0 (a1 : Int32) (μ : zM) : tX11_saysDevice_0 a1 μ = (qI μ (63, 0) a1).bind fun v1 => tX11_saysDevice_7 a1 v1 μ := (zs3 _ _ _ _).trans (rfl)
theorem uX11_saysDevice (a1 : Int32) (μ : zM) : gX11_saysDevice [.inr (.inr (11, 0)), .inl a1] μ = tX11_saysDevice_0 a1 μ := rfl
/-! BaggageHandlingModel.saysSetup()V -/
noncomputable def tX11_saysSetup_135 (n60 : Nat) (a1 : Int32) (μ : zM) : Option (Option zV × zM) := fX11_saysSetup_135 (fX11_saysSetup_60 n60) [some (.inr (.inr (11, 0))), some (.inl a1)] [] μ
noncomputable def tX11_saysSetup_60 (n : Nat) (a1 : Int32) (μ : zM) : Option (Option zV × zM) := fX11_saysSetup_60 n [some (.inr (.inr (11, 0))), some (.inl a1)] [] μ
noncomputable def tX11_saysSetup_55 (n30 : Nat) (a1 : Int32) (μ : zM) : Option (Option zV × zM) := fX11_saysSetup_55 (fX11_saysSetup_30 n30) [some (.inr (.inr (11, 0))), some (.inl a1)] [] μ
noncomputable def tX11_saysSetup_30 (n : Nat) (a1 : Int32) (μ : zM) : Option (Option zV × zM) := fX11_saysSetup_30 n [some (.inr (.inr (11, 0))), some (.inl a1)] [] μ
noncomputable def tX11_saysSetup_0 (μ : zM) : Option (Option zV × zM) := fX11_saysSetup_0 [some (.inr (.inr (11, 0))), none] [] μ
theorem eX11_saysSetup_135 (n60 : Nat) (a1 : Int32) (μ : zM) : tX11_saysSetup_135 n60 a1 μ = tX11_saysSetup_60 n60 a1 μ := (zs3 _ _ _ _).trans (rfl)
theorem eX11_saysSetup_60 (a1 : Int32) (n : Nat) (μ : zM) : tX11_saysSetup_60 (n + 1) a1 μ = (qI μ (63, 0) 4).bind fun v1 => zif (a1 < v1) (zU (tX11_saysWord_0 214211860 μ) fun μ2 => zI (tX11_ofFlight_0 a1 0 μ2) fun v4 μ3 => zU (tX11_saysNumber_0 v4 μ3) fun μ5 => zI (tX11_ofFlight_0 a1 1 μ5) fun v7 μ6 => zU (tX11_saysBoth_0 3430021 v7 μ6) fun μ8 => zI (tX11_ofFlight_0 a1 2 μ8) fun v10 μ9 => zU (tX11_saysBoth_0 508078 v10 μ9) fun μ11 => zI (tX11_ofFlight_0 a1 3 μ11) fun v13 μ12 => zU (tX11_saysBoth_0 3554917 v13 μ12) fun μ14 => zU (tX11_says_0 59 μ14) fun μ15 => tX11_saysSetup_135 n (a1 + 1) μ15) (zU (tX11_saysWord_0 781652471 μ) fun μ16 => (qI μ16 (63, 0) 2).bind fun v17 => zU (tX11_saysNumber_0 v17 μ16) fun μ18 => zU (tX11_says_0 59 μ18) fun μ19 => zU (tX11_saysWord_0 538561715 μ19) fun μ20 => (qI μ20 (63, 0) 3).bind fun v21 => zU (tX11_saysNumber_0 v21 μ20) fun μ22 => zU (tX11_says_0 59 μ22) fun μ23 => some (none, μ23)) := (zs3 _ _ _ _).trans (rfl)
theorem eX11_saysSetup_55 (n30 : Nat) (a1 : Int32) (μ : zM) : tX11_saysSetup_55 n30 a1 μ = tX11_saysSetup_30 n30 a1 μ := (zs3 _ _ _ _).trans (rfl)
theorem eX11_saysSetup_30 (a1 : Int32) (n : Nat) (μ : zM) : tX11_saysSetup_30 (n + 1) a1 μ = (qI μ (63, 0) 1).bind fun v1 => zif (a1 < v1) (zU (tX11_saysDevice_0 (140 + (8 * a1)) μ) fun μ2 => tX11_saysSetup_55 n (a1 + 1) μ2) (tX11_saysSetup_60 zN 0 μ) := (zs3 _ _ _ _).trans (rfl)
theorem eX11_saysSetup_0 (μ : zM) : tX11_saysSetup_0 μ = zlet (mS μ 11 0 21 0) fun μ1 => zU (tX11_saysWord_0 599495 μ1) fun μ2 => (qI μ2 (63, 0) 0).bind fun v3 => zU (tX11_saysNumber_0 v3 μ2) fun μ4 => zU (tX11_says_0 59 μ4) fun μ5 => tX11_saysSetup_30 zN 0 μ5 := (zs3 _ _ _ _).trans (rfl)
theorem uX11_saysSetup (μ : zM) : gX11_saysSetup [.inr (.inr (11, 0))] μ = tX11_saysSetup_0 μ := rfl
/-! BaggageHandlingModel.saysMap()V -/
noncomputable def tX11_saysMap_135 (n7 : Nat) (a1 : Int32) (μ : zM) : Option (Option zV × zM) := fX11_saysMap_135 (fX11_saysMap_7 n7) [some (.inr (.inr (11, 0))), some (.inl a1), none, none] [] μ
noncomputable def tX11_saysMap_132 (n7 : Nat) (a1 : Int32) (μ : zM) : Option (Option zV × zM) := fX11_saysMap_132 (fX11_saysMap_7 n7) [some (.inr (.inr (11, 0))), some (.inl a1), none, none] [] μ
noncomputable def tX11_saysMap_129 (n7 : Nat) (a1 : Int32) (s1 : Int32) (μ : zM) : Option (Option zV × zM) := fX11_saysMap_129 (fX11_saysMap_7 n7) [some (.inr (.inr (11, 0))), some (.inl a1), none, none] [.inl s1, .inr (.inr (11, 0))] μ
noncomputable def tX11_saysMap_90 (n7 : Nat) (a1 : Int32) (a3 : Int32) (μ : zM) : Option (Option zV × zM) := fX11_saysMap_90 (fX11_saysMap_7 n7) [some (.inr (.inr (11, 0))), some (.inl a1), none, some (.inl a3)] [] μ
noncomputable def tX11_saysMap_60 (n7 : Nat) (a1 : Int32) (s1 : Int32) (μ : zM) : Option (Option zV × zM) := fX11_saysMap_60 (fX11_saysMap_7 n7) [some (.inr (.inr (11, 0))), some (.inl a1), none, none] [.inl s1, .inr (.inr (11, 0))] μ
noncomputable def tX11_saysMap_35 (n7 : Nat) (a1 : Int32) (a2 : Int32) (μ : zM) : Option (Option zV × zM) := fX11_saysMap_35 (fX11_saysMap_7 n7) [some (.inr (.inr (11, 0))), some (.inl a1), some (.inl a2), none] [] μ
noncomputable def tX11_saysMap_34 (n7 : Nat) (a1 : Int32) (s0 : Int32) (μ : zM) : Option (Option zV × zM) := fX11_saysMap_34 (fX11_saysMap_7 n7) [some (.inr (.inr (11, 0))), some (.inl a1), none, none] [.inl s0] μ
noncomputable def tX11_saysMap_7 (n : Nat) (a1 : Int32) (μ : zM) : Option (Option zV × zM) := fX11_saysMap_7 n [some (.inr (.inr (11, 0))), some (.inl a1), none, none] [] μ
noncomputable def tX11_saysMap_0 (μ : zM) : Option (Option zV × zM) := fX11_saysMap_0 [some (.inr (.inr (11, 0))), none, none, none] [] μ
theorem eX11_saysMap_135 (n7 : Nat) (a1 : Int32) (μ : zM) : tX11_saysMap_135 n7 a1 μ = tX11_saysMap_7 n7 a1 μ := (zs3 _ _ _ _).trans (rfl)
theorem eX11_saysMap_132 (n7 : Nat) (a1 : Int32) (μ : zM) : tX11_saysMap_132 n7 a1 μ = tX11_saysMap_135 n7 (a1 + 1) μ := (zs3 _ _ _ _).trans (rfl)
theorem eX11_saysMap_129 (n7 : Nat) (a1 : Int32) (s1 : Int32) (μ : zM) : tX11_saysMap_129 n7 a1 s1 μ = zU (tX11_says_0 s1 μ) fun μ1 => tX11_saysMap_132 n7 a1 μ1 := (zs3 _ _ _ _).trans (rfl)
theorem eX11_saysMap_90 (n7 : Nat) (a1 : Int32) (a3 : Int32) (μ : zM) : tX11_saysMap_90 n7 a1 a3 μ = zif (a3 = 0) (tX11_saysMap_129 n7 a1 97 μ) (zif (a3 < 0) (tX11_saysMap_129 n7 a1 98 μ) ((qI μ (65, 0) (270 + a1)).bind fun v1 => zif (v1 = 0) (tX11_saysMap_129 n7 a1 99 μ) (tX11_saysMap_129 n7 a1 100 μ))) := (zs3 _ _ _ _).trans (rfl)
theorem eX11_saysMap_60 (n7 : Nat) (a1 : Int32) (s1 : Int32) (μ : zM) : tX11_saysMap_60 n7 a1 s1 μ = zU (tX11_says_0 s1 μ) fun μ1 => tX11_saysMap_132 n7 a1 μ1 := (zs3 _ _ _ _).trans (rfl)
theorem eX11_saysMap_35 (n7 : Nat) (a1 : Int32) (a2 : Int32) (μ : zM) : tX11_saysMap_35 n7 a1 a2 μ = (qI μ (65, 0) (150 + a1)).bind fun v1 => zif (v1 = 0) (zif (a2 = 0) (tX11_saysMap_60 n7 a1 46 μ) (tX11_saysMap_60 n7 a1 120 μ)) (zif (a2 = 0) (zU (tX11_says_0 111 μ) fun μ2 => tX11_saysMap_132 n7 a1 μ2) ((qI μ (65, 0) (210 + a1)).bind fun v3 => tX11_saysMap_90 n7 a1 v3 μ)) := (zs3 _ _ _ _).trans (rfl)
theorem eX11_saysMap_34 (n7 : Nat) (a1 : Int32) (s0 : Int32) (μ : zM) : tX11_saysMap_34 n7 a1 s0 μ = tX11_saysMap_35 n7 a1 s0 μ := (zs3 _ _ _ _).trans (rfl)
theorem eX11_saysMap_7 (a1 : Int32) (n : Nat) (μ : zM) : tX11_saysMap_7 (n + 1) a1 μ = (qI μ (63, 0) 0).bind fun v1 => zif (a1 < v1) ((qI μ (65, 0) (90 + a1)).bind fun v2 => zif (v2 < 0) (tX11_saysMap_34 n a1 0 μ) (tX11_saysMap_34 n a1 1 μ)) (zU (tX11_says_0 10 μ) fun μ3 => some (none, μ3)) := (zs3 _ _ _ _).trans (rfl)
theorem eX11_saysMap_0 (μ : zM) : tX11_saysMap_0 μ = zlet (mS μ 11 0 21 0) fun μ1 => tX11_saysMap_7 zN 0 μ1 := (zs3 _ _ _ _).trans (rfl)
theorem uX11_saysMap (μ : zM) : gX11_saysMap [.inr (.inr (11, 0))] μ = tX11_saysMap_0 μ := rfl
/-! BaggageHandlingModel.said(I)I -/
noncomputable def tX11_said_27 (s0 : Int32) (μ : zM) : Option (Option zV × zM) := fX11_said_27 [none, none] [.inl s0] μ
noncomputable def tX11_said_0 (a1 : Int32) (μ : zM) : Option (Option zV × zM) := fX11_said_0 [some (.inr (.inr (11, 0))), some (.inl a1)] [] μ
theorem eX11_said_27 (s0 : Int32) (μ : zM) : tX11_said_27 s0 μ = some (some (.inl s0), μ) := (zs3 _ _ _ _).trans (rfl)
theorem eX11_said_0 (a1 : Int32) (μ : zM) : tX11_said_0 a1 μ = zif (a1 < 0) (tX11_said_27 (-1) μ) (zif (a1 < μ.1 11 0 21) ((qI μ (73, 0) a1).bind fun v1 => tX11_said_27 v1 μ) (tX11_said_27 (-2) μ)) := (zs3 _ _ _ _).trans (rfl)
theorem uX11_said (a1 : Int32) (μ : zM) : gX11_said [.inr (.inr (11, 0)), .inl a1] μ = tX11_said_0 a1 μ := rfl
/-! BaggageHandlingModel.mapLength()I -/
noncomputable def tX11_mapLength_0 (μ : zM) : Option (Option zV × zM) := fX11_mapLength_0 [some (.inr (.inr (11, 0)))] [] μ
theorem eX11_mapLength_0 (μ : zM) : tX11_mapLength_0 μ = zU (tX11_saysMap_0 μ) fun μ1 => some (some (.inl (μ1.1 11 0 21)), μ1) := (zs3 _ _ _ _).trans (rfl)
theorem uX11_mapLength (μ : zM) : gX11_mapLength [.inr (.inr (11, 0))] μ = tX11_mapLength_0 μ := rfl
/-! BaggageHandlingModel.mapByte(I)I -/
noncomputable def tX11_mapByte_0 (a1 : Int32) (μ : zM) : Option (Option zV × zM) := fX11_mapByte_0 [some (.inr (.inr (11, 0))), some (.inl a1)] [] μ
theorem eX11_mapByte_0 (a1 : Int32) (μ : zM) : tX11_mapByte_0 a1 μ = zU (tX11_saysMap_0 μ) fun μ1 => zI (tX11_said_0 a1 μ1) fun v3 μ2 => some (some (.inl v3), μ2) := (zs3 _ _ _ _).trans (rfl)
theorem uX11_mapByte (a1 : Int32) (μ : zM) : gX11_mapByte [.inr (.inr (11, 0)), .inl a1] μ = tX11_mapByte_0 a1 μ := rfl
/-! BaggageHandlingModel.setupLength()I -/
noncomputable def tX11_setupLength_0 (μ : zM) : Option (Option zV × zM) := fX11_setupLength_0 [some (.inr (.inr (11, 0)))] [] μ
theorem eX11_setupLength_0 (μ : zM) : tX11_setupLength_0 μ = zU (tX11_saysSetup_0 μ) fun μ1 => some (some (.inl (μ1.1 11 0 21)), μ1) := (zs3 _ _ _ _).trans (rfl)
theorem uX11_setupLength (μ : zM) : gX11_setupLength [.inr (.inr (11, 0))] μ = tX11_setupLength_0 μ := rfl
/-! BaggageHandlingModel.setupByte(I)I -/
noncomputable def tX11_setupByte_0 (a1 : Int32) (μ : zM) : Option (Option zV × zM) := fX11_setupByte_0 [some (.inr (.inr (11, 0))), some (.inl a1)] [] μ
theorem eX11_setupByte_0 (a1 : Int32) (μ : zM) : tX11_setupByte_0 a1 μ = zU (tX11_saysSetup_0 μ) fun μ1 => zI (tX11_said_0 a1 μ1) fun v3 μ2 => some (some (.inl v3), μ2) := (zs3 _ _ _ _).trans (rfl)
theorem uX11_setupByte (a1 : Int32) (μ : zM) : gX11_setupByte [.inr (.inr (11, 0)), .inl a1] μ = tX11_setupByte_0 a1 μ := rfl
/-! BaggageHandlingModel.tapeLength()I -/
noncomputable def tX11_tapeLength_0 (μ : zM) : Option (Option zV × zM) := fX11_tapeLength_0 [some (.inr (.inr (11, 0)))] [] μ
theorem eX11_tapeLength_0 (μ : zM) : tX11_tapeLength_0 μ = some (some (.inl (μ.1 11 0 1)), μ) := (zs3 _ _ _ _).trans (rfl)
theorem uX11_tapeLength (μ : zM) : gX11_tapeLength [.inr (.inr (11, 0))] μ = tX11_tapeLength_0 μ := rfl
