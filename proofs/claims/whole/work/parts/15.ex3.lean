/-! BaggageHandling$World.deliver(II)V -/
noncomputable def tX9_deliver_104 (is0 : Nat) (s1 : Int32) (s2 : Int32) (μ : zM) : Option (Option zV × zM) := fX9_deliver_104 [none, none, none, none, none] [.inl s2, .inl s1, .inr (.inr (29, is0))] μ
noncomputable def tX9_deliver_86 (ia0 : Nat) (a1 : Int32) (a3 : Int32) (a4 : Int32) (μ : zM) : Option (Option zV × zM) := fX9_deliver_86 [some (.inr (.inr (9, ia0))), some (.inl a1), none, some (.inl a3), some (.inl a4)] [] μ
noncomputable def tX9_deliver_84 (ia0 : Nat) (a1 : Int32) (a3 : Int32) (s0 : Int32) (μ : zM) : Option (Option zV × zM) := fX9_deliver_84 [some (.inr (.inr (9, ia0))), some (.inl a1), none, some (.inl a3), none] [.inl s0] μ
noncomputable def tX9_deliver_83 (ia0 : Nat) (a1 : Int32) (a3 : Int32) (μ : zM) : Option (Option zV × zM) := fX9_deliver_83 [some (.inr (.inr (9, ia0))), some (.inl a1), none, some (.inl a3), none] [] μ
noncomputable def tX9_deliver_58 (ia0 : Nat) (a1 : Int32) (a2 : Int32) (a3 : Int32) (μ : zM) : Option (Option zV × zM) := fX9_deliver_58 [some (.inr (.inr (9, ia0))), some (.inl a1), some (.inl a2), some (.inl a3), none] [] μ
noncomputable def tX9_deliver_0 (ia0 : Nat) (a1 : Int32) (a2 : Int32) (μ : zM) : Option (Option zV × zM) := fX9_deliver_0 [some (.inr (.inr (9, ia0))), some (.inl a1), some (.inl a2), none, none] [] μ
theorem eX9_deliver_104 (is0 : Nat) (s1 : Int32) (s2 : Int32) (μ : zM) : tX9_deliver_104 is0 s1 s2 μ = (wI μ (29, is0) s1 s2).bind fun μ1 => some (none, μ1) := (zs3 _ _ _ _).trans (rfl)
theorem eX9_deliver_86 (ia0 : Nat) (a1 : Int32) (a3 : Int32) (a4 : Int32) (μ : zM) : tX9_deliver_86 ia0 a1 a3 a4 μ = zif (a4 = 0) (tX9_deliver_104 ia0 a1 (-1) μ) (tX9_deliver_104 ia0 a1 a3 μ) := (zs3 _ _ _ _).trans (rfl)
theorem eX9_deliver_84 (ia0 : Nat) (a1 : Int32) (a3 : Int32) (s0 : Int32) (μ : zM) : tX9_deliver_84 ia0 a1 a3 s0 μ = tX9_deliver_86 ia0 a1 a3 s0 μ := (zs3 _ _ _ _).trans (rfl)
theorem eX9_deliver_83 (ia0 : Nat) (a1 : Int32) (a3 : Int32) (μ : zM) : tX9_deliver_83 ia0 a1 a3 μ = tX9_deliver_84 ia0 a1 a3 0 μ := (zs3 _ _ _ _).trans (rfl)
theorem eX9_deliver_58 (ia0 : Nat) (a1 : Int32) (a2 : Int32) (a3 : Int32) (μ : zM) : tX9_deliver_58 ia0 a1 a2 a3 μ = zif (a3 = (-1)) (tX9_deliver_83 ia0 a1 a3 μ) (zif (μ.2.1 9 ia0 0 < 2) ((qI μ (32, μ.2.1 9 ia0 0) a3).bind fun v2 => zif (v2 = a2) (tX9_deliver_84 ia0 a1 a3 1 μ) (tX9_deliver_83 ia0 a1 a3 μ)) none) := (zs3 _ _ _ _).trans (rfl)
theorem eX9_deliver_0 (ia0 : Nat) (a1 : Int32) (a2 : Int32) (μ : zM) : tX9_deliver_0 ia0 a1 a2 μ = zU (tX0_put_0 ia0 a1 2 a2 μ) fun μ1 => zU (tX4_removeAt_0 (2 * ia0 + 1) a1 μ1) fun μ2 => (qI μ2 (57, ia0) 7).bind fun v3 => (wI μ2 (57, ia0) 7 (v3 + 1)).bind fun μ4 => (wI μ4 (28, ia0) a1 (μ4.1 9 ia0 1)).bind fun μ5 => zif (μ5.2.1 9 ia0 0 < 2) (zI (tX9_usableLabel_0 ia0 a1 μ5) fun v8 μ7 => zI (tX1_ofLabel_0 (μ5.2.1 9 ia0 0) v8 μ7) fun v10 μ9 => tX9_deliver_58 ia0 a1 a2 v10 μ9) none := (zs3 _ _ _ _).trans (rfl)
theorem uX9_deliver (ia0 : Nat) (a1 : Int32) (a2 : Int32) (μ : zM) : gX9_deliver [.inr (.inr (9, ia0)), .inl a1, .inl a2] μ = tX9_deliver_0 ia0 a1 a2 μ := rfl
/-! BaggageHandling$World.divert(II)V -/
noncomputable def tX9_divert_90 (ia0 : Nat) (μ : zM) : Option (Option zV × zM) := fX9_divert_90 [some (.inr (.inr (9, ia0))), none, none, none, none, none] [] μ
noncomputable def tX9_divert_226 (μ : zM) : Option (Option zV × zM) := fX9_divert_226 [none, none, none, none, none, none] [] μ
noncomputable def tX9_divert_129 (ia0 : Nat) (a1 : Int32) (a2 : Int32) (a3 : Int32) (a5 : Int32) (μ : zM) : Option (Option zV × zM) := fX9_divert_129 [some (.inr (.inr (9, ia0))), some (.inl a1), some (.inl a2), some (.inl a3), none, some (.inl a5)] [] μ
noncomputable def tX9_divert_45 (ia0 : Nat) (a1 : Int32) (a2 : Int32) (a3 : Int32) (a4 : Int32) (μ : zM) : Option (Option zV × zM) := fX9_divert_45 [some (.inr (.inr (9, ia0))), some (.inl a1), some (.inl a2), some (.inl a3), some (.inl a4), none] [] μ
noncomputable def tX9_divert_43 (ia0 : Nat) (a1 : Int32) (a2 : Int32) (a3 : Int32) (s0 : Int32) (μ : zM) : Option (Option zV × zM) := fX9_divert_43 [some (.inr (.inr (9, ia0))), some (.inl a1), some (.inl a2), some (.inl a3), none, none] [.inl s0] μ
noncomputable def tX9_divert_22 (ia0 : Nat) (a1 : Int32) (a2 : Int32) (a3 : Int32) (μ : zM) : Option (Option zV × zM) := fX9_divert_22 [some (.inr (.inr (9, ia0))), some (.inl a1), some (.inl a2), some (.inl a3), none, none] [] μ
noncomputable def tX9_divert_0 (ia0 : Nat) (a1 : Int32) (a2 : Int32) (μ : zM) : Option (Option zV × zM) := fX9_divert_0 [some (.inr (.inr (9, ia0))), some (.inl a1), some (.inl a2), none, none, none] [] μ
theorem eX9_divert_90 (ia0 : Nat) (μ : zM) : tX9_divert_90 ia0 μ = (qI μ (57, ia0) 3).bind fun v1 => (wI μ (57, ia0) 3 (v1 + 1)).bind fun μ2 => some (none, μ2) := (zs3 _ _ _ _).trans (rfl)
theorem eX9_divert_226 (μ : zM) : tX9_divert_226 μ = some (none, μ) := (zs3 _ _ _ _).trans (rfl)
theorem eX9_divert_129 (ia0 : Nat) (a1 : Int32) (a2 : Int32) (a3 : Int32) (a5 : Int32) (μ : zM) : tX9_divert_129 ia0 a1 a2 a3 a5 μ = zif (a5 < 0) (zU (tX4_removeAt_0 (2 * ia0) a2 μ) fun μ1 => (qI μ1 (57, ia0) 4).bind fun v2 => (wI μ1 (57, ia0) 4 (v2 + 1)).bind fun μ3 => some (none, μ3)) ((wI μ (58, ia0) a2 (-1)).bind fun μ4 => zU (tX4_moveIn_0 (2 * ia0 + 1) a5 (2 * ia0) a2 μ4) fun μ5 => zU (tX3_add_0 ia0 a1 a5 μ5) fun μ6 => zif (a3 = 3) (zif (μ6.2.1 9 ia0 0 < 2) ((qI μ6 (44, μ6.2.1 9 ia0 0) a1).bind fun v8 => zU (tX9_deliver_0 ia0 a5 v8 μ6) fun μ9 => tX9_divert_226 μ9) none) (zif (μ6.2.1 9 ia0 0 < 2) ((qI μ6 (44, μ6.2.1 9 ia0 0) a1).bind fun v11 => zU (tX0_put_0 ia0 a5 a3 v11 μ6) fun μ12 => tX9_divert_226 μ12) none)) := (zs3 _ _ _ _).trans (rfl)
theorem eX9_divert_45 (ia0 : Nat) (a1 : Int32) (a2 : Int32) (a3 : Int32) (a4 : Int32) (μ : zM) : tX9_divert_45 ia0 a1 a2 a3 a4 μ = zI (tX9_goalOf_0 ia0 a2 μ) fun v2 μ1 => zif (v2 = a4) ((qI μ1 (38, ia0) a1).bind fun v3 => zif (μ1.2.1 9 ia0 0 < 2) ((qI μ1 (45, μ1.2.1 9 ia0 0) a1).bind fun v5 => zif (v3 < v5) ((qI μ1 (59, ia0) a1).bind fun v6 => zif (μ1.1 9 ia0 1 < v6) (tX9_divert_90 ia0 μ1) (zif (μ1.2.1 9 ia0 0 < 2) ((qI μ1 (46, μ1.2.1 9 ia0 0) a1).bind fun v8 => (wI μ1 (59, ia0) a1 ((μ1.1 9 ia0 1) + v8)).bind fun μ9 => (qI μ9 (58, ia0) a2).bind fun v10 => tX9_divert_129 ia0 a1 a2 a3 v10 μ9) none)) (tX9_divert_90 ia0 μ1)) none) (some (none, μ1)) := (zs3 _ _ _ _).trans (rfl)
theorem eX9_divert_43 (ia0 : Nat) (a1 : Int32) (a2 : Int32) (a3 : Int32) (s0 : Int32) (μ : zM) : tX9_divert_43 ia0 a1 a2 a3 s0 μ = tX9_divert_45 ia0 a1 a2 a3 s0 μ := (zs3 _ _ _ _).trans (rfl)
theorem eX9_divert_22 (ia0 : Nat) (a1 : Int32) (a2 : Int32) (a3 : Int32) (μ : zM) : tX9_divert_22 ia0 a1 a2 a3 μ = zif (a3 = 3) (zif (μ.2.1 9 ia0 0 < 2) ((qI μ (44, μ.2.1 9 ia0 0) a1).bind fun v2 => tX9_divert_43 ia0 a1 a2 a3 (10 + v2) μ) none) (tX9_divert_43 ia0 a1 a2 a3 a3 μ) := (zs3 _ _ _ _).trans (rfl)
theorem eX9_divert_0 (ia0 : Nat) (a1 : Int32) (a2 : Int32) (μ : zM) : tX9_divert_0 ia0 a1 a2 μ = zI (tX4_has_0 (2 * ia0) a2 μ) fun v2 μ1 => zif (v2 = 0) (some (none, μ1)) (zif (μ1.2.1 9 ia0 0 < 2) ((qI μ1 (43, μ1.2.1 9 ia0 0) a1).bind fun v4 => tX9_divert_22 ia0 a1 a2 v4 μ1) none) := (zs3 _ _ _ _).trans (rfl)
theorem uX9_divert (ia0 : Nat) (a1 : Int32) (a2 : Int32) (μ : zM) : gX9_divert [.inr (.inr (9, ia0)), .inl a1, .inl a2] μ = tX9_divert_0 ia0 a1 a2 μ := rfl
/-! BaggageHandling$World.enter(II)V -/
noncomputable def tX9_enter_20 (μ : zM) : Option (Option zV × zM) := fX9_enter_20 [none, none, none, none] [] μ
noncomputable def tX9_enter_30 (ia0 : Nat) (a2 : Int32) (a3 : Int32) (μ : zM) : Option (Option zV × zM) := fX9_enter_30 [some (.inr (.inr (9, ia0))), none, some (.inl a2), some (.inl a3)] [] μ
noncomputable def tX9_enter_0 (ia0 : Nat) (a1 : Int32) (a2 : Int32) (μ : zM) : Option (Option zV × zM) := fX9_enter_0 [some (.inr (.inr (9, ia0))), some (.inl a1), some (.inl a2), none] [] μ
theorem eX9_enter_20 (μ : zM) : tX9_enter_20 μ = some (none, μ) := (zs3 _ _ _ _).trans (rfl)
theorem eX9_enter_30 (ia0 : Nat) (a2 : Int32) (a3 : Int32) (μ : zM) : tX9_enter_30 ia0 a2 a3 μ = zif (a3 < 0) (some (none, μ)) (zU (tX4_moveIn_0 (2 * ia0) a2 (2 * ia0 + 1) a3 μ) fun μ1 => (wI μ1 (58, ia0) a2 a3).bind fun μ2 => zU (tX0_put_0 ia0 a3 1 a2 μ2) fun μ3 => some (none, μ3)) := (zs3 _ _ _ _).trans (rfl)
theorem eX9_enter_0 (ia0 : Nat) (a1 : Int32) (a2 : Int32) (μ : zM) : tX9_enter_0 ia0 a1 a2 μ = (qI μ (58, ia0) a2).bind fun v1 => zif (v1 < 0) (zI (tX4_has_0 (2 * ia0) a2 μ) fun v3 μ2 => zif (v3 = 0) (zI (tX3_takeFirst_0 ia0 a1 μ2) fun v5 μ4 => tX9_enter_30 ia0 a2 v5 μ4) (tX9_enter_20 μ2)) (tX9_enter_20 μ) := (zs3 _ _ _ _).trans (rfl)
theorem uX9_enter (ia0 : Nat) (a1 : Int32) (a2 : Int32) (μ : zM) : gX9_enter [.inr (.inr (9, ia0)), .inl a1, .inl a2] μ = tX9_enter_0 ia0 a1 a2 μ := rfl
/-! BaggageHandling$World.step()V -/
noncomputable def tX9_step_214 (n136 : Nat) (ia0 : Nat) (a1 : Int32) (μ : zM) : Option (Option zV × zM) := fX9_step_214 (fX9_step_136 n136) [some (.inr (.inr (9, ia0))), some (.inl a1), none, none, none] [] μ
noncomputable def tX9_step_211 (n136 : Nat) (ia0 : Nat) (a1 : Int32) (μ : zM) : Option (Option zV × zM) := fX9_step_211 (fX9_step_136 n136) [some (.inr (.inr (9, ia0))), some (.inl a1), none, none, none] [] μ
noncomputable def tX9_step_174 (n136 : Nat) (ia0 : Nat) (a1 : Int32) (a2 : Int32) (a3 : Int32) (a4 : Int32) (μ : zM) : Option (Option zV × zM) := fX9_step_174 (fX9_step_136 n136) [some (.inr (.inr (9, ia0))), some (.inl a1), some (.inl a2), some (.inl a3), some (.inl a4)] [] μ
noncomputable def tX9_step_163 (n136 : Nat) (ia0 : Nat) (a1 : Int32) (a2 : Int32) (a3 : Int32) (μ : zM) : Option (Option zV × zM) := fX9_step_163 (fX9_step_136 n136) [some (.inr (.inr (9, ia0))), some (.inl a1), some (.inl a2), some (.inl a3), none] [] μ
noncomputable def tX9_step_157 (n136 : Nat) (ia0 : Nat) (a1 : Int32) (a2 : Int32) (μ : zM) : Option (Option zV × zM) := fX9_step_157 (fX9_step_136 n136) [some (.inr (.inr (9, ia0))), some (.inl a1), some (.inl a2), none, none] [] μ
noncomputable def tX9_step_136 (n : Nat) (ia0 : Nat) (a1 : Int32) (μ : zM) : Option (Option zV × zM) := fX9_step_136 n [some (.inr (.inr (9, ia0))), some (.inl a1), none, none, none] [] μ
noncomputable def tX9_step_131 (n100 : Nat) (ia0 : Nat) (a1 : Int32) (μ : zM) : Option (Option zV × zM) := fX9_step_131 (fX9_step_100 n100) [some (.inr (.inr (9, ia0))), some (.inl a1), none, none, none] [] μ
noncomputable def tX9_step_100 (n : Nat) (ia0 : Nat) (a1 : Int32) (μ : zM) : Option (Option zV × zM) := fX9_step_100 n [some (.inr (.inr (9, ia0))), some (.inl a1), none, none, none] [] μ
noncomputable def tX9_step_95 (n64 : Nat) (ia0 : Nat) (a1 : Int32) (μ : zM) : Option (Option zV × zM) := fX9_step_95 (fX9_step_64 n64) [some (.inr (.inr (9, ia0))), some (.inl a1), none, none, none] [] μ
noncomputable def tX9_step_64 (n : Nat) (ia0 : Nat) (a1 : Int32) (μ : zM) : Option (Option zV × zM) := fX9_step_64 n [some (.inr (.inr (9, ia0))), some (.inl a1), none, none, none] [] μ
noncomputable def tX9_step_59 (n26 : Nat) (ia0 : Nat) (a1 : Int32) (μ : zM) : Option (Option zV × zM) := fX9_step_59 (fX9_step_26 n26) [some (.inr (.inr (9, ia0))), some (.inl a1), none, none, none] [] μ
noncomputable def tX9_step_26 (n : Nat) (ia0 : Nat) (a1 : Int32) (μ : zM) : Option (Option zV × zM) := fX9_step_26 n [some (.inr (.inr (9, ia0))), some (.inl a1), none, none, none] [] μ
noncomputable def tX9_step_0 (ia0 : Nat) (μ : zM) : Option (Option zV × zM) := fX9_step_0 [some (.inr (.inr (9, ia0))), none, none, none, none] [] μ
theorem eX9_step_214 (n136 : Nat) (ia0 : Nat) (a1 : Int32) (μ : zM) : tX9_step_214 n136 ia0 a1 μ = tX9_step_136 n136 ia0 a1 μ := (zs3 _ _ _ _).trans (rfl)
theorem eX9_step_211 (n136 : Nat) (ia0 : Nat) (a1 : Int32) (μ : zM) : tX9_step_211 n136 ia0 a1 μ = tX9_step_214 n136 ia0 (a1 + 1) μ := (zs3 _ _ _ _).trans (rfl)
theorem eX9_step_174 (n136 : Nat) (ia0 : Nat) (a1 : Int32) (a2 : Int32) (a3 : Int32) (a4 : Int32) (μ : zM) : tX9_step_174 n136 ia0 a1 a2 a3 a4 μ = zif (a4 = 2) (zU (tX9_scan_0 ia0 a3 μ) fun μ1 => tX9_step_211 n136 ia0 a1 μ1) (zI (tX10_isOutlet_0 a4 μ) fun v3 μ2 => zif (v3 = 0) (zU (tX9_enter_0 ia0 a2 a3 μ2) fun μ4 => tX9_step_211 n136 ia0 a1 μ4) (zU (tX9_divert_0 ia0 a2 a3 μ2) fun μ5 => tX9_step_211 n136 ia0 a1 μ5)) := (zs3 _ _ _ _).trans (rfl)
theorem eX9_step_163 (n136 : Nat) (ia0 : Nat) (a1 : Int32) (a2 : Int32) (a3 : Int32) (μ : zM) : tX9_step_163 n136 ia0 a1 a2 a3 μ = zif (μ.2.1 9 ia0 0 < 2) ((qI μ (43, μ.2.1 9 ia0 0) a2).bind fun v2 => tX9_step_174 n136 ia0 a1 a2 a3 v2 μ) none := (zs3 _ _ _ _).trans (rfl)
theorem eX9_step_157 (n136 : Nat) (ia0 : Nat) (a1 : Int32) (a2 : Int32) (μ : zM) : tX9_step_157 n136 ia0 a1 a2 μ = zI (tX9_slotAt_0 ia0 a2 μ) fun v2 μ1 => tX9_step_163 n136 ia0 a1 a2 v2 μ1 := (zs3 _ _ _ _).trans (rfl)
theorem eX9_step_136 (ia0 : Nat) (a1 : Int32) (n : Nat) (μ : zM) : tX9_step_136 (n + 1) ia0 a1 μ = zif (μ.2.1 9 ia0 0 < 2) (zif (a1 < μ.1 5 (μ.2.1 9 ia0 0) 15) (zif (μ.2.1 9 ia0 0 < 2) ((qI μ (52, μ.2.1 9 ia0 0) a1).bind fun v3 => tX9_step_157 n ia0 a1 v3 μ) none) (some (none, μ))) none := (zs3 _ _ _ _).trans (rfl)
theorem eX9_step_131 (n100 : Nat) (ia0 : Nat) (a1 : Int32) (μ : zM) : tX9_step_131 n100 ia0 a1 μ = tX9_step_100 n100 ia0 a1 μ := (zs3 _ _ _ _).trans (rfl)
theorem eX9_step_100 (ia0 : Nat) (a1 : Int32) (n : Nat) (μ : zM) : tX9_step_100 (n + 1) ia0 a1 μ = zif (μ.2.1 9 ia0 0 < 2) ((qI μ (49, μ.2.1 9 ia0 0) 5).bind fun v2 => zif (a1 < v2) (zif (μ.2.1 9 ia0 0 < 2) ((qX 7 5).bind fun e4 => (qI μ (54, 7 * (μ.2.1 9 ia0 0) + e4) a1).bind fun v5 => zU (tX9_workStore_0 ia0 v5 μ) fun μ6 => tX9_step_131 n ia0 (a1 + 1) μ6) none) (tX9_step_136 zN ia0 0 μ)) none := (zs3 _ _ _ _).trans (rfl)
theorem eX9_step_95 (n64 : Nat) (ia0 : Nat) (a1 : Int32) (μ : zM) : tX9_step_95 n64 ia0 a1 μ = tX9_step_64 n64 ia0 a1 μ := (zs3 _ _ _ _).trans (rfl)
theorem eX9_step_64 (ia0 : Nat) (a1 : Int32) (n : Nat) (μ : zM) : tX9_step_64 (n + 1) ia0 a1 μ = zif (μ.2.1 9 ia0 0 < 2) ((qI μ (49, μ.2.1 9 ia0 0) 4).bind fun v2 => zif (a1 < v2) (zif (μ.2.1 9 ia0 0 < 2) ((qX 7 4).bind fun e4 => (qI μ (54, 7 * (μ.2.1 9 ia0 0) + e4) a1).bind fun v5 => zU (tX9_workScreen_0 ia0 v5 μ) fun μ6 => tX9_step_95 n ia0 (a1 + 1) μ6) none) (tX9_step_100 zN ia0 0 μ)) none := (zs3 _ _ _ _).trans (rfl)
theorem eX9_step_59 (n26 : Nat) (ia0 : Nat) (a1 : Int32) (μ : zM) : tX9_step_59 n26 ia0 a1 μ = tX9_step_26 n26 ia0 a1 μ := (zs3 _ _ _ _).trans (rfl)
theorem eX9_step_26 (ia0 : Nat) (a1 : Int32) (n : Nat) (μ : zM) : tX9_step_26 (n + 1) ia0 a1 μ = zif (μ.2.1 9 ia0 0 < 2) ((qI μ (49, μ.2.1 9 ia0 0) 6).bind fun v2 => zif (a1 < v2) (zif (μ.2.1 9 ia0 0 < 2) ((qX 7 6).bind fun e4 => (qI μ (54, 7 * (μ.2.1 9 ia0 0) + e4) a1).bind fun v5 => zU (tX9_workStation_0 ia0 v5 μ) fun μ6 => tX9_step_59 n ia0 (a1 + 1) μ6) none) (tX9_step_64 zN ia0 0 μ)) none := (zs3 _ _ _ _).trans (rfl)
theorem eX9_step_0 (ia0 : Nat) (μ : zM) : tX9_step_0 ia0 μ = zlet (mS μ 9 ia0 1 ((μ.1 9 ia0 1) + 1)) fun μ1 => zI (tX9_wrapped_0 ia0 ((μ1.1 9 ia0 2) + 1) μ1) fun v3 μ2 => zlet (mS μ2 9 ia0 2 v3) fun μ4 => tX9_step_26 zN ia0 0 μ4 := (zs3 _ _ _ _).trans (rfl)
theorem uX9_step (ia0 : Nat) (μ : zM) : gX9_step [.inr (.inr (9, ia0))] μ = tX9_step_0 ia0 μ := rfl
/-! BaggageHandling$World.deliveriesWithin(I)I -/
noncomputable def tX9_deliveriesWithin_22 (n10 : Nat) (ia0 : Nat) (a1 : Int32) (a2 : Int32) (a3 : Int32) (μ : zM) : Option (Option zV × zM) := fX9_deliveriesWithin_22 (fX9_deliveriesWithin_10 n10) [some (.inr (.inr (9, ia0))), some (.inl a1), some (.inl a2), some (.inl a3)] [] μ
noncomputable def tX9_deliveriesWithin_10 (n : Nat) (ia0 : Nat) (a1 : Int32) (a2 : Int32) (a3 : Int32) (μ : zM) : Option (Option zV × zM) := fX9_deliveriesWithin_10 n [some (.inr (.inr (9, ia0))), some (.inl a1), some (.inl a2), some (.inl a3)] [] μ
noncomputable def tX9_deliveriesWithin_8 (ia0 : Nat) (a1 : Int32) (a2 : Int32) (μ : zM) : Option (Option zV × zM) := fX9_deliveriesWithin_8 [some (.inr (.inr (9, ia0))), some (.inl a1), some (.inl a2), none] [] μ
noncomputable def tX9_deliveriesWithin_0 (ia0 : Nat) (a1 : Int32) (μ : zM) : Option (Option zV × zM) := fX9_deliveriesWithin_0 [some (.inr (.inr (9, ia0))), some (.inl a1), none, none] [] μ
theorem eX9_deliveriesWithin_22 (n10 : Nat) (ia0 : Nat) (a1 : Int32) (a2 : Int32) (a3 : Int32) (μ : zM) : tX9_deliveriesWithin_22 n10 ia0 a1 a2 a3 μ = tX9_deliveriesWithin_10 n10 ia0 a1 a2 a3 μ := (zs3 _ _ _ _).trans (rfl)
theorem eX9_deliveriesWithin_10 (ia0 : Nat) (a1 : Int32) (a2 : Int32) (a3 : Int32) (n : Nat) (μ : zM) : tX9_deliveriesWithin_10 (n + 1) ia0 a1 a2 a3 μ = zif (a3 < a1) (zU (tX9_step_0 ia0 μ) fun μ1 => tX9_deliveriesWithin_22 n ia0 a1 a2 (a3 + 1) μ1) ((qI μ (57, ia0) 7).bind fun v2 => some (some (.inl (v2 - a2)), μ)) := (zs3 _ _ _ _).trans (rfl)
theorem eX9_deliveriesWithin_8 (ia0 : Nat) (a1 : Int32) (a2 : Int32) (μ : zM) : tX9_deliveriesWithin_8 ia0 a1 a2 μ = tX9_deliveriesWithin_10 zN ia0 a1 a2 0 μ := (zs3 _ _ _ _).trans (rfl)
theorem eX9_deliveriesWithin_0 (ia0 : Nat) (a1 : Int32) (μ : zM) : tX9_deliveriesWithin_0 ia0 a1 μ = (qI μ (57, ia0) 7).bind fun v1 => tX9_deliveriesWithin_8 ia0 a1 v1 μ := (zs3 _ _ _ _).trans (rfl)
theorem uX9_deliveriesWithin (ia0 : Nat) (a1 : Int32) (μ : zM) : gX9_deliveriesWithin [.inr (.inr (9, ia0)), .inl a1] μ = tX9_deliveriesWithin_0 ia0 a1 μ := rfl
/-! BaggageHandling$World.ticksUntilDelivered(II)I -/
noncomputable def tX9_ticksUntilDelivered_70 (s0 : Int32) (μ : zM) : Option (Option zV × zM) := fX9_ticksUntilDelivered_70 [none, none, none, none] [.inl s0] μ
noncomputable def tX9_ticksUntilDelivered_53 (ia0 : Nat) (a1 : Int32) (a3 : Int32) (μ : zM) : Option (Option zV × zM) := fX9_ticksUntilDelivered_53 [some (.inr (.inr (9, ia0))), some (.inl a1), none, some (.inl a3)] [] μ
noncomputable def tX9_ticksUntilDelivered_50 (n16 : Nat) (ia0 : Nat) (a1 : Int32) (a2 : Int32) (a3 : Int32) (μ : zM) : Option (Option zV × zM) := fX9_ticksUntilDelivered_50 (fX9_ticksUntilDelivered_16 n16) [some (.inr (.inr (9, ia0))), some (.inl a1), some (.inl a2), some (.inl a3)] [] μ
noncomputable def tX9_ticksUntilDelivered_16 (n : Nat) (ia0 : Nat) (a1 : Int32) (a2 : Int32) (a3 : Int32) (μ : zM) : Option (Option zV × zM) := fX9_ticksUntilDelivered_16 n [some (.inr (.inr (9, ia0))), some (.inl a1), some (.inl a2), some (.inl a3)] [] μ
noncomputable def tX9_ticksUntilDelivered_0 (ia0 : Nat) (a1 : Int32) (a2 : Int32) (μ : zM) : Option (Option zV × zM) := fX9_ticksUntilDelivered_0 [some (.inr (.inr (9, ia0))), some (.inl a1), some (.inl a2), none] [] μ
theorem eX9_ticksUntilDelivered_70 (s0 : Int32) (μ : zM) : tX9_ticksUntilDelivered_70 s0 μ = some (some (.inl s0), μ) := (zs3 _ _ _ _).trans (rfl)
theorem eX9_ticksUntilDelivered_53 (ia0 : Nat) (a1 : Int32) (a3 : Int32) (μ : zM) : tX9_ticksUntilDelivered_53 ia0 a1 a3 μ = zI (tX0_isDelivered_0 ia0 a1 μ) fun v2 μ1 => zif (v2 = 0) (tX9_ticksUntilDelivered_70 (-2) μ1) (tX9_ticksUntilDelivered_70 a3 μ1) := (zs3 _ _ _ _).trans (rfl)
theorem eX9_ticksUntilDelivered_50 (n16 : Nat) (ia0 : Nat) (a1 : Int32) (a2 : Int32) (a3 : Int32) (μ : zM) : tX9_ticksUntilDelivered_50 n16 ia0 a1 a2 a3 μ = tX9_ticksUntilDelivered_16 n16 ia0 a1 a2 a3 μ := (zs3 _ _ _ _).trans (rfl)
theorem eX9_ticksUntilDelivered_16 (ia0 : Nat) (a1 : Int32) (a2 : Int32) (a3 : Int32) (n : Nat) (μ : zM) : tX9_ticksUntilDelivered_16 (n + 1) ia0 a1 a2 a3 μ = zif (a3 < a2) (zI (tX0_isDelivered_0 ia0 a1 μ) fun v2 μ1 => zif (v2 = 0) (zI (tX0_isGone_0 ia0 a1 μ1) fun v4 μ3 => zif (v4 = 0) (zU (tX9_step_0 ia0 μ3) fun μ5 => tX9_ticksUntilDelivered_50 n ia0 a1 a2 (a3 + 1) μ5) (tX9_ticksUntilDelivered_53 ia0 a1 a3 μ3)) (tX9_ticksUntilDelivered_53 ia0 a1 a3 μ1)) (tX9_ticksUntilDelivered_53 ia0 a1 a3 μ) := (zs3 _ _ _ _).trans (rfl)
theorem eX9_ticksUntilDelivered_0 (ia0 : Nat) (a1 : Int32) (a2 : Int32) (μ : zM) : tX9_ticksUntilDelivered_0 ia0 a1 a2 μ = zI (tX0_has_0 ia0 a1 μ) fun v2 μ1 => zif (v2 = 0) (some (some (.inl (-2)), μ1)) (tX9_ticksUntilDelivered_16 zN ia0 a1 a2 0 μ1) := (zs3 _ _ _ _).trans (rfl)
theorem uX9_ticksUntilDelivered (ia0 : Nat) (a1 : Int32) (a2 : Int32) (μ : zM) : gX9_ticksUntilDelivered [.inr (.inr (9, ia0)), .inl a1, .inl a2] μ = tX9_ticksUntilDelivered_0 ia0 a1 a2 μ := rfl
/-! BaggageHandling$World.isStray(II)Z -/
noncomputable def tX9_isStray_92 (s0 : Int32) (μ : zM) : Option (Option zV × zM) := fX9_isStray_92 [none, none, none, none, none] [.inl s0] μ
noncomputable def tX9_isStray_87 (μ : zM) : Option (Option zV × zM) := fX9_isStray_87 [none, none, none, none, none] [] μ
noncomputable def tX9_isStray_64 (ia0 : Nat) (a2 : Int32) (a4 : Int32) (μ : zM) : Option (Option zV × zM) := fX9_isStray_64 [some (.inr (.inr (9, ia0))), none, some (.inl a2), none, some (.inl a4)] [] μ
noncomputable def tX9_isStray_43 (ia0 : Nat) (a1 : Int32) (a2 : Int32) (μ : zM) : Option (Option zV × zM) := fX9_isStray_43 [some (.inr (.inr (9, ia0))), some (.inl a1), some (.inl a2), none, none] [] μ
noncomputable def tX9_isStray_20 (ia0 : Nat) (a1 : Int32) (a2 : Int32) (a3 : Int32) (μ : zM) : Option (Option zV × zM) := fX9_isStray_20 [some (.inr (.inr (9, ia0))), some (.inl a1), some (.inl a2), some (.inl a3), none] [] μ
noncomputable def tX9_isStray_0 (ia0 : Nat) (a1 : Int32) (a2 : Int32) (μ : zM) : Option (Option zV × zM) := fX9_isStray_0 [some (.inr (.inr (9, ia0))), some (.inl a1), some (.inl a2), none, none] [] μ
theorem eX9_isStray_92 (s0 : Int32) (μ : zM) : tX9_isStray_92 s0 μ = zif (vp_nar .boolean s0 = s0) (some (some (.inl s0), μ)) none := (zs3 _ _ _ _).trans (rfl)
theorem eX9_isStray_87 (μ : zM) : tX9_isStray_87 μ = tX9_isStray_92 1 μ := (zs3 _ _ _ _).trans (rfl)
theorem eX9_isStray_64 (ia0 : Nat) (a2 : Int32) (a4 : Int32) (μ : zM) : tX9_isStray_64 ia0 a2 a4 μ = zif (a4 = (-1)) (tX9_isStray_87 μ) (zif (μ.2.1 9 ia0 0 < 2) ((qI μ (32, μ.2.1 9 ia0 0) a4).bind fun v2 => zif (v2 = a2) (tX9_isStray_92 0 μ) (tX9_isStray_87 μ)) none) := (zs3 _ _ _ _).trans (rfl)
theorem eX9_isStray_43 (ia0 : Nat) (a1 : Int32) (a2 : Int32) (μ : zM) : tX9_isStray_43 ia0 a1 a2 μ = zif (μ.2.1 9 ia0 0 < 2) ((qI μ (23, ia0) a1).bind fun v2 => zI (tX1_ofLabel_0 (μ.2.1 9 ia0 0) v2 μ) fun v4 μ3 => tX9_isStray_64 ia0 a2 v4 μ3) none := (zs3 _ _ _ _).trans (rfl)
theorem eX9_isStray_20 (ia0 : Nat) (a1 : Int32) (a2 : Int32) (a3 : Int32) (μ : zM) : tX9_isStray_20 ia0 a1 a2 a3 μ = zif (a3 = (-1)) (tX9_isStray_43 ia0 a1 a2 μ) (zif (μ.2.1 9 ia0 0 < 2) ((qI μ (32, μ.2.1 9 ia0 0) a3).bind fun v2 => zif (v2 = a2) (zif (vp_nar .boolean 0 = 0) (some (some (.inl 0), μ)) none) (tX9_isStray_43 ia0 a1 a2 μ)) none) := (zs3 _ _ _ _).trans (rfl)
theorem eX9_isStray_0 (ia0 : Nat) (a1 : Int32) (a2 : Int32) (μ : zM) : tX9_isStray_0 ia0 a1 a2 μ = zif (μ.2.1 9 ia0 0 < 2) ((qI μ (21, ia0) a1).bind fun v2 => zI (tX1_ofLabel_0 (μ.2.1 9 ia0 0) v2 μ) fun v4 μ3 => tX9_isStray_20 ia0 a1 a2 v4 μ3) none := (zs3 _ _ _ _).trans (rfl)
theorem uX9_isStray (ia0 : Nat) (a1 : Int32) (a2 : Int32) (μ : zM) : gX9_isStray [.inr (.inr (9, ia0)), .inl a1, .inl a2] μ = tX9_isStray_0 ia0 a1 a2 μ := rfl
/-! BaggageHandling$World.ridersWith(Z)I -/
noncomputable def tX9_ridersWith_42 (n4 : Nat) (ia0 : Nat) (a1 : Int32) (a2 : Int32) (a3 : Int32) (μ : zM) : Option (Option zV × zM) := fX9_ridersWith_42 (fX9_ridersWith_4 n4) [some (.inr (.inr (9, ia0))), some (.inl a1), some (.inl a2), some (.inl a3)] [] μ
noncomputable def tX9_ridersWith_39 (n4 : Nat) (ia0 : Nat) (a1 : Int32) (a2 : Int32) (a3 : Int32) (μ : zM) : Option (Option zV × zM) := fX9_ridersWith_39 (fX9_ridersWith_4 n4) [some (.inr (.inr (9, ia0))), some (.inl a1), some (.inl a2), some (.inl a3)] [] μ
noncomputable def tX9_ridersWith_4 (n : Nat) (ia0 : Nat) (a1 : Int32) (a2 : Int32) (a3 : Int32) (μ : zM) : Option (Option zV × zM) := fX9_ridersWith_4 n [some (.inr (.inr (9, ia0))), some (.inl a1), some (.inl a2), some (.inl a3)] [] μ
noncomputable def tX9_ridersWith_2 (ia0 : Nat) (a1 : Int32) (a2 : Int32) (μ : zM) : Option (Option zV × zM) := fX9_ridersWith_2 [some (.inr (.inr (9, ia0))), some (.inl a1), some (.inl a2), none] [] μ
noncomputable def tX9_ridersWith_0 (ia0 : Nat) (a1 : Int32) (μ : zM) : Option (Option zV × zM) := fX9_ridersWith_0 [some (.inr (.inr (9, ia0))), some (.inl a1), none, none] [] μ
theorem eX9_ridersWith_42 (n4 : Nat) (ia0 : Nat) (a1 : Int32) (a2 : Int32) (a3 : Int32) (μ : zM) : tX9_ridersWith_42 n4 ia0 a1 a2 a3 μ = tX9_ridersWith_4 n4 ia0 a1 a2 a3 μ := (zs3 _ _ _ _).trans (rfl)
theorem eX9_ridersWith_39 (n4 : Nat) (ia0 : Nat) (a1 : Int32) (a2 : Int32) (a3 : Int32) (μ : zM) : tX9_ridersWith_39 n4 ia0 a1 a2 a3 μ = tX9_ridersWith_42 n4 ia0 a1 a2 (a3 + 1) μ := (zs3 _ _ _ _).trans (rfl)
theorem eX9_ridersWith_4 (ia0 : Nat) (a1 : Int32) (a2 : Int32) (a3 : Int32) (n : Nat) (μ : zM) : tX9_ridersWith_4 (n + 1) ia0 a1 a2 a3 μ = zif (μ.2.1 9 ia0 0 < 2) (zif (a3 < μ.1 5 (μ.2.1 9 ia0 0) 0) ((qI μ (58, ia0) a3).bind fun v2 => zif (v2 < 0) (tX9_ridersWith_39 n ia0 a1 a2 a3 μ) (zI (tX4_has_0 (2 * ia0) a3 μ) fun v4 μ3 => zif (v4 = a1) (tX9_ridersWith_39 n ia0 a1 (a2 + 1) a3 μ3) (tX9_ridersWith_39 n ia0 a1 a2 a3 μ3))) (some (some (.inl a2), μ))) none := (zs3 _ _ _ _).trans (rfl)
theorem eX9_ridersWith_2 (ia0 : Nat) (a1 : Int32) (a2 : Int32) (μ : zM) : tX9_ridersWith_2 ia0 a1 a2 μ = tX9_ridersWith_4 zN ia0 a1 a2 0 μ := (zs3 _ _ _ _).trans (rfl)
theorem eX9_ridersWith_0 (ia0 : Nat) (a1 : Int32) (μ : zM) : tX9_ridersWith_0 ia0 a1 μ = tX9_ridersWith_2 ia0 a1 0 μ := (zs3 _ _ _ _).trans (rfl)
theorem uX9_ridersWith (ia0 : Nat) (a1 : Int32) (μ : zM) : gX9_ridersWith [.inr (.inr (9, ia0)), .inl a1] μ = tX9_ridersWith_0 ia0 a1 μ := rfl
/-! BaggageHandling$World.signOf(I)I -/
noncomputable def tX9_signOf_95 (s0 : Int32) (μ : zM) : Option (Option zV × zM) := fX9_signOf_95 [none, none, none] [.inl s0] μ
noncomputable def tX9_signOf_37 (s0 : Int32) (μ : zM) : Option (Option zV × zM) := fX9_signOf_37 [none, none, none] [.inl s0] μ
noncomputable def tX9_signOf_15 (ia0 : Nat) (a1 : Int32) (a2 : Int32) (μ : zM) : Option (Option zV × zM) := fX9_signOf_15 [some (.inr (.inr (9, ia0))), some (.inl a1), some (.inl a2)] [] μ
noncomputable def tX9_signOf_14 (ia0 : Nat) (a1 : Int32) (s0 : Int32) (μ : zM) : Option (Option zV × zM) := fX9_signOf_14 [some (.inr (.inr (9, ia0))), some (.inl a1), none] [.inl s0] μ
noncomputable def tX9_signOf_0 (ia0 : Nat) (a1 : Int32) (μ : zM) : Option (Option zV × zM) := fX9_signOf_0 [some (.inr (.inr (9, ia0))), some (.inl a1), none] [] μ
theorem eX9_signOf_95 (s0 : Int32) (μ : zM) : tX9_signOf_95 s0 μ = some (some (.inl s0), μ) := (zs3 _ _ _ _).trans (rfl)
theorem eX9_signOf_37 (s0 : Int32) (μ : zM) : tX9_signOf_37 s0 μ = some (some (.inl s0), μ) := (zs3 _ _ _ _).trans (rfl)
theorem eX9_signOf_15 (ia0 : Nat) (a1 : Int32) (a2 : Int32) (μ : zM) : tX9_signOf_15 ia0 a1 a2 μ = zI (tX4_has_0 (2 * ia0) a1 μ) fun v2 μ1 => zif (v2 = 0) (zif (a2 = 0) (tX9_signOf_37 46 μ1) (tX9_signOf_37 120 μ1)) (zif (a2 = 0) (some (some (.inl 111), μ1)) ((qI μ1 (40, 2 * ia0) a1).bind fun v3 => zif (v3 = 0) (some (some (.inl 97), μ1)) ((qI μ1 (40, 2 * ia0) a1).bind fun v4 => zif (v4 = (-1)) (some (some (.inl 98), μ1)) ((qI μ1 (42, 2 * ia0) a1).bind fun v5 => zif (v5 = 0) (tX9_signOf_95 99 μ1) (tX9_signOf_95 100 μ1))))) := (zs3 _ _ _ _).trans (rfl)
theorem eX9_signOf_14 (ia0 : Nat) (a1 : Int32) (s0 : Int32) (μ : zM) : tX9_signOf_14 ia0 a1 s0 μ = tX9_signOf_15 ia0 a1 s0 μ := (zs3 _ _ _ _).trans (rfl)
theorem eX9_signOf_0 (ia0 : Nat) (a1 : Int32) (μ : zM) : tX9_signOf_0 ia0 a1 μ = (qI μ (58, ia0) a1).bind fun v1 => zif (v1 < 0) (tX9_signOf_14 ia0 a1 0 μ) (tX9_signOf_14 ia0 a1 1 μ) := (zs3 _ _ _ _).trans (rfl)
theorem uX9_signOf (ia0 : Nat) (a1 : Int32) (μ : zM) : gX9_signOf [.inr (.inr (9, ia0)), .inl a1] μ = tX9_signOf_0 ia0 a1 μ := rfl
/-! BaggageHandling.append(IIIII)I -/
noncomputable def tX10_append_0 (a1 : Int32) (a2 : Int32) (a3 : Int32) (a4 : Int32) (a5 : Int32) (μ : zM) : Option (Option zV × zM) := fX10_append_0 [some (.inr (.inr (10, 0))), some (.inl a1), some (.inl a2), some (.inl a3), some (.inl a4), some (.inl a5)] [] μ
theorem eX10_append_0 (a1 : Int32) (a2 : Int32) (a3 : Int32) (a4 : Int32) (a5 : Int32) (μ : zM) : tX10_append_0 a1 a2 a3 a4 a5 μ = zif ((900 : Int32) < (μ.1 7 0 1) + 20) (some (some (.inl (-1)), μ)) (zU (tX7_addWord_0 a1 μ) fun μ1 => zU (tX7_addWord_0 a2 μ1) fun μ2 => zU (tX7_addWord_0 a3 μ2) fun μ3 => zU (tX7_addWord_0 a4 μ3) fun μ4 => zU (tX7_addWord_0 a5 μ4) fun μ5 => some (some (.inl (μ5.1 7 0 1)), μ5)) := (zs3 _ _ _ _).trans (rfl)
theorem uX10_append (a1 : Int32) (a2 : Int32) (a3 : Int32) (a4 : Int32) (a5 : Int32) (μ : zM) : gX10_append [.inr (.inr (10, 0)), .inl a1, .inl a2, .inl a3, .inl a4, .inl a5] μ = tX10_append_0 a1 a2 a3 a4 a5 μ := rfl
/-! BaggageHandling.truncate(I)I -/
noncomputable def tX10_truncate_15 (μ : zM) : Option (Option zV × zM) := fX10_truncate_15 [none, none] [] μ
noncomputable def tX10_truncate_0 (a1 : Int32) (μ : zM) : Option (Option zV × zM) := fX10_truncate_0 [some (.inr (.inr (10, 0))), some (.inl a1)] [] μ
theorem eX10_truncate_15 (μ : zM) : tX10_truncate_15 μ = some (some (.inl (-1)), μ) := (zs3 _ _ _ _).trans (rfl)
theorem eX10_truncate_0 (a1 : Int32) (μ : zM) : tX10_truncate_0 a1 μ = zif (a1 < 0) (tX10_truncate_15 μ) (zif (μ.1 7 0 1 < a1) (tX10_truncate_15 μ) (zlet (mS μ 7 0 1 ((μ.1 7 0 1) - a1)) fun μ1 => some (some (.inl (μ1.1 7 0 1)), μ1))) := (zs3 _ _ _ _).trans (rfl)
theorem uX10_truncate (a1 : Int32) (μ : zM) : gX10_truncate [.inr (.inr (10, 0)), .inl a1] μ = tX10_truncate_0 a1 μ := rfl
/-! BaggageHandling.load()I -/
noncomputable def tX10_load_51 (ia2 : Nat) (μ : zM) : Option (Option zV × zM) := fX10_load_51 [some (.inr (.inr (10, 0))), none, some (.inr (.inr (5, ia2)))] [] μ
noncomputable def tX10_load_29 (a1 : Int32) (s1 : Int32) (μ : zM) : Option (Option zV × zM) := fX10_load_29 [some (.inr (.inr (10, 0))), some (.inl a1), none] [.inl s1, .inr (.inr (10, 0))] μ
noncomputable def tX10_load_12 (a1 : Int32) (μ : zM) : Option (Option zV × zM) := fX10_load_12 [some (.inr (.inr (10, 0))), some (.inl a1), none] [] μ
noncomputable def tX10_load_0 (μ : zM) : Option (Option zV × zM) := fX10_load_0 [some (.inr (.inr (10, 0))), none, none] [] μ
theorem eX10_load_51 (ia2 : Nat) (μ : zM) : tX10_load_51 ia2 μ = zif (μ.2.1 10 0 7 < 2) ((qP μ (10, 0) 6 (.inr (.inr (5, μ.2.1 10 0 7)))).bind fun μ2 => (qP μ2 (10, 0) 7 (.inr (.inr (5, ia2)))).bind fun μ3 => zif (μ3.2.1 10 0 6 < 2) (zU (tX5_describe_0 (μ3.2.1 10 0 6) μ3) fun μ5 => zif (μ5.2.1 10 0 6 < 2) (zU (tX9_begin_0 0 (μ5.2.1 10 0 6) μ5) fun μ7 => zU (tX2_forget_0 μ7) fun μ8 => zif (μ8.2.1 10 0 6 < 2) (some (some (.inl (μ8.1 5 (μ8.2.1 10 0 6) 0)), μ8)) none) none) none) none := (zs3 _ _ _ _).trans (rfl)
theorem eX10_load_29 (a1 : Int32) (s1 : Int32) (μ : zM) : tX10_load_29 a1 s1 μ = zlet (mS μ 10 0 8 s1) fun μ1 => zlet (mS μ1 7 0 1 0) fun μ2 => zif (a1 = 0) (some (some (.inl (-1)), μ2)) (zif (μ2.2.1 10 0 6 < 2) (tX10_load_51 (μ2.2.1 10 0 6) μ2) none) := (zs3 _ _ _ _).trans (rfl)
theorem eX10_load_12 (a1 : Int32) (μ : zM) : tX10_load_12 a1 μ = zif (a1 = 0) (tX10_load_29 a1 (μ.1 7 0 2) μ) (tX10_load_29 a1 (-2) μ) := (zs3 _ _ _ _).trans (rfl)
theorem eX10_load_0 (μ : zM) : tX10_load_0 μ = zif (μ.2.1 10 0 7 < 2) (zI (tX6_readInto_0 (μ.2.1 10 0 7) μ) fun v3 μ2 => tX10_load_12 v3 μ2) none := (zs3 _ _ _ _).trans (rfl)
theorem uX10_load (μ : zM) : gX10_load [.inr (.inr (10, 0))] μ = tX10_load_0 μ := rfl
/-! BaggageHandling.errorPosition()I -/
noncomputable def tX10_errorPosition_0 (μ : zM) : Option (Option zV × zM) := fX10_errorPosition_0 [some (.inr (.inr (10, 0)))] [] μ
theorem eX10_errorPosition_0 (μ : zM) : tX10_errorPosition_0 μ = some (some (.inl (μ.1 10 0 8)), μ) := (zs3 _ _ _ _).trans (rfl)
theorem uX10_errorPosition (μ : zM) : gX10_errorPosition [.inr (.inr (10, 0))] μ = tX10_errorPosition_0 μ := rfl
/-! BaggageHandling.positions()I -/
noncomputable def tX10_positions_0 (μ : zM) : Option (Option zV × zM) := fX10_positions_0 [some (.inr (.inr (10, 0)))] [] μ
theorem eX10_positions_0 (μ : zM) : tX10_positions_0 μ = zif (μ.2.1 10 0 6 < 2) (some (some (.inl (μ.1 5 (μ.2.1 10 0 6) 0)), μ)) none := (zs3 _ _ _ _).trans (rfl)
theorem uX10_positions (μ : zM) : gX10_positions [.inr (.inr (10, 0))] μ = tX10_positions_0 μ := rfl
/-! BaggageHandling.deviceAt(I)I -/
noncomputable def tX10_deviceAt_24 (s0 : Int32) (μ : zM) : Option (Option zV × zM) := fX10_deviceAt_24 [none, none] [.inl s0] μ
noncomputable def tX10_deviceAt_0 (a1 : Int32) (μ : zM) : Option (Option zV × zM) := fX10_deviceAt_0 [some (.inr (.inr (10, 0))), some (.inl a1)] [] μ
theorem eX10_deviceAt_24 (s0 : Int32) (μ : zM) : tX10_deviceAt_24 s0 μ = some (some (.inl s0), μ) := (zs3 _ _ _ _).trans (rfl)
theorem eX10_deviceAt_0 (a1 : Int32) (μ : zM) : tX10_deviceAt_0 a1 μ = zif (μ.2.1 10 0 6 < 2) (zI (tX5_hasPosition_0 (μ.2.1 10 0 6) a1 μ) fun v3 μ2 => zif (v3 = 0) (tX10_deviceAt_24 (-1) μ2) (zif (μ2.2.1 10 0 6 < 2) ((qI μ2 (43, μ2.2.1 10 0 6) a1).bind fun v5 => tX10_deviceAt_24 v5 μ2) none)) none := (zs3 _ _ _ _).trans (rfl)
theorem uX10_deviceAt (a1 : Int32) (μ : zM) : gX10_deviceAt [.inr (.inr (10, 0)), .inl a1] μ = tX10_deviceAt_0 a1 μ := rfl
/-! BaggageHandling.devices(I)I -/
noncomputable def tX10_devices_24 (s0 : Int32) (μ : zM) : Option (Option zV × zM) := fX10_devices_24 [none, none] [.inl s0] μ
noncomputable def tX10_devices_23 (μ : zM) : Option (Option zV × zM) := fX10_devices_23 [none, none] [] μ
noncomputable def tX10_devices_0 (a1 : Int32) (μ : zM) : Option (Option zV × zM) := fX10_devices_0 [some (.inr (.inr (10, 0))), some (.inl a1)] [] μ
theorem eX10_devices_24 (s0 : Int32) (μ : zM) : tX10_devices_24 s0 μ = some (some (.inl s0), μ) := (zs3 _ _ _ _).trans (rfl)
theorem eX10_devices_23 (μ : zM) : tX10_devices_23 μ = tX10_devices_24 (-1) μ := (zs3 _ _ _ _).trans (rfl)
theorem eX10_devices_0 (a1 : Int32) (μ : zM) : tX10_devices_0 a1 μ = zif (a1 < 1) (tX10_devices_23 μ) (zif ((6 : Int32) < a1) (tX10_devices_23 μ) (zif (μ.2.1 10 0 6 < 2) ((qI μ (49, μ.2.1 10 0 6) a1).bind fun v2 => tX10_devices_24 v2 μ) none)) := (zs3 _ _ _ _).trans (rfl)
theorem uX10_devices (a1 : Int32) (μ : zM) : gX10_devices [.inr (.inr (10, 0)), .inl a1] μ = tX10_devices_0 a1 μ := rfl
/-! BaggageHandling.flights()I -/
noncomputable def tX10_flights_0 (μ : zM) : Option (Option zV × zM) := fX10_flights_0 [some (.inr (.inr (10, 0)))] [] μ
theorem eX10_flights_0 (μ : zM) : tX10_flights_0 μ = zif (μ.2.1 10 0 6 < 2) (some (some (.inl (μ.1 1 (μ.2.1 10 0 6) 0)), μ)) none := (zs3 _ _ _ _).trans (rfl)
theorem uX10_flights (μ : zM) : gX10_flights [.inr (.inr (10, 0))] μ = tX10_flights_0 μ := rfl
/-! BaggageHandling.flightNumber(I)I -/
noncomputable def tX10_flightNumber_30 (s0 : Int32) (μ : zM) : Option (Option zV × zM) := fX10_flightNumber_30 [none, none] [.inl s0] μ
noncomputable def tX10_flightNumber_0 (a1 : Int32) (μ : zM) : Option (Option zV × zM) := fX10_flightNumber_0 [some (.inr (.inr (10, 0))), some (.inl a1)] [] μ
theorem eX10_flightNumber_30 (s0 : Int32) (μ : zM) : tX10_flightNumber_30 s0 μ = some (some (.inl s0), μ) := (zs3 _ _ _ _).trans (rfl)
theorem eX10_flightNumber_0 (a1 : Int32) (μ : zM) : tX10_flightNumber_0 a1 μ = zif (μ.2.1 10 0 6 < 2) (zI (tX1_has_0 (μ.2.1 10 0 6) a1 μ) fun v3 μ2 => zif (v3 = 0) (tX10_flightNumber_30 (-1) μ2) (zif (μ2.2.1 10 0 6 < 2) ((qI μ2 (31, μ2.2.1 10 0 6) a1).bind fun v5 => tX10_flightNumber_30 v5 μ2) none)) none := (zs3 _ _ _ _).trans (rfl)
theorem uX10_flightNumber (a1 : Int32) (μ : zM) : gX10_flightNumber [.inr (.inr (10, 0)), .inl a1] μ = tX10_flightNumber_0 a1 μ := rfl
/-! BaggageHandling.flightState(I)I -/
noncomputable def tX10_flightState_67 (s0 : Int32) (μ : zM) : Option (Option zV × zM) := fX10_flightState_67 [none, none] [.inl s0] μ
noncomputable def tX10_flightState_0 (a1 : Int32) (μ : zM) : Option (Option zV × zM) := fX10_flightState_0 [some (.inr (.inr (10, 0))), some (.inl a1)] [] μ
theorem eX10_flightState_67 (s0 : Int32) (μ : zM) : tX10_flightState_67 s0 μ = some (some (.inl s0), μ) := (zs3 _ _ _ _).trans (rfl)
theorem eX10_flightState_0 (a1 : Int32) (μ : zM) : tX10_flightState_0 a1 μ = zif (μ.2.1 10 0 6 < 2) (zI (tX1_has_0 (μ.2.1 10 0 6) a1 μ) fun v3 μ2 => zif (v3 = 0) (some (some (.inl (-1)), μ2)) (zif (μ2.2.1 10 0 6 < 2) ((qI μ2 (33, μ2.2.1 10 0 6) a1).bind fun v5 => zif (μ2.1 9 0 1 < v5) (some (some (.inl 0), μ2)) (zif (μ2.2.1 10 0 6 < 2) ((qI μ2 (34, μ2.2.1 10 0 6) a1).bind fun v7 => zif (μ2.1 9 0 1 < v7) (tX10_flightState_67 1 μ2) (tX10_flightState_67 2 μ2)) none)) none)) none := (zs3 _ _ _ _).trans (rfl)
theorem uX10_flightState (a1 : Int32) (μ : zM) : gX10_flightState [.inr (.inr (10, 0)), .inl a1] μ = tX10_flightState_0 a1 μ := rfl
/-! BaggageHandling.isLabel(I)Z -/
noncomputable def tX10_isLabel_22 (s0 : Int32) (μ : zM) : Option (Option zV × zM) := fX10_isLabel_22 [none] [.inl s0] μ
noncomputable def tX10_isLabel_17 (μ : zM) : Option (Option zV × zM) := fX10_isLabel_17 [none] [] μ
noncomputable def tX10_isLabel_0 (a0 : Int32) (μ : zM) : Option (Option zV × zM) := fX10_isLabel_0 [some (.inl a0)] [] μ
theorem eX10_isLabel_22 (s0 : Int32) (μ : zM) : tX10_isLabel_22 s0 μ = zif (vp_nar .boolean s0 = s0) (some (some (.inl s0), μ)) none := (zs3 _ _ _ _).trans (rfl)
theorem eX10_isLabel_17 (μ : zM) : tX10_isLabel_17 μ = tX10_isLabel_22 1 μ := (zs3 _ _ _ _).trans (rfl)
theorem eX10_isLabel_0 (a0 : Int32) (μ : zM) : tX10_isLabel_0 a0 μ = zif (a0 = 0) (tX10_isLabel_17 μ) (zI (tX10_isWithin_0 a0 1000 999999 μ) fun v2 μ1 => zif (v2 = 0) (tX10_isLabel_22 0 μ1) (tX10_isLabel_17 μ1)) := (zs3 _ _ _ _).trans (rfl)
theorem uX10_isLabel (a0 : Int32) (μ : zM) : gX10_isLabel [.inl a0] μ = tX10_isLabel_0 a0 μ := rfl
/-! BaggageHandling.checkIn(IIIIII)I -/
noncomputable def tX10_checkIn_32 (μ : zM) : Option (Option zV × zM) := fX10_checkIn_32 [none, none, none, none, none, none, none, none, none] [] μ
noncomputable def tX10_checkIn_65 (μ : zM) : Option (Option zV × zM) := fX10_checkIn_65 [none, none, none, none, none, none, none, none, none] [] μ
noncomputable def tX10_checkIn_107 (a2 : Int32) (a3 : Int32) (a4 : Int32) (a5 : Int32) (a6 : Int32) (a8 : Int32) (μ : zM) : Option (Option zV × zM) := fX10_checkIn_107 [some (.inr (.inr (10, 0))), none, some (.inl a2), some (.inl a3), some (.inl a4), some (.inl a5), some (.inl a6), none, some (.inl a8)] [] μ
noncomputable def tX10_checkIn_11 (a2 : Int32) (a3 : Int32) (a4 : Int32) (a5 : Int32) (a6 : Int32) (a7 : Int32) (μ : zM) : Option (Option zV × zM) := fX10_checkIn_11 [some (.inr (.inr (10, 0))), none, some (.inl a2), some (.inl a3), some (.inl a4), some (.inl a5), some (.inl a6), some (.inl a7), none] [] μ
noncomputable def tX10_checkIn_0 (a1 : Int32) (a2 : Int32) (a3 : Int32) (a4 : Int32) (a5 : Int32) (a6 : Int32) (μ : zM) : Option (Option zV × zM) := fX10_checkIn_0 [some (.inr (.inr (10, 0))), some (.inl a1), some (.inl a2), some (.inl a3), some (.inl a4), some (.inl a5), some (.inl a6), none, none] [] μ
theorem eX10_checkIn_32 (μ : zM) : tX10_checkIn_32 μ = some (some (.inl (-1)), μ) := (zs3 _ _ _ _).trans (rfl)
theorem eX10_checkIn_65 (μ : zM) : tX10_checkIn_65 μ = some (some (.inl (-1)), μ) := (zs3 _ _ _ _).trans (rfl)
theorem eX10_checkIn_107 (a2 : Int32) (a3 : Int32) (a4 : Int32) (a5 : Int32) (a6 : Int32) (a8 : Int32) (μ : zM) : tX10_checkIn_107 a2 a3 a4 a5 a6 a8 μ = zU (tX0_describe_0 0 a8 a2 a3 a4 a5 a6 μ) fun μ1 => some (some (.inl a8), μ1) := (zs3 _ _ _ _).trans (rfl)
theorem eX10_checkIn_11 (a2 : Int32) (a3 : Int32) (a4 : Int32) (a5 : Int32) (a6 : Int32) (a7 : Int32) (μ : zM) : tX10_checkIn_11 a2 a3 a4 a5 a6 a7 μ = zif (a7 = (-1)) (tX10_checkIn_32 μ) (zI (tX10_isLabel_0 a2 μ) fun v2 μ1 => zif (v2 = 0) (tX10_checkIn_32 μ1) (zI (tX10_isLabel_0 a4 μ1) fun v4 μ3 => zif (v4 = 0) (tX10_checkIn_32 μ3) (zI (tX10_isWithin_0 a3 0 15 μ3) fun v6 μ5 => zif (v6 = 0) (tX10_checkIn_65 μ5) (zI (tX10_isWithin_0 a5 0 15 μ5) fun v8 μ7 => zif (v8 = 0) (tX10_checkIn_65 μ7) (zI (tX10_isWithin_0 a6 0 3 μ7) fun v10 μ9 => zif (v10 = 0) (tX10_checkIn_65 μ9) (zif (μ9.1 0 0 0 < 100) (zU (tX2_save_0 0 μ9) fun μ11 => zI (tX9_addBag_0 0 a7 μ11) fun v13 μ12 => tX10_checkIn_107 a2 a3 a4 a5 a6 v13 μ12) (some (some (.inl (-2)), μ9)))))))) := (zs3 _ _ _ _).trans (rfl)
theorem eX10_checkIn_0 (a1 : Int32) (a2 : Int32) (a3 : Int32) (a4 : Int32) (a5 : Int32) (a6 : Int32) (μ : zM) : tX10_checkIn_0 a1 a2 a3 a4 a5 a6 μ = zif (μ.2.1 10 0 6 < 2) (zI (tX5_placeOf_0 (μ.2.1 10 0 6) 1 a1 μ) fun v3 μ2 => tX10_checkIn_11 a2 a3 a4 a5 a6 v3 μ2) none := (zs3 _ _ _ _).trans (rfl)
theorem uX10_checkIn (a1 : Int32) (a2 : Int32) (a3 : Int32) (a4 : Int32) (a5 : Int32) (a6 : Int32) (μ : zM) : gX10_checkIn [.inr (.inr (10, 0)), .inl a1, .inl a2, .inl a3, .inl a4, .inl a5, .inl a6] μ = tX10_checkIn_0 a1 a2 a3 a4 a5 a6 μ := rfl
/-! BaggageHandling.run(I)I -/
noncomputable def tX10_run_25 (μ : zM) : Option (Option zV × zM) := fX10_run_25 [none, none] [] μ
noncomputable def tX10_run_0 (a1 : Int32) (μ : zM) : Option (Option zV × zM) := fX10_run_0 [some (.inr (.inr (10, 0))), some (.inl a1)] [] μ
theorem eX10_run_25 (μ : zM) : tX10_run_25 μ = some (some (.inl (-1)), μ) := (zs3 _ _ _ _).trans (rfl)
theorem eX10_run_0 (a1 : Int32) (μ : zM) : tX10_run_0 a1 μ = zI (tX10_isWithin_0 a1 1 300 μ) fun v2 μ1 => zif (v2 = 0) (tX10_run_25 μ1) (zif ((100000 : Int32) < (μ1.1 9 0 1) + a1) (tX10_run_25 μ1) (zU (tX2_save_0 0 μ1) fun μ3 => zI (tX9_deliveriesWithin_0 0 a1 μ3) fun v5 μ4 => some (some (.inl v5), μ4))) := (zs3 _ _ _ _).trans (rfl)
theorem uX10_run (a1 : Int32) (μ : zM) : gX10_run [.inr (.inr (10, 0)), .inl a1] μ = tX10_run_0 a1 μ := rfl
/-! BaggageHandling.slip(I)Z -/
noncomputable def tX10_slip_61 (μ : zM) : Option (Option zV × zM) := fX10_slip_61 [none, none, none, none, none] [] μ
noncomputable def tX10_slip_44 (a2 : Int32) (a3 : Int32) (a4 : Int32) (μ : zM) : Option (Option zV × zM) := fX10_slip_44 [some (.inr (.inr (10, 0))), none, some (.inl a2), some (.inl a3), some (.inl a4)] [] μ
noncomputable def tX10_slip_33 (a2 : Int32) (a3 : Int32) (μ : zM) : Option (Option zV × zM) := fX10_slip_33 [some (.inr (.inr (10, 0))), none, some (.inl a2), some (.inl a3), none] [] μ
noncomputable def tX10_slip_22 (a2 : Int32) (μ : zM) : Option (Option zV × zM) := fX10_slip_22 [some (.inr (.inr (10, 0))), none, some (.inl a2), none, none] [] μ
noncomputable def tX10_slip_0 (a1 : Int32) (μ : zM) : Option (Option zV × zM) := fX10_slip_0 [some (.inr (.inr (10, 0))), some (.inl a1), none, none, none] [] μ
theorem eX10_slip_61 (μ : zM) : tX10_slip_61 μ = zif (vp_nar .boolean 0 = 0) (some (some (.inl 0), μ)) none := (zs3 _ _ _ _).trans (rfl)
theorem eX10_slip_44 (a2 : Int32) (a3 : Int32) (a4 : Int32) (μ : zM) : tX10_slip_44 a2 a3 a4 μ = zif (a4 < 0) (tX10_slip_61 μ) ((qI μ (58, 0) a3).bind fun v1 => zif (v1 < 0) (zU (tX2_save_0 0 μ) fun μ2 => (wI μ2 (58, 0) a2 (-1)).bind fun μ3 => (wI μ3 (58, 0) a3 a4).bind fun μ4 => zU (tX0_put_0 0 a4 1 a3 μ4) fun μ5 => zif (vp_nar .boolean 1 = 1) (some (some (.inl 1), μ5)) none) (tX10_slip_61 μ)) := (zs3 _ _ _ _).trans (rfl)
theorem eX10_slip_33 (a2 : Int32) (a3 : Int32) (μ : zM) : tX10_slip_33 a2 a3 μ = (qI μ (58, 0) a2).bind fun v1 => tX10_slip_44 a2 a3 v1 μ := (zs3 _ _ _ _).trans (rfl)
theorem eX10_slip_22 (a2 : Int32) (μ : zM) : tX10_slip_22 a2 μ = zI (tX9_wrapped_0 0 (a2 - 1) μ) fun v2 μ1 => tX10_slip_33 a2 v2 μ1 := (zs3 _ _ _ _).trans (rfl)
theorem eX10_slip_0 (a1 : Int32) (μ : zM) : tX10_slip_0 a1 μ = zif (μ.2.1 10 0 6 < 2) (zI (tX5_hasPosition_0 (μ.2.1 10 0 6) a1 μ) fun v3 μ2 => zif (v3 = 0) (zif (vp_nar .boolean 0 = 0) (some (some (.inl 0), μ2)) none) (zI (tX9_slotAt_0 0 a1 μ2) fun v5 μ4 => tX10_slip_22 v5 μ4)) none := (zs3 _ _ _ _).trans (rfl)
theorem uX10_slip (a1 : Int32) (μ : zM) : gX10_slip [.inr (.inr (10, 0)), .inl a1] μ = tX10_slip_0 a1 μ := rfl
