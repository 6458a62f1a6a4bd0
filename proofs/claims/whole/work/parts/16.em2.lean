/-! BaggageHandlingModel.inletWorks(I)V -/
noncomputable def tX11_inletWorks_43 (μ : zM) : Option (Option zV × zM) := fX11_inletWorks_43 [none, none, none] [] μ
noncomputable def tX11_inletWorks_28 (a1 : Int32) (a2 : Int32) (μ : zM) : Option (Option zV × zM) := fX11_inletWorks_28 [some (.inr (.inr (11, 0))), some (.inl a1), some (.inl a2)] [] μ
noncomputable def tX11_inletWorks_27 (a1 : Int32) (s0 : Int32) (μ : zM) : Option (Option zV × zM) := fX11_inletWorks_27 [some (.inr (.inr (11, 0))), some (.inl a1), none] [.inl s0] μ
noncomputable def tX11_inletWorks_0 (a1 : Int32) (μ : zM) : Option (Option zV × zM) := fX11_inletWorks_0 [some (.inr (.inr (11, 0))), some (.inl a1), none] [] μ
theorem eX11_inletWorks_43 (μ : zM) : tX11_inletWorks_43 μ = some (none, μ) := (zs3 _ _ _ _).trans (rfl)
theorem eX11_inletWorks_28 (a1 : Int32) (a2 : Int32) (μ : zM) : tX11_inletWorks_28 a1 a2 μ = zif (a2 < 0) (tX11_inletWorks_43 μ) (zU (tX11_entersRing_0 a2 a1 μ) fun μ1 => zU (tX11_newRecord_0 a1 μ1) fun μ2 => tX11_inletWorks_43 μ2) := (zs3 _ _ _ _).trans (rfl)
theorem eX11_inletWorks_27 (a1 : Int32) (s0 : Int32) (μ : zM) : tX11_inletWorks_27 a1 s0 μ = tX11_inletWorks_28 a1 s0 μ := (zs3 _ _ _ _).trans (rfl)
theorem eX11_inletWorks_0 (a1 : Int32) (μ : zM) : tX11_inletWorks_0 a1 μ = zI (tX11_isClear_0 a1 μ) fun v2 μ1 => zif (v2 = 0) (tX11_inletWorks_27 a1 (-2) μ1) ((qI μ1 (63, 0) (80 + a1)).bind fun v3 => zI (tX11_firstIn_0 0 v3 μ1) fun v5 μ4 => tX11_inletWorks_27 a1 v5 μ4) := (zs3 _ _ _ _).trans (rfl)
theorem uX11_inletWorks (a1 : Int32) (μ : zM) : gX11_inletWorks [.inr (.inr (11, 0)), .inl a1] μ = tX11_inletWorks_0 a1 μ := rfl
/-! BaggageHandlingModel.exitWorks(I)V -/
noncomputable def tX11_exitWorks_90 (μ : zM) : Option (Option zV × zM) := fX11_exitWorks_90 [none, none, none] [] μ
noncomputable def tX11_exitWorks_21 (a1 : Int32) (a2 : Int32) (μ : zM) : Option (Option zV × zM) := fX11_exitWorks_21 [some (.inr (.inr (11, 0))), some (.inl a1), some (.inl a2)] [] μ
noncomputable def tX11_exitWorks_20 (a1 : Int32) (s0 : Int32) (μ : zM) : Option (Option zV × zM) := fX11_exitWorks_20 [some (.inr (.inr (11, 0))), some (.inl a1), none] [.inl s0] μ
noncomputable def tX11_exitWorks_0 (a1 : Int32) (μ : zM) : Option (Option zV × zM) := fX11_exitWorks_0 [some (.inr (.inr (11, 0))), some (.inl a1), none] [] μ
theorem eX11_exitWorks_90 (μ : zM) : tX11_exitWorks_90 μ = some (none, μ) := (zs3 _ _ _ _).trans (rfl)
theorem eX11_exitWorks_21 (a1 : Int32) (a2 : Int32) (μ : zM) : tX11_exitWorks_21 a1 a2 μ = zif (a2 < 0) (tX11_exitWorks_90 μ) (zU (tX11_entersRing_0 a2 a1 μ) fun μ1 => (wI μ1 (65, 0) (150 + a1) 1).bind fun μ2 => zI (tX11_ofBag_0 a2 3 μ2) fun v4 μ3 => (wI μ3 (65, 0) (210 + a1) v4).bind fun μ5 => zI (tX11_ofBag_0 a2 4 μ5) fun v7 μ6 => (wI μ6 (65, 0) (270 + a1) v7).bind fun μ8 => zI (tX11_ofBag_0 a2 5 μ8) fun v10 μ9 => (wI μ9 (65, 0) (330 + a1) v10).bind fun μ11 => tX11_exitWorks_90 μ11) := (zs3 _ _ _ _).trans (rfl)
theorem eX11_exitWorks_20 (a1 : Int32) (s0 : Int32) (μ : zM) : tX11_exitWorks_20 a1 s0 μ = tX11_exitWorks_21 a1 s0 μ := (zs3 _ _ _ _).trans (rfl)
theorem eX11_exitWorks_0 (a1 : Int32) (μ : zM) : tX11_exitWorks_0 a1 μ = zI (tX11_isClear_0 a1 μ) fun v2 μ1 => zif (v2 = 0) (tX11_exitWorks_20 a1 (-2) μ1) (zI (tX11_firstIn_0 7 a1 μ1) fun v4 μ3 => tX11_exitWorks_20 a1 v4 μ3) := (zs3 _ _ _ _).trans (rfl)
theorem uX11_exitWorks (a1 : Int32) (μ : zM) : gX11_exitWorks [.inr (.inr (11, 0)), .inl a1] μ = tX11_exitWorks_0 a1 μ := rfl
/-! BaggageHandlingModel.moveRecord(II)V -/
noncomputable def tX11_moveRecord_0 (a1 : Int32) (a2 : Int32) (μ : zM) : Option (Option zV × zM) := fX11_moveRecord_0 [some (.inr (.inr (11, 0))), some (.inl a1), some (.inl a2)] [] μ
theorem eX11_moveRecord_0 (a1 : Int32) (a2 : Int32) (μ : zM) : tX11_moveRecord_0 a1 a2 μ = (wI μ (65, 0) (150 + a2) 1).bind fun μ1 => (qI μ1 (65, 0) (210 + a1)).bind fun v2 => (wI μ1 (65, 0) (210 + a2) v2).bind fun μ3 => (qI μ3 (65, 0) (270 + a1)).bind fun v4 => (wI μ3 (65, 0) (270 + a2) v4).bind fun μ5 => (qI μ5 (65, 0) (330 + a1)).bind fun v6 => (wI μ5 (65, 0) (330 + a2) v6).bind fun μ7 => zU (tX11_dropRecord_0 a1 μ7) fun μ8 => some (none, μ8) := (zs3 _ _ _ _).trans (rfl)
theorem uX11_moveRecord (a1 : Int32) (a2 : Int32) (μ : zM) : gX11_moveRecord [.inr (.inr (11, 0)), .inl a1, .inl a2] μ = tX11_moveRecord_0 a1 a2 μ := rfl
/-! BaggageHandlingModel.nearest(IZ)I -/
noncomputable def tX11_nearest_118 (n10 : Nat) (a1 : Int32) (a2 : Int32) (a3 : Int32) (a4 : Int32) (μ : zM) : Option (Option zV × zM) := fX11_nearest_118 (fX11_nearest_10 n10) [some (.inr (.inr (11, 0))), some (.inl a1), some (.inl a2), some (.inl a3), some (.inl a4), none, none, none, none] [] μ
noncomputable def tX11_nearest_115 (n10 : Nat) (a1 : Int32) (a2 : Int32) (a3 : Int32) (a4 : Int32) (μ : zM) : Option (Option zV × zM) := fX11_nearest_115 (fX11_nearest_10 n10) [some (.inr (.inr (11, 0))), some (.inl a1), some (.inl a2), some (.inl a3), some (.inl a4), none, none, none, none] [] μ
noncomputable def tX11_nearest_99 (n10 : Nat) (a1 : Int32) (a2 : Int32) (a3 : Int32) (a4 : Int32) (a6 : Int32) (a7 : Int32) (a8 : Int32) (μ : zM) : Option (Option zV × zM) := fX11_nearest_99 (fX11_nearest_10 n10) [some (.inr (.inr (11, 0))), some (.inl a1), some (.inl a2), some (.inl a3), some (.inl a4), none, some (.inl a6), some (.inl a7), some (.inl a8)] [] μ
noncomputable def tX11_nearest_97 (n10 : Nat) (a1 : Int32) (a2 : Int32) (a3 : Int32) (a4 : Int32) (a6 : Int32) (a7 : Int32) (s0 : Int32) (μ : zM) : Option (Option zV × zM) := fX11_nearest_97 (fX11_nearest_10 n10) [some (.inr (.inr (11, 0))), some (.inl a1), some (.inl a2), some (.inl a3), some (.inl a4), none, some (.inl a6), some (.inl a7), none] [.inl s0] μ
noncomputable def tX11_nearest_77 (n10 : Nat) (a1 : Int32) (a2 : Int32) (a3 : Int32) (a4 : Int32) (a6 : Int32) (a7 : Int32) (μ : zM) : Option (Option zV × zM) := fX11_nearest_77 (fX11_nearest_10 n10) [some (.inr (.inr (11, 0))), some (.inl a1), some (.inl a2), some (.inl a3), some (.inl a4), none, some (.inl a6), some (.inl a7), none] [] μ
noncomputable def tX11_nearest_75 (n10 : Nat) (a1 : Int32) (a2 : Int32) (a3 : Int32) (a4 : Int32) (a6 : Int32) (s0 : Int32) (μ : zM) : Option (Option zV × zM) := fX11_nearest_75 (fX11_nearest_10 n10) [some (.inr (.inr (11, 0))), some (.inl a1), some (.inl a2), some (.inl a3), some (.inl a4), none, some (.inl a6), none, none] [.inl s0] μ
noncomputable def tX11_nearest_57 (n10 : Nat) (a1 : Int32) (a2 : Int32) (a3 : Int32) (a4 : Int32) (a6 : Int32) (μ : zM) : Option (Option zV × zM) := fX11_nearest_57 (fX11_nearest_10 n10) [some (.inr (.inr (11, 0))), some (.inl a1), some (.inl a2), some (.inl a3), some (.inl a4), none, some (.inl a6), none, none] [] μ
noncomputable def tX11_nearest_55 (n10 : Nat) (a1 : Int32) (a2 : Int32) (a3 : Int32) (a4 : Int32) (s0 : Int32) (μ : zM) : Option (Option zV × zM) := fX11_nearest_55 (fX11_nearest_10 n10) [some (.inr (.inr (11, 0))), some (.inl a1), some (.inl a2), some (.inl a3), some (.inl a4), none, none, none, none] [.inl s0] μ
noncomputable def tX11_nearest_31 (n10 : Nat) (a1 : Int32) (a2 : Int32) (a3 : Int32) (a4 : Int32) (a5 : Int32) (μ : zM) : Option (Option zV × zM) := fX11_nearest_31 (fX11_nearest_10 n10) [some (.inr (.inr (11, 0))), some (.inl a1), some (.inl a2), some (.inl a3), some (.inl a4), some (.inl a5), none, none, none] [] μ
noncomputable def tX11_nearest_10 (n : Nat) (a1 : Int32) (a2 : Int32) (a3 : Int32) (a4 : Int32) (μ : zM) : Option (Option zV × zM) := fX11_nearest_10 n [some (.inr (.inr (11, 0))), some (.inl a1), some (.inl a2), some (.inl a3), some (.inl a4), none, none, none, none] [] μ
noncomputable def tX11_nearest_7 (a1 : Int32) (a2 : Int32) (a3 : Int32) (μ : zM) : Option (Option zV × zM) := fX11_nearest_7 [some (.inr (.inr (11, 0))), some (.inl a1), some (.inl a2), some (.inl a3), none, none, none, none, none] [] μ
noncomputable def tX11_nearest_0 (a1 : Int32) (a2 : Int32) (μ : zM) : Option (Option zV × zM) := fX11_nearest_0 [some (.inr (.inr (11, 0))), some (.inl a1), some (.inl a2), none, none, none, none, none, none] [] μ
theorem eX11_nearest_118 (n10 : Nat) (a1 : Int32) (a2 : Int32) (a3 : Int32) (a4 : Int32) (μ : zM) : tX11_nearest_118 n10 a1 a2 a3 a4 μ = tX11_nearest_10 n10 a1 a2 a3 a4 μ := (zs3 _ _ _ _).trans (rfl)
theorem eX11_nearest_115 (n10 : Nat) (a1 : Int32) (a2 : Int32) (a3 : Int32) (a4 : Int32) (μ : zM) : tX11_nearest_115 n10 a1 a2 a3 a4 μ = tX11_nearest_118 n10 a1 a2 a3 (a4 + 1) μ := (zs3 _ _ _ _).trans (rfl)
theorem eX11_nearest_99 (n10 : Nat) (a1 : Int32) (a2 : Int32) (a3 : Int32) (a4 : Int32) (a6 : Int32) (a7 : Int32) (a8 : Int32) (μ : zM) : tX11_nearest_99 n10 a1 a2 a3 a4 a6 a7 a8 μ = zif (a7 = a8) (tX11_nearest_115 n10 a1 a2 a3 a4 μ) (zif (a8 = a2) (some (some (.inl a6), μ)) (tX11_nearest_115 n10 a1 a2 a3 a4 μ)) := (zs3 _ _ _ _).trans (rfl)
theorem eX11_nearest_97 (n10 : Nat) (a1 : Int32) (a2 : Int32) (a3 : Int32) (a4 : Int32) (a6 : Int32) (a7 : Int32) (s0 : Int32) (μ : zM) : tX11_nearest_97 n10 a1 a2 a3 a4 a6 a7 s0 μ = tX11_nearest_99 n10 a1 a2 a3 a4 a6 a7 s0 μ := (zs3 _ _ _ _).trans (rfl)
theorem eX11_nearest_77 (n10 : Nat) (a1 : Int32) (a2 : Int32) (a3 : Int32) (a4 : Int32) (a6 : Int32) (a7 : Int32) (μ : zM) : tX11_nearest_77 n10 a1 a2 a3 a4 a6 a7 μ = (qI μ (65, 0) (150 + a6)).bind fun v1 => zif (v1 = 1) (tX11_nearest_97 n10 a1 a2 a3 a4 a6 a7 1 μ) (tX11_nearest_97 n10 a1 a2 a3 a4 a6 a7 0 μ) := (zs3 _ _ _ _).trans (rfl)
theorem eX11_nearest_75 (n10 : Nat) (a1 : Int32) (a2 : Int32) (a3 : Int32) (a4 : Int32) (a6 : Int32) (s0 : Int32) (μ : zM) : tX11_nearest_75 n10 a1 a2 a3 a4 a6 s0 μ = tX11_nearest_77 n10 a1 a2 a3 a4 a6 s0 μ := (zs3 _ _ _ _).trans (rfl)
theorem eX11_nearest_57 (n10 : Nat) (a1 : Int32) (a2 : Int32) (a3 : Int32) (a4 : Int32) (a6 : Int32) (μ : zM) : tX11_nearest_57 n10 a1 a2 a3 a4 a6 μ = (qI μ (65, 0) (90 + a6)).bind fun v1 => zif (v1 < 0) (tX11_nearest_75 n10 a1 a2 a3 a4 a6 0 μ) (tX11_nearest_75 n10 a1 a2 a3 a4 a6 1 μ) := (zs3 _ _ _ _).trans (rfl)
theorem eX11_nearest_55 (n10 : Nat) (a1 : Int32) (a2 : Int32) (a3 : Int32) (a4 : Int32) (s0 : Int32) (μ : zM) : tX11_nearest_55 n10 a1 a2 a3 a4 s0 μ = tX11_nearest_57 n10 a1 a2 a3 a4 s0 μ := (zs3 _ _ _ _).trans (rfl)
theorem eX11_nearest_31 (n10 : Nat) (a1 : Int32) (a2 : Int32) (a3 : Int32) (a4 : Int32) (a5 : Int32) (μ : zM) : tX11_nearest_31 n10 a1 a2 a3 a4 a5 μ = zif ((2 : Int32) = 0) none (zif (a4 - a4 / 2 * 2 = 0) (zif (a3 = 0) none (tX11_nearest_55 n10 a1 a2 a3 a4 (((a1 + a3) - a5) - ((a1 + a3) - a5) / a3 * a3) μ)) (zif (a3 = 0) none (tX11_nearest_55 n10 a1 a2 a3 a4 ((a1 + a5) - (a1 + a5) / a3 * a3) μ))) := (zs3 _ _ _ _).trans (rfl)
theorem eX11_nearest_10 (a1 : Int32) (a2 : Int32) (a3 : Int32) (a4 : Int32) (n : Nat) (μ : zM) : tX11_nearest_10 (n + 1) a1 a2 a3 a4 μ = (qI μ (63, 0) 2).bind fun v1 => zif (a4 < 2 + (2 * v1)) (zif ((2 : Int32) = 0) none (tX11_nearest_31 n a1 a2 a3 a4 (a4 / 2) μ)) (some (some (.inl (-2)), μ)) := (zs3 _ _ _ _).trans (rfl)
theorem eX11_nearest_7 (a1 : Int32) (a2 : Int32) (a3 : Int32) (μ : zM) : tX11_nearest_7 a1 a2 a3 μ = tX11_nearest_10 zN a1 a2 a3 2 μ := (zs3 _ _ _ _).trans (rfl)
theorem eX11_nearest_0 (a1 : Int32) (a2 : Int32) (μ : zM) : tX11_nearest_0 a1 a2 μ = (qI μ (63, 0) 0).bind fun v1 => tX11_nearest_7 a1 a2 v1 μ := (zs3 _ _ _ _).trans (rfl)
theorem uX11_nearest (a1 : Int32) (a2 : Int32) (μ : zM) : gX11_nearest [.inr (.inr (11, 0)), .inl a1, .inl a2] μ = tX11_nearest_0 a1 a2 μ := rfl
/-! BaggageHandlingModel.isSeen(II)Z -/
noncomputable def tX11_isSeen_48 (s0 : Int32) (μ : zM) : Option (Option zV × zM) := fX11_isSeen_48 [none, none, none, none, none] [.inl s0] μ
noncomputable def tX11_isSeen_47 (μ : zM) : Option (Option zV × zM) := fX11_isSeen_47 [none, none, none, none, none] [] μ
noncomputable def tX11_isSeen_30 (n5 : Nat) (a1 : Int32) (a2 : Int32) (a3 : Int32) (a4 : Int32) (μ : zM) : Option (Option zV × zM) := fX11_isSeen_30 (fX11_isSeen_5 n5) [some (.inr (.inr (11, 0))), some (.inl a1), some (.inl a2), some (.inl a3), some (.inl a4)] [] μ
noncomputable def tX11_isSeen_27 (n5 : Nat) (a1 : Int32) (a2 : Int32) (a3 : Int32) (a4 : Int32) (μ : zM) : Option (Option zV × zM) := fX11_isSeen_27 (fX11_isSeen_5 n5) [some (.inr (.inr (11, 0))), some (.inl a1), some (.inl a2), some (.inl a3), some (.inl a4)] [] μ
noncomputable def tX11_isSeen_5 (n : Nat) (a1 : Int32) (a2 : Int32) (a3 : Int32) (a4 : Int32) (μ : zM) : Option (Option zV × zM) := fX11_isSeen_5 n [some (.inr (.inr (11, 0))), some (.inl a1), some (.inl a2), some (.inl a3), some (.inl a4)] [] μ
noncomputable def tX11_isSeen_2 (a1 : Int32) (a2 : Int32) (a3 : Int32) (μ : zM) : Option (Option zV × zM) := fX11_isSeen_2 [some (.inr (.inr (11, 0))), some (.inl a1), some (.inl a2), some (.inl a3), none] [] μ
noncomputable def tX11_isSeen_0 (a1 : Int32) (a2 : Int32) (μ : zM) : Option (Option zV × zM) := fX11_isSeen_0 [some (.inr (.inr (11, 0))), some (.inl a1), some (.inl a2), none, none] [] μ
theorem eX11_isSeen_48 (s0 : Int32) (μ : zM) : tX11_isSeen_48 s0 μ = zif (vp_nar .boolean s0 = s0) (some (some (.inl s0), μ)) none := (zs3 _ _ _ _).trans (rfl)
theorem eX11_isSeen_47 (μ : zM) : tX11_isSeen_47 μ = tX11_isSeen_48 0 μ := (zs3 _ _ _ _).trans (rfl)
theorem eX11_isSeen_30 (n5 : Nat) (a1 : Int32) (a2 : Int32) (a3 : Int32) (a4 : Int32) (μ : zM) : tX11_isSeen_30 n5 a1 a2 a3 a4 μ = tX11_isSeen_5 n5 a1 a2 a3 a4 μ := (zs3 _ _ _ _).trans (rfl)
theorem eX11_isSeen_27 (n5 : Nat) (a1 : Int32) (a2 : Int32) (a3 : Int32) (a4 : Int32) (μ : zM) : tX11_isSeen_27 n5 a1 a2 a3 a4 μ = tX11_isSeen_30 n5 a1 a2 a3 (a4 + 1) μ := (zs3 _ _ _ _).trans (rfl)
theorem eX11_isSeen_5 (a1 : Int32) (a2 : Int32) (a3 : Int32) (a4 : Int32) (n : Nat) (μ : zM) : tX11_isSeen_5 (n + 1) a1 a2 a3 a4 μ = zif (a4 < 4) ((qI μ (65, 0) (11 + a4)).bind fun v1 => tX11_isSeen_27 n a1 a2 (a3 ||| (v1 <<< (a4 &&& 31))) a4 μ) (zif (a1 = 0) (tX11_isSeen_47 μ) (zif (a2 &&& a3 = 0) (tX11_isSeen_47 μ) (tX11_isSeen_48 1 μ))) := (zs3 _ _ _ _).trans (rfl)
theorem eX11_isSeen_2 (a1 : Int32) (a2 : Int32) (a3 : Int32) (μ : zM) : tX11_isSeen_2 a1 a2 a3 μ = tX11_isSeen_5 zN a1 a2 a3 0 μ := (zs3 _ _ _ _).trans (rfl)
theorem eX11_isSeen_0 (a1 : Int32) (a2 : Int32) (μ : zM) : tX11_isSeen_0 a1 a2 μ = tX11_isSeen_2 a1 a2 0 μ := (zs3 _ _ _ _).trans (rfl)
theorem uX11_isSeen (a1 : Int32) (a2 : Int32) (μ : zM) : gX11_isSeen [.inr (.inr (11, 0)), .inl a1, .inl a2] μ = tX11_isSeen_0 a1 a2 μ := rfl
/-! BaggageHandlingModel.readOf(I)I -/
noncomputable def tX11_readOf_69 (a3 : Int32) (μ : zM) : Option (Option zV × zM) := fX11_readOf_69 [none, none, none, some (.inl a3), none, none] [] μ
noncomputable def tX11_readOf_128 (s0 : Int32) (μ : zM) : Option (Option zV × zM) := fX11_readOf_128 [none, none, none, none, none, none] [.inl s0] μ
noncomputable def tX11_readOf_107 (a2 : Int32) (a3 : Int32) (a4 : Int32) (a5 : Int32) (μ : zM) : Option (Option zV × zM) := fX11_readOf_107 [none, none, some (.inl a2), some (.inl a3), some (.inl a4), some (.inl a5)] [] μ
noncomputable def tX11_readOf_105 (a2 : Int32) (a3 : Int32) (a4 : Int32) (s0 : Int32) (μ : zM) : Option (Option zV × zM) := fX11_readOf_105 [none, none, some (.inl a2), some (.inl a3), some (.inl a4), none] [.inl s0] μ
noncomputable def tX11_readOf_92 (a2 : Int32) (a3 : Int32) (a4 : Int32) (μ : zM) : Option (Option zV × zM) := fX11_readOf_92 [some (.inr (.inr (11, 0))), none, some (.inl a2), some (.inl a3), some (.inl a4), none] [] μ
noncomputable def tX11_readOf_90 (a2 : Int32) (a3 : Int32) (s0 : Int32) (μ : zM) : Option (Option zV × zM) := fX11_readOf_90 [some (.inr (.inr (11, 0))), none, some (.inl a2), some (.inl a3), none, none] [.inl s0] μ
noncomputable def tX11_readOf_60 (a2 : Int32) (a3 : Int32) (μ : zM) : Option (Option zV × zM) := fX11_readOf_60 [some (.inr (.inr (11, 0))), none, some (.inl a2), some (.inl a3), none, none] [] μ
noncomputable def tX11_readOf_59 (a2 : Int32) (s0 : Int32) (μ : zM) : Option (Option zV × zM) := fX11_readOf_59 [some (.inr (.inr (11, 0))), none, some (.inl a2), none, none, none] [.inl s0] μ
noncomputable def tX11_readOf_30 (a1 : Int32) (a2 : Int32) (μ : zM) : Option (Option zV × zM) := fX11_readOf_30 [some (.inr (.inr (11, 0))), some (.inl a1), some (.inl a2), none, none, none] [] μ
noncomputable def tX11_readOf_29 (a1 : Int32) (s0 : Int32) (μ : zM) : Option (Option zV × zM) := fX11_readOf_29 [some (.inr (.inr (11, 0))), some (.inl a1), none, none, none, none] [.inl s0] μ
noncomputable def tX11_readOf_0 (a1 : Int32) (μ : zM) : Option (Option zV × zM) := fX11_readOf_0 [some (.inr (.inr (11, 0))), some (.inl a1), none, none, none, none] [] μ
theorem eX11_readOf_69 (a3 : Int32) (μ : zM) : tX11_readOf_69 a3 μ = some (some (.inl a3), μ) := (zs3 _ _ _ _).trans (rfl)
theorem eX11_readOf_128 (s0 : Int32) (μ : zM) : tX11_readOf_128 s0 μ = some (some (.inl s0), μ) := (zs3 _ _ _ _).trans (rfl)
theorem eX11_readOf_107 (a2 : Int32) (a3 : Int32) (a4 : Int32) (a5 : Int32) (μ : zM) : tX11_readOf_107 a2 a3 a4 a5 μ = zif (a4 = a5) (tX11_readOf_128 (-1) μ) (zif (a4 = 0) (tX11_readOf_128 a3 μ) (tX11_readOf_128 a2 μ)) := (zs3 _ _ _ _).trans (rfl)
theorem eX11_readOf_105 (a2 : Int32) (a3 : Int32) (a4 : Int32) (s0 : Int32) (μ : zM) : tX11_readOf_105 a2 a3 a4 s0 μ = tX11_readOf_107 a2 a3 a4 s0 μ := (zs3 _ _ _ _).trans (rfl)
theorem eX11_readOf_92 (a2 : Int32) (a3 : Int32) (a4 : Int32) (μ : zM) : tX11_readOf_92 a2 a3 a4 μ = zI (tX11_flightBy_0 a3 μ) fun v2 μ1 => zif (v2 < 0) (tX11_readOf_105 a2 a3 a4 0 μ1) (tX11_readOf_105 a2 a3 a4 1 μ1) := (zs3 _ _ _ _).trans (rfl)
theorem eX11_readOf_90 (a2 : Int32) (a3 : Int32) (s0 : Int32) (μ : zM) : tX11_readOf_90 a2 a3 s0 μ = tX11_readOf_92 a2 a3 s0 μ := (zs3 _ _ _ _).trans (rfl)
theorem eX11_readOf_60 (a2 : Int32) (a3 : Int32) (μ : zM) : tX11_readOf_60 a2 a3 μ = zif (a2 = 0) (tX11_readOf_69 a3 μ) (zif (a2 = a3) (tX11_readOf_69 a3 μ) (zif (a3 = 0) (some (some (.inl a2), μ)) (zI (tX11_flightBy_0 a2 μ) fun v2 μ1 => zif (v2 < 0) (tX11_readOf_90 a2 a3 0 μ1) (tX11_readOf_90 a2 a3 1 μ1)))) := (zs3 _ _ _ _).trans (rfl)
theorem eX11_readOf_59 (a2 : Int32) (s0 : Int32) (μ : zM) : tX11_readOf_59 a2 s0 μ = tX11_readOf_60 a2 s0 μ := (zs3 _ _ _ _).trans (rfl)
theorem eX11_readOf_30 (a1 : Int32) (a2 : Int32) (μ : zM) : tX11_readOf_30 a1 a2 μ = (qI μ (70, 0) a1).bind fun v1 => (qI μ (71, 0) a1).bind fun v2 => zI (tX11_isSeen_0 v1 v2 μ) fun v4 μ3 => zif (v4 = 0) (tX11_readOf_59 a2 0 μ3) ((qI μ3 (70, 0) a1).bind fun v5 => tX11_readOf_59 a2 v5 μ3) := (zs3 _ _ _ _).trans (rfl)
theorem eX11_readOf_29 (a1 : Int32) (s0 : Int32) (μ : zM) : tX11_readOf_29 a1 s0 μ = tX11_readOf_30 a1 s0 μ := (zs3 _ _ _ _).trans (rfl)
theorem eX11_readOf_0 (a1 : Int32) (μ : zM) : tX11_readOf_0 a1 μ = (qI μ (68, 0) a1).bind fun v1 => (qI μ (69, 0) a1).bind fun v2 => zI (tX11_isSeen_0 v1 v2 μ) fun v4 μ3 => zif (v4 = 0) (tX11_readOf_29 a1 0 μ3) ((qI μ3 (68, 0) a1).bind fun v5 => tX11_readOf_29 a1 v5 μ3) := (zs3 _ _ _ _).trans (rfl)
theorem uX11_readOf (a1 : Int32) (μ : zM) : gX11_readOf [.inr (.inr (11, 0)), .inl a1] μ = tX11_readOf_0 a1 μ := rfl
/-! BaggageHandlingModel.scannerWorks(I)V -/
noncomputable def tX11_scannerWorks_233 (μ : zM) : Option (Option zV × zM) := fX11_scannerWorks_233 [none, none, none, none, none] [] μ
noncomputable def tX11_scannerWorks_189 (a1 : Int32) (a4 : Int32) (μ : zM) : Option (Option zV × zM) := fX11_scannerWorks_189 [some (.inr (.inr (11, 0))), some (.inl a1), none, none, some (.inl a4)] [] μ
noncomputable def tX11_scannerWorks_151 (a1 : Int32) (a4 : Int32) (μ : zM) : Option (Option zV × zM) := fX11_scannerWorks_151 [some (.inr (.inr (11, 0))), some (.inl a1), none, none, some (.inl a4)] [] μ
noncomputable def tX11_scannerWorks_122 (a1 : Int32) (μ : zM) : Option (Option zV × zM) := fX11_scannerWorks_122 [some (.inr (.inr (11, 0))), some (.inl a1), none, none, none] [] μ
noncomputable def tX11_scannerWorks_97 (a1 : Int32) (a4 : Int32) (μ : zM) : Option (Option zV × zM) := fX11_scannerWorks_97 [some (.inr (.inr (11, 0))), some (.inl a1), none, none, some (.inl a4)] [] μ
noncomputable def tX11_scannerWorks_80 (a1 : Int32) (a2 : Int32) (a3 : Int32) (μ : zM) : Option (Option zV × zM) := fX11_scannerWorks_80 [some (.inr (.inr (11, 0))), some (.inl a1), some (.inl a2), some (.inl a3), none] [] μ
noncomputable def tX11_scannerWorks_79 (μ : zM) : Option (Option zV × zM) := fX11_scannerWorks_79 [none, none, none, none, none] [] μ
noncomputable def tX11_scannerWorks_54 (a1 : Int32) (a4 : Int32) (μ : zM) : Option (Option zV × zM) := fX11_scannerWorks_54 [some (.inr (.inr (11, 0))), some (.inl a1), none, none, some (.inl a4)] [] μ
noncomputable def tX11_scannerWorks_38 (a1 : Int32) (a2 : Int32) (a3 : Int32) (μ : zM) : Option (Option zV × zM) := fX11_scannerWorks_38 [some (.inr (.inr (11, 0))), some (.inl a1), some (.inl a2), some (.inl a3), none] [] μ
noncomputable def tX11_scannerWorks_37 (a1 : Int32) (a2 : Int32) (s0 : Int32) (μ : zM) : Option (Option zV × zM) := fX11_scannerWorks_37 [some (.inr (.inr (11, 0))), some (.inl a1), some (.inl a2), none, none] [.inl s0] μ
noncomputable def tX11_scannerWorks_18 (a1 : Int32) (a2 : Int32) (μ : zM) : Option (Option zV × zM) := fX11_scannerWorks_18 [some (.inr (.inr (11, 0))), some (.inl a1), some (.inl a2), none, none] [] μ
noncomputable def tX11_scannerWorks_17 (a1 : Int32) (s0 : Int32) (μ : zM) : Option (Option zV × zM) := fX11_scannerWorks_17 [some (.inr (.inr (11, 0))), some (.inl a1), none, none, none] [.inl s0] μ
noncomputable def tX11_scannerWorks_0 (a1 : Int32) (μ : zM) : Option (Option zV × zM) := fX11_scannerWorks_0 [some (.inr (.inr (11, 0))), some (.inl a1), none, none, none] [] μ
theorem eX11_scannerWorks_233 (μ : zM) : tX11_scannerWorks_233 μ = some (none, μ) := (zs3 _ _ _ _).trans (rfl)
theorem eX11_scannerWorks_189 (a1 : Int32) (a4 : Int32) (μ : zM) : tX11_scannerWorks_189 a1 a4 μ = (wI μ (65, 0) (210 + a1) a4).bind fun μ1 => tX11_scannerWorks_233 μ1 := (zs3 _ _ _ _).trans (rfl)
theorem eX11_scannerWorks_151 (a1 : Int32) (a4 : Int32) (μ : zM) : tX11_scannerWorks_151 a1 a4 μ = zif (0 < a4) ((qI μ (65, 0) (210 + a1)).bind fun v1 => zif (0 < v1) ((qI μ (65, 0) (210 + a1)).bind fun v2 => zif (v2 = a4) (tX11_scannerWorks_189 a1 a4 μ) (zU (tX11_counts_0 2 μ) fun μ3 => tX11_scannerWorks_189 a1 a4 μ3)) (tX11_scannerWorks_189 a1 a4 μ)) (zif (a4 < 0) ((qI μ (65, 0) (210 + a1)).bind fun v4 => zif (v4 = 0) ((wI μ (65, 0) (210 + a1) (-1)).bind fun μ5 => tX11_scannerWorks_233 μ5) (tX11_scannerWorks_233 μ)) (tX11_scannerWorks_233 μ)) := (zs3 _ _ _ _).trans (rfl)
theorem eX11_scannerWorks_122 (a1 : Int32) (μ : zM) : tX11_scannerWorks_122 a1 μ = (qI μ (65, 0) (330 + a1)).bind fun v1 => (wI μ (65, 0) (330 + a1) (v1 + 1)).bind fun μ2 => (qI μ2 (65, 0) (90 + a1)).bind fun v3 => zI (tX11_readOf_0 v3 μ2) fun v5 μ4 => tX11_scannerWorks_151 a1 v5 μ4 := (zs3 _ _ _ _).trans (rfl)
theorem eX11_scannerWorks_97 (a1 : Int32) (a4 : Int32) (μ : zM) : tX11_scannerWorks_97 a1 a4 μ = zif (a4 < 0) (zU (tX11_newRecord_0 a1 μ) fun μ1 => zU (tX11_counts_0 0 μ1) fun μ2 => tX11_scannerWorks_122 a1 μ2) (zU (tX11_moveRecord_0 a4 a1 μ) fun μ3 => tX11_scannerWorks_122 a1 μ3) := (zs3 _ _ _ _).trans (rfl)
theorem eX11_scannerWorks_80 (a1 : Int32) (a2 : Int32) (a3 : Int32) (μ : zM) : tX11_scannerWorks_80 a1 a2 a3 μ = zif (a2 = 0) (some (none, μ)) (zif (a3 = 0) (zI (tX11_nearest_0 a1 1 μ) fun v2 μ1 => tX11_scannerWorks_97 a1 v2 μ1) (tX11_scannerWorks_122 a1 μ)) := (zs3 _ _ _ _).trans (rfl)
theorem eX11_scannerWorks_79 (μ : zM) : tX11_scannerWorks_79 μ = some (none, μ) := (zs3 _ _ _ _).trans (rfl)
theorem eX11_scannerWorks_54 (a1 : Int32) (a4 : Int32) (μ : zM) : tX11_scannerWorks_54 a1 a4 μ = zif (a4 < 0) (zU (tX11_dropRecord_0 a1 μ) fun μ1 => zU (tX11_counts_0 1 μ1) fun μ2 => tX11_scannerWorks_79 μ2) (zU (tX11_moveRecord_0 a1 a4 μ) fun μ3 => tX11_scannerWorks_79 μ3) := (zs3 _ _ _ _).trans (rfl)
theorem eX11_scannerWorks_38 (a1 : Int32) (a2 : Int32) (a3 : Int32) (μ : zM) : tX11_scannerWorks_38 a1 a2 a3 μ = zif (a2 = 0) (zif (a3 = 0) (tX11_scannerWorks_80 a1 a2 a3 μ) (zI (tX11_nearest_0 a1 0 μ) fun v2 μ1 => tX11_scannerWorks_54 a1 v2 μ1)) (tX11_scannerWorks_80 a1 a2 a3 μ) := (zs3 _ _ _ _).trans (rfl)
theorem eX11_scannerWorks_37 (a1 : Int32) (a2 : Int32) (s0 : Int32) (μ : zM) : tX11_scannerWorks_37 a1 a2 s0 μ = tX11_scannerWorks_38 a1 a2 s0 μ := (zs3 _ _ _ _).trans (rfl)
theorem eX11_scannerWorks_18 (a1 : Int32) (a2 : Int32) (μ : zM) : tX11_scannerWorks_18 a1 a2 μ = (qI μ (65, 0) (150 + a1)).bind fun v1 => zif (v1 = 1) (tX11_scannerWorks_37 a1 a2 1 μ) (tX11_scannerWorks_37 a1 a2 0 μ) := (zs3 _ _ _ _).trans (rfl)
theorem eX11_scannerWorks_17 (a1 : Int32) (s0 : Int32) (μ : zM) : tX11_scannerWorks_17 a1 s0 μ = tX11_scannerWorks_18 a1 s0 μ := (zs3 _ _ _ _).trans (rfl)
theorem eX11_scannerWorks_0 (a1 : Int32) (μ : zM) : tX11_scannerWorks_0 a1 μ = (qI μ (65, 0) (90 + a1)).bind fun v1 => zif (v1 < 0) (tX11_scannerWorks_17 a1 0 μ) (tX11_scannerWorks_17 a1 1 μ) := (zs3 _ _ _ _).trans (rfl)
theorem uX11_scannerWorks (a1 : Int32) (μ : zM) : gX11_scannerWorks [.inr (.inr (11, 0)), .inl a1] μ = tX11_scannerWorks_0 a1 μ := rfl
/-! BaggageHandlingModel.stateIn(I)I -/
noncomputable def tX11_stateIn_29 (s0 : Int32) (μ : zM) : Option (Option zV × zM) := fX11_stateIn_29 [none] [.inl s0] μ
noncomputable def tX11_stateIn_0 (a0 : Int32) (μ : zM) : Option (Option zV × zM) := fX11_stateIn_0 [some (.inl a0)] [] μ
theorem eX11_stateIn_29 (s0 : Int32) (μ : zM) : tX11_stateIn_29 s0 μ = some (some (.inl s0), μ) := (zs3 _ _ _ _).trans (rfl)
theorem eX11_stateIn_0 (a0 : Int32) (μ : zM) : tX11_stateIn_0 a0 μ = zif (a0 = 3) (tX11_stateIn_29 2 μ) (zif (a0 = 4) (tX11_stateIn_29 4 μ) (zif (a0 = 5) (tX11_stateIn_29 5 μ) (tX11_stateIn_29 6 μ))) := (zs3 _ _ _ _).trans (rfl)
theorem uX11_stateIn (a0 : Int32) (μ : zM) : gX11_stateIn [.inl a0] μ = tX11_stateIn_0 a0 μ := rfl
/-! BaggageHandlingModel.takesIn(IIII)V -/
noncomputable def tX11_takesIn_171 (s1 : Int32) (s2 : Int32) (μ : zM) : Option (Option zV × zM) := fX11_takesIn_171 [some (.inr (.inr (11, 0))), none, none, none, none, none, none, none] [.inl s2, .inl s1, .inr (.inr (65, 0))] μ
noncomputable def tX11_takesIn_169 (s1 : Int32) (μ : zM) : Option (Option zV × zM) := fX11_takesIn_169 [some (.inr (.inr (11, 0))), none, none, none, none, none, none, none] [.inl s1, .inr (.inr (65, 0))] μ
noncomputable def tX11_takesIn_138 (a4 : Int32) (a5 : Int32) (a7 : Int32) (μ : zM) : Option (Option zV × zM) := fX11_takesIn_138 [some (.inr (.inr (11, 0))), none, none, none, some (.inl a4), some (.inl a5), none, some (.inl a7)] [] μ
noncomputable def tX11_takesIn_136 (a4 : Int32) (a5 : Int32) (s0 : Int32) (μ : zM) : Option (Option zV × zM) := fX11_takesIn_136 [some (.inr (.inr (11, 0))), none, none, none, some (.inl a4), some (.inl a5), none, none] [.inl s0] μ
noncomputable def tX11_takesIn_118 (a4 : Int32) (a5 : Int32) (a6 : Int32) (μ : zM) : Option (Option zV × zM) := fX11_takesIn_118 [some (.inr (.inr (11, 0))), none, none, none, some (.inl a4), some (.inl a5), some (.inl a6), none] [] μ
noncomputable def tX11_takesIn_32 (a1 : Int32) (a2 : Int32) (a3 : Int32) (a4 : Int32) (a5 : Int32) (μ : zM) : Option (Option zV × zM) := fX11_takesIn_32 [some (.inr (.inr (11, 0))), some (.inl a1), some (.inl a2), some (.inl a3), some (.inl a4), some (.inl a5), none, none] [] μ
noncomputable def tX11_takesIn_0 (a1 : Int32) (a2 : Int32) (a3 : Int32) (a4 : Int32) (μ : zM) : Option (Option zV × zM) := fX11_takesIn_0 [some (.inr (.inr (11, 0))), some (.inl a1), some (.inl a2), some (.inl a3), some (.inl a4), none, none, none] [] μ
theorem eX11_takesIn_171 (s1 : Int32) (s2 : Int32) (μ : zM) : tX11_takesIn_171 s1 s2 μ = (wI μ (65, 0) s1 s2).bind fun μ1 => zU (tX11_counts_0 7 μ1) fun μ2 => some (none, μ2) := (zs3 _ _ _ _).trans (rfl)
theorem eX11_takesIn_169 (s1 : Int32) (μ : zM) : tX11_takesIn_169 s1 μ = tX11_takesIn_171 s1 (-2) μ := (zs3 _ _ _ _).trans (rfl)
theorem eX11_takesIn_138 (a4 : Int32) (a5 : Int32) (a7 : Int32) (μ : zM) : tX11_takesIn_138 a4 a5 a7 μ = zif (a7 < 0) (tX11_takesIn_169 (a5 + 7) μ) (zI (tX11_ofFlight_0 a7 1 μ) fun v2 μ1 => zif (v2 = a4) (tX11_takesIn_171 (a5 + 7) a7 μ1) (tX11_takesIn_169 (a5 + 7) μ1)) := (zs3 _ _ _ _).trans (rfl)
theorem eX11_takesIn_136 (a4 : Int32) (a5 : Int32) (s0 : Int32) (μ : zM) : tX11_takesIn_136 a4 a5 s0 μ = tX11_takesIn_138 a4 a5 s0 μ := (zs3 _ _ _ _).trans (rfl)
theorem eX11_takesIn_118 (a4 : Int32) (a5 : Int32) (a6 : Int32) (μ : zM) : tX11_takesIn_118 a4 a5 a6 μ = zif (a6 = (-2)) (tX11_takesIn_136 a4 a5 (-2) μ) (zI (tX11_flightBy_0 a6 μ) fun v2 μ1 => tX11_takesIn_136 a4 a5 v2 μ1) := (zs3 _ _ _ _).trans (rfl)
theorem eX11_takesIn_32 (a1 : Int32) (a2 : Int32) (a3 : Int32) (a4 : Int32) (a5 : Int32) (μ : zM) : tX11_takesIn_32 a1 a2 a3 a4 a5 μ = (qI μ (65, 0) (210 + a2)).bind fun v1 => (wI μ (65, 0) (a5 + 3) v1).bind fun μ2 => (qI μ2 (65, 0) (270 + a2)).bind fun v3 => (wI μ2 (65, 0) (a5 + 4) v3).bind fun μ4 => (qI μ4 (65, 0) (330 + a2)).bind fun v5 => (wI μ4 (65, 0) (a5 + 5) v5).bind fun μ6 => zif (a3 = 3) ((qI μ6 (65, 0) 0).bind fun v7 => (wI μ6 (65, 0) (a5 + 6) v7).bind fun μ8 => zI (tX11_properOf_0 a1 μ8) fun v10 μ9 => tX11_takesIn_118 a4 a5 v10 μ9) (some (none, μ6)) := (zs3 _ _ _ _).trans (rfl)
theorem eX11_takesIn_0 (a1 : Int32) (a2 : Int32) (a3 : Int32) (a4 : Int32) (μ : zM) : tX11_takesIn_0 a1 a2 a3 a4 μ = (wI μ (65, 0) (90 + a2) (-2)).bind fun μ1 => zI (tX11_stateIn_0 a3 μ1) fun v3 μ2 => zU (tX11_goes_0 a1 v3 a4 μ2) fun μ4 => tX11_takesIn_32 a1 a2 a3 a4 (400 + (8 * a1)) μ4 := (zs3 _ _ _ _).trans (rfl)
theorem uX11_takesIn (a1 : Int32) (a2 : Int32) (a3 : Int32) (a4 : Int32) (μ : zM) : gX11_takesIn [.inr (.inr (11, 0)), .inl a1, .inl a2, .inl a3, .inl a4] μ = tX11_takesIn_0 a1 a2 a3 a4 μ := rfl
/-! BaggageHandlingModel.outletWorks(II)V -/
noncomputable def tX11_outletWorks_44 (μ : zM) : Option (Option zV × zM) := fX11_outletWorks_44 [none, none, none, none, none] [] μ
noncomputable def tX11_outletWorks_82 (μ : zM) : Option (Option zV × zM) := fX11_outletWorks_82 [some (.inr (.inr (11, 0))), none, none, none, none] [] μ
noncomputable def tX11_outletWorks_144 (a1 : Int32) (μ : zM) : Option (Option zV × zM) := fX11_outletWorks_144 [some (.inr (.inr (11, 0))), some (.inl a1), none, none, none] [] μ
noncomputable def tX11_outletWorks_122 (a1 : Int32) (a2 : Int32) (a3 : Int32) (a4 : Int32) (μ : zM) : Option (Option zV × zM) := fX11_outletWorks_122 [some (.inr (.inr (11, 0))), some (.inl a1), some (.inl a2), some (.inl a3), some (.inl a4)] [] μ
noncomputable def tX11_outletWorks_41 (a1 : Int32) (a2 : Int32) (a3 : Int32) (s0 : Int32) (s1 : Int32) (μ : zM) : Option (Option zV × zM) := fX11_outletWorks_41 [some (.inr (.inr (11, 0))), some (.inl a1), some (.inl a2), some (.inl a3), none] [.inl s1, .inl s0] μ
noncomputable def tX11_outletWorks_10 (a1 : Int32) (a2 : Int32) (a3 : Int32) (μ : zM) : Option (Option zV × zM) := fX11_outletWorks_10 [some (.inr (.inr (11, 0))), some (.inl a1), some (.inl a2), some (.inl a3), none] [] μ
noncomputable def tX11_outletWorks_0 (a1 : Int32) (a2 : Int32) (μ : zM) : Option (Option zV × zM) := fX11_outletWorks_0 [some (.inr (.inr (11, 0))), some (.inl a1), some (.inl a2), none, none] [] μ
theorem eX11_outletWorks_44 (μ : zM) : tX11_outletWorks_44 μ = some (none, μ) := (zs3 _ _ _ _).trans (rfl)
theorem eX11_outletWorks_82 (μ : zM) : tX11_outletWorks_82 μ = zU (tX11_counts_0 3 μ) fun μ1 => some (none, μ1) := (zs3 _ _ _ _).trans (rfl)
theorem eX11_outletWorks_144 (a1 : Int32) (μ : zM) : tX11_outletWorks_144 a1 μ = zU (tX11_dropRecord_0 a1 μ) fun μ1 => some (none, μ1) := (zs3 _ _ _ _).trans (rfl)
theorem eX11_outletWorks_122 (a1 : Int32) (a2 : Int32) (a3 : Int32) (a4 : Int32) (μ : zM) : tX11_outletWorks_122 a1 a2 a3 a4 μ = zif (a4 < 0) (zU (tX11_counts_0 4 μ) fun μ1 => tX11_outletWorks_144 a1 μ1) (zU (tX11_takesIn_0 a4 a1 a2 a3 μ) fun μ2 => tX11_outletWorks_144 a1 μ2) := (zs3 _ _ _ _).trans (rfl)
theorem eX11_outletWorks_41 (a1 : Int32) (a2 : Int32) (a3 : Int32) (s0 : Int32) (s1 : Int32) (μ : zM) : tX11_outletWorks_41 a1 a2 a3 s0 s1 μ = zif (s0 = s1) (zI (tX11_stateIn_0 a2 μ) fun v2 μ1 => zI (tX11_manyIn_0 v2 a3 μ1) fun v4 μ3 => zI (tX11_ofDevice_0 a2 a3 2 μ3) fun v6 μ5 => zif (v4 < v6) ((qI μ5 (65, 0) 0).bind fun v7 => (qI μ5 (65, 0) (15 + a1)).bind fun v8 => zif (v7 < v8) (tX11_outletWorks_82 μ5) ((qI μ5 (65, 0) 0).bind fun v9 => zI (tX11_ofDevice_0 a2 a3 3 μ5) fun v11 μ10 => (wI μ10 (65, 0) (15 + a1) (v9 + v11)).bind fun μ12 => (qI μ12 (65, 0) (90 + a1)).bind fun v13 => tX11_outletWorks_122 a1 a2 a3 v13 μ12)) (tX11_outletWorks_82 μ5)) (tX11_outletWorks_44 μ) := (zs3 _ _ _ _).trans (rfl)
theorem eX11_outletWorks_10 (a1 : Int32) (a2 : Int32) (a3 : Int32) (μ : zM) : tX11_outletWorks_10 a1 a2 a3 μ = (qI μ (65, 0) (150 + a1)).bind fun v1 => zif (v1 = 0) (tX11_outletWorks_44 μ) (zI (tX11_destinationAt_0 a1 μ) fun v3 μ2 => zif (a2 = 3) (tX11_outletWorks_41 a1 a2 a3 v3 (10 + a3) μ2) (tX11_outletWorks_41 a1 a2 a3 v3 a2 μ2)) := (zs3 _ _ _ _).trans (rfl)
theorem eX11_outletWorks_0 (a1 : Int32) (a2 : Int32) (μ : zM) : tX11_outletWorks_0 a1 a2 μ = (qI μ (63, 0) (80 + a1)).bind fun v1 => tX11_outletWorks_10 a1 a2 v1 μ := (zs3 _ _ _ _).trans (rfl)
theorem uX11_outletWorks (a1 : Int32) (a2 : Int32) (μ : zM) : gX11_outletWorks [.inr (.inr (11, 0)), .inl a1, .inl a2] μ = tX11_outletWorks_0 a1 a2 μ := rfl
/-! BaggageHandlingModel.treats(I)V -/
noncomputable def tX11_treats_60 (μ : zM) : Option (Option zV × zM) := fX11_treats_60 [none, none, none] [] μ
noncomputable def tX11_treats_10 (a1 : Int32) (a2 : Int32) (μ : zM) : Option (Option zV × zM) := fX11_treats_10 [some (.inr (.inr (11, 0))), some (.inl a1), some (.inl a2)] [] μ
noncomputable def tX11_treats_0 (a1 : Int32) (μ : zM) : Option (Option zV × zM) := fX11_treats_0 [some (.inr (.inr (11, 0))), some (.inl a1), none] [] μ
theorem eX11_treats_60 (μ : zM) : tX11_treats_60 μ = some (none, μ) := (zs3 _ _ _ _).trans (rfl)
theorem eX11_treats_10 (a1 : Int32) (a2 : Int32) (μ : zM) : tX11_treats_10 a1 a2 μ = zif (a2 = 1) (zU (tX11_inletWorks_0 a1 μ) fun μ1 => tX11_treats_60 μ1) (zif (a2 = 7) (zU (tX11_exitWorks_0 a1 μ) fun μ2 => tX11_treats_60 μ2) (zif (a2 = 2) (zU (tX11_scannerWorks_0 a1 μ) fun μ3 => tX11_treats_60 μ3) (zif (a2 = 0) (tX11_treats_60 μ) (zU (tX11_outletWorks_0 a1 a2 μ) fun μ4 => tX11_treats_60 μ4)))) := (zs3 _ _ _ _).trans (rfl)
theorem eX11_treats_0 (a1 : Int32) (μ : zM) : tX11_treats_0 a1 μ = (qI μ (63, 0) (20 + a1)).bind fun v1 => tX11_treats_10 a1 v1 μ := (zs3 _ _ _ _).trans (rfl)
theorem uX11_treats (a1 : Int32) (μ : zM) : gX11_treats [.inr (.inr (11, 0)), .inl a1] μ = tX11_treats_0 a1 μ := rfl
/-! BaggageHandlingModel.ticks()V -/
noncomputable def tX11_ticks_101 (n83 : Nat) (a1 : Int32) (μ : zM) : Option (Option zV × zM) := fX11_ticks_101 (fX11_ticks_83 n83) [some (.inr (.inr (11, 0))), some (.inl a1)] [] μ
noncomputable def tX11_ticks_83 (n : Nat) (a1 : Int32) (μ : zM) : Option (Option zV × zM) := fX11_ticks_83 n [some (.inr (.inr (11, 0))), some (.inl a1)] [] μ
noncomputable def tX11_ticks_78 (n61 : Nat) (a1 : Int32) (μ : zM) : Option (Option zV × zM) := fX11_ticks_78 (fX11_ticks_61 n61) [some (.inr (.inr (11, 0))), some (.inl a1)] [] μ
noncomputable def tX11_ticks_61 (n : Nat) (a1 : Int32) (μ : zM) : Option (Option zV × zM) := fX11_ticks_61 n [some (.inr (.inr (11, 0))), some (.inl a1)] [] μ
noncomputable def tX11_ticks_56 (n39 : Nat) (a1 : Int32) (μ : zM) : Option (Option zV × zM) := fX11_ticks_56 (fX11_ticks_39 n39) [some (.inr (.inr (11, 0))), some (.inl a1)] [] μ
noncomputable def tX11_ticks_39 (n : Nat) (a1 : Int32) (μ : zM) : Option (Option zV × zM) := fX11_ticks_39 n [some (.inr (.inr (11, 0))), some (.inl a1)] [] μ
noncomputable def tX11_ticks_34 (n16 : Nat) (a1 : Int32) (μ : zM) : Option (Option zV × zM) := fX11_ticks_34 (fX11_ticks_16 n16) [some (.inr (.inr (11, 0))), some (.inl a1)] [] μ
noncomputable def tX11_ticks_16 (n : Nat) (a1 : Int32) (μ : zM) : Option (Option zV × zM) := fX11_ticks_16 n [some (.inr (.inr (11, 0))), some (.inl a1)] [] μ
noncomputable def tX11_ticks_0 (μ : zM) : Option (Option zV × zM) := fX11_ticks_0 [some (.inr (.inr (11, 0))), none] [] μ
theorem eX11_ticks_101 (n83 : Nat) (a1 : Int32) (μ : zM) : tX11_ticks_101 n83 a1 μ = tX11_ticks_83 n83 a1 μ := (zs3 _ _ _ _).trans (rfl)
theorem eX11_ticks_83 (a1 : Int32) (n : Nat) (μ : zM) : tX11_ticks_83 (n + 1) a1 μ = (qI μ (63, 0) 0).bind fun v1 => zif (a1 < v1) (zU (tX11_treats_0 a1 μ) fun μ2 => tX11_ticks_101 n (a1 + 1) μ2) (some (none, μ)) := (zs3 _ _ _ _).trans (rfl)
theorem eX11_ticks_78 (n61 : Nat) (a1 : Int32) (μ : zM) : tX11_ticks_78 n61 a1 μ = tX11_ticks_61 n61 a1 μ := (zs3 _ _ _ _).trans (rfl)
theorem eX11_ticks_61 (a1 : Int32) (n : Nat) (μ : zM) : tX11_ticks_61 (n + 1) a1 μ = zI (tX11_many_0 5 μ) fun v2 μ1 => zif (a1 < v2) (zU (tX11_storeWorks_0 a1 μ1) fun μ3 => tX11_ticks_78 n (a1 + 1) μ3) (tX11_ticks_83 zN 0 μ1) := (zs3 _ _ _ _).trans (rfl)
theorem eX11_ticks_56 (n39 : Nat) (a1 : Int32) (μ : zM) : tX11_ticks_56 n39 a1 μ = tX11_ticks_39 n39 a1 μ := (zs3 _ _ _ _).trans (rfl)
theorem eX11_ticks_39 (a1 : Int32) (n : Nat) (μ : zM) : tX11_ticks_39 (n + 1) a1 μ = zI (tX11_many_0 4 μ) fun v2 μ1 => zif (a1 < v2) (zU (tX11_screenWorks_0 a1 μ1) fun μ3 => tX11_ticks_56 n (a1 + 1) μ3) (tX11_ticks_61 zN 0 μ1) := (zs3 _ _ _ _).trans (rfl)
theorem eX11_ticks_34 (n16 : Nat) (a1 : Int32) (μ : zM) : tX11_ticks_34 n16 a1 μ = tX11_ticks_16 n16 a1 μ := (zs3 _ _ _ _).trans (rfl)
theorem eX11_ticks_16 (a1 : Int32) (n : Nat) (μ : zM) : tX11_ticks_16 (n + 1) a1 μ = zI (tX11_many_0 6 μ) fun v2 μ1 => zif (a1 < v2) (zU (tX11_stationWorks_0 a1 μ1) fun μ3 => tX11_ticks_34 n (a1 + 1) μ3) (tX11_ticks_39 zN 0 μ1) := (zs3 _ _ _ _).trans (rfl)
theorem eX11_ticks_0 (μ : zM) : tX11_ticks_0 μ = (qI μ (65, 0) 0).bind fun v1 => (wI μ (65, 0) 0 (v1 + 1)).bind fun μ2 => zU (tX11_moves_0 μ2) fun μ3 => tX11_ticks_16 zN 0 μ3 := (zs3 _ _ _ _).trans (rfl)
theorem uX11_ticks (μ : zM) : gX11_ticks [.inr (.inr (11, 0))] μ = tX11_ticks_0 μ := rfl
/-! BaggageHandlingModel.keeps()V -/
noncomputable def tX11_keeps_85 (n54 : Nat) (a1 : Int32) (μ : zM) : Option (Option zV × zM) := fX11_keeps_85 (fX11_keeps_54 n54) [some (.inr (.inr (11, 0))), some (.inl a1)] [] μ
noncomputable def tX11_keeps_54 (n : Nat) (a1 : Int32) (μ : zM) : Option (Option zV × zM) := fX11_keeps_54 n [some (.inr (.inr (11, 0))), some (.inl a1)] [] μ
noncomputable def tX11_keeps_52 (μ : zM) : Option (Option zV × zM) := fX11_keeps_52 [some (.inr (.inr (11, 0))), none] [] μ
noncomputable def tX11_keeps_39 (n13 : Nat) (a1 : Int32) (μ : zM) : Option (Option zV × zM) := fX11_keeps_39 (fX11_keeps_13 n13) [some (.inr (.inr (11, 0))), some (.inl a1)] [] μ
noncomputable def tX11_keeps_13 (n : Nat) (a1 : Int32) (μ : zM) : Option (Option zV × zM) := fX11_keeps_13 n [some (.inr (.inr (11, 0))), some (.inl a1)] [] μ
noncomputable def tX11_keeps_0 (μ : zM) : Option (Option zV × zM) := fX11_keeps_0 [some (.inr (.inr (11, 0))), none] [] μ
theorem eX11_keeps_85 (n54 : Nat) (a1 : Int32) (μ : zM) : tX11_keeps_85 n54 a1 μ = tX11_keeps_54 n54 a1 μ := (zs3 _ _ _ _).trans (rfl)
theorem eX11_keeps_54 (a1 : Int32) (n : Nat) (μ : zM) : tX11_keeps_54 (n + 1) a1 μ = zif (a1 < 1200) ((qI μ (65, 0) a1).bind fun v1 => (wI μ (67, 0) ((1200 * (μ.1 11 0 14)) + a1) v1).bind fun μ2 => tX11_keeps_85 n (a1 + 1) μ2) (zlet (mS μ 11 0 14 ((μ.1 11 0 14) + 1)) fun μ3 => some (none, μ3)) := (zs3 _ _ _ _).trans (rfl)
theorem eX11_keeps_52 (μ : zM) : tX11_keeps_52 μ = tX11_keeps_54 zN 0 μ := (zs3 _ _ _ _).trans (rfl)
theorem eX11_keeps_39 (n13 : Nat) (a1 : Int32) (μ : zM) : tX11_keeps_39 n13 a1 μ = tX11_keeps_13 n13 a1 μ := (zs3 _ _ _ _).trans (rfl)
theorem eX11_keeps_13 (a1 : Int32) (n : Nat) (μ : zM) : tX11_keeps_13 (n + 1) a1 μ = zif (a1 < 12000) ((qI μ (67, 0) a1).bind fun v1 => (wI μ (67, 0) (a1 - 1200) v1).bind fun μ2 => tX11_keeps_39 n (a1 + 1) μ2) (zlet (mS μ 11 0 14 ((μ.1 11 0 14) - 1)) fun μ3 => tX11_keeps_52 μ3) := (zs3 _ _ _ _).trans (rfl)
theorem eX11_keeps_0 (μ : zM) : tX11_keeps_0 μ = zif (μ.1 11 0 14 = 10) (tX11_keeps_13 zN 1200 μ) (tX11_keeps_52 μ) := (zs3 _ _ _ _).trans (rfl)
theorem uX11_keeps (μ : zM) : gX11_keeps [.inr (.inr (11, 0))] μ = tX11_keeps_0 μ := rfl
/-! BaggageHandlingModel.undo()I -/
noncomputable def tX11_undo_52 (n21 : Nat) (a1 : Int32) (μ : zM) : Option (Option zV × zM) := fX11_undo_52 (fX11_undo_21 n21) [some (.inr (.inr (11, 0))), some (.inl a1)] [] μ
noncomputable def tX11_undo_21 (n : Nat) (a1 : Int32) (μ : zM) : Option (Option zV × zM) := fX11_undo_21 n [some (.inr (.inr (11, 0))), some (.inl a1)] [] μ
noncomputable def tX11_undo_0 (μ : zM) : Option (Option zV × zM) := fX11_undo_0 [some (.inr (.inr (11, 0))), none] [] μ
theorem eX11_undo_52 (n21 : Nat) (a1 : Int32) (μ : zM) : tX11_undo_52 n21 a1 μ = tX11_undo_21 n21 a1 μ := (zs3 _ _ _ _).trans (rfl)
theorem eX11_undo_21 (a1 : Int32) (n : Nat) (μ : zM) : tX11_undo_21 (n + 1) a1 μ = zif (a1 < 1200) ((qI μ (67, 0) ((1200 * (μ.1 11 0 14)) + a1)).bind fun v1 => (wI μ (65, 0) a1 v1).bind fun μ2 => tX11_undo_52 n (a1 + 1) μ2) (some (some (.inl (μ.1 11 0 14)), μ)) := (zs3 _ _ _ _).trans (rfl)
theorem eX11_undo_0 (μ : zM) : tX11_undo_0 μ = zif (μ.1 11 0 14 = 0) (some (some (.inl (-1)), μ)) (zlet (mS μ 11 0 14 ((μ.1 11 0 14) - 1)) fun μ1 => tX11_undo_21 zN 0 μ1) := (zs3 _ _ _ _).trans (rfl)
theorem uX11_undo (μ : zM) : gX11_undo [.inr (.inr (11, 0))] μ = tX11_undo_0 μ := rfl
/-! BaggageHandlingModel.isLabel(I)Z -/
noncomputable def tX11_isLabel_23 (s0 : Int32) (μ : zM) : Option (Option zV × zM) := fX11_isLabel_23 [none] [.inl s0] μ
noncomputable def tX11_isLabel_18 (μ : zM) : Option (Option zV × zM) := fX11_isLabel_18 [none] [] μ
noncomputable def tX11_isLabel_0 (a0 : Int32) (μ : zM) : Option (Option zV × zM) := fX11_isLabel_0 [some (.inl a0)] [] μ
theorem eX11_isLabel_23 (s0 : Int32) (μ : zM) : tX11_isLabel_23 s0 μ = zif (vp_nar .boolean s0 = s0) (some (some (.inl s0), μ)) none := (zs3 _ _ _ _).trans (rfl)
theorem eX11_isLabel_18 (μ : zM) : tX11_isLabel_18 μ = tX11_isLabel_23 1 μ := (zs3 _ _ _ _).trans (rfl)
theorem eX11_isLabel_0 (a0 : Int32) (μ : zM) : tX11_isLabel_0 a0 μ = zif (a0 = 0) (tX11_isLabel_18 μ) (zI (tX11_in_0 a0.toInt64 1000 999999 μ) fun v2 μ1 => zif (v2 = 0) (tX11_isLabel_23 0 μ1) (tX11_isLabel_18 μ1)) := (zs3 _ _ _ _).trans (rfl)
theorem uX11_isLabel (a0 : Int32) (μ : zM) : gX11_isLabel [.inl a0] μ = tX11_isLabel_0 a0 μ := rfl
