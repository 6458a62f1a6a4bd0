/-! BaggageHandlingModel.in(JJJ)Z -/
noncomputable def tX11_in_18 (s0 : Int32) (μ : zM) : Option (Option zV × zM) := fX11_in_18 [none, none, none, none, none, none] [.inl s0] μ
noncomputable def tX11_in_17 (μ : zM) : Option (Option zV × zM) := fX11_in_17 [none, none, none, none, none, none] [] μ
noncomputable def tX11_in_0 (a0 : Int64) (a2 : Int64) (a4 : Int64) (μ : zM) : Option (Option zV × zM) := fX11_in_0 [some (.inr (.inl a0)), none, some (.inr (.inl a2)), none, some (.inr (.inl a4)), none] [] μ
theorem eX11_in_18 (s0 : Int32) (μ : zM) : tX11_in_18 s0 μ = zif (vp_nar .boolean s0 = s0) (some (some (.inl s0), μ)) none := (zs3 _ _ _ _).trans (rfl)
theorem eX11_in_17 (μ : zM) : tX11_in_17 μ = tX11_in_18 0 μ := (zs3 _ _ _ _).trans (rfl)
theorem eX11_in_0 (a0 : Int64) (a2 : Int64) (a4 : Int64) (μ : zM) : tX11_in_0 a0 a2 a4 μ = zif (lg_cmp a0 a2 < 0) (tX11_in_17 μ) (zif (0 < lg_cmp a0 a4) (tX11_in_17 μ) (tX11_in_18 1 μ)) := (zs3 _ _ _ _).trans (rfl)
theorem uX11_in (a0 : Int64) (a2 : Int64) (a4 : Int64) (μ : zM) : gX11_in [.inr (.inl a0), .inr (.inl a2), .inr (.inl a4)] μ = tX11_in_0 a0 a2 a4 μ := rfl
/-! BaggageHandlingModel.isAt(II)Z -/
noncomputable def tX11_isAt_42 (s0 : Int32) (μ : zM) : Option (Option zV × zM) := fX11_isAt_42 [none, none, none] [.inl s0] μ
noncomputable def tX11_isAt_41 (μ : zM) : Option (Option zV × zM) := fX11_isAt_41 [none, none, none] [] μ
noncomputable def tX11_isAt_0 (a1 : Int32) (a2 : Int32) (μ : zM) : Option (Option zV × zM) := fX11_isAt_0 [some (.inr (.inr (11, 0))), some (.inl a1), some (.inl a2)] [] μ
theorem eX11_isAt_42 (s0 : Int32) (μ : zM) : tX11_isAt_42 s0 μ = zif (vp_nar .boolean s0 = s0) (some (some (.inl s0), μ)) none := (zs3 _ _ _ _).trans (rfl)
theorem eX11_isAt_41 (μ : zM) : tX11_isAt_41 μ = tX11_isAt_42 0 μ := (zs3 _ _ _ _).trans (rfl)
theorem eX11_isAt_0 (a1 : Int32) (a2 : Int32) (μ : zM) : tX11_isAt_0 a1 a2 μ = zif (μ.1 11 0 5 < μ.1 11 0 1) ((qB μ (62, 0) (μ.1 11 0 5)).bind fun v1 => zif (v1 < a1) (tX11_isAt_41 μ) ((qB μ (62, 0) (μ.1 11 0 5)).bind fun v2 => zif (a2 < v2) (tX11_isAt_41 μ) (tX11_isAt_42 1 μ))) (tX11_isAt_41 μ) := (zs3 _ _ _ _).trans (rfl)
theorem uX11_isAt (a1 : Int32) (a2 : Int32) (μ : zM) : gX11_isAt [.inr (.inr (11, 0)), .inl a1, .inl a2] μ = tX11_isAt_0 a1 a2 μ := rfl
/-! BaggageHandlingModel.next()V -/
noncomputable def tX11_next_314 (μ : zM) : Option (Option zV × zM) := fX11_next_314 [none] [] μ
noncomputable def tX11_next_301 (s1 : Int32) (μ : zM) : Option (Option zV × zM) := fX11_next_301 [some (.inr (.inr (11, 0)))] [.inl s1, .inr (.inr (11, 0))] μ
noncomputable def tX11_next_275 (s1 : Int32) (μ : zM) : Option (Option zV × zM) := fX11_next_275 [none] [.inl s1, .inr (.inr (11, 0))] μ
noncomputable def tX11_next_240 (n188 : Nat) (s1 : Int32) (μ : zM) : Option (Option zV × zM) := fX11_next_240 (fX11_next_188 n188) [some (.inr (.inr (11, 0)))] [.inl s1, .inr (.inr (11, 0))] μ
noncomputable def tX11_next_188 (n : Nat) (μ : zM) : Option (Option zV × zM) := fX11_next_188 n [some (.inr (.inr (11, 0)))] [] μ
noncomputable def tX11_next_153 (n100 : Nat) (s1 : Int64) (μ : zM) : Option (Option zV × zM) := fX11_next_153 (fX11_next_100 n100) [some (.inr (.inr (11, 0)))] [.inr (.inl s1), .inr (.inr (11, 0))] μ
noncomputable def tX11_next_100 (n : Nat) (μ : zM) : Option (Option zV × zM) := fX11_next_100 n [some (.inr (.inr (11, 0)))] [] μ
noncomputable def tX11_next_52 (μ : zM) : Option (Option zV × zM) := fX11_next_52 [some (.inr (.inr (11, 0)))] [] μ
noncomputable def tX11_next_39 (n0 : Nat) (μ : zM) : Option (Option zV × zM) := fX11_next_39 (fX11_next_0 n0) [some (.inr (.inr (11, 0)))] [] μ
noncomputable def tX11_next_0 (n : Nat) (μ : zM) : Option (Option zV × zM) := fX11_next_0 n [some (.inr (.inr (11, 0)))] [] μ
theorem eX11_next_314 (μ : zM) : tX11_next_314 μ = some (none, μ) := (zs3 _ _ _ _).trans (rfl)
theorem eX11_next_301 (s1 : Int32) (μ : zM) : tX11_next_301 s1 μ = zlet (mS μ 11 0 7 s1) fun μ1 => zlet (mS μ1 11 0 5 ((μ1.1 11 0 5) + 1)) fun μ2 => tX11_next_314 μ2 := (zs3 _ _ _ _).trans (rfl)
theorem eX11_next_275 (s1 : Int32) (μ : zM) : tX11_next_275 s1 μ = zlet (mS μ 11 0 7 s1) fun μ1 => tX11_next_314 μ1 := (zs3 _ _ _ _).trans (rfl)
theorem eX11_next_240 (n188 : Nat) (s1 : Int32) (μ : zM) : tX11_next_240 n188 s1 μ = zlet (mS μ 11 0 8 s1) fun μ1 => zlet (mS μ1 11 0 5 ((μ1.1 11 0 5) + 1)) fun μ2 => tX11_next_188 n188 μ2 := (zs3 _ _ _ _).trans (rfl)
theorem eX11_next_188 (n : Nat) (μ : zM) : tX11_next_188 (n + 1) μ = zI (tX11_isAt_0 48 57 μ) fun v2 μ1 => zif (v2 = 0) (zif ((5 : Int32) < (μ1.1 11 0 5) - (μ1.1 11 0 6)) (tX11_next_275 4 μ1) (tX11_next_275 2 μ1)) (zif ((μ1.1 11 0 5) - (μ1.1 11 0 6) < 5) ((qB μ1 (62, 0) (μ1.1 11 0 5)).bind fun v3 => tX11_next_240 n (((10 * (μ1.1 11 0 8)) + v3) - 48) μ1) (tX11_next_240 n (μ1.1 11 0 8) μ1)) := (zs3 _ _ _ _).trans (rfl)
theorem eX11_next_153 (n100 : Nat) (s1 : Int64) (μ : zM) : tX11_next_153 n100 s1 μ = (qP μ (11, 0) 9 (.inr (.inl s1))).bind fun μ1 => zlet (mS μ1 11 0 5 ((μ1.1 11 0 5) + 1)) fun μ2 => tX11_next_100 n100 μ2 := (zs3 _ _ _ _).trans (rfl)
theorem eX11_next_100 (n : Nat) (μ : zM) : tX11_next_100 (n + 1) μ = zI (tX11_isAt_0 97 122 μ) fun v2 μ1 => zif (v2 = 0) (zlet (mS μ1 11 0 7 1) fun μ3 => tX11_next_314 μ3) (zif ((μ1.1 11 0 5) - (μ1.1 11 0 6) < 8) ((qB μ1 (62, 0) (μ1.1 11 0 5)).bind fun v4 => tX11_next_153 n (((32 * (μ1.2.2 11 0 9)) + v4.toInt64) - 96) μ1) (tX11_next_153 n 0 μ1)) := (zs3 _ _ _ _).trans (rfl)
theorem eX11_next_52 (μ : zM) : tX11_next_52 μ = zlet (mS μ 11 0 6 (μ.1 11 0 5)) fun μ1 => zlet (mS μ1 11 0 8 0) fun μ2 => (qP μ2 (11, 0) 9 (.inr (.inl 0))).bind fun μ3 => zif (μ3.1 11 0 5 = μ3.1 11 0 1) (zlet (mS μ3 11 0 7 0) fun μ4 => tX11_next_314 μ4) (zI (tX11_isAt_0 97 122 μ3) fun v6 μ5 => zif (v6 = 0) (zI (tX11_isAt_0 48 57 μ5) fun v8 μ7 => zif (v8 = 0) ((qB μ7 (62, 0) (μ7.1 11 0 5)).bind fun v9 => zif (v9 = 59) (tX11_next_301 3 μ7) (tX11_next_301 4 μ7)) (tX11_next_188 zN μ7)) (tX11_next_100 zN μ5)) := (zs3 _ _ _ _).trans (rfl)
theorem eX11_next_39 (n0 : Nat) (μ : zM) : tX11_next_39 n0 μ = zlet (mS μ 11 0 5 ((μ.1 11 0 5) + 1)) fun μ1 => tX11_next_0 n0 μ1 := (zs3 _ _ _ _).trans (rfl)
theorem eX11_next_0 (n : Nat) (μ : zM) : tX11_next_0 (n + 1) μ = zif (μ.1 11 0 5 < μ.1 11 0 1) ((qB μ (62, 0) (μ.1 11 0 5)).bind fun v1 => zif (v1 = 32) (tX11_next_39 n μ) ((qB μ (62, 0) (μ.1 11 0 5)).bind fun v2 => zif (v2 = 10) (tX11_next_39 n μ) (tX11_next_52 μ))) (tX11_next_52 μ) := (zs3 _ _ _ _).trans (rfl)
theorem uX11_next (μ : zM) : gX11_next [.inr (.inr (11, 0))] μ = tX11_next_0 zN μ := rfl
/-! BaggageHandlingModel.isWord(J)Z -/
noncomputable def tX11_isWord_29 (s0 : Int32) (μ : zM) : Option (Option zV × zM) := fX11_isWord_29 [none, none, none] [.inl s0] μ
noncomputable def tX11_isWord_28 (μ : zM) : Option (Option zV × zM) := fX11_isWord_28 [none, none, none] [] μ
noncomputable def tX11_isWord_0 (a1 : Int64) (μ : zM) : Option (Option zV × zM) := fX11_isWord_0 [some (.inr (.inr (11, 0))), some (.inr (.inl a1)), none] [] μ
theorem eX11_isWord_29 (s0 : Int32) (μ : zM) : tX11_isWord_29 s0 μ = zif (vp_nar .boolean s0 = s0) (some (some (.inl s0), μ)) none := (zs3 _ _ _ _).trans (rfl)
theorem eX11_isWord_28 (μ : zM) : tX11_isWord_28 μ = tX11_isWord_29 0 μ := (zs3 _ _ _ _).trans (rfl)
theorem eX11_isWord_0 (a1 : Int64) (μ : zM) : tX11_isWord_0 a1 μ = zif (μ.1 11 0 10 = 0) (tX11_isWord_28 μ) (zif (μ.1 11 0 7 = 1) (zif (lg_cmp (μ.2.2 11 0 9) a1 = 0) (tX11_isWord_29 1 μ) (tX11_isWord_28 μ)) (tX11_isWord_28 μ)) := (zs3 _ _ _ _).trans (rfl)
theorem uX11_isWord (a1 : Int64) (μ : zM) : gX11_isWord [.inr (.inr (11, 0)), .inr (.inl a1)] μ = tX11_isWord_0 a1 μ := rfl
/-! BaggageHandlingModel.takes(Z)V -/
noncomputable def tX11_takes_35 (μ : zM) : Option (Option zV × zM) := fX11_takes_35 [none, none] [] μ
noncomputable def tX11_takes_24 (μ : zM) : Option (Option zV × zM) := fX11_takes_24 [some (.inr (.inr (11, 0))), none] [] μ
noncomputable def tX11_takes_0 (a1 : Int32) (μ : zM) : Option (Option zV × zM) := fX11_takes_0 [some (.inr (.inr (11, 0))), some (.inl a1)] [] μ
theorem eX11_takes_35 (μ : zM) : tX11_takes_35 μ = some (none, μ) := (zs3 _ _ _ _).trans (rfl)
theorem eX11_takes_24 (μ : zM) : tX11_takes_24 μ = zif (μ.1 11 0 10 = 0) (tX11_takes_35 μ) (zU (tX11_next_0 zN μ) fun μ1 => tX11_takes_35 μ1) := (zs3 _ _ _ _).trans (rfl)
theorem eX11_takes_0 (a1 : Int32) (μ : zM) : tX11_takes_0 a1 μ = zif (μ.1 11 0 10 = 0) (tX11_takes_24 μ) (zif (a1 = 0) ((qP μ (11, 0) 10 (.inl 0)).bind fun μ1 => zlet (mS μ1 11 0 2 (μ1.1 11 0 6)) fun μ2 => tX11_takes_24 μ2) (tX11_takes_24 μ)) := (zs3 _ _ _ _).trans (rfl)
theorem uX11_takes (a1 : Int32) (μ : zM) : gX11_takes [.inr (.inr (11, 0)), .inl a1] μ = tX11_takes_0 a1 μ := rfl
/-! BaggageHandlingModel.number(II)I -/
noncomputable def tX11_number_31 (a3 : Int32) (s1 : Int32) (μ : zM) : Option (Option zV × zM) := fX11_number_31 [none, none, none, some (.inl a3)] [.inl s1, .inr (.inr (11, 0))] μ
noncomputable def tX11_number_30 (a3 : Int32) (μ : zM) : Option (Option zV × zM) := fX11_number_30 [none, none, none, some (.inl a3)] [.inr (.inr (11, 0))] μ
noncomputable def tX11_number_5 (a1 : Int32) (a2 : Int32) (a3 : Int32) (μ : zM) : Option (Option zV × zM) := fX11_number_5 [some (.inr (.inr (11, 0))), some (.inl a1), some (.inl a2), some (.inl a3)] [] μ
noncomputable def tX11_number_0 (a1 : Int32) (a2 : Int32) (μ : zM) : Option (Option zV × zM) := fX11_number_0 [some (.inr (.inr (11, 0))), some (.inl a1), some (.inl a2), none] [] μ
theorem eX11_number_31 (a3 : Int32) (s1 : Int32) (μ : zM) : tX11_number_31 a3 s1 μ = zU (tX11_takes_0 s1 μ) fun μ1 => some (some (.inl a3), μ1) := (zs3 _ _ _ _).trans (rfl)
theorem eX11_number_30 (a3 : Int32) (μ : zM) : tX11_number_30 a3 μ = tX11_number_31 a3 0 μ := (zs3 _ _ _ _).trans (rfl)
theorem eX11_number_5 (a1 : Int32) (a2 : Int32) (a3 : Int32) (μ : zM) : tX11_number_5 a1 a2 a3 μ = zif (μ.1 11 0 7 = 2) (zI (tX11_in_0 a3.toInt64 a1.toInt64 a2.toInt64 μ) fun v2 μ1 => zif (v2 = 0) (tX11_number_30 a3 μ1) (tX11_number_31 a3 1 μ1)) (tX11_number_30 a3 μ) := (zs3 _ _ _ _).trans (rfl)
theorem eX11_number_0 (a1 : Int32) (a2 : Int32) (μ : zM) : tX11_number_0 a1 a2 μ = tX11_number_5 a1 a2 (μ.1 11 0 8) μ := (zs3 _ _ _ _).trans (rfl)
theorem uX11_number (a1 : Int32) (a2 : Int32) (μ : zM) : gX11_number [.inr (.inr (11, 0)), .inl a1, .inl a2] μ = tX11_number_0 a1 a2 μ := rfl
/-! BaggageHandlingModel.numberBehind(JII)I -/
noncomputable def tX11_numberBehind_0 (a1 : Int64) (a3 : Int32) (a4 : Int32) (μ : zM) : Option (Option zV × zM) := fX11_numberBehind_0 [some (.inr (.inr (11, 0))), some (.inr (.inl a1)), none, some (.inl a3), some (.inl a4)] [] μ
theorem eX11_numberBehind_0 (a1 : Int64) (a3 : Int32) (a4 : Int32) (μ : zM) : tX11_numberBehind_0 a1 a3 a4 μ = zI (tX11_isWord_0 a1 μ) fun v2 μ1 => zU (tX11_takes_0 v2 μ1) fun μ3 => zI (tX11_number_0 a3 a4 μ3) fun v5 μ4 => some (some (.inl v5), μ4) := (zs3 _ _ _ _).trans (rfl)
theorem uX11_numberBehind (a1 : Int64) (a3 : Int32) (a4 : Int32) (μ : zM) : gX11_numberBehind [.inr (.inr (11, 0)), .inr (.inl a1), .inl a3, .inl a4] μ = tX11_numberBehind_0 a1 a3 a4 μ := rfl
/-! BaggageHandlingModel.freePosition()I -/
noncomputable def tX11_freePosition_65 (a1 : Int32) (s1 : Int32) (μ : zM) : Option (Option zV × zM) := fX11_freePosition_65 [none, some (.inl a1)] [.inl s1, .inr (.inr (11, 0))] μ
noncomputable def tX11_freePosition_64 (a1 : Int32) (μ : zM) : Option (Option zV × zM) := fX11_freePosition_64 [none, some (.inl a1)] [.inr (.inr (11, 0))] μ
noncomputable def tX11_freePosition_55 (a1 : Int32) (s2 : Int32) (s3 : Int32) (μ : zM) : Option (Option zV × zM) := fX11_freePosition_55 [none, some (.inl a1)] [.inl s3, .inl s2, .inr (.inr (64, 0)), .inr (.inr (11, 0))] μ
noncomputable def tX11_freePosition_5 (a1 : Int32) (μ : zM) : Option (Option zV × zM) := fX11_freePosition_5 [some (.inr (.inr (11, 0))), some (.inl a1)] [] μ
noncomputable def tX11_freePosition_0 (μ : zM) : Option (Option zV × zM) := fX11_freePosition_0 [some (.inr (.inr (11, 0))), none] [] μ
theorem eX11_freePosition_65 (a1 : Int32) (s1 : Int32) (μ : zM) : tX11_freePosition_65 a1 s1 μ = zU (tX11_takes_0 s1 μ) fun μ1 => some (some (.inl a1), μ1) := (zs3 _ _ _ _).trans (rfl)
theorem eX11_freePosition_64 (a1 : Int32) (μ : zM) : tX11_freePosition_64 a1 μ = tX11_freePosition_65 a1 0 μ := (zs3 _ _ _ _).trans (rfl)
theorem eX11_freePosition_55 (a1 : Int32) (s2 : Int32) (s3 : Int32) (μ : zM) : tX11_freePosition_55 a1 s2 s3 μ = (qI μ (64, 0) (s2 + s3)).bind fun v1 => zif (v1 = 0) (tX11_freePosition_65 a1 1 μ) (tX11_freePosition_64 a1 μ) := (zs3 _ _ _ _).trans (rfl)
theorem eX11_freePosition_5 (a1 : Int32) (μ : zM) : tX11_freePosition_5 a1 μ = zif (μ.1 11 0 7 = 2) ((qI μ (64, 0) 0).bind fun v1 => zI (tX11_in_0 a1.toInt64 0 ((v1 - 1).toInt64) μ) fun v3 μ2 => zif (v3 = 0) (tX11_freePosition_64 a1 μ2) (zI (tX11_in_0 a1.toInt64 0 59 μ2) fun v5 μ4 => zif (v5 = 0) (tX11_freePosition_55 a1 20 0 μ4) (tX11_freePosition_55 a1 20 a1 μ4))) (tX11_freePosition_64 a1 μ) := (zs3 _ _ _ _).trans (rfl)
theorem eX11_freePosition_0 (μ : zM) : tX11_freePosition_0 μ = tX11_freePosition_5 (μ.1 11 0 8) μ := (zs3 _ _ _ _).trans (rfl)
theorem uX11_freePosition (μ : zM) : gX11_freePosition [.inr (.inr (11, 0))] μ = tX11_freePosition_0 μ := rfl
/-! BaggageHandlingModel.sortHere()I -/
noncomputable def tX11_sortHere_86 (s0 : Int32) (μ : zM) : Option (Option zV × zM) := fX11_sortHere_86 [none] [.inl s0] μ
noncomputable def tX11_sortHere_0 (μ : zM) : Option (Option zV × zM) := fX11_sortHere_0 [some (.inr (.inr (11, 0)))] [] μ
theorem eX11_sortHere_86 (s0 : Int32) (μ : zM) : tX11_sortHere_86 s0 μ = some (some (.inl s0), μ) := (zs3 _ _ _ _).trans (rfl)
theorem eX11_sortHere_0 (μ : zM) : tX11_sortHere_0 μ = zI (tX11_isWord_0 9908404 μ) fun v2 μ1 => zif (v2 = 0) (zI (tX11_isWord_0 20503279794 μ1) fun v4 μ3 => zif (v4 = 0) (zI (tX11_isWord_0 3430021 μ3) fun v6 μ5 => zif (v6 = 0) (zI (tX11_isWord_0 641275054 μ5) fun v8 μ7 => zif (v8 = 0) (zI (tX11_isWord_0 20594245 μ7) fun v10 μ9 => zif (v10 = 0) (zI (tX11_isWord_0 21073896942 μ9) fun v12 μ11 => zif (v12 = 0) (tX11_sortHere_86 0 μ11) (tX11_sortHere_86 6 μ11)) (tX11_sortHere_86 5 μ9)) (tX11_sortHere_86 4 μ7)) (tX11_sortHere_86 3 μ5)) (tX11_sortHere_86 2 μ3)) (tX11_sortHere_86 1 μ1) := (zs3 _ _ _ _).trans (rfl)
theorem uX11_sortHere (μ : zM) : gX11_sortHere [.inr (.inr (11, 0))] μ = tX11_sortHere_0 μ := rfl
/-! BaggageHandlingModel.mostOf(I)I -/
noncomputable def tX11_mostOf_20 (s0 : Int32) (μ : zM) : Option (Option zV × zM) := fX11_mostOf_20 [none] [.inl s0] μ
noncomputable def tX11_mostOf_0 (a0 : Int32) (μ : zM) : Option (Option zV × zM) := fX11_mostOf_0 [some (.inl a0)] [] μ
theorem eX11_mostOf_20 (s0 : Int32) (μ : zM) : tX11_mostOf_20 s0 μ = some (some (.inl s0), μ) := (zs3 _ _ _ _).trans (rfl)
theorem eX11_mostOf_0 (a0 : Int32) (μ : zM) : tX11_mostOf_0 a0 μ = zif (a0 = 3) (tX11_mostOf_20 6 μ) (zif (a0 < 3) (tX11_mostOf_20 3 μ) (tX11_mostOf_20 2 μ)) := (zs3 _ _ _ _).trans (rfl)
theorem uX11_mostOf (a0 : Int32) (μ : zM) : gX11_mostOf [.inl a0] μ = tX11_mostOf_0 a0 μ := rfl
/-! BaggageHandlingModel.uses(III)V -/
noncomputable def tX11_uses_27 (μ : zM) : Option (Option zV × zM) := fX11_uses_27 [none, none, none, none] [] μ
noncomputable def tX11_uses_0 (a1 : Int32) (a2 : Int32) (a3 : Int32) (μ : zM) : Option (Option zV × zM) := fX11_uses_0 [some (.inr (.inr (11, 0))), some (.inl a1), some (.inl a2), some (.inl a3)] [] μ
theorem eX11_uses_27 (μ : zM) : tX11_uses_27 μ = some (none, μ) := (zs3 _ _ _ _).trans (rfl)
theorem eX11_uses_0 (a1 : Int32) (a2 : Int32) (a3 : Int32) (μ : zM) : tX11_uses_0 a1 a2 a3 μ = zif (μ.1 11 0 10 = 0) (tX11_uses_27 μ) ((wI μ (64, 0) (20 + a1) a2).bind fun μ1 => (wI μ1 (64, 0) (80 + a1) a3).bind fun μ2 => tX11_uses_27 μ2) := (zs3 _ _ _ _).trans (rfl)
theorem uX11_uses (a1 : Int32) (a2 : Int32) (a3 : Int32) (μ : zM) : gX11_uses [.inr (.inr (11, 0)), .inl a1, .inl a2, .inl a3] μ = tX11_uses_0 a1 a2 a3 μ := rfl
/-! BaggageHandlingModel.readDevice(I)V -/
noncomputable def tX11_readDevice_301 (μ : zM) : Option (Option zV × zM) := fX11_readDevice_301 [none, none, none, none, none, none] [] μ
noncomputable def tX11_readDevice_230 (a1 : Int32) (a2 : Int32) (a3 : Int32) (a4 : Int32) (s1 : Int32) (μ : zM) : Option (Option zV × zM) := fX11_readDevice_230 [some (.inr (.inr (11, 0))), some (.inl a1), some (.inl a2), some (.inl a3), some (.inl a4), none] [.inl s1, .inr (.inr (11, 0))] μ
noncomputable def tX11_readDevice_216 (a1 : Int32) (a2 : Int32) (a3 : Int32) (a4 : Int32) (μ : zM) : Option (Option zV × zM) := fX11_readDevice_216 [some (.inr (.inr (11, 0))), some (.inl a1), some (.inl a2), some (.inl a3), some (.inl a4), none] [] μ
noncomputable def tX11_readDevice_196 (a1 : Int32) (a2 : Int32) (a3 : Int32) (a4 : Int32) (a5 : Int32) (μ : zM) : Option (Option zV × zM) := fX11_readDevice_196 [some (.inr (.inr (11, 0))), some (.inl a1), some (.inl a2), some (.inl a3), some (.inl a4), some (.inl a5)] [] μ
noncomputable def tX11_readDevice_174 (a1 : Int32) (a2 : Int32) (a3 : Int32) (a4 : Int32) (μ : zM) : Option (Option zV × zM) := fX11_readDevice_174 [some (.inr (.inr (11, 0))), some (.inl a1), some (.inl a2), some (.inl a3), some (.inl a4), none] [] μ
noncomputable def tX11_readDevice_150 (a1 : Int32) (a2 : Int32) (a3 : Int32) (a4 : Int32) (μ : zM) : Option (Option zV × zM) := fX11_readDevice_150 [some (.inr (.inr (11, 0))), some (.inl a1), some (.inl a2), some (.inl a3), some (.inl a4), none] [] μ
noncomputable def tX11_readDevice_96 (a1 : Int32) (a2 : Int32) (a3 : Int32) (a4 : Int32) (μ : zM) : Option (Option zV × zM) := fX11_readDevice_96 [some (.inr (.inr (11, 0))), some (.inl a1), some (.inl a2), some (.inl a3), some (.inl a4), none] [] μ
noncomputable def tX11_readDevice_47 (a1 : Int32) (a2 : Int32) (a3 : Int32) (a4 : Int32) (μ : zM) : Option (Option zV × zM) := fX11_readDevice_47 [some (.inr (.inr (11, 0))), some (.inl a1), some (.inl a2), some (.inl a3), some (.inl a4), none] [] μ
noncomputable def tX11_readDevice_38 (a1 : Int32) (a2 : Int32) (a3 : Int32) (s1 : Int32) (μ : zM) : Option (Option zV × zM) := fX11_readDevice_38 [some (.inr (.inr (11, 0))), some (.inl a1), some (.inl a2), some (.inl a3), none, none] [.inl s1, .inr (.inr (11, 0))] μ
noncomputable def tX11_readDevice_24 (a1 : Int32) (a2 : Int32) (a3 : Int32) (μ : zM) : Option (Option zV × zM) := fX11_readDevice_24 [some (.inr (.inr (11, 0))), some (.inl a1), some (.inl a2), some (.inl a3), none, none] [] μ
noncomputable def tX11_readDevice_10 (a1 : Int32) (a2 : Int32) (μ : zM) : Option (Option zV × zM) := fX11_readDevice_10 [some (.inr (.inr (11, 0))), some (.inl a1), some (.inl a2), none, none, none] [] μ
noncomputable def tX11_readDevice_0 (a1 : Int32) (μ : zM) : Option (Option zV × zM) := fX11_readDevice_0 [some (.inr (.inr (11, 0))), some (.inl a1), none, none, none, none] [] μ
theorem eX11_readDevice_301 (μ : zM) : tX11_readDevice_301 μ = some (none, μ) := (zs3 _ _ _ _).trans (rfl)
theorem eX11_readDevice_230 (a1 : Int32) (a2 : Int32) (a3 : Int32) (a4 : Int32) (s1 : Int32) (μ : zM) : tX11_readDevice_230 a1 a2 a3 a4 s1 μ = zU (tX11_takes_0 s1 μ) fun μ1 => zif (μ1.1 11 0 10 = 0) (tX11_readDevice_301 μ1) ((wI μ1 (64, 0) a3 a1).bind fun μ2 => (wI μ2 (64, 0) (a3 + 1) a4).bind fun μ3 => (qI μ3 (64, 0) 1).bind fun v4 => (wI μ3 (64, 0) ((340 + (6 * a1)) + a2) v4).bind fun μ5 => (qI μ5 (64, 0) (10 + a1)).bind fun v6 => (wI μ5 (64, 0) (10 + a1) (v6 + 1)).bind fun μ7 => (qI μ7 (64, 0) 1).bind fun v8 => (wI μ7 (64, 0) 1 (v8 + 1)).bind fun μ9 => tX11_readDevice_301 μ9) := (zs3 _ _ _ _).trans (rfl)
theorem eX11_readDevice_216 (a1 : Int32) (a2 : Int32) (a3 : Int32) (a4 : Int32) (μ : zM) : tX11_readDevice_216 a1 a2 a3 a4 μ = zif (μ.1 11 0 7 = 3) (tX11_readDevice_230 a1 a2 a3 a4 1 μ) (tX11_readDevice_230 a1 a2 a3 a4 0 μ) := (zs3 _ _ _ _).trans (rfl)
theorem eX11_readDevice_196 (a1 : Int32) (a2 : Int32) (a3 : Int32) (a4 : Int32) (a5 : Int32) (μ : zM) : tX11_readDevice_196 a1 a2 a3 a4 a5 μ = zU (tX11_uses_0 a5 7 0 μ) fun μ1 => (wI μ1 (64, 0) (a3 + 7) a5).bind fun μ2 => tX11_readDevice_216 a1 a2 a3 a4 μ2 := (zs3 _ _ _ _).trans (rfl)
theorem eX11_readDevice_174 (a1 : Int32) (a2 : Int32) (a3 : Int32) (a4 : Int32) (μ : zM) : tX11_readDevice_174 a1 a2 a3 a4 μ = zif ((3 : Int32) < a1) (zI (tX11_isWord_0 188724 μ) fun v2 μ1 => zU (tX11_takes_0 v2 μ1) fun μ3 => zI (tX11_freePosition_0 μ3) fun v5 μ4 => tX11_readDevice_196 a1 a2 a3 a4 v5 μ4) (tX11_readDevice_216 a1 a2 a3 a4 μ) := (zs3 _ _ _ _).trans (rfl)
theorem eX11_readDevice_150 (a1 : Int32) (a2 : Int32) (a3 : Int32) (a4 : Int32) (μ : zM) : tX11_readDevice_150 a1 a2 a3 a4 μ = zif (a1 = 6) (zI (tX11_numberBehind_0 664997 1 99 μ) fun v2 μ1 => (wI μ1 (64, 0) (a3 + 4) v2).bind fun μ3 => tX11_readDevice_174 a1 a2 a3 a4 μ3) (tX11_readDevice_174 a1 a2 a3 a4 μ) := (zs3 _ _ _ _).trans (rfl)
theorem eX11_readDevice_96 (a1 : Int32) (a2 : Int32) (a3 : Int32) (a4 : Int32) (μ : zM) : tX11_readDevice_96 a1 a2 a3 a4 μ = zif (a1 = 4) (zI (tX11_numberBehind_0 21279923 1 99 μ) fun v2 μ1 => (wI μ1 (64, 0) (a3 + 4) v2).bind fun μ3 => zI (tX11_number_0 1 99 μ3) fun v5 μ4 => (wI μ4 (64, 0) (a3 + 5) v5).bind fun μ6 => zI (tX11_number_0 1 99 μ6) fun v8 μ7 => (wI μ7 (64, 0) (a3 + 6) v8).bind fun μ9 => tX11_readDevice_150 a1 a2 a3 a4 μ9) (tX11_readDevice_150 a1 a2 a3 a4 μ) := (zs3 _ _ _ _).trans (rfl)
theorem eX11_readDevice_47 (a1 : Int32) (a2 : Int32) (a3 : Int32) (a4 : Int32) (μ : zM) : tX11_readDevice_47 a1 a2 a3 a4 μ = zU (tX11_uses_0 a4 a1 a2 μ) fun μ1 => zif (a1 < 3) (tX11_readDevice_96 a1 a2 a3 a4 μ1) (zI (tX11_numberBehind_0 605677 1 20 μ1) fun v3 μ2 => (wI μ2 (64, 0) (a3 + 2) v3).bind fun μ4 => zI (tX11_numberBehind_0 661966952 1 9 μ4) fun v6 μ5 => (wI μ5 (64, 0) (a3 + 3) v6).bind fun μ7 => tX11_readDevice_96 a1 a2 a3 a4 μ7) := (zs3 _ _ _ _).trans (rfl)
theorem eX11_readDevice_38 (a1 : Int32) (a2 : Int32) (a3 : Int32) (s1 : Int32) (μ : zM) : tX11_readDevice_38 a1 a2 a3 s1 μ = zU (tX11_takes_0 s1 μ) fun μ1 => zI (tX11_freePosition_0 μ1) fun v3 μ2 => tX11_readDevice_47 a1 a2 a3 v3 μ2 := (zs3 _ _ _ _).trans (rfl)
theorem eX11_readDevice_24 (a1 : Int32) (a2 : Int32) (a3 : Int32) (μ : zM) : tX11_readDevice_24 a1 a2 a3 μ = zI (tX11_mostOf_0 a1 μ) fun v2 μ1 => zif (a2 < v2) (tX11_readDevice_38 a1 a2 a3 1 μ1) (tX11_readDevice_38 a1 a2 a3 0 μ1) := (zs3 _ _ _ _).trans (rfl)
theorem eX11_readDevice_10 (a1 : Int32) (a2 : Int32) (μ : zM) : tX11_readDevice_10 a1 a2 μ = (qI μ (64, 0) 1).bind fun v1 => tX11_readDevice_24 a1 a2 (140 + (8 * v1)) μ := (zs3 _ _ _ _).trans (rfl)
theorem eX11_readDevice_0 (a1 : Int32) (μ : zM) : tX11_readDevice_0 a1 μ = (qI μ (64, 0) (10 + a1)).bind fun v1 => tX11_readDevice_10 a1 v1 μ := (zs3 _ _ _ _).trans (rfl)
theorem uX11_readDevice (a1 : Int32) (μ : zM) : gX11_readDevice [.inr (.inr (11, 0)), .inl a1] μ = tX11_readDevice_0 a1 μ := rfl
/-! BaggageHandlingModel.isNewFlight(I)Z -/
noncomputable def tX11_isNewFlight_33 (n2 : Nat) (a1 : Int32) (a2 : Int32) (μ : zM) : Option (Option zV × zM) := fX11_isNewFlight_33 (fX11_isNewFlight_2 n2) [some (.inr (.inr (11, 0))), some (.inl a1), some (.inl a2)] [] μ
noncomputable def tX11_isNewFlight_2 (n : Nat) (a1 : Int32) (a2 : Int32) (μ : zM) : Option (Option zV × zM) := fX11_isNewFlight_2 n [some (.inr (.inr (11, 0))), some (.inl a1), some (.inl a2)] [] μ
noncomputable def tX11_isNewFlight_0 (a1 : Int32) (μ : zM) : Option (Option zV × zM) := fX11_isNewFlight_0 [some (.inr (.inr (11, 0))), some (.inl a1), none] [] μ
theorem eX11_isNewFlight_33 (n2 : Nat) (a1 : Int32) (a2 : Int32) (μ : zM) : tX11_isNewFlight_33 n2 a1 a2 μ = tX11_isNewFlight_2 n2 a1 a2 μ := (zs3 _ _ _ _).trans (rfl)
theorem eX11_isNewFlight_2 (a1 : Int32) (a2 : Int32) (n : Nat) (μ : zM) : tX11_isNewFlight_2 (n + 1) a1 a2 μ = (qI μ (64, 0) 4).bind fun v1 => zif (a2 < v1) ((qI μ (64, 0) (290 + (4 * a2))).bind fun v2 => zif (v2 = a1) (zif (vp_nar .boolean 0 = 0) (some (some (.inl 0), μ)) none) (tX11_isNewFlight_33 n a1 (a2 + 1) μ)) (zif (vp_nar .boolean 1 = 1) (some (some (.inl 1), μ)) none) := (zs3 _ _ _ _).trans (rfl)
theorem eX11_isNewFlight_0 (a1 : Int32) (μ : zM) : tX11_isNewFlight_0 a1 μ = tX11_isNewFlight_2 zN a1 0 μ := (zs3 _ _ _ _).trans (rfl)
theorem uX11_isNewFlight (a1 : Int32) (μ : zM) : gX11_isNewFlight [.inr (.inr (11, 0)), .inl a1] μ = tX11_isNewFlight_0 a1 μ := rfl
/-! BaggageHandlingModel.readFlight()V -/
noncomputable def tX11_readFlight_190 (μ : zM) : Option (Option zV × zM) := fX11_readFlight_190 [none, none, none, none, none, none] [] μ
noncomputable def tX11_readFlight_134 (a1 : Int32) (a2 : Int32) (a3 : Int32) (a4 : Int32) (a5 : Int32) (s1 : Int32) (μ : zM) : Option (Option zV × zM) := fX11_readFlight_134 [some (.inr (.inr (11, 0))), some (.inl a1), some (.inl a2), some (.inl a3), some (.inl a4), some (.inl a5)] [.inl s1, .inr (.inr (11, 0))] μ
noncomputable def tX11_readFlight_120 (a1 : Int32) (a2 : Int32) (a3 : Int32) (a4 : Int32) (a5 : Int32) (μ : zM) : Option (Option zV × zM) := fX11_readFlight_120 [some (.inr (.inr (11, 0))), some (.inl a1), some (.inl a2), some (.inl a3), some (.inl a4), some (.inl a5)] [] μ
noncomputable def tX11_readFlight_105 (a1 : Int32) (a2 : Int32) (a3 : Int32) (a4 : Int32) (μ : zM) : Option (Option zV × zM) := fX11_readFlight_105 [some (.inr (.inr (11, 0))), some (.inl a1), some (.inl a2), some (.inl a3), some (.inl a4), none] [] μ
noncomputable def tX11_readFlight_93 (a1 : Int32) (a2 : Int32) (a3 : Int32) (μ : zM) : Option (Option zV × zM) := fX11_readFlight_93 [some (.inr (.inr (11, 0))), some (.inl a1), some (.inl a2), some (.inl a3), none, none] [] μ
noncomputable def tX11_readFlight_72 (a1 : Int32) (a2 : Int32) (s1 : Int32) (μ : zM) : Option (Option zV × zM) := fX11_readFlight_72 [some (.inr (.inr (11, 0))), some (.inl a1), some (.inl a2), none, none, none] [.inl s1, .inr (.inr (11, 0))] μ
noncomputable def tX11_readFlight_71 (a1 : Int32) (a2 : Int32) (μ : zM) : Option (Option zV × zM) := fX11_readFlight_71 [some (.inr (.inr (11, 0))), some (.inl a1), some (.inl a2), none, none, none] [.inr (.inr (11, 0))] μ
noncomputable def tX11_readFlight_38 (a1 : Int32) (a2 : Int32) (μ : zM) : Option (Option zV × zM) := fX11_readFlight_38 [some (.inr (.inr (11, 0))), some (.inl a1), some (.inl a2), none, none, none] [] μ
noncomputable def tX11_readFlight_30 (a1 : Int32) (s1 : Int32) (μ : zM) : Option (Option zV × zM) := fX11_readFlight_30 [some (.inr (.inr (11, 0))), some (.inl a1), none, none, none, none] [.inl s1, .inr (.inr (11, 0))] μ
noncomputable def tX11_readFlight_13 (a1 : Int32) (μ : zM) : Option (Option zV × zM) := fX11_readFlight_13 [some (.inr (.inr (11, 0))), some (.inl a1), none, none, none, none] [] μ
noncomputable def tX11_readFlight_0 (μ : zM) : Option (Option zV × zM) := fX11_readFlight_0 [some (.inr (.inr (11, 0))), none, none, none, none, none] [] μ
theorem eX11_readFlight_190 (μ : zM) : tX11_readFlight_190 μ = some (none, μ) := (zs3 _ _ _ _).trans (rfl)
theorem eX11_readFlight_134 (a1 : Int32) (a2 : Int32) (a3 : Int32) (a4 : Int32) (a5 : Int32) (s1 : Int32) (μ : zM) : tX11_readFlight_134 a1 a2 a3 a4 a5 s1 μ = zU (tX11_takes_0 s1 μ) fun μ1 => zif (μ1.1 11 0 10 = 0) (tX11_readFlight_190 μ1) ((wI μ1 (64, 0) a1 a2).bind fun μ2 => (wI μ2 (64, 0) (a1 + 1) a3).bind fun μ3 => (wI μ3 (64, 0) (a1 + 2) a4).bind fun μ4 => (wI μ4 (64, 0) (a1 + 3) a5).bind fun μ5 => (qI μ5 (64, 0) 4).bind fun v6 => (wI μ5 (64, 0) 4 (v6 + 1)).bind fun μ7 => tX11_readFlight_190 μ7) := (zs3 _ _ _ _).trans (rfl)
theorem eX11_readFlight_120 (a1 : Int32) (a2 : Int32) (a3 : Int32) (a4 : Int32) (a5 : Int32) (μ : zM) : tX11_readFlight_120 a1 a2 a3 a4 a5 μ = zif (μ.1 11 0 7 = 3) (tX11_readFlight_134 a1 a2 a3 a4 a5 1 μ) (tX11_readFlight_134 a1 a2 a3 a4 a5 0 μ) := (zs3 _ _ _ _).trans (rfl)
theorem eX11_readFlight_105 (a1 : Int32) (a2 : Int32) (a3 : Int32) (a4 : Int32) (μ : zM) : tX11_readFlight_105 a1 a2 a3 a4 μ = zI (tX11_numberBehind_0 3554917 (a4 + 1) 99999 μ) fun v2 μ1 => tX11_readFlight_120 a1 a2 a3 a4 v2 μ1 := (zs3 _ _ _ _).trans (rfl)
theorem eX11_readFlight_93 (a1 : Int32) (a2 : Int32) (a3 : Int32) (μ : zM) : tX11_readFlight_93 a1 a2 a3 μ = zI (tX11_numberBehind_0 508078 0 99998 μ) fun v2 μ1 => tX11_readFlight_105 a1 a2 a3 v2 μ1 := (zs3 _ _ _ _).trans (rfl)
theorem eX11_readFlight_72 (a1 : Int32) (a2 : Int32) (s1 : Int32) (μ : zM) : tX11_readFlight_72 a1 a2 s1 μ = zU (tX11_takes_0 s1 μ) fun μ1 => (qI μ1 (64, 0) 13).bind fun v2 => zI (tX11_numberBehind_0 3430021 0 (v2 - 1) μ1) fun v4 μ3 => tX11_readFlight_93 a1 a2 v4 μ3 := (zs3 _ _ _ _).trans (rfl)
theorem eX11_readFlight_71 (a1 : Int32) (a2 : Int32) (μ : zM) : tX11_readFlight_71 a1 a2 μ = tX11_readFlight_72 a1 a2 0 μ := (zs3 _ _ _ _).trans (rfl)
theorem eX11_readFlight_38 (a1 : Int32) (a2 : Int32) (μ : zM) : tX11_readFlight_38 a1 a2 μ = zif (μ.1 11 0 7 = 2) (zI (tX11_in_0 a2.toInt64 1 999 μ) fun v2 μ1 => zif (v2 = 0) (tX11_readFlight_71 a1 a2 μ1) (zI (tX11_isNewFlight_0 a2 μ1) fun v4 μ3 => zif (v4 = 0) (tX11_readFlight_71 a1 a2 μ3) (tX11_readFlight_72 a1 a2 1 μ3))) (tX11_readFlight_71 a1 a2 μ) := (zs3 _ _ _ _).trans (rfl)
theorem eX11_readFlight_30 (a1 : Int32) (s1 : Int32) (μ : zM) : tX11_readFlight_30 a1 s1 μ = zU (tX11_takes_0 s1 μ) fun μ1 => tX11_readFlight_38 a1 (μ1.1 11 0 8) μ1 := (zs3 _ _ _ _).trans (rfl)
theorem eX11_readFlight_13 (a1 : Int32) (μ : zM) : tX11_readFlight_13 a1 μ = (qI μ (64, 0) 4).bind fun v1 => zif (v1 < 10) (tX11_readFlight_30 a1 1 μ) (tX11_readFlight_30 a1 0 μ) := (zs3 _ _ _ _).trans (rfl)
theorem eX11_readFlight_0 (μ : zM) : tX11_readFlight_0 μ = (qI μ (64, 0) 4).bind fun v1 => tX11_readFlight_13 (290 + (4 * v1)) μ := (zs3 _ _ _ _).trans (rfl)
theorem uX11_readFlight (μ : zM) : gX11_readFlight [.inr (.inr (11, 0))] μ = tX11_readFlight_0 μ := rfl
/-! BaggageHandlingModel.reads()V -/
noncomputable def tX11_reads_231 (μ : zM) : Option (Option zV × zM) := fX11_reads_231 [none, none] [] μ
noncomputable def tX11_reads_204 (μ : zM) : Option (Option zV × zM) := fX11_reads_204 [some (.inr (.inr (11, 0))), none] [] μ
noncomputable def tX11_reads_201 (s1 : Int32) (μ : zM) : Option (Option zV × zM) := fX11_reads_201 [some (.inr (.inr (11, 0))), none] [.inl s1, .inr (.inr (11, 0))] μ
noncomputable def tX11_reads_161 (μ : zM) : Option (Option zV × zM) := fX11_reads_161 [some (.inr (.inr (11, 0))), none] [] μ
noncomputable def tX11_reads_158 (s1 : Int32) (μ : zM) : Option (Option zV × zM) := fX11_reads_158 [some (.inr (.inr (11, 0))), none] [.inl s1, .inr (.inr (11, 0))] μ
noncomputable def tX11_reads_102 (n : Nat) (μ : zM) : Option (Option zV × zM) := fX11_reads_102 n [some (.inr (.inr (11, 0))), none] [] μ
noncomputable def tX11_reads_84 (n : Nat) (μ : zM) : Option (Option zV × zM) := fX11_reads_84 n [some (.inr (.inr (11, 0))), none] [] μ
noncomputable def tX11_reads_81 (s1 : Int32) (μ : zM) : Option (Option zV × zM) := fX11_reads_81 [some (.inr (.inr (11, 0))), none] [.inl s1, .inr (.inr (11, 0))] μ
noncomputable def tX11_reads_19 (n2 : Nat) (a1 : Int32) (μ : zM) : Option (Option zV × zM) := fX11_reads_19 (fX11_reads_2 n2) [some (.inr (.inr (11, 0))), some (.inl a1)] [] μ
noncomputable def tX11_reads_2 (n : Nat) (a1 : Int32) (μ : zM) : Option (Option zV × zM) := fX11_reads_2 n [some (.inr (.inr (11, 0))), some (.inl a1)] [] μ
noncomputable def tX11_reads_0 (μ : zM) : Option (Option zV × zM) := fX11_reads_0 [some (.inr (.inr (11, 0))), none] [] μ
theorem eX11_reads_231 (μ : zM) : tX11_reads_231 μ = some (none, μ) := (zs3 _ _ _ _).trans (rfl)
theorem eX11_reads_204 (μ : zM) : tX11_reads_204 μ = zif (μ.1 11 0 10 = 0) (tX11_reads_231 μ) (zif (μ.1 11 0 7 = 0) (tX11_reads_231 μ) ((qP μ (11, 0) 10 (.inl 0)).bind fun μ1 => zlet (mS μ1 11 0 2 (μ1.1 11 0 6)) fun μ2 => tX11_reads_231 μ2)) := (zs3 _ _ _ _).trans (rfl)
theorem eX11_reads_201 (s1 : Int32) (μ : zM) : tX11_reads_201 s1 μ = zU (tX11_takes_0 s1 μ) fun μ1 => tX11_reads_204 μ1 := (zs3 _ _ _ _).trans (rfl)
theorem eX11_reads_161 (μ : zM) : tX11_reads_161 μ = zI (tX11_isWord_0 538561715 μ) fun v2 μ1 => zif (v2 = 0) (tX11_reads_204 μ1) (zI (tX11_numberBehind_0 538561715 1 9 μ1) fun v4 μ3 => (wI μ3 (64, 0) 3 v4).bind fun μ5 => zif (μ5.1 11 0 7 = 3) (tX11_reads_201 1 μ5) (tX11_reads_201 0 μ5)) := (zs3 _ _ _ _).trans (rfl)
theorem eX11_reads_158 (s1 : Int32) (μ : zM) : tX11_reads_158 s1 μ = zU (tX11_takes_0 s1 μ) fun μ1 => tX11_reads_161 μ1 := (zs3 _ _ _ _).trans (rfl)
theorem eX11_reads_102 (n : Nat) (μ : zM) : tX11_reads_102 (n + 1) μ = zI (tX11_isWord_0 214211860 μ) fun v2 μ1 => zif (v2 = 0) (zI (tX11_isWord_0 781652471 μ1) fun v4 μ3 => zif (v4 = 0) (tX11_reads_161 μ3) (zI (tX11_numberBehind_0 781652471 0 3 μ3) fun v6 μ5 => (wI μ5 (64, 0) 2 v6).bind fun μ7 => zif (μ7.1 11 0 7 = 3) (tX11_reads_158 1 μ7) (tX11_reads_158 0 μ7))) (zU (tX11_readFlight_0 μ1) fun μ8 => tX11_reads_102 n μ8) := (zs3 _ _ _ _).trans (rfl)
theorem eX11_reads_84 (n : Nat) (μ : zM) : tX11_reads_84 (n + 1) μ = zI (tX11_sortHere_0 μ) fun v2 μ1 => zif (0 < v2) (zI (tX11_sortHere_0 μ1) fun v4 μ3 => zU (tX11_readDevice_0 v4 μ3) fun μ5 => tX11_reads_84 n μ5) (tX11_reads_102 zN μ1) := (zs3 _ _ _ _).trans (rfl)
theorem eX11_reads_81 (s1 : Int32) (μ : zM) : tX11_reads_81 s1 μ = zU (tX11_takes_0 s1 μ) fun μ1 => tX11_reads_84 zN μ1 := (zs3 _ _ _ _).trans (rfl)
theorem eX11_reads_19 (n2 : Nat) (a1 : Int32) (μ : zM) : tX11_reads_19 n2 a1 μ = tX11_reads_2 n2 a1 μ := (zs3 _ _ _ _).trans (rfl)
theorem eX11_reads_2 (a1 : Int32) (n : Nat) (μ : zM) : tX11_reads_2 (n + 1) a1 μ = zif (a1 < 400) ((wI μ (64, 0) a1 0).bind fun μ1 => tX11_reads_19 n (a1 + 1) μ1) ((wI μ (64, 0) 2 1).bind fun μ2 => (wI μ2 (64, 0) 3 3).bind fun μ3 => (qP μ3 (11, 0) 10 (.inl 1)).bind fun μ4 => zlet (mS μ4 11 0 5 0) fun μ5 => zU (tX11_next_0 zN μ5) fun μ6 => zI (tX11_numberBehind_0 599495 10 60 μ6) fun v8 μ7 => (wI μ7 (64, 0) 0 v8).bind fun μ9 => zif (μ9.1 11 0 7 = 3) (tX11_reads_81 1 μ9) (tX11_reads_81 0 μ9)) := (zs3 _ _ _ _).trans (rfl)
theorem eX11_reads_0 (μ : zM) : tX11_reads_0 μ = tX11_reads_2 zN 0 μ := (zs3 _ _ _ _).trans (rfl)
theorem uX11_reads (μ : zM) : gX11_reads [.inr (.inr (11, 0))] μ = tX11_reads_0 μ := rfl
/-! BaggageHandlingModel.puts(I)V -/
noncomputable def tX11_puts_33 (n3 : Nat) (a1 : Int32) (a2 : Int32) (μ : zM) : Option (Option zV × zM) := fX11_puts_33 (fX11_puts_3 n3) [some (.inr (.inr (11, 0))), some (.inl a1), some (.inl a2)] [] μ
noncomputable def tX11_puts_3 (n : Nat) (a1 : Int32) (a2 : Int32) (μ : zM) : Option (Option zV × zM) := fX11_puts_3 n [some (.inr (.inr (11, 0))), some (.inl a1), some (.inl a2)] [] μ
noncomputable def tX11_puts_0 (a1 : Int32) (μ : zM) : Option (Option zV × zM) := fX11_puts_0 [some (.inr (.inr (11, 0))), some (.inl a1), none] [] μ
theorem eX11_puts_33 (n3 : Nat) (a1 : Int32) (a2 : Int32) (μ : zM) : tX11_puts_33 n3 a1 a2 μ = tX11_puts_3 n3 a1 a2 μ := (zs3 _ _ _ _).trans (rfl)
theorem eX11_puts_3 (a1 : Int32) (a2 : Int32) (n : Nat) (μ : zM) : tX11_puts_3 (n + 1) a1 a2 μ = zif (a2 < 0) (some (none, μ)) ((wB μ (62, 0) (μ.1 11 0 1) ((a1 >>> (a2 &&& 31)).toInt8.toInt32)).bind fun μ1 => zlet (mS μ1 11 0 1 ((μ1.1 11 0 1) + 1)) fun μ2 => tX11_puts_33 n a1 (a2 + (-8)) μ2) := (zs3 _ _ _ _).trans (rfl)
theorem eX11_puts_0 (a1 : Int32) (μ : zM) : tX11_puts_0 a1 μ = tX11_puts_3 zN a1 24 μ := (zs3 _ _ _ _).trans (rfl)
theorem uX11_puts (a1 : Int32) (μ : zM) : gX11_puts [.inr (.inr (11, 0)), .inl a1] μ = tX11_puts_0 a1 μ := rfl
/-! BaggageHandlingModel.append(IIIII)I -/
noncomputable def tX11_append_0 (a1 : Int32) (a2 : Int32) (a3 : Int32) (a4 : Int32) (a5 : Int32) (μ : zM) : Option (Option zV × zM) := fX11_append_0 [some (.inr (.inr (11, 0))), some (.inl a1), some (.inl a2), some (.inl a3), some (.inl a4), some (.inl a5)] [] μ
theorem eX11_append_0 (a1 : Int32) (a2 : Int32) (a3 : Int32) (a4 : Int32) (a5 : Int32) (μ : zM) : tX11_append_0 a1 a2 a3 a4 a5 μ = zif ((900 : Int32) < (μ.1 11 0 1) + 20) (some (some (.inl (-1)), μ)) (zU (tX11_puts_0 a1 μ) fun μ1 => zU (tX11_puts_0 a2 μ1) fun μ2 => zU (tX11_puts_0 a3 μ2) fun μ3 => zU (tX11_puts_0 a4 μ3) fun μ4 => zU (tX11_puts_0 a5 μ4) fun μ5 => some (some (.inl (μ5.1 11 0 1)), μ5)) := (zs3 _ _ _ _).trans (rfl)
theorem uX11_append (a1 : Int32) (a2 : Int32) (a3 : Int32) (a4 : Int32) (a5 : Int32) (μ : zM) : gX11_append [.inr (.inr (11, 0)), .inl a1, .inl a2, .inl a3, .inl a4, .inl a5] μ = tX11_append_0 a1 a2 a3 a4 a5 μ := rfl
/-! BaggageHandlingModel.truncate(I)I -/
noncomputable def tX11_truncate_0 (a1 : Int32) (μ : zM) : Option (Option zV × zM) := fX11_truncate_0 [some (.inr (.inr (11, 0))), some (.inl a1)] [] μ
theorem eX11_truncate_0 (a1 : Int32) (μ : zM) : tX11_truncate_0 a1 μ = zI (tX11_in_0 a1.toInt64 0 ((μ.1 11 0 1).toInt64) μ) fun v2 μ1 => zif (v2 = 0) (some (some (.inl (-1)), μ1)) (zlet (mS μ1 11 0 1 ((μ1.1 11 0 1) - a1)) fun μ3 => some (some (.inl (μ3.1 11 0 1)), μ3)) := (zs3 _ _ _ _).trans (rfl)
theorem uX11_truncate (a1 : Int32) (μ : zM) : gX11_truncate [.inr (.inr (11, 0)), .inl a1] μ = tX11_truncate_0 a1 μ := rfl
