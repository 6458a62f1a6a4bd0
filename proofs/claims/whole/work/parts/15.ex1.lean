/-! BaggageHandling$Setup.describeDevice(LBaggageHandling$Text;I)V -/
noncomputable def tX5_describeDevice_125 (μ : zM) : Option (Option zV × zM) := fX5_describeDevice_125 [none, some (.inr (.inr (8, 0))), none, none, none] [] μ
noncomputable def tX5_describeDevice_106 (ia0 : Nat) (a2 : Int32) (a3 : Int32) (μ : zM) : Option (Option zV × zM) := fX5_describeDevice_106 [some (.inr (.inr (5, ia0))), some (.inr (.inr (8, 0))), some (.inl a2), some (.inl a3), none] [] μ
noncomputable def tX5_describeDevice_86 (ia0 : Nat) (a2 : Int32) (a3 : Int32) (μ : zM) : Option (Option zV × zM) := fX5_describeDevice_86 [some (.inr (.inr (5, ia0))), some (.inr (.inr (8, 0))), some (.inl a2), some (.inl a3), none] [] μ
noncomputable def tX5_describeDevice_83 (n61 : Nat) (ia0 : Nat) (a2 : Int32) (a3 : Int32) (a4 : Int32) (μ : zM) : Option (Option zV × zM) := fX5_describeDevice_83 (fX5_describeDevice_61 n61) [some (.inr (.inr (5, ia0))), some (.inr (.inr (8, 0))), some (.inl a2), some (.inl a3), some (.inl a4)] [] μ
noncomputable def tX5_describeDevice_61 (n : Nat) (ia0 : Nat) (a2 : Int32) (a3 : Int32) (a4 : Int32) (μ : zM) : Option (Option zV × zM) := fX5_describeDevice_61 n [some (.inr (.inr (5, ia0))), some (.inr (.inr (8, 0))), some (.inl a2), some (.inl a3), some (.inl a4)] [] μ
noncomputable def tX5_describeDevice_47 (ia0 : Nat) (a2 : Int32) (a3 : Int32) (μ : zM) : Option (Option zV × zM) := fX5_describeDevice_47 [some (.inr (.inr (5, ia0))), some (.inr (.inr (8, 0))), some (.inl a2), some (.inl a3), none] [] μ
noncomputable def tX5_describeDevice_7 (ia0 : Nat) (a2 : Int32) (a3 : Int32) (μ : zM) : Option (Option zV × zM) := fX5_describeDevice_7 [some (.inr (.inr (5, ia0))), some (.inr (.inr (8, 0))), some (.inl a2), some (.inl a3), none] [] μ
noncomputable def tX5_describeDevice_0 (ia0 : Nat) (a2 : Int32) (μ : zM) : Option (Option zV × zM) := fX5_describeDevice_0 [some (.inr (.inr (5, ia0))), some (.inr (.inr (8, 0))), some (.inl a2), none, none] [] μ
theorem eX5_describeDevice_125 (μ : zM) : tX5_describeDevice_125 μ = zU (tX8_endClause_0 μ) fun μ1 => some (none, μ1) := (zs3 _ _ _ _).trans (rfl)
theorem eX5_describeDevice_106 (ia0 : Nat) (a2 : Int32) (a3 : Int32) (μ : zM) : tX5_describeDevice_106 ia0 a2 a3 μ = zI (tX10_hasExit_0 a3 μ) fun v2 μ1 => zif (v2 = 0) (tX5_describeDevice_125 μ1) ((qI μ1 (47, ia0) a2).bind fun v3 => zU (tX8_addNamed_0 13 v3 μ1) fun μ4 => tX5_describeDevice_125 μ4) := (zs3 _ _ _ _).trans (rfl)
theorem eX5_describeDevice_86 (ia0 : Nat) (a2 : Int32) (a3 : Int32) (μ : zM) : tX5_describeDevice_86 ia0 a2 a3 μ = zif (a3 = 6) ((qX 4 1).bind fun e1 => (qI μ (53, 4 * ia0 + e1) a2).bind fun v2 => zU (tX8_addNamed_0 12 v2 μ) fun μ3 => tX5_describeDevice_106 ia0 a2 a3 μ3) (tX5_describeDevice_106 ia0 a2 a3 μ) := (zs3 _ _ _ _).trans (rfl)
theorem eX5_describeDevice_83 (n61 : Nat) (ia0 : Nat) (a2 : Int32) (a3 : Int32) (a4 : Int32) (μ : zM) : tX5_describeDevice_83 n61 ia0 a2 a3 a4 μ = tX5_describeDevice_61 n61 ia0 a2 a3 a4 μ := (zs3 _ _ _ _).trans (rfl)
theorem eX5_describeDevice_61 (ia0 : Nat) (a2 : Int32) (a3 : Int32) (a4 : Int32) (n : Nat) (μ : zM) : tX5_describeDevice_61 (n + 1) ia0 a2 a3 a4 μ = zif ((3 : Int32) < a4) (tX5_describeDevice_86 ia0 a2 a3 μ) ((qX 4 a4).bind fun e1 => (qI μ (53, 4 * ia0 + e1) a2).bind fun v2 => zU (tX8_addValue_0 v2 μ) fun μ3 => tX5_describeDevice_83 n ia0 a2 a3 (a4 + 1) μ3) := (zs3 _ _ _ _).trans (rfl)
theorem eX5_describeDevice_47 (ia0 : Nat) (a2 : Int32) (a3 : Int32) (μ : zM) : tX5_describeDevice_47 ia0 a2 a3 μ = zif (a3 = 4) (zU (tX8_addName_0 11 μ) fun μ1 => tX5_describeDevice_61 zN ia0 a2 a3 1 μ1) (tX5_describeDevice_86 ia0 a2 a3 μ) := (zs3 _ _ _ _).trans (rfl)
theorem eX5_describeDevice_7 (ia0 : Nat) (a2 : Int32) (a3 : Int32) (μ : zM) : tX5_describeDevice_7 ia0 a2 a3 μ = zT (tX10_wordOf_0 a3 μ) fun v2 μ1 => zU (tX8_addNamed_0 v2 a2 μ1) fun μ3 => zI (tX10_isOutlet_0 a3 μ3) fun v5 μ4 => zif (v5 = 0) (tX5_describeDevice_47 ia0 a2 a3 μ4) ((qI μ4 (45, ia0) a2).bind fun v6 => zU (tX8_addNamed_0 9 v6 μ4) fun μ7 => (qI μ7 (46, ia0) a2).bind fun v8 => zU (tX8_addNamed_0 10 v8 μ7) fun μ9 => tX5_describeDevice_47 ia0 a2 a3 μ9) := (zs3 _ _ _ _).trans (rfl)
theorem eX5_describeDevice_0 (ia0 : Nat) (a2 : Int32) (μ : zM) : tX5_describeDevice_0 ia0 a2 μ = (qI μ (43, ia0) a2).bind fun v1 => tX5_describeDevice_7 ia0 a2 v1 μ := (zs3 _ _ _ _).trans (rfl)
theorem uX5_describeDevice (ia0 : Nat) (a2 : Int32) (μ : zM) : gX5_describeDevice [.inr (.inr (5, ia0)), .inr (.inr (8, 0)), .inl a2] μ = tX5_describeDevice_0 ia0 a2 μ := rfl
/-! BaggageHandling$Setup.describeFlight(LBaggageHandling$Text;I)V -/
noncomputable def tX5_describeFlight_0 (ia0 : Nat) (a2 : Int32) (μ : zM) : Option (Option zV × zM) := fX5_describeFlight_0 [some (.inr (.inr (5, ia0))), some (.inr (.inr (8, 0))), some (.inl a2)] [] μ
theorem eX5_describeFlight_0 (ia0 : Nat) (a2 : Int32) (μ : zM) : tX5_describeFlight_0 ia0 a2 μ = (qI μ (31, ia0) a2).bind fun v1 => zU (tX8_addNamed_0 14 v1 μ) fun μ2 => (qI μ2 (32, ia0) a2).bind fun v3 => zU (tX8_addNamed_0 2 v3 μ2) fun μ4 => (qI μ4 (33, ia0) a2).bind fun v5 => zU (tX8_addNamed_0 15 v5 μ4) fun μ6 => (qI μ6 (34, ia0) a2).bind fun v7 => zU (tX8_addNamed_0 16 v7 μ6) fun μ8 => zU (tX8_endClause_0 μ8) fun μ9 => some (none, μ9) := (zs3 _ _ _ _).trans (rfl)
theorem uX5_describeFlight (ia0 : Nat) (a2 : Int32) (μ : zM) : gX5_describeFlight [.inr (.inr (5, ia0)), .inr (.inr (8, 0)), .inl a2] μ = tX5_describeFlight_0 ia0 a2 μ := rfl
/-! BaggageHandling$Setup.describe(LBaggageHandling$Text;)V -/
noncomputable def tX5_describe_68 (n48 : Nat) (ia0 : Nat) (a2 : Int32) (μ : zM) : Option (Option zV × zM) := fX5_describe_68 (fX5_describe_48 n48) [some (.inr (.inr (5, ia0))), some (.inr (.inr (8, 0))), some (.inl a2)] [] μ
noncomputable def tX5_describe_48 (n : Nat) (ia0 : Nat) (a2 : Int32) (μ : zM) : Option (Option zV × zM) := fX5_describe_48 n [some (.inr (.inr (5, ia0))), some (.inr (.inr (8, 0))), some (.inl a2)] [] μ
noncomputable def tX5_describe_43 (n21 : Nat) (ia0 : Nat) (a2 : Int32) (μ : zM) : Option (Option zV × zM) := fX5_describe_43 (fX5_describe_21 n21) [some (.inr (.inr (5, ia0))), some (.inr (.inr (8, 0))), some (.inl a2)] [] μ
noncomputable def tX5_describe_21 (n : Nat) (ia0 : Nat) (a2 : Int32) (μ : zM) : Option (Option zV × zM) := fX5_describe_21 n [some (.inr (.inr (5, ia0))), some (.inr (.inr (8, 0))), some (.inl a2)] [] μ
noncomputable def tX5_describe_0 (ia0 : Nat) (μ : zM) : Option (Option zV × zM) := fX5_describe_0 [some (.inr (.inr (5, ia0))), some (.inr (.inr (8, 0))), none] [] μ
theorem eX5_describe_68 (n48 : Nat) (ia0 : Nat) (a2 : Int32) (μ : zM) : tX5_describe_68 n48 ia0 a2 μ = tX5_describe_48 n48 ia0 a2 μ := (zs3 _ _ _ _).trans (rfl)
theorem eX5_describe_48 (ia0 : Nat) (a2 : Int32) (n : Nat) (μ : zM) : tX5_describe_48 (n + 1) ia0 a2 μ = zif (a2 < μ.1 1 ia0 0) (zU (tX5_describeFlight_0 ia0 a2 μ) fun μ1 => tX5_describe_68 n ia0 (a2 + 1) μ1) (zU (tX8_addNamed_0 7 (μ.1 5 ia0 1) μ) fun μ2 => zU (tX8_endClause_0 μ2) fun μ3 => zU (tX8_addNamed_0 8 (μ3.1 5 ia0 2) μ3) fun μ4 => zU (tX8_endClause_0 μ4) fun μ5 => some (none, μ5)) := (zs3 _ _ _ _).trans (rfl)
theorem eX5_describe_43 (n21 : Nat) (ia0 : Nat) (a2 : Int32) (μ : zM) : tX5_describe_43 n21 ia0 a2 μ = tX5_describe_21 n21 ia0 a2 μ := (zs3 _ _ _ _).trans (rfl)
theorem eX5_describe_21 (ia0 : Nat) (a2 : Int32) (n : Nat) (μ : zM) : tX5_describe_21 (n + 1) ia0 a2 μ = zif (a2 < μ.1 5 ia0 13) ((qI μ (51, ia0) a2).bind fun v1 => zU (tX5_describeDevice_0 ia0 v1 μ) fun μ2 => tX5_describe_43 n ia0 (a2 + 1) μ2) (tX5_describe_48 zN ia0 0 μ) := (zs3 _ _ _ _).trans (rfl)
theorem eX5_describe_0 (ia0 : Nat) (μ : zM) : tX5_describe_0 ia0 μ = zlet (mS μ 8 0 1 0) fun μ1 => zU (tX8_addNamed_0 6 (μ1.1 5 ia0 0) μ1) fun μ2 => zU (tX8_endClause_0 μ2) fun μ3 => tX5_describe_21 zN ia0 0 μ3 := (zs3 _ _ _ _).trans (rfl)
theorem uX5_describe (ia0 : Nat) (μ : zM) : gX5_describe [.inr (.inr (5, ia0)), .inr (.inr (8, 0))] μ = tX5_describe_0 ia0 μ := rfl
/-! BaggageHandling$Tape.findToken(I)V -/
noncomputable def tX7_findToken_291 (μ : zM) : Option (Option zV × zM) := fX7_findToken_291 [none, none, none, none, none] [] μ
noncomputable def tX7_findToken_256 (s1 : Int32) (μ : zM) : Option (Option zV × zM) := fX7_findToken_256 [some (.inr (.inr (7, 0))), none, none, none, none] [.inl s1, .inr (.inr (7, 0))] μ
noncomputable def tX7_findToken_245 (a3 : Int32) (a4 : Int32) (μ : zM) : Option (Option zV × zM) := fX7_findToken_245 [some (.inr (.inr (7, 0))), none, none, some (.inl a3), some (.inl a4)] [] μ
noncomputable def tX7_findToken_243 (a3 : Int32) (s0 : Int32) (μ : zM) : Option (Option zV × zM) := fX7_findToken_243 [some (.inr (.inr (7, 0))), none, none, some (.inl a3), none] [.inl s0] μ
noncomputable def tX7_findToken_242 (a3 : Int32) (μ : zM) : Option (Option zV × zM) := fX7_findToken_242 [some (.inr (.inr (7, 0))), none, none, some (.inl a3), none] [] μ
noncomputable def tX7_findToken_210 (a2 : Int32) (a3 : Int32) (μ : zM) : Option (Option zV × zM) := fX7_findToken_210 [some (.inr (.inr (7, 0))), none, some (.inl a2), some (.inl a3), none] [] μ
noncomputable def tX7_findToken_197 (n136 : Nat) (a2 : Int32) (a3 : Int32) (μ : zM) : Option (Option zV × zM) := fX7_findToken_197 (fX7_findToken_136 n136) [some (.inr (.inr (7, 0))), none, some (.inl a2), some (.inl a3), none] [] μ
noncomputable def tX7_findToken_136 (n : Nat) (a2 : Int32) (a3 : Int32) (μ : zM) : Option (Option zV × zM) := fX7_findToken_136 n [some (.inr (.inr (7, 0))), none, some (.inl a2), some (.inl a3), none] [] μ
noncomputable def tX7_findToken_134 (a2 : Int32) (μ : zM) : Option (Option zV × zM) := fX7_findToken_134 [some (.inr (.inr (7, 0))), none, some (.inl a2), none, none] [] μ
noncomputable def tX7_findToken_133 (s0 : Int32) (μ : zM) : Option (Option zV × zM) := fX7_findToken_133 [some (.inr (.inr (7, 0))), none, none, none, none] [.inl s0] μ
noncomputable def tX7_findToken_117 (μ : zM) : Option (Option zV × zM) := fX7_findToken_117 [some (.inr (.inr (7, 0))), none, none, none, none] [] μ
noncomputable def tX7_findToken_65 (n : Nat) (μ : zM) : Option (Option zV × zM) := fX7_findToken_65 n [some (.inr (.inr (7, 0))), none, none, none, none] [] μ
noncomputable def tX7_findToken_57 (μ : zM) : Option (Option zV × zM) := fX7_findToken_57 [some (.inr (.inr (7, 0))), none, none, none, none] [] μ
noncomputable def tX7_findToken_44 (n5 : Nat) (μ : zM) : Option (Option zV × zM) := fX7_findToken_44 (fX7_findToken_5 n5) [some (.inr (.inr (7, 0))), none, none, none, none] [] μ
noncomputable def tX7_findToken_5 (n : Nat) (μ : zM) : Option (Option zV × zM) := fX7_findToken_5 n [some (.inr (.inr (7, 0))), none, none, none, none] [] μ
noncomputable def tX7_findToken_0 (a1 : Int32) (μ : zM) : Option (Option zV × zM) := fX7_findToken_0 [some (.inr (.inr (7, 0))), some (.inl a1), none, none, none] [] μ
theorem eX7_findToken_291 (μ : zM) : tX7_findToken_291 μ = some (none, μ) := (zs3 _ _ _ _).trans (rfl)
theorem eX7_findToken_256 (s1 : Int32) (μ : zM) : tX7_findToken_256 s1 μ = zlet (mS μ 7 0 4 s1) fun μ1 => zif (μ1.1 7 0 3 = μ1.1 7 0 2) (zif (μ1.1 7 0 3 < μ1.1 7 0 1) (zlet (mS μ1 7 0 3 ((μ1.1 7 0 3) + 1)) fun μ2 => tX7_findToken_291 μ2) (tX7_findToken_291 μ1)) (tX7_findToken_291 μ1) := (zs3 _ _ _ _).trans (rfl)
theorem eX7_findToken_245 (a3 : Int32) (a4 : Int32) (μ : zM) : tX7_findToken_245 a3 a4 μ = zif (a4 = 0) (tX7_findToken_256 (-1) μ) (tX7_findToken_256 a3 μ) := (zs3 _ _ _ _).trans (rfl)
theorem eX7_findToken_243 (a3 : Int32) (s0 : Int32) (μ : zM) : tX7_findToken_243 a3 s0 μ = tX7_findToken_245 a3 s0 μ := (zs3 _ _ _ _).trans (rfl)
theorem eX7_findToken_242 (a3 : Int32) (μ : zM) : tX7_findToken_242 a3 μ = tX7_findToken_243 a3 0 μ := (zs3 _ _ _ _).trans (rfl)
theorem eX7_findToken_210 (a2 : Int32) (a3 : Int32) (μ : zM) : tX7_findToken_210 a2 a3 μ = zif (a2 = 0) (zif (μ.1 7 0 2 < μ.1 7 0 3) (zif ((5 : Int32) < (μ.1 7 0 3) - (μ.1 7 0 2)) (tX7_findToken_242 a3 μ) (tX7_findToken_243 a3 1 μ)) (tX7_findToken_242 a3 μ)) (tX7_findToken_242 a3 μ) := (zs3 _ _ _ _).trans (rfl)
theorem eX7_findToken_197 (n136 : Nat) (a2 : Int32) (a3 : Int32) (μ : zM) : tX7_findToken_197 n136 a2 a3 μ = zlet (mS μ 7 0 3 ((μ.1 7 0 3) + 1)) fun μ1 => tX7_findToken_136 n136 a2 a3 μ1 := (zs3 _ _ _ _).trans (rfl)
theorem eX7_findToken_136 (a2 : Int32) (a3 : Int32) (n : Nat) (μ : zM) : tX7_findToken_136 (n + 1) a2 a3 μ = zif (a2 = 0) (zif (μ.1 7 0 3 < μ.1 7 0 1) ((qB μ (55, 0) (μ.1 7 0 3)).bind fun v1 => zif (v1 < 48) (tX7_findToken_210 a2 a3 μ) ((qB μ (55, 0) (μ.1 7 0 3)).bind fun v2 => zif ((57 : Int32) < v2) (tX7_findToken_210 a2 a3 μ) ((qB μ (55, 0) (μ.1 7 0 3)).bind fun v3 => tX7_findToken_197 n a2 ((a3 * 10) + (v3 - 48)) μ))) (tX7_findToken_210 a2 a3 μ)) (tX7_findToken_210 a2 a3 μ) := (zs3 _ _ _ _).trans (rfl)
theorem eX7_findToken_134 (a2 : Int32) (μ : zM) : tX7_findToken_134 a2 μ = tX7_findToken_136 zN a2 0 μ := (zs3 _ _ _ _).trans (rfl)
theorem eX7_findToken_133 (s0 : Int32) (μ : zM) : tX7_findToken_133 s0 μ = tX7_findToken_134 s0 μ := (zs3 _ _ _ _).trans (rfl)
theorem eX7_findToken_117 (μ : zM) : tX7_findToken_117 μ = zif (μ.1 7 0 2 < μ.1 7 0 3) (tX7_findToken_133 1 μ) (tX7_findToken_133 0 μ) := (zs3 _ _ _ _).trans (rfl)
theorem eX7_findToken_65 (n : Nat) (μ : zM) : tX7_findToken_65 (n + 1) μ = zif (μ.1 7 0 3 < μ.1 7 0 1) ((qB μ (55, 0) (μ.1 7 0 3)).bind fun v1 => zif (v1 < 97) (tX7_findToken_117 μ) ((qB μ (55, 0) (μ.1 7 0 3)).bind fun v2 => zif ((122 : Int32) < v2) (tX7_findToken_117 μ) (zlet (mS μ 7 0 3 ((μ.1 7 0 3) + 1)) fun μ3 => tX7_findToken_65 n μ3))) (tX7_findToken_117 μ) := (zs3 _ _ _ _).trans (rfl)
theorem eX7_findToken_57 (μ : zM) : tX7_findToken_57 μ = zlet (mS μ 7 0 3 (μ.1 7 0 2)) fun μ1 => tX7_findToken_65 zN μ1 := (zs3 _ _ _ _).trans (rfl)
theorem eX7_findToken_44 (n5 : Nat) (μ : zM) : tX7_findToken_44 n5 μ = zlet (mS μ 7 0 2 ((μ.1 7 0 2) + 1)) fun μ1 => tX7_findToken_5 n5 μ1 := (zs3 _ _ _ _).trans (rfl)
theorem eX7_findToken_5 (n : Nat) (μ : zM) : tX7_findToken_5 (n + 1) μ = zif (μ.1 7 0 2 < μ.1 7 0 1) ((qB μ (55, 0) (μ.1 7 0 2)).bind fun v1 => zif (v1 = 32) (tX7_findToken_44 n μ) ((qB μ (55, 0) (μ.1 7 0 2)).bind fun v2 => zif (v2 = 10) (tX7_findToken_44 n μ) (tX7_findToken_57 μ))) (tX7_findToken_57 μ) := (zs3 _ _ _ _).trans (rfl)
theorem eX7_findToken_0 (a1 : Int32) (μ : zM) : tX7_findToken_0 a1 μ = zlet (mS μ 7 0 2 a1) fun μ1 => tX7_findToken_5 zN μ1 := (zs3 _ _ _ _).trans (rfl)
theorem uX7_findToken (a1 : Int32) (μ : zM) : gX7_findToken [.inr (.inr (7, 0)), .inl a1] μ = tX7_findToken_0 a1 μ := rfl
/-! BaggageHandling$Tape.isAtWord(Ljava/lang/String;)Z -/
noncomputable def tX7_isAtWord_60 (μ : zM) : Option (Option zV × zM) := fX7_isAtWord_60 [none, none, none] [] μ
noncomputable def tX7_isAtWord_65 (n20 : Nat) (ia1 : Nat) (a2 : Int32) (μ : zM) : Option (Option zV × zM) := fX7_isAtWord_65 (fX7_isAtWord_20 n20) [some (.inr (.inr (7, 0))), some (.inr (.inr (75, ia1))), some (.inl a2)] [] μ
noncomputable def tX7_isAtWord_20 (n : Nat) (ia1 : Nat) (a2 : Int32) (μ : zM) : Option (Option zV × zM) := fX7_isAtWord_20 n [some (.inr (.inr (7, 0))), some (.inr (.inr (75, ia1))), some (.inl a2)] [] μ
noncomputable def tX7_isAtWord_0 (ia1 : Nat) (μ : zM) : Option (Option zV × zM) := fX7_isAtWord_0 [some (.inr (.inr (7, 0))), some (.inr (.inr (75, ia1))), none] [] μ
theorem eX7_isAtWord_60 (μ : zM) : tX7_isAtWord_60 μ = zif (vp_nar .boolean 0 = 0) (some (some (.inl 0), μ)) none := (zs3 _ _ _ _).trans (rfl)
theorem eX7_isAtWord_65 (n20 : Nat) (ia1 : Nat) (a2 : Int32) (μ : zM) : tX7_isAtWord_65 n20 ia1 a2 μ = tX7_isAtWord_20 n20 ia1 a2 μ := (zs3 _ _ _ _).trans (rfl)
theorem eX7_isAtWord_20 (ia1 : Nat) (a2 : Int32) (n : Nat) (μ : zM) : tX7_isAtWord_20 (n + 1) ia1 a2 μ = zI (tJ0_length_8abf5_0 ia1 μ) fun v2 μ1 => zif (a2 < v2) (zif ((μ1.1 7 0 2) + a2 < μ1.1 7 0 1) ((qB μ1 (55, 0) ((μ1.1 7 0 2) + a2)).bind fun v3 => zI (tJ0_charAt_5068e_0 ia1 a2 μ1) fun v5 μ4 => zif (v3 = v5) (tX7_isAtWord_65 n ia1 (a2 + 1) μ4) (tX7_isAtWord_60 μ4)) (tX7_isAtWord_60 μ1)) (zif (vp_nar .boolean 1 = 1) (some (some (.inl 1), μ1)) none) := (zs3 _ _ _ _).trans (rfl)
theorem eX7_isAtWord_0 (ia1 : Nat) (μ : zM) : tX7_isAtWord_0 ia1 μ = zI (tJ0_length_8abf5_0 ia1 μ) fun v2 μ1 => zif ((μ.1 7 0 3) - (μ.1 7 0 2) = v2) (tX7_isAtWord_20 zN ia1 0 μ1) (zif (vp_nar .boolean 0 = 0) (some (some (.inl 0), μ1)) none) := (zs3 _ _ _ _).trans (rfl)
theorem uX7_isAtWord (ia1 : Nat) (μ : zM) : gX7_isAtWord [.inr (.inr (7, 0)), .inr (.inr (75, ia1))] μ = tX7_isAtWord_0 ia1 μ := rfl
/-! BaggageHandling$Tape.takeValue(II)I -/
noncomputable def tX7_takeValue_15 (μ : zM) : Option (Option zV × zM) := fX7_takeValue_15 [none, none, none, none] [] μ
noncomputable def tX7_takeValue_5 (a1 : Int32) (a2 : Int32) (a3 : Int32) (μ : zM) : Option (Option zV × zM) := fX7_takeValue_5 [some (.inr (.inr (7, 0))), some (.inl a1), some (.inl a2), some (.inl a3)] [] μ
noncomputable def tX7_takeValue_0 (a1 : Int32) (a2 : Int32) (μ : zM) : Option (Option zV × zM) := fX7_takeValue_0 [some (.inr (.inr (7, 0))), some (.inl a1), some (.inl a2), none] [] μ
theorem eX7_takeValue_15 (μ : zM) : tX7_takeValue_15 μ = some (some (.inl (-1)), μ) := (zs3 _ _ _ _).trans (rfl)
theorem eX7_takeValue_5 (a1 : Int32) (a2 : Int32) (a3 : Int32) (μ : zM) : tX7_takeValue_5 a1 a2 a3 μ = zif (a3 < a1) (tX7_takeValue_15 μ) (zif (a2 < a3) (tX7_takeValue_15 μ) (zU (tX7_findToken_0 (μ.1 7 0 3) μ) fun μ1 => some (some (.inl a3), μ1))) := (zs3 _ _ _ _).trans (rfl)
theorem eX7_takeValue_0 (a1 : Int32) (a2 : Int32) (μ : zM) : tX7_takeValue_0 a1 a2 μ = tX7_takeValue_5 a1 a2 (μ.1 7 0 4) μ := (zs3 _ _ _ _).trans (rfl)
theorem uX7_takeValue (a1 : Int32) (a2 : Int32) (μ : zM) : gX7_takeValue [.inr (.inr (7, 0)), .inl a1, .inl a2] μ = tX7_takeValue_0 a1 a2 μ := rfl
/-! BaggageHandling$Tape.takeNamed(Ljava/lang/String;II)I -/
noncomputable def tX7_takeNamed_0 (ia1 : Nat) (a2 : Int32) (a3 : Int32) (μ : zM) : Option (Option zV × zM) := fX7_takeNamed_0 [some (.inr (.inr (7, 0))), some (.inr (.inr (75, ia1))), some (.inl a2), some (.inl a3)] [] μ
theorem eX7_takeNamed_0 (ia1 : Nat) (a2 : Int32) (a3 : Int32) (μ : zM) : tX7_takeNamed_0 ia1 a2 a3 μ = zI (tX7_isAtWord_0 ia1 μ) fun v2 μ1 => zif (v2 = 0) (some (some (.inl (-1)), μ1)) (zU (tX7_findToken_0 (μ1.1 7 0 3) μ1) fun μ3 => zI (tX7_takeValue_0 a2 a3 μ3) fun v5 μ4 => some (some (.inl v5), μ4)) := (zs3 _ _ _ _).trans (rfl)
theorem uX7_takeNamed (ia1 : Nat) (a2 : Int32) (a3 : Int32) (μ : zM) : gX7_takeNamed [.inr (.inr (7, 0)), .inr (.inr (75, ia1)), .inl a2, .inl a3] μ = tX7_takeNamed_0 ia1 a2 a3 μ := rfl
/-! BaggageHandling$Tape.takeWord(Ljava/lang/String;)Z -/
noncomputable def tX7_takeWord_18 (a2 : Int32) (μ : zM) : Option (Option zV × zM) := fX7_takeWord_18 [none, none, some (.inl a2)] [] μ
noncomputable def tX7_takeWord_6 (a2 : Int32) (μ : zM) : Option (Option zV × zM) := fX7_takeWord_6 [some (.inr (.inr (7, 0))), none, some (.inl a2)] [] μ
noncomputable def tX7_takeWord_0 (ia1 : Nat) (μ : zM) : Option (Option zV × zM) := fX7_takeWord_0 [some (.inr (.inr (7, 0))), some (.inr (.inr (75, ia1))), none] [] μ
theorem eX7_takeWord_18 (a2 : Int32) (μ : zM) : tX7_takeWord_18 a2 μ = zif (vp_nar .boolean a2 = a2) (some (some (.inl a2), μ)) none := (zs3 _ _ _ _).trans (rfl)
theorem eX7_takeWord_6 (a2 : Int32) (μ : zM) : tX7_takeWord_6 a2 μ = zif (a2 = 0) (tX7_takeWord_18 a2 μ) (zU (tX7_findToken_0 (μ.1 7 0 3) μ) fun μ1 => tX7_takeWord_18 a2 μ1) := (zs3 _ _ _ _).trans (rfl)
theorem eX7_takeWord_0 (ia1 : Nat) (μ : zM) : tX7_takeWord_0 ia1 μ = zI (tX7_isAtWord_0 ia1 μ) fun v2 μ1 => tX7_takeWord_6 v2 μ1 := (zs3 _ _ _ _).trans (rfl)
theorem uX7_takeWord (ia1 : Nat) (μ : zM) : gX7_takeWord [.inr (.inr (7, 0)), .inr (.inr (75, ia1))] μ = tX7_takeWord_0 ia1 μ := rfl
/-! BaggageHandling$SetupReader.sortOfToken()I -/
noncomputable def tX6_sortOfToken_27 (n2 : Nat) (a1 : Int32) (μ : zM) : Option (Option zV × zM) := fX6_sortOfToken_27 (fX6_sortOfToken_2 n2) [some (.inr (.inr (6, 0))), some (.inl a1)] [] μ
noncomputable def tX6_sortOfToken_2 (n : Nat) (a1 : Int32) (μ : zM) : Option (Option zV × zM) := fX6_sortOfToken_2 n [some (.inr (.inr (6, 0))), some (.inl a1)] [] μ
noncomputable def tX6_sortOfToken_0 (μ : zM) : Option (Option zV × zM) := fX6_sortOfToken_0 [some (.inr (.inr (6, 0))), none] [] μ
theorem eX6_sortOfToken_27 (n2 : Nat) (a1 : Int32) (μ : zM) : tX6_sortOfToken_27 n2 a1 μ = tX6_sortOfToken_2 n2 a1 μ := (zs3 _ _ _ _).trans (rfl)
theorem eX6_sortOfToken_2 (a1 : Int32) (n : Nat) (μ : zM) : tX6_sortOfToken_2 (n + 1) a1 μ = zif ((6 : Int32) < a1) (some (some (.inl 0), μ)) (zT (tX10_wordOf_0 a1 μ) fun v2 μ1 => zI (tX7_isAtWord_0 v2 μ1) fun v4 μ3 => zif (v4 = 0) (tX6_sortOfToken_27 n (a1 + 1) μ3) (some (some (.inl a1), μ3))) := (zs3 _ _ _ _).trans (rfl)
theorem eX6_sortOfToken_0 (μ : zM) : tX6_sortOfToken_0 μ = tX6_sortOfToken_2 zN 1 μ := (zs3 _ _ _ _).trans (rfl)
theorem uX6_sortOfToken (μ : zM) : gX6_sortOfToken [.inr (.inr (6, 0))] μ = tX6_sortOfToken_0 μ := rfl
/-! BaggageHandling$SetupReader.readFreePosition()I -/
noncomputable def tX6_readFreePosition_31 (μ : zM) : Option (Option zV × zM) := fX6_readFreePosition_31 [none, none] [] μ
noncomputable def tX6_readFreePosition_8 (a1 : Int32) (μ : zM) : Option (Option zV × zM) := fX6_readFreePosition_8 [some (.inr (.inr (6, 0))), some (.inl a1)] [] μ
noncomputable def tX6_readFreePosition_0 (μ : zM) : Option (Option zV × zM) := fX6_readFreePosition_0 [some (.inr (.inr (6, 0))), none] [] μ
theorem eX6_readFreePosition_31 (μ : zM) : tX6_readFreePosition_31 μ = some (some (.inl (-1)), μ) := (zs3 _ _ _ _).trans (rfl)
theorem eX6_readFreePosition_8 (a1 : Int32) (μ : zM) : tX6_readFreePosition_8 a1 μ = zif (μ.2.1 6 0 1 < 2) (zI (tX5_hasPosition_0 (μ.2.1 6 0 1) a1 μ) fun v3 μ2 => zif (v3 = 0) (tX6_readFreePosition_31 μ2) (zif (μ2.2.1 6 0 1 < 2) ((qI μ2 (43, μ2.2.1 6 0 1) a1).bind fun v5 => zif (v5 = 0) (zU (tX7_findToken_0 (μ2.1 7 0 3) μ2) fun μ6 => some (some (.inl a1), μ6)) (tX6_readFreePosition_31 μ2)) none)) none := (zs3 _ _ _ _).trans (rfl)
theorem eX6_readFreePosition_0 (μ : zM) : tX6_readFreePosition_0 μ = tX6_readFreePosition_8 (μ.1 7 0 4) μ := (zs3 _ _ _ _).trans (rfl)
theorem uX6_readFreePosition (μ : zM) : gX6_readFreePosition [.inr (.inr (6, 0))] μ = tX6_readFreePosition_0 μ := rfl
/-! BaggageHandling$SetupReader.readDiverter(I)Z -/
noncomputable def tX6_readDiverter_63 (s0 : Int32) (μ : zM) : Option (Option zV × zM) := fX6_readDiverter_63 [none, none, none, none] [.inl s0] μ
noncomputable def tX6_readDiverter_43 (a1 : Int32) (a3 : Int32) (μ : zM) : Option (Option zV × zM) := fX6_readDiverter_43 [some (.inr (.inr (6, 0))), some (.inl a1), none, some (.inl a3)] [] μ
noncomputable def tX6_readDiverter_13 (a1 : Int32) (a2 : Int32) (μ : zM) : Option (Option zV × zM) := fX6_readDiverter_13 [some (.inr (.inr (6, 0))), some (.inl a1), some (.inl a2), none] [] μ
noncomputable def tX6_readDiverter_0 (a1 : Int32) (μ : zM) : Option (Option zV × zM) := fX6_readDiverter_0 [some (.inr (.inr (6, 0))), some (.inl a1), none, none] [] μ
theorem eX6_readDiverter_63 (s0 : Int32) (μ : zM) : tX6_readDiverter_63 s0 μ = zif (vp_nar .boolean s0 = s0) (some (some (.inl s0), μ)) none := (zs3 _ _ _ _).trans (rfl)
theorem eX6_readDiverter_43 (a1 : Int32) (a3 : Int32) (μ : zM) : tX6_readDiverter_43 a1 a3 μ = zif (μ.2.1 6 0 1 < 2) ((wI μ (46, μ.2.1 6 0 1) a1 a3).bind fun μ2 => zif (a3 = (-1)) (tX6_readDiverter_63 0 μ2) (tX6_readDiverter_63 1 μ2)) none := (zs3 _ _ _ _).trans (rfl)
theorem eX6_readDiverter_13 (a1 : Int32) (a2 : Int32) (μ : zM) : tX6_readDiverter_13 a1 a2 μ = zif (a2 = (-1)) (zif (vp_nar .boolean 0 = 0) (some (some (.inl 0), μ)) none) (zif (μ.2.1 6 0 1 < 2) ((wI μ (45, μ.2.1 6 0 1) a1 a2).bind fun μ2 => zI (tX7_takeNamed_0 10 1 9 μ2) fun v4 μ3 => tX6_readDiverter_43 a1 v4 μ3) none) := (zs3 _ _ _ _).trans (rfl)
theorem eX6_readDiverter_0 (a1 : Int32) (μ : zM) : tX6_readDiverter_0 a1 μ = zI (tX7_takeNamed_0 9 1 20 μ) fun v2 μ1 => tX6_readDiverter_13 a1 v2 μ1 := (zs3 _ _ _ _).trans (rfl)
theorem uX6_readDiverter (a1 : Int32) (μ : zM) : gX6_readDiverter [.inr (.inr (6, 0)), .inl a1] μ = tX6_readDiverter_0 a1 μ := rfl
/-! BaggageHandling$SetupReader.readLevelTimes(I)Z -/
noncomputable def tX6_readLevelTimes_54 (n16 : Nat) (a1 : Int32) (a2 : Int32) (μ : zM) : Option (Option zV × zM) := fX6_readLevelTimes_54 (fX6_readLevelTimes_16 n16) [some (.inr (.inr (6, 0))), some (.inl a1), some (.inl a2), none] [] μ
noncomputable def tX6_readLevelTimes_32 (n16 : Nat) (a1 : Int32) (a2 : Int32) (a3 : Int32) (μ : zM) : Option (Option zV × zM) := fX6_readLevelTimes_32 (fX6_readLevelTimes_16 n16) [some (.inr (.inr (6, 0))), some (.inl a1), some (.inl a2), some (.inl a3)] [] μ
noncomputable def tX6_readLevelTimes_16 (n : Nat) (a1 : Int32) (a2 : Int32) (μ : zM) : Option (Option zV × zM) := fX6_readLevelTimes_16 n [some (.inr (.inr (6, 0))), some (.inl a1), some (.inl a2), none] [] μ
noncomputable def tX6_readLevelTimes_0 (a1 : Int32) (μ : zM) : Option (Option zV × zM) := fX6_readLevelTimes_0 [some (.inr (.inr (6, 0))), some (.inl a1), none, none] [] μ
theorem eX6_readLevelTimes_54 (n16 : Nat) (a1 : Int32) (a2 : Int32) (μ : zM) : tX6_readLevelTimes_54 n16 a1 a2 μ = tX6_readLevelTimes_16 n16 a1 a2 μ := (zs3 _ _ _ _).trans (rfl)
theorem eX6_readLevelTimes_32 (n16 : Nat) (a1 : Int32) (a2 : Int32) (a3 : Int32) (μ : zM) : tX6_readLevelTimes_32 n16 a1 a2 a3 μ = zif (a3 = (-1)) (zif (vp_nar .boolean 0 = 0) (some (some (.inl 0), μ)) none) (zif (μ.2.1 6 0 1 < 2) ((qX 4 a2).bind fun e2 => (wI μ (53, 4 * (μ.2.1 6 0 1) + e2) a1 a3).bind fun μ3 => tX6_readLevelTimes_54 n16 a1 (a2 + 1) μ3) none) := (zs3 _ _ _ _).trans (rfl)
theorem eX6_readLevelTimes_16 (a1 : Int32) (a2 : Int32) (n : Nat) (μ : zM) : tX6_readLevelTimes_16 (n + 1) a1 a2 μ = zif ((3 : Int32) < a2) (zif (vp_nar .boolean 1 = 1) (some (some (.inl 1), μ)) none) (zI (tX7_takeValue_0 1 99 μ) fun v2 μ1 => tX6_readLevelTimes_32 n a1 a2 v2 μ1) := (zs3 _ _ _ _).trans (rfl)
theorem eX6_readLevelTimes_0 (a1 : Int32) (μ : zM) : tX6_readLevelTimes_0 a1 μ = zI (tX7_takeWord_0 11 μ) fun v2 μ1 => zif (v2 = 0) (zif (vp_nar .boolean 0 = 0) (some (some (.inl 0), μ1)) none) (tX6_readLevelTimes_16 zN a1 1 μ1) := (zs3 _ _ _ _).trans (rfl)
theorem uX6_readLevelTimes (a1 : Int32) (μ : zM) : gX6_readLevelTimes [.inr (.inr (6, 0)), .inl a1] μ = tX6_readLevelTimes_0 a1 μ := rfl
/-! BaggageHandling$SetupReader.readWorkingTime(I)Z -/
noncomputable def tX6_readWorkingTime_35 (s0 : Int32) (μ : zM) : Option (Option zV × zM) := fX6_readWorkingTime_35 [none, none, none] [.inl s0] μ
noncomputable def tX6_readWorkingTime_13 (a1 : Int32) (a2 : Int32) (μ : zM) : Option (Option zV × zM) := fX6_readWorkingTime_13 [some (.inr (.inr (6, 0))), some (.inl a1), some (.inl a2)] [] μ
noncomputable def tX6_readWorkingTime_0 (a1 : Int32) (μ : zM) : Option (Option zV × zM) := fX6_readWorkingTime_0 [some (.inr (.inr (6, 0))), some (.inl a1), none] [] μ
theorem eX6_readWorkingTime_35 (s0 : Int32) (μ : zM) : tX6_readWorkingTime_35 s0 μ = zif (vp_nar .boolean s0 = s0) (some (some (.inl s0), μ)) none := (zs3 _ _ _ _).trans (rfl)
theorem eX6_readWorkingTime_13 (a1 : Int32) (a2 : Int32) (μ : zM) : tX6_readWorkingTime_13 a1 a2 μ = zif (μ.2.1 6 0 1 < 2) ((qX 4 1).bind fun e2 => (wI μ (53, 4 * (μ.2.1 6 0 1) + e2) a1 a2).bind fun μ3 => zif (a2 = (-1)) (tX6_readWorkingTime_35 0 μ3) (tX6_readWorkingTime_35 1 μ3)) none := (zs3 _ _ _ _).trans (rfl)
theorem eX6_readWorkingTime_0 (a1 : Int32) (μ : zM) : tX6_readWorkingTime_0 a1 μ = zI (tX7_takeNamed_0 12 1 99 μ) fun v2 μ1 => tX6_readWorkingTime_13 a1 v2 μ1 := (zs3 _ _ _ _).trans (rfl)
theorem uX6_readWorkingTime (a1 : Int32) (μ : zM) : gX6_readWorkingTime [.inr (.inr (6, 0)), .inl a1] μ = tX6_readWorkingTime_0 a1 μ := rfl
/-! BaggageHandling$SetupReader.readExit(I)Z -/
noncomputable def tX6_readExit_19 (a1 : Int32) (a2 : Int32) (μ : zM) : Option (Option zV × zM) := fX6_readExit_19 [some (.inr (.inr (6, 0))), some (.inl a1), some (.inl a2)] [] μ
noncomputable def tX6_readExit_0 (a1 : Int32) (μ : zM) : Option (Option zV × zM) := fX6_readExit_0 [some (.inr (.inr (6, 0))), some (.inl a1), none] [] μ
theorem eX6_readExit_19 (a1 : Int32) (a2 : Int32) (μ : zM) : tX6_readExit_19 a1 a2 μ = zif (a2 = (-1)) (zif (vp_nar .boolean 0 = 0) (some (some (.inl 0), μ)) none) (zif (μ.2.1 6 0 1 < 2) ((wI μ (47, μ.2.1 6 0 1) a1 a2).bind fun μ2 => zif (μ2.2.1 6 0 1 < 2) ((wI μ2 (43, μ2.2.1 6 0 1) a2 7).bind fun μ4 => zif (vp_nar .boolean 1 = 1) (some (some (.inl 1), μ4)) none) none) none) := (zs3 _ _ _ _).trans (rfl)
theorem eX6_readExit_0 (a1 : Int32) (μ : zM) : tX6_readExit_0 a1 μ = zI (tX7_takeWord_0 13 μ) fun v2 μ1 => zif (v2 = 0) (zif (vp_nar .boolean 0 = 0) (some (some (.inl 0), μ1)) none) (zI (tX6_readFreePosition_0 μ1) fun v4 μ3 => tX6_readExit_19 a1 v4 μ3) := (zs3 _ _ _ _).trans (rfl)
theorem uX6_readExit (a1 : Int32) (μ : zM) : gX6_readExit [.inr (.inr (6, 0)), .inl a1] μ = tX6_readExit_0 a1 μ := rfl
/-! BaggageHandling$SetupReader.readDevice(I)Z -/
noncomputable def tX6_readDevice_86 (μ : zM) : Option (Option zV × zM) := fX6_readDevice_86 [some (.inr (.inr (6, 0))), none, none] [] μ
noncomputable def tX6_readDevice_69 (a1 : Int32) (a2 : Int32) (μ : zM) : Option (Option zV × zM) := fX6_readDevice_69 [some (.inr (.inr (6, 0))), some (.inl a1), some (.inl a2)] [] μ
noncomputable def tX6_readDevice_53 (a1 : Int32) (a2 : Int32) (μ : zM) : Option (Option zV × zM) := fX6_readDevice_53 [some (.inr (.inr (6, 0))), some (.inl a1), some (.inl a2)] [] μ
noncomputable def tX6_readDevice_38 (a1 : Int32) (a2 : Int32) (μ : zM) : Option (Option zV × zM) := fX6_readDevice_38 [some (.inr (.inr (6, 0))), some (.inl a1), some (.inl a2)] [] μ
noncomputable def tX6_readDevice_5 (a1 : Int32) (a2 : Int32) (μ : zM) : Option (Option zV × zM) := fX6_readDevice_5 [some (.inr (.inr (6, 0))), some (.inl a1), some (.inl a2)] [] μ
noncomputable def tX6_readDevice_0 (a1 : Int32) (μ : zM) : Option (Option zV × zM) := fX6_readDevice_0 [some (.inr (.inr (6, 0))), some (.inl a1), none] [] μ
theorem eX6_readDevice_86 (μ : zM) : tX6_readDevice_86 μ = zI (tX7_takeWord_0 17 μ) fun v2 μ1 => zif (vp_nar .boolean v2 = v2) (some (some (.inl v2), μ1)) none := (zs3 _ _ _ _).trans (rfl)
theorem eX6_readDevice_69 (a1 : Int32) (a2 : Int32) (μ : zM) : tX6_readDevice_69 a1 a2 μ = zI (tX10_hasExit_0 a1 μ) fun v2 μ1 => zif (v2 = 0) (tX6_readDevice_86 μ1) (zI (tX6_readExit_0 a2 μ1) fun v4 μ3 => zif (v4 = 0) (zif (vp_nar .boolean 0 = 0) (some (some (.inl 0), μ3)) none) (tX6_readDevice_86 μ3)) := (zs3 _ _ _ _).trans (rfl)
theorem eX6_readDevice_53 (a1 : Int32) (a2 : Int32) (μ : zM) : tX6_readDevice_53 a1 a2 μ = zif (a1 = 6) (zI (tX6_readWorkingTime_0 a2 μ) fun v2 μ1 => zif (v2 = 0) (zif (vp_nar .boolean 0 = 0) (some (some (.inl 0), μ1)) none) (tX6_readDevice_69 a1 a2 μ1)) (tX6_readDevice_69 a1 a2 μ) := (zs3 _ _ _ _).trans (rfl)
theorem eX6_readDevice_38 (a1 : Int32) (a2 : Int32) (μ : zM) : tX6_readDevice_38 a1 a2 μ = zif (a1 = 4) (zI (tX6_readLevelTimes_0 a2 μ) fun v2 μ1 => zif (v2 = 0) (zif (vp_nar .boolean 0 = 0) (some (some (.inl 0), μ1)) none) (tX6_readDevice_53 a1 a2 μ1)) (tX6_readDevice_53 a1 a2 μ) := (zs3 _ _ _ _).trans (rfl)
theorem eX6_readDevice_5 (a1 : Int32) (a2 : Int32) (μ : zM) : tX6_readDevice_5 a1 a2 μ = zif (a2 = (-1)) (zif (vp_nar .boolean 0 = 0) (some (some (.inl 0), μ)) none) (zif (μ.2.1 6 0 1 < 2) (zU (tX5_addDevice_0 (μ.2.1 6 0 1) a1 a2 μ) fun μ2 => zI (tX10_isOutlet_0 a1 μ2) fun v4 μ3 => zif (v4 = 0) (tX6_readDevice_38 a1 a2 μ3) (zI (tX6_readDiverter_0 a2 μ3) fun v6 μ5 => zif (v6 = 0) (zif (vp_nar .boolean 0 = 0) (some (some (.inl 0), μ5)) none) (tX6_readDevice_38 a1 a2 μ5))) none) := (zs3 _ _ _ _).trans (rfl)
theorem eX6_readDevice_0 (a1 : Int32) (μ : zM) : tX6_readDevice_0 a1 μ = zI (tX6_readFreePosition_0 μ) fun v2 μ1 => tX6_readDevice_5 a1 v2 μ1 := (zs3 _ _ _ _).trans (rfl)
theorem uX6_readDevice (a1 : Int32) (μ : zM) : gX6_readDevice [.inr (.inr (6, 0)), .inl a1] μ = tX6_readDevice_0 a1 μ := rfl
/-! BaggageHandling$SetupReader.readDevices()Z -/
noncomputable def tX6_readDevices_65 (n2 : Nat) (a1 : Int32) (μ : zM) : Option (Option zV × zM) := fX6_readDevices_65 (fX6_readDevices_2 n2) [some (.inr (.inr (6, 0))), some (.inl a1), none] [] μ
noncomputable def tX6_readDevices_13 (n2 : Nat) (a1 : Int32) (a2 : Int32) (μ : zM) : Option (Option zV × zM) := fX6_readDevices_13 (fX6_readDevices_2 n2) [some (.inr (.inr (6, 0))), some (.inl a1), some (.inl a2)] [] μ
noncomputable def tX6_readDevices_2 (n : Nat) (a1 : Int32) (μ : zM) : Option (Option zV × zM) := fX6_readDevices_2 n [some (.inr (.inr (6, 0))), some (.inl a1), none] [] μ
noncomputable def tX6_readDevices_0 (μ : zM) : Option (Option zV × zM) := fX6_readDevices_0 [some (.inr (.inr (6, 0))), none, none] [] μ
theorem eX6_readDevices_65 (n2 : Nat) (a1 : Int32) (μ : zM) : tX6_readDevices_65 n2 a1 μ = tX6_readDevices_2 n2 a1 μ := (zs3 _ _ _ _).trans (rfl)
theorem eX6_readDevices_13 (n2 : Nat) (a1 : Int32) (a2 : Int32) (μ : zM) : tX6_readDevices_13 n2 a1 a2 μ = zif (a2 = 0) (zif (vp_nar .boolean 1 = 1) (some (some (.inl 1), μ)) none) (zif (μ.2.1 6 0 1 < 2) ((qI μ (49, μ.2.1 6 0 1) a2).bind fun v2 => (qI μ (74, 0) a2).bind fun v3 => zif (v2 < v3) (zU (tX7_findToken_0 (μ.1 7 0 3) μ) fun μ4 => zI (tX6_readDevice_0 a2 μ4) fun v6 μ5 => zif (v6 = 0) (zif (vp_nar .boolean 0 = 0) (some (some (.inl 0), μ5)) none) (tX6_readDevices_65 n2 (a1 + 1) μ5)) (zif (vp_nar .boolean 0 = 0) (some (some (.inl 0), μ)) none)) none) := (zs3 _ _ _ _).trans (rfl)
theorem eX6_readDevices_2 (a1 : Int32) (n : Nat) (μ : zM) : tX6_readDevices_2 (n + 1) a1 μ = zif ((18 : Int32) < a1) (zif (vp_nar .boolean 0 = 0) (some (some (.inl 0), μ)) none) (zI (tX6_sortOfToken_0 μ) fun v2 μ1 => tX6_readDevices_13 n a1 v2 μ1) := (zs3 _ _ _ _).trans (rfl)
theorem eX6_readDevices_0 (μ : zM) : tX6_readDevices_0 μ = tX6_readDevices_2 zN 0 μ := (zs3 _ _ _ _).trans (rfl)
theorem uX6_readDevices (μ : zM) : gX6_readDevices [.inr (.inr (6, 0))] μ = tX6_readDevices_0 μ := rfl
/-! BaggageHandling$SetupReader.readFlight()Z -/
noncomputable def tX6_readFlight_38 (μ : zM) : Option (Option zV × zM) := fX6_readFlight_38 [none, none, none, none, none] [] μ
noncomputable def tX6_readFlight_119 (a1 : Int32) (a2 : Int32) (a3 : Int32) (a4 : Int32) (μ : zM) : Option (Option zV × zM) := fX6_readFlight_119 [some (.inr (.inr (6, 0))), some (.inl a1), some (.inl a2), some (.inl a3), some (.inl a4)] [] μ
noncomputable def tX6_readFlight_96 (a1 : Int32) (a2 : Int32) (a3 : Int32) (μ : zM) : Option (Option zV × zM) := fX6_readFlight_96 [some (.inr (.inr (6, 0))), some (.inl a1), some (.inl a2), some (.inl a3), none] [] μ
noncomputable def tX6_readFlight_76 (a1 : Int32) (a2 : Int32) (μ : zM) : Option (Option zV × zM) := fX6_readFlight_76 [some (.inr (.inr (6, 0))), some (.inl a1), some (.inl a2), none, none] [] μ
noncomputable def tX6_readFlight_8 (a1 : Int32) (μ : zM) : Option (Option zV × zM) := fX6_readFlight_8 [some (.inr (.inr (6, 0))), some (.inl a1), none, none, none] [] μ
noncomputable def tX6_readFlight_0 (μ : zM) : Option (Option zV × zM) := fX6_readFlight_0 [some (.inr (.inr (6, 0))), none, none, none, none] [] μ
theorem eX6_readFlight_38 (μ : zM) : tX6_readFlight_38 μ = zif (vp_nar .boolean 0 = 0) (some (some (.inl 0), μ)) none := (zs3 _ _ _ _).trans (rfl)
theorem eX6_readFlight_119 (a1 : Int32) (a2 : Int32) (a3 : Int32) (a4 : Int32) (μ : zM) : tX6_readFlight_119 a1 a2 a3 a4 μ = zif (a4 = (-1)) (zif (vp_nar .boolean 0 = 0) (some (some (.inl 0), μ)) none) (zif (μ.2.1 6 0 1 < 2) (zU (tX1_add_0 (μ.2.1 6 0 1) a1 a2 a3 a4 μ) fun μ2 => zI (tX7_takeWord_0 17 μ2) fun v4 μ3 => zif (vp_nar .boolean v4 = v4) (some (some (.inl v4), μ3)) none) none) := (zs3 _ _ _ _).trans (rfl)
theorem eX6_readFlight_96 (a1 : Int32) (a2 : Int32) (a3 : Int32) (μ : zM) : tX6_readFlight_96 a1 a2 a3 μ = zif (a3 = (-1)) (zif (vp_nar .boolean 0 = 0) (some (some (.inl 0), μ)) none) (zI (tX7_takeNamed_0 16 (a3 + 1) 99999 μ) fun v2 μ1 => tX6_readFlight_119 a1 a2 a3 v2 μ1) := (zs3 _ _ _ _).trans (rfl)
theorem eX6_readFlight_76 (a1 : Int32) (a2 : Int32) (μ : zM) : tX6_readFlight_76 a1 a2 μ = zif (a2 = (-1)) (zif (vp_nar .boolean 0 = 0) (some (some (.inl 0), μ)) none) (zI (tX7_takeNamed_0 15 0 99998 μ) fun v2 μ1 => tX6_readFlight_96 a1 a2 v2 μ1) := (zs3 _ _ _ _).trans (rfl)
theorem eX6_readFlight_8 (a1 : Int32) (μ : zM) : tX6_readFlight_8 a1 μ = zI (tX10_isWithin_0 a1 1 999 μ) fun v2 μ1 => zif (v2 = 0) (tX6_readFlight_38 μ1) (zif (μ1.2.1 6 0 1 < 2) (zI (tX1_ofLabel_0 (μ1.2.1 6 0 1) (a1 * 1000) μ1) fun v5 μ4 => zif (v5 = (-1)) (zU (tX7_findToken_0 (μ4.1 7 0 3) μ4) fun μ6 => zif (μ6.2.1 6 0 1 < 2) ((qI μ6 (49, μ6.2.1 6 0 1) 3).bind fun v8 => zI (tX7_takeNamed_0 2 0 (v8 - 1) μ6) fun v10 μ9 => tX6_readFlight_76 a1 v10 μ9) none) (tX6_readFlight_38 μ4)) none) := (zs3 _ _ _ _).trans (rfl)
theorem eX6_readFlight_0 (μ : zM) : tX6_readFlight_0 μ = tX6_readFlight_8 (μ.1 7 0 4) μ := (zs3 _ _ _ _).trans (rfl)
theorem uX6_readFlight (μ : zM) : gX6_readFlight [.inr (.inr (6, 0))] μ = tX6_readFlight_0 μ := rfl
/-! BaggageHandling$SetupReader.readFlights()Z -/
noncomputable def tX6_readFlights_65 (n2 : Nat) (a1 : Int32) (μ : zM) : Option (Option zV × zM) := fX6_readFlights_65 (fX6_readFlights_2 n2) [some (.inr (.inr (6, 0))), some (.inl a1)] [] μ
noncomputable def tX6_readFlights_2 (n : Nat) (a1 : Int32) (μ : zM) : Option (Option zV × zM) := fX6_readFlights_2 n [some (.inr (.inr (6, 0))), some (.inl a1)] [] μ
noncomputable def tX6_readFlights_0 (μ : zM) : Option (Option zV × zM) := fX6_readFlights_0 [some (.inr (.inr (6, 0))), none] [] μ
theorem eX6_readFlights_65 (n2 : Nat) (a1 : Int32) (μ : zM) : tX6_readFlights_65 n2 a1 μ = tX6_readFlights_2 n2 a1 μ := (zs3 _ _ _ _).trans (rfl)
theorem eX6_readFlights_2 (a1 : Int32) (n : Nat) (μ : zM) : tX6_readFlights_2 (n + 1) a1 μ = zif ((10 : Int32) < a1) (zif (vp_nar .boolean 0 = 0) (some (some (.inl 0), μ)) none) (zI (tX7_isAtWord_0 14 μ) fun v2 μ1 => zif (v2 = 0) (zif (vp_nar .boolean 1 = 1) (some (some (.inl 1), μ1)) none) (zif (μ1.2.1 6 0 1 < 2) (zif (μ1.1 1 (μ1.2.1 6 0 1) 0 < 10) (zU (tX7_findToken_0 (μ1.1 7 0 3) μ1) fun μ4 => zI (tX6_readFlight_0 μ4) fun v6 μ5 => zif (v6 = 0) (zif (vp_nar .boolean 0 = 0) (some (some (.inl 0), μ5)) none) (tX6_readFlights_65 n (a1 + 1) μ5)) (zif (vp_nar .boolean 0 = 0) (some (some (.inl 0), μ1)) none)) none)) := (zs3 _ _ _ _).trans (rfl)
theorem eX6_readFlights_0 (μ : zM) : tX6_readFlights_0 μ = tX6_readFlights_2 zN 0 μ := (zs3 _ _ _ _).trans (rfl)
theorem uX6_readFlights (μ : zM) : gX6_readFlights [.inr (.inr (6, 0))] μ = tX6_readFlights_0 μ := rfl
/-! BaggageHandling$SetupReader.readWindow()Z -/
noncomputable def tX6_readWindow_60 (s0 : Int32) (μ : zM) : Option (Option zV × zM) := fX6_readWindow_60 [none] [.inl s0] μ
noncomputable def tX6_readWindow_59 (μ : zM) : Option (Option zV × zM) := fX6_readWindow_59 [none] [] μ
noncomputable def tX6_readWindow_0 (μ : zM) : Option (Option zV × zM) := fX6_readWindow_0 [some (.inr (.inr (6, 0)))] [] μ
theorem eX6_readWindow_60 (s0 : Int32) (μ : zM) : tX6_readWindow_60 s0 μ = zif (vp_nar .boolean s0 = s0) (some (some (.inl s0), μ)) none := (zs3 _ _ _ _).trans (rfl)
theorem eX6_readWindow_59 (μ : zM) : tX6_readWindow_59 μ = tX6_readWindow_60 0 μ := (zs3 _ _ _ _).trans (rfl)
theorem eX6_readWindow_0 (μ : zM) : tX6_readWindow_0 μ = zI (tX7_isAtWord_0 7 μ) fun v2 μ1 => zif (v2 = 0) (zif (vp_nar .boolean 1 = 1) (some (some (.inl 1), μ1)) none) (zif (μ1.2.1 6 0 1 < 2) (zI (tX7_takeNamed_0 7 0 3 μ1) fun v5 μ4 => zlet (mS μ4 5 (μ1.2.1 6 0 1) 1 v5) fun μ6 => zif (μ6.2.1 6 0 1 < 2) (zif (μ6.1 5 (μ6.2.1 6 0 1) 1 = (-1)) (tX6_readWindow_59 μ6) (zI (tX7_takeWord_0 17 μ6) fun v9 μ8 => zif (v9 = 0) (tX6_readWindow_59 μ8) (tX6_readWindow_60 1 μ8))) none) none) := (zs3 _ _ _ _).trans (rfl)
theorem uX6_readWindow (μ : zM) : gX6_readWindow [.inr (.inr (6, 0))] μ = tX6_readWindow_0 μ := rfl
/-! BaggageHandling$SetupReader.readPassLimit()Z -/
noncomputable def tX6_readPassLimit_61 (s0 : Int32) (μ : zM) : Option (Option zV × zM) := fX6_readPassLimit_61 [none] [.inl s0] μ
noncomputable def tX6_readPassLimit_60 (μ : zM) : Option (Option zV × zM) := fX6_readPassLimit_60 [none] [] μ
noncomputable def tX6_readPassLimit_0 (μ : zM) : Option (Option zV × zM) := fX6_readPassLimit_0 [some (.inr (.inr (6, 0)))] [] μ
theorem eX6_readPassLimit_61 (s0 : Int32) (μ : zM) : tX6_readPassLimit_61 s0 μ = zif (vp_nar .boolean s0 = s0) (some (some (.inl s0), μ)) none := (zs3 _ _ _ _).trans (rfl)
theorem eX6_readPassLimit_60 (μ : zM) : tX6_readPassLimit_60 μ = tX6_readPassLimit_61 0 μ := (zs3 _ _ _ _).trans (rfl)
theorem eX6_readPassLimit_0 (μ : zM) : tX6_readPassLimit_0 μ = zI (tX7_isAtWord_0 8 μ) fun v2 μ1 => zif (v2 = 0) (zif (vp_nar .boolean 1 = 1) (some (some (.inl 1), μ1)) none) (zif (μ1.2.1 6 0 1 < 2) (zI (tX7_takeNamed_0 8 1 9 μ1) fun v5 μ4 => zlet (mS μ4 5 (μ1.2.1 6 0 1) 2 v5) fun μ6 => zif (μ6.2.1 6 0 1 < 2) (zif (μ6.1 5 (μ6.2.1 6 0 1) 2 = (-1)) (tX6_readPassLimit_60 μ6) (zI (tX7_takeWord_0 17 μ6) fun v9 μ8 => zif (v9 = 0) (tX6_readPassLimit_60 μ8) (tX6_readPassLimit_61 1 μ8))) none) none) := (zs3 _ _ _ _).trans (rfl)
theorem uX6_readPassLimit (μ : zM) : gX6_readPassLimit [.inr (.inr (6, 0))] μ = tX6_readPassLimit_0 μ := rfl
/-! BaggageHandling$Tape.isAtEnd()Z -/
noncomputable def tX7_isAtEnd_16 (s0 : Int32) (μ : zM) : Option (Option zV × zM) := fX7_isAtEnd_16 [none] [.inl s0] μ
noncomputable def tX7_isAtEnd_0 (μ : zM) : Option (Option zV × zM) := fX7_isAtEnd_0 [some (.inr (.inr (7, 0)))] [] μ
theorem eX7_isAtEnd_16 (s0 : Int32) (μ : zM) : tX7_isAtEnd_16 s0 μ = zif (vp_nar .boolean s0 = s0) (some (some (.inl s0), μ)) none := (zs3 _ _ _ _).trans (rfl)
theorem eX7_isAtEnd_0 (μ : zM) : tX7_isAtEnd_0 μ = zif (μ.1 7 0 2 < μ.1 7 0 1) (tX7_isAtEnd_16 0 μ) (tX7_isAtEnd_16 1 μ) := (zs3 _ _ _ _).trans (rfl)
theorem uX7_isAtEnd (μ : zM) : gX7_isAtEnd [.inr (.inr (7, 0))] μ = tX7_isAtEnd_0 μ := rfl
/-! BaggageHandling$SetupReader.readInto(LBaggageHandling$Setup;)Z -/
noncomputable def tX6_readInto_89 (μ : zM) : Option (Option zV × zM) := fX6_readInto_89 [none, none, none] [] μ
noncomputable def tX6_readInto_34 (a2 : Int32) (μ : zM) : Option (Option zV × zM) := fX6_readInto_34 [some (.inr (.inr (6, 0))), none, some (.inl a2)] [] μ
noncomputable def tX6_readInto_0 (ia1 : Nat) (μ : zM) : Option (Option zV × zM) := fX6_readInto_0 [some (.inr (.inr (6, 0))), some (.inr (.inr (5, ia1))), none] [] μ
theorem eX6_readInto_89 (μ : zM) : tX6_readInto_89 μ = zif (vp_nar .boolean 0 = 0) (some (some (.inl 0), μ)) none := (zs3 _ _ _ _).trans (rfl)
theorem eX6_readInto_34 (a2 : Int32) (μ : zM) : tX6_readInto_34 a2 μ = zif (a2 = (-1)) (zif (vp_nar .boolean 0 = 0) (some (some (.inl 0), μ)) none) (zif (μ.2.1 6 0 1 < 2) (zlet (mS μ 5 (μ.2.1 6 0 1) 0 a2) fun μ2 => zI (tX7_takeWord_0 17 μ2) fun v4 μ3 => zif (v4 = 0) (tX6_readInto_89 μ3) (zI (tX6_readDevices_0 μ3) fun v6 μ5 => zif (v6 = 0) (tX6_readInto_89 μ5) (zI (tX6_readFlights_0 μ5) fun v8 μ7 => zif (v8 = 0) (tX6_readInto_89 μ7) (zI (tX6_readWindow_0 μ7) fun v10 μ9 => zif (v10 = 0) (tX6_readInto_89 μ9) (zI (tX6_readPassLimit_0 μ9) fun v12 μ11 => zif (v12 = 0) (tX6_readInto_89 μ11) (zif (μ11.2.1 6 0 1 < 2) (zU (tX5_listBusyPositions_0 (μ11.2.1 6 0 1) μ11) fun μ14 => zI (tX7_isAtEnd_0 μ14) fun v16 μ15 => zif (vp_nar .boolean v16 = v16) (some (some (.inl v16), μ15)) none) none)))))) none) := (zs3 _ _ _ _).trans (rfl)
theorem eX6_readInto_0 (ia1 : Nat) (μ : zM) : tX6_readInto_0 ia1 μ = (qP μ (6, 0) 1 (.inr (.inr (5, ia1)))).bind fun μ1 => zif (μ1.2.1 6 0 1 < 2) (zU (tX5_clear_0 (μ1.2.1 6 0 1) μ1) fun μ3 => zU (tX7_findToken_0 0 μ3) fun μ4 => zI (tX7_takeNamed_0 6 10 60 μ4) fun v6 μ5 => tX6_readInto_34 v6 μ5) none := (zs3 _ _ _ _).trans (rfl)
theorem uX6_readInto (ia1 : Nat) (μ : zM) : gX6_readInto [.inr (.inr (6, 0)), .inr (.inr (5, ia1))] μ = tX6_readInto_0 ia1 μ := rfl
