/-! java/util/Arrays.fill([II)V -/
noncomputable def tJ7_fill_53178_17 (n5 : Nat) (ha0 : zH) (a1 : Int32) (a2 : Int32) (a3 : Int32) (μ : zM) : Option (Option zV × zM) := fJ7_fill_53178_17 (fJ7_fill_53178_5 n5) [some (.inr (.inr ha0)), some (.inl a1), some (.inl a2), some (.inl a3)] [] μ
noncomputable def tJ7_fill_53178_5 (n : Nat) (ha0 : zH) (a1 : Int32) (a2 : Int32) (a3 : Int32) (μ : zM) : Option (Option zV × zM) := fJ7_fill_53178_5 n [some (.inr (.inr ha0)), some (.inl a1), some (.inl a2), some (.inl a3)] [] μ
noncomputable def tJ7_fill_53178_2 (ha0 : zH) (a1 : Int32) (a2 : Int32) (μ : zM) : Option (Option zV × zM) := fJ7_fill_53178_2 [some (.inr (.inr ha0)), some (.inl a1), some (.inl a2), none] [] μ
noncomputable def tJ7_fill_53178_0 (ha0 : zH) (a1 : Int32) (μ : zM) : Option (Option zV × zM) := fJ7_fill_53178_0 [some (.inr (.inr ha0)), some (.inl a1), none, none] [] μ
theorem eJ7_fill_53178_17 (n5 : Nat) (ha0 : zH) (a1 : Int32) (a2 : Int32) (a3 : Int32) (μ : zM) : tJ7_fill_53178_17 n5 ha0 a1 a2 a3 μ = tJ7_fill_53178_5 n5 ha0 a1 a2 a3 μ := (zs3 _ _ _ _).trans (rfl)
theorem eJ7_fill_53178_5 (ha0 : zH) (a1 : Int32) (a2 : Int32) (a3 : Int32) (n : Nat) (μ : zM) : tJ7_fill_53178_5 (n + 1) ha0 a1 a2 a3 μ = zif (a2 < a3) (if ha0.1 = 77 then none else (wI μ ha0 a2 a1).bind fun μ1 => tJ7_fill_53178_17 n ha0 a1 (a2 + 1) a3 μ1) (some (none, μ)) := (zs3 _ _ _ _).trans (rfl)
theorem eJ7_fill_53178_2 (ha0 : zH) (a1 : Int32) (a2 : Int32) (μ : zM) : tJ7_fill_53178_2 ha0 a1 a2 μ = if ha0.1 = 77 then none else (qL ha0).bind fun v1 => tJ7_fill_53178_5 zN ha0 a1 a2 v1 μ := (zs3 _ _ _ _).trans (rfl)
theorem eJ7_fill_53178_0 (ha0 : zH) (a1 : Int32) (μ : zM) : tJ7_fill_53178_0 ha0 a1 μ = tJ7_fill_53178_2 ha0 a1 0 μ := (zs3 _ _ _ _).trans (rfl)
theorem uJ7_fill_53178 (ha0 : zH) (a1 : Int32) (μ : zM) : gJ7_fill_53178 [.inr (.inr ha0), .inl a1] μ = tJ7_fill_53178_0 ha0 a1 μ := rfl
/-! java/lang/String.coder()B -/
noncomputable def tJ0_coder_7d493_14 (s0 : Int32) (μ : zM) : Option (Option zV × zM) := fJ0_coder_7d493_14 [none] [.inl s0] μ
noncomputable def tJ0_coder_7d493_0 (ia0 : Nat) (μ : zM) : Option (Option zV × zM) := fJ0_coder_7d493_0 [some (.inr (.inr (75, ia0)))] [] μ
theorem eJ0_coder_7d493_14 (s0 : Int32) (μ : zM) : tJ0_coder_7d493_14 s0 μ = zif (vp_nar .byte s0 = s0) (some (some (.inl s0), μ)) none := (zs3 _ _ _ _).trans (rfl)
theorem eJ0_coder_7d493_0 (ia0 : Nat) (μ : zM) : tJ0_coder_7d493_0 ia0 μ = zif ((1 : Int32) = 0) (tJ0_coder_7d493_14 1 μ) (tJ0_coder_7d493_14 0 μ) := (zs3 _ _ _ _).trans (rfl)
theorem uJ0_coder_7d493 (ia0 : Nat) (μ : zM) : gJ0_coder_7d493 [.inr (.inr (75, ia0))] μ = tJ0_coder_7d493_0 ia0 μ := rfl
/-! java/lang/String.length()I -/
noncomputable def tJ0_length_8abf5_0 (ia0 : Nat) (μ : zM) : Option (Option zV × zM) := fJ0_length_8abf5_0 [some (.inr (.inr (75, ia0)))] [] μ
theorem eJ0_length_8abf5_0 (ia0 : Nat) (μ : zM) : tJ0_length_8abf5_0 ia0 μ = (qL (76, ia0)).bind fun v1 => zI (tJ0_coder_7d493_0 ia0 μ) fun v3 μ2 => some (some (.inl (v1 >>> (v3 &&& 31))), μ2) := (zs3 _ _ _ _).trans (rfl)
theorem uJ0_length_8abf5 (ia0 : Nat) (μ : zM) : gJ0_length_8abf5 [.inr (.inr (75, ia0))] μ = tJ0_length_8abf5_0 ia0 μ := rfl
/-! java/lang/String.isLatin1()Z -/
noncomputable def tJ0_isLatin1_aae02_18 (s0 : Int32) (μ : zM) : Option (Option zV × zM) := fJ0_isLatin1_aae02_18 [none] [.inl s0] μ
noncomputable def tJ0_isLatin1_aae02_17 (μ : zM) : Option (Option zV × zM) := fJ0_isLatin1_aae02_17 [none] [] μ
noncomputable def tJ0_isLatin1_aae02_0 (ia0 : Nat) (μ : zM) : Option (Option zV × zM) := fJ0_isLatin1_aae02_0 [some (.inr (.inr (75, ia0)))] [] μ
theorem eJ0_isLatin1_aae02_18 (s0 : Int32) (μ : zM) : tJ0_isLatin1_aae02_18 s0 μ = zif (vp_nar .boolean s0 = s0) (some (some (.inl s0), μ)) none := (zs3 _ _ _ _).trans (rfl)
theorem eJ0_isLatin1_aae02_17 (μ : zM) : tJ0_isLatin1_aae02_17 μ = tJ0_isLatin1_aae02_18 0 μ := (zs3 _ _ _ _).trans (rfl)
theorem eJ0_isLatin1_aae02_0 (ia0 : Nat) (μ : zM) : tJ0_isLatin1_aae02_0 ia0 μ = zif ((1 : Int32) = 0) (tJ0_isLatin1_aae02_17 μ) (zif ((0 : Int32) = 0) (tJ0_isLatin1_aae02_18 1 μ) (tJ0_isLatin1_aae02_17 μ)) := (zs3 _ _ _ _).trans (rfl)
theorem uJ0_isLatin1_aae02 (ia0 : Nat) (μ : zM) : gJ0_isLatin1_aae02 [.inr (.inr (75, ia0))] μ = tJ0_isLatin1_aae02_0 ia0 μ := rfl
/-! jdk/internal/util/Preconditions.checkIndex(IILjava/util/function/BiFunction;)I -/
noncomputable def tJ3_checkIndex_8e157_9 (a0 : Int32) (a1 : Int32) (ia2 : Nat) (μ : zM) : Option (Option zV × zM) := fJ3_checkIndex_8e157_9 [some (.inl a0), some (.inl a1), some (.inr (.inr (77, ia2)))] [] μ
noncomputable def tJ3_checkIndex_8e157_0 (a0 : Int32) (a1 : Int32) (ia2 : Nat) (μ : zM) : Option (Option zV × zM) := fJ3_checkIndex_8e157_0 [some (.inl a0), some (.inl a1), some (.inr (.inr (77, ia2)))] [] μ
theorem eJ3_checkIndex_8e157_9 (a0 : Int32) (a1 : Int32) (ia2 : Nat) (μ : zM) : tJ3_checkIndex_8e157_9 a0 a1 ia2 μ = none := (zs3 _ _ _ _).trans (rfl)
theorem eJ3_checkIndex_8e157_0 (a0 : Int32) (a1 : Int32) (ia2 : Nat) (μ : zM) : tJ3_checkIndex_8e157_0 a0 a1 ia2 μ = zif (a0 < 0) (tJ3_checkIndex_8e157_9 a0 a1 ia2 μ) (zif (a0 < a1) (some (some (.inl a0), μ)) (tJ3_checkIndex_8e157_9 a0 a1 ia2 μ)) := (zs3 _ _ _ _).trans (rfl)
theorem uJ3_checkIndex_8e157 (a0 : Int32) (a1 : Int32) (ia2 : Nat) (μ : zM) : gJ3_checkIndex_8e157 [.inl a0, .inl a1, .inr (.inr (77, ia2))] μ = tJ3_checkIndex_8e157_0 a0 a1 ia2 μ := rfl
/-! java/lang/String.checkIndex(II)V -/
noncomputable def tJ0_checkIndex_df160_0 (a0 : Int32) (a1 : Int32) (μ : zM) : Option (Option zV × zM) := fJ0_checkIndex_df160_0 [some (.inl a0), some (.inl a1)] [] μ
theorem eJ0_checkIndex_df160_0 (a0 : Int32) (a1 : Int32) (μ : zM) : tJ0_checkIndex_df160_0 a0 a1 μ = zI (tJ3_checkIndex_8e157_0 a0 a1 0 μ) fun v2 μ1 => some (none, μ1) := (zs3 _ _ _ _).trans (rfl)
theorem uJ0_checkIndex_df160 (a0 : Int32) (a1 : Int32) (μ : zM) : gJ0_checkIndex_df160 [.inl a0, .inl a1] μ = tJ0_checkIndex_df160_0 a0 a1 μ := rfl
/-! java/lang/StringLatin1.charAt([BI)C -/
noncomputable def tJ1_charAt_3b067_0 (ia0 : Nat) (a1 : Int32) (μ : zM) : Option (Option zV × zM) := fJ1_charAt_3b067_0 [some (.inr (.inr (76, ia0))), some (.inl a1)] [] μ
theorem eJ1_charAt_3b067_0 (ia0 : Nat) (a1 : Int32) (μ : zM) : tJ1_charAt_3b067_0 ia0 a1 μ = (qL (76, ia0)).bind fun v1 => zU (tJ0_checkIndex_df160_0 a1 v1 μ) fun μ2 => (qB μ2 (76, ia0) a1).bind fun v3 => zif (vp_nar .char (((v3 &&& 255).toUInt32 % 65536).toInt32) = ((v3 &&& 255).toUInt32 % 65536).toInt32) (some (some (.inl (((v3 &&& 255).toUInt32 % 65536).toInt32)), μ2)) none := (zs3 _ _ _ _).trans (rfl)
theorem uJ1_charAt_3b067 (ia0 : Nat) (a1 : Int32) (μ : zM) : gJ1_charAt_3b067 [.inr (.inr (76, ia0)), .inl a1] μ = tJ1_charAt_3b067_0 ia0 a1 μ := rfl
/-! java/lang/String.charAt(I)C -/
noncomputable def tJ0_charAt_5068e_0 (ia0 : Nat) (a1 : Int32) (μ : zM) : Option (Option zV × zM) := fJ0_charAt_5068e_0 [some (.inr (.inr (75, ia0))), some (.inl a1)] [] μ
theorem eJ0_charAt_5068e_0 (ia0 : Nat) (a1 : Int32) (μ : zM) : tJ0_charAt_5068e_0 ia0 a1 μ = zI (tJ0_isLatin1_aae02_0 ia0 μ) fun v2 μ1 => zif (v2 = 0) (none) (zI (tJ1_charAt_3b067_0 ia0 a1 μ1) fun v4 μ3 => zif (vp_nar .char v4 = v4) (some (some (.inl v4), μ3)) none) := (zs3 _ _ _ _).trans (rfl)
theorem uJ0_charAt_5068e (ia0 : Nat) (a1 : Int32) (μ : zM) : gJ0_charAt_5068e [.inr (.inr (75, ia0)), .inl a1] μ = tJ0_charAt_5068e_0 ia0 a1 μ := rfl
