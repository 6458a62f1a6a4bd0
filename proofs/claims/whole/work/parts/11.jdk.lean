/-! java/util/Arrays.fill([II)V -/
def rJ7_fill_53178 : Room := { frames := 0, cells := 0, slots := 0, locals := 0 }
noncomputable def fJ7_fill_53178_17 (k5 : zD) : zD := zseal (cKeep [true, true, true, true] k5)
theorem sJ7_fill_53178_17 {k5 : zD} (h5 : Sim yJ7_fill_53178 cJ7_fill_53178 4 none rJ7_fill_53178 5 k5) : Sim yJ7_fill_53178 cJ7_fill_53178 4 none rJ7_fill_53178 17 (fJ7_fill_53178_17 k5) := zsS (z_goto (tgt := 5) dJ7_fill_53178_17 (by decide) (z_keep [true, true, true, true] h5))
noncomputable def fJ7_fill_53178_5 : Nat → zD
  | 0 => cNone
  | n + 1 => zseal (cLdI 2 (cLdI 3 (cCmpLt (cLdA 0 (cLdI 2 (cLdI 1 (cIast (cInc 2 1 (cKeep [true, true, true, true] (fJ7_fill_53178_17 (fJ7_fill_53178_5 n)))))))) cRetV)))
theorem sJ7_fill_53178_5 : ∀ n, Sim yJ7_fill_53178 cJ7_fill_53178 4 none rJ7_fill_53178 5 (fJ7_fill_53178_5 n)
  | 0 => z_none
  | n + 1 => zsS (z_iload_n (j := 2) dJ7_fill_53178_5 rfl (z_iload_n (j := 3) dJ7_fill_53178_6 rfl (z_cmpge (tgt := 20) dJ7_fill_53178_7 (by decide) (z_return rfl dJ7_fill_53178_20) (z_aload_n (j := 0) dJ7_fill_53178_10 rfl (z_iload_n (j := 2) dJ7_fill_53178_11 rfl (z_iload_n (j := 1) dJ7_fill_53178_12 rfl (z_iast dJ7_fill_53178_13 (z_iinc (v := 1) dJ7_fill_53178_14 (by decide) (by decide) (z_keep [true, true, true, true] (sJ7_fill_53178_17 (sJ7_fill_53178_5 n)))))))))))
noncomputable def fJ7_fill_53178_2 : zD := zseal (cLdA 0 (cAlen (cStI 3 (cKeep [true, true, true, true] (fJ7_fill_53178_5 zN)))))
theorem sJ7_fill_53178_2 : Sim yJ7_fill_53178 cJ7_fill_53178 4 none rJ7_fill_53178 2 fJ7_fill_53178_2 := zsS (z_aload_n (j := 0) dJ7_fill_53178_2 rfl (z_alen dJ7_fill_53178_3 (z_istore_n (j := 3) dJ7_fill_53178_4 rfl (by decide) (z_keep [true, true, true, true] (sJ7_fill_53178_5 zN)))))
noncomputable def fJ7_fill_53178_0 : zD := zseal (cPush (.inl 0) (cStI 2 (cKeep [true, true, true, false] fJ7_fill_53178_2)))
theorem sJ7_fill_53178_0 : Sim yJ7_fill_53178 cJ7_fill_53178 4 none rJ7_fill_53178 0 fJ7_fill_53178_0 := zsS (z_iconst (v := 0) dJ7_fill_53178_0 (by decide) (z_istore_n (j := 2) dJ7_fill_53178_1 rfl (by decide) (z_keep [true, true, true, false] sJ7_fill_53178_2)))
noncomputable def gJ7_fill_53178 : zG := fun av μ => if (zlv0 av).length ≤ 4 then fJ7_fill_53178_0 (zlv 4 av) [] μ else none
theorem kJ7_fill_53178 : Con yJ7_fill_53178 cJ7_fill_53178 4 none rJ7_fill_53178 gJ7_fill_53178 := con_of (by decide) ⟨rfl, rfl⟩ sJ7_fill_53178_0
/-! java/lang/String.coder()B -/
def rJ0_coder_7d493 : Room := { frames := 0, cells := 0, slots := 0, locals := 0 }
noncomputable def fJ0_coder_7d493_14 : zD := zseal (cRetZ .byte)
theorem sJ0_coder_7d493_14 : Sim yJ0_coder_7d493 cJ0_coder_7d493 1 (some .byte) rJ0_coder_7d493 14 fJ0_coder_7d493_14 := zsS (z_zreturn rfl nar_b dJ0_coder_7d493_14)
noncomputable def fJ0_coder_7d493_0 : zD := zseal (cPush (.inl 1) (cIfEq (cPush (.inl 1) (cKeep [false] fJ0_coder_7d493_14)) (cLdA 0 (cStrCod (cKeep [false] fJ0_coder_7d493_14)))))
theorem sJ0_coder_7d493_0 : Sim yJ0_coder_7d493 cJ0_coder_7d493 1 (some .byte) rJ0_coder_7d493 0 fJ0_coder_7d493_0 := zsS (z_getCompact dJ0_coder_7d493_0 wd_534 (z_ifeq (tgt := 13) dJ0_coder_7d493_3 (by decide) (z_iconst (v := 1) dJ0_coder_7d493_13 (by decide) (z_keep [false] sJ0_coder_7d493_14)) (z_aload_n (j := 0) dJ0_coder_7d493_6 rfl (z_strCod dJ0_coder_7d493_7 wd_1827 (z_goto (tgt := 14) dJ0_coder_7d493_10 (by decide) (z_keep [false] sJ0_coder_7d493_14))))))
noncomputable def gJ0_coder_7d493 : zG := fun av μ => if (zlv0 av).length ≤ 1 then fJ0_coder_7d493_0 (zlv 1 av) [] μ else none
theorem kJ0_coder_7d493 : Con yJ0_coder_7d493 cJ0_coder_7d493 1 (some .byte) rJ0_coder_7d493 gJ0_coder_7d493 := con_of (by decide) ⟨rfl, rfl⟩ sJ0_coder_7d493_0
/-! java/lang/String.length()I -/
def rJ0_length_8abf5 : Room := { frames := 1, cells := 0, slots := 0, locals := 20 }
theorem qJ0_length_8abf5_J0_coder_7d493 : zCW yJ0_length_8abf5 rJ0_length_8abf5 yJ0_coder_7d493 cJ0_coder_7d493 1 (some .byte) rJ0_coder_7d493 0 := ⟨wd_533, wd_118, ⟨by decide, by decide, by decide +kernel⟩, rfl, rfl, Nat.le_of_ble_eq_true rfl, Nat.le_of_ble_eq_true rfl⟩
noncomputable def fJ0_length_8abf5_0 : zD := zseal (cLdA 0 (cStrVal (cAlen (cLdA 0 (cCallV 75 0 1 gJ0_coder_7d493 (cBin (fun a b => a >>> (b &&& 31)) cRetI))))))
theorem sJ0_length_8abf5_0 : Sim yJ0_length_8abf5 cJ0_length_8abf5 1 (some .int) rJ0_length_8abf5 0 fJ0_length_8abf5_0 := zsS (z_aload_n (j := 0) dJ0_length_8abf5_0 rfl (z_strVal dJ0_length_8abf5_1 wd_1826 (z_alen dJ0_length_8abf5_4 (z_aload_n (j := 0) dJ0_length_8abf5_5 rfl (z_callT (rk := 1) kJ0_coder_7d493 dJ0_length_8abf5_6 qJ0_length_8abf5_J0_coder_7d493 wd_530 wd_531 wd_532 (z_ishr dJ0_length_8abf5_9 (z_ireturn rfl dJ0_length_8abf5_10)))))))
noncomputable def gJ0_length_8abf5 : zG := fun av μ => if (zlv0 av).length ≤ 1 then fJ0_length_8abf5_0 (zlv 1 av) [] μ else none
theorem kJ0_length_8abf5 : Con yJ0_length_8abf5 cJ0_length_8abf5 1 (some .int) rJ0_length_8abf5 gJ0_length_8abf5 := con_of (by decide) ⟨rfl, rfl⟩ sJ0_length_8abf5_0
/-! java/lang/String.isLatin1()Z -/
def rJ0_isLatin1_aae02 : Room := { frames := 0, cells := 0, slots := 0, locals := 0 }
noncomputable def fJ0_isLatin1_aae02_18 : zD := zseal (cRetZ .boolean)
theorem sJ0_isLatin1_aae02_18 : Sim yJ0_isLatin1_aae02 cJ0_isLatin1_aae02 1 (some .boolean) rJ0_isLatin1_aae02 18 fJ0_isLatin1_aae02_18 := zsS (z_zreturn rfl nar_z dJ0_isLatin1_aae02_18)
noncomputable def fJ0_isLatin1_aae02_17 : zD := zseal (cPush (.inl 0) (cKeep [false] fJ0_isLatin1_aae02_18))
theorem sJ0_isLatin1_aae02_17 : Sim yJ0_isLatin1_aae02 cJ0_isLatin1_aae02 1 (some .boolean) rJ0_isLatin1_aae02 17 fJ0_isLatin1_aae02_17 := zsS (z_iconst (v := 0) dJ0_isLatin1_aae02_17 (by decide) (z_keep [false] sJ0_isLatin1_aae02_18))
noncomputable def fJ0_isLatin1_aae02_0 : zD := zseal (cPush (.inl 1) (cIfEq (cKeep [false] fJ0_isLatin1_aae02_17) (cLdA 0 (cStrCod (cIfEq (cPush (.inl 1) (cKeep [false] fJ0_isLatin1_aae02_18)) (cKeep [false] fJ0_isLatin1_aae02_17))))))
theorem sJ0_isLatin1_aae02_0 : Sim yJ0_isLatin1_aae02 cJ0_isLatin1_aae02 1 (some .boolean) rJ0_isLatin1_aae02 0 fJ0_isLatin1_aae02_0 := zsS (z_getCompact dJ0_isLatin1_aae02_0 wd_534 (z_ifeq (tgt := 17) dJ0_isLatin1_aae02_3 (by decide) (z_keep [false] sJ0_isLatin1_aae02_17) (z_aload_n (j := 0) dJ0_isLatin1_aae02_6 rfl (z_strCod dJ0_isLatin1_aae02_7 wd_1827 (z_ifne (tgt := 17) dJ0_isLatin1_aae02_10 (by decide) (z_keep [false] sJ0_isLatin1_aae02_17) (z_iconst (v := 1) dJ0_isLatin1_aae02_13 (by decide) (z_goto (tgt := 18) dJ0_isLatin1_aae02_14 (by decide) (z_keep [false] sJ0_isLatin1_aae02_18))))))))
noncomputable def gJ0_isLatin1_aae02 : zG := fun av μ => if (zlv0 av).length ≤ 1 then fJ0_isLatin1_aae02_0 (zlv 1 av) [] μ else none
theorem kJ0_isLatin1_aae02 : Con yJ0_isLatin1_aae02 cJ0_isLatin1_aae02 1 (some .boolean) rJ0_isLatin1_aae02 gJ0_isLatin1_aae02 := con_of (by decide) ⟨rfl, rfl⟩ sJ0_isLatin1_aae02_0
/-! jdk/internal/util/Preconditions.checkIndex(IILjava/util/function/BiFunction;)I -/
def rJ3_checkIndex_8e157 : Room := { frames := 0, cells := 0, slots := 0, locals := 0 }
noncomputable def fJ3_checkIndex_8e157_9 : zD := zseal (cLdA 2 (cLdI 0 (cLdI 1 cNone)))
theorem sJ3_checkIndex_8e157_9 : Sim yJ3_checkIndex_8e157 cJ3_checkIndex_8e157 3 (some .int) rJ3_checkIndex_8e157 9 fJ3_checkIndex_8e157_9 := zsS (z_aload_n (j := 2) dJ3_checkIndex_8e157_9 rfl (z_iload_n (j := 0) dJ3_checkIndex_8e157_10 rfl (z_iload_n (j := 1) dJ3_checkIndex_8e157_11 rfl z_none)))
noncomputable def fJ3_checkIndex_8e157_0 : zD := zseal (cLdI 0 (cIfLt (cKeep [true, true, true] fJ3_checkIndex_8e157_9) (cLdI 0 (cLdI 1 (cCmpLt (cLdI 0 cRetI) (cKeep [true, true, true] fJ3_checkIndex_8e157_9))))))
theorem sJ3_checkIndex_8e157_0 : Sim yJ3_checkIndex_8e157 cJ3_checkIndex_8e157 3 (some .int) rJ3_checkIndex_8e157 0 fJ3_checkIndex_8e157_0 := zsS (z_iload_n (j := 0) dJ3_checkIndex_8e157_0 rfl (z_iflt (tgt := 9) dJ3_checkIndex_8e157_1 (by decide) (z_keep [true, true, true] sJ3_checkIndex_8e157_9) (z_iload_n (j := 0) dJ3_checkIndex_8e157_4 rfl (z_iload_n (j := 1) dJ3_checkIndex_8e157_5 rfl (z_cmplt (tgt := 16) dJ3_checkIndex_8e157_6 (by decide) (z_iload_n (j := 0) dJ3_checkIndex_8e157_16 rfl (z_ireturn rfl dJ3_checkIndex_8e157_17)) (z_keep [true, true, true] sJ3_checkIndex_8e157_9))))))
noncomputable def gJ3_checkIndex_8e157 : zG := fun av μ => if (zlv0 av).length ≤ 3 then fJ3_checkIndex_8e157_0 (zlv 3 av) [] μ else none
theorem kJ3_checkIndex_8e157 : Con yJ3_checkIndex_8e157 cJ3_checkIndex_8e157 3 (some .int) rJ3_checkIndex_8e157 gJ3_checkIndex_8e157 := con_of (by decide) ⟨rfl, rfl⟩ sJ3_checkIndex_8e157_0
/-! java/lang/String.checkIndex(II)V -/
def rJ0_checkIndex_df160 : Room := { frames := 1, cells := 0, slots := 0, locals := 22 }
theorem qJ0_checkIndex_df160_J3_checkIndex_8e157 : zCW yJ0_checkIndex_df160 rJ0_checkIndex_df160 yJ3_checkIndex_8e157 cJ3_checkIndex_8e157 3 (some .int) rJ3_checkIndex_8e157 3 := ⟨wd_554, wd_120, ⟨by decide, by decide, by decide +kernel⟩, rfl, rfl, Nat.le_of_ble_eq_true rfl, Nat.le_of_ble_eq_true rfl⟩
noncomputable def fJ0_checkIndex_df160_0 : zD := zseal (cLdI 0 (cLdI 1 (cPush (.inr (.inr (77, 0))) (cCallS 3 1 gJ3_checkIndex_8e157 (cPop cRetV)))))
theorem sJ0_checkIndex_df160_0 : Sim yJ0_checkIndex_df160 cJ0_checkIndex_df160 2 none rJ0_checkIndex_df160 0 fJ0_checkIndex_df160_0 := zsS (z_iload_n (j := 0) dJ0_checkIndex_df160_0 rfl (z_iload_n (j := 1) dJ0_checkIndex_df160_1 rfl (z_getForm dJ0_checkIndex_df160_2 wd_550 (z_callS (rk := 1) kJ3_checkIndex_8e157 dJ0_checkIndex_df160_5 qJ0_checkIndex_df160_J3_checkIndex_8e157 wd_552 wd_553 (z_pop dJ0_checkIndex_df160_8 (z_return rfl dJ0_checkIndex_df160_9))))))
noncomputable def gJ0_checkIndex_df160 : zG := fun av μ => if (zlv0 av).length ≤ 2 then fJ0_checkIndex_df160_0 (zlv 2 av) [] μ else none
theorem kJ0_checkIndex_df160 : Con yJ0_checkIndex_df160 cJ0_checkIndex_df160 2 none rJ0_checkIndex_df160 gJ0_checkIndex_df160 := con_of (by decide) ⟨rfl, rfl⟩ sJ0_checkIndex_df160_0
/-! java/lang/StringLatin1.charAt([BI)C -/
def rJ1_charAt_3b067 : Room := { frames := 2, cells := 0, slots := 0, locals := 43 }
theorem qJ1_charAt_3b067_J0_checkIndex_df160 : zCW yJ1_charAt_3b067 rJ1_charAt_3b067 yJ0_checkIndex_df160 cJ0_checkIndex_df160 2 none rJ0_checkIndex_df160 2 := ⟨wd_549, wd_118, ⟨by decide, by decide, by decide +kernel⟩, rfl, rfl, Nat.le_of_ble_eq_true rfl, Nat.le_of_ble_eq_true rfl⟩
noncomputable def fJ1_charAt_3b067_0 : zD := zseal (cLdI 1 (cLdA 0 (cAlen (cCallS 2 0 gJ0_checkIndex_df160 (cLdA 0 (cLdI 1 (cBald (cPush (.inl 255) (cBin (fun a b => a &&& b) (cUn (fun a => (a.toUInt32 % 65536).toInt32) (cRetZ .char)))))))))))
theorem sJ1_charAt_3b067_0 : Sim yJ1_charAt_3b067 cJ1_charAt_3b067 2 (some .char) rJ1_charAt_3b067 0 fJ1_charAt_3b067_0 := zsS (z_iload_n (j := 1) dJ1_charAt_3b067_0 rfl (z_aload_n (j := 0) dJ1_charAt_3b067_1 rfl (z_alen dJ1_charAt_3b067_2 (z_callS (rk := 0) kJ0_checkIndex_df160 dJ1_charAt_3b067_3 qJ1_charAt_3b067_J0_checkIndex_df160 wd_547 wd_548 (z_aload_n (j := 0) dJ1_charAt_3b067_6 rfl (z_iload_n (j := 1) dJ1_charAt_3b067_7 rfl (z_bald dJ1_charAt_3b067_8 (z_sipush (v := 255) dJ1_charAt_3b067_9 (by decide) (z_iand dJ1_charAt_3b067_12 (z_i2c dJ1_charAt_3b067_13 (z_zreturn rfl nar_c dJ1_charAt_3b067_14)))))))))))
noncomputable def gJ1_charAt_3b067 : zG := fun av μ => if (zlv0 av).length ≤ 2 then fJ1_charAt_3b067_0 (zlv 2 av) [] μ else none
theorem kJ1_charAt_3b067 : Con yJ1_charAt_3b067 cJ1_charAt_3b067 2 (some .char) rJ1_charAt_3b067 gJ1_charAt_3b067 := con_of (by decide) ⟨rfl, rfl⟩ sJ1_charAt_3b067_0
/-! java/lang/String.charAt(I)C -/
def rJ0_charAt_5068e : Room := { frames := 3, cells := 0, slots := 0, locals := 64 }
theorem qJ0_charAt_5068e_J0_isLatin1_aae02 : zCW yJ0_charAt_5068e rJ0_charAt_5068e yJ0_isLatin1_aae02 cJ0_isLatin1_aae02 1 (some .boolean) rJ0_isLatin1_aae02 0 := ⟨wd_543, wd_118, ⟨by decide, by decide, by decide +kernel⟩, rfl, rfl, Nat.le_of_ble_eq_true rfl, Nat.le_of_ble_eq_true rfl⟩
theorem qJ0_charAt_5068e_J1_charAt_3b067 : zCW yJ0_charAt_5068e rJ0_charAt_5068e yJ1_charAt_3b067 cJ1_charAt_3b067 2 (some .char) rJ1_charAt_3b067 2 := ⟨wd_546, wd_119, ⟨by decide, by decide, by decide +kernel⟩, rfl, rfl, Nat.le_of_ble_eq_true rfl, Nat.le_of_ble_eq_true rfl⟩
noncomputable def fJ0_charAt_5068e_0 : zD := zseal (cLdA 0 (cCallV 75 0 1 gJ0_isLatin1_aae02 (cIfEq (cLdA 0 (cStrVal (cLdI 1 cNone))) (cLdA 0 (cStrVal (cLdI 1 (cCallS 2 1 gJ1_charAt_3b067 (cRetZ .char))))))))
theorem sJ0_charAt_5068e_0 : Sim yJ0_charAt_5068e cJ0_charAt_5068e 2 (some .char) rJ0_charAt_5068e 0 fJ0_charAt_5068e_0 := zsS (z_aload_n (j := 0) dJ0_charAt_5068e_0 rfl (z_callT (rk := 1) kJ0_isLatin1_aae02 dJ0_charAt_5068e_1 qJ0_charAt_5068e_J0_isLatin1_aae02 wd_540 wd_541 wd_542 (z_ifeq (tgt := 16) dJ0_charAt_5068e_4 (by decide) (z_aload_n (j := 0) dJ0_charAt_5068e_16 rfl (z_strVal dJ0_charAt_5068e_17 wd_1826 (z_iload_n (j := 1) dJ0_charAt_5068e_20 rfl z_none))) (z_aload_n (j := 0) dJ0_charAt_5068e_7 rfl (z_strVal dJ0_charAt_5068e_8 wd_1826 (z_iload_n (j := 1) dJ0_charAt_5068e_11 rfl (z_callS (rk := 1) kJ1_charAt_3b067 dJ0_charAt_5068e_12 qJ0_charAt_5068e_J1_charAt_3b067 wd_544 wd_545 (z_zreturn rfl nar_c dJ0_charAt_5068e_15))))))))
noncomputable def gJ0_charAt_5068e : zG := fun av μ => if (zlv0 av).length ≤ 2 then fJ0_charAt_5068e_0 (zlv 2 av) [] μ else none
theorem kJ0_charAt_5068e : Con yJ0_charAt_5068e cJ0_charAt_5068e 2 (some .char) rJ0_charAt_5068e gJ0_charAt_5068e := con_of (by decide) ⟨rfl, rfl⟩ sJ0_charAt_5068e_0
