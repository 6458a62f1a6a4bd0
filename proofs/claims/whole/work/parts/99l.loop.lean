/-! ===== the law: its table and its loop (the table printed) ===== -/
section LAWLOOP
variable {p : Program} {l : Launch} {e : Env} {s : State} {m : MethodId} {args : Array Value} {below : List Frame} {meth : Method} {c : Code} {H : Heap} {locs : List Loc} {Q : State → Prop} {ca sl : Nat}
theorem ld_33 : decode code 33 = .ok (.tableswitch 1430 0 50 #[219, 282, 305, 318, 331, 344, 367, 390, 403, 426, 449, 524, 547, 570, 593, 642, 665, 678, 691, 714, 737, 760, 783, 806, 819, 842, 865, 888, 911, 934, 957, 980, 1003, 1026, 1049, 1072, 1095, 1108, 1121, 1144, 1167, 1190, 1223, 1256, 1279, 1312, 1345, 1358, 1381, 1394, 1417], 219) := by decide +kernel
set_option maxRecDepth 20000 in
theorem lw_table {E : zE} {b L : Nat} {xs : Nat → Int32} {ls : Array Slot} {i ct : Nat} {μ : zM} {v : Int32} (X : LW0 p s m args c E b L xs) (hl : LWL E ls b i) (hP : zP E μ H) (hS : va_S (zA E) s.heap H locs) (hR : REL μ ct) (hc : ct ≤ 600) (hL : L < 2 ^ 31) (hi : i + 7 ≤ L) (hr : ca ≤ room_1.cells ∧ sl ≤ room_1.slots) (kk : ∀ (H1 : Heap) (locs1 : List Loc) (μ1 : zM), zP E μ1 H1 → va_S (zA E) s.heap H1 locs1 → REL μ1 (ct + 1) → W p l e room_1 s m args below meth c H1 locs1 ca sl Q (F0 m 1463 ls [])) : W p l e room_1 s m args below meth c H locs ca sl Q (F0 m 33 ls [.int v]) := by
  by_cases h1 : v.toInt < 0
  · exact lv_tableOut X.1 X.2.1 ld_33 (Or.inl h1) (tgt := 1463) rfl (kk H locs μ hP hS (hR.up (by omega)))
  by_cases h2 : 50 < v.toInt
  · exact lv_tableOut X.1 X.2.1 ld_33 (Or.inr h2) (tgt := 1463) rfl (kk H locs μ hP hS (hR.up (by omega)))
  obtain ⟨n, hn, hn2⟩ : ∃ n : Nat, v.toInt = (n : Int) ∧ n ≤ 50 := ⟨v.toInt.toNat, by omega, by omega⟩
  have hidx : (v.toInt - 0).toNat = n := by omega
  have hb : n = 0 ∨ n = 1 ∨ n = 2 ∨ n = 3 ∨ n = 4 ∨ n = 5 ∨ n = 6 ∨ n = 7 ∨ n = 8 ∨ n = 9 ∨ n = 10 ∨ n = 11 ∨ n = 12 ∨ n = 13 ∨ n = 14 ∨ n = 15 ∨ n = 16 ∨ n = 17 ∨ n = 18 ∨ n = 19 ∨ n = 20 ∨ n = 21 ∨ n = 22 ∨ n = 23 ∨ n = 24 ∨ n = 25 ∨ n = 26 ∨ n = 27 ∨ n = 28 ∨ n = 29 ∨ n = 30 ∨ n = 31 ∨ n = 32 ∨ n = 33 ∨ n = 34 ∨ n = 35 ∨ n = 36 ∨ n = 37 ∨ n = 38 ∨ n = 39 ∨ n = 40 ∨ n = 41 ∨ n = 42 ∨ n = 43 ∨ n = 44 ∨ n = 45 ∨ n = 46 ∨ n = 47 ∨ n = 48 ∨ n = 49 ∨ n = 50 := by omega
  rcases hb with hk | hk | hk | hk | hk | hk | hk | hk | hk | hk | hk | hk | hk | hk | hk | hk | hk | hk | hk | hk | hk | hk | hk | hk | hk | hk | hk | hk | hk | hk | hk | hk | hk | hk | hk | hk | hk | hk | hk | hk | hk | hk | hk | hk | hk | hk | hk | hk | hk | hk | hk
  · exact lv_tableIn (off := 219) (tgt := 252) X.1 X.2.1 ld_33 h1 h2 (by rw [hidx, hk]; rfl) rfl (lw_c0 X hl hP hS hR hc hL hi hr kk)
  · exact lv_tableIn (off := 282) (tgt := 315) X.1 X.2.1 ld_33 h1 h2 (by rw [hidx, hk]; rfl) rfl (lw_c1 X hl hP hS hR hc hL hi hr kk)
  · exact lv_tableIn (off := 305) (tgt := 338) X.1 X.2.1 ld_33 h1 h2 (by rw [hidx, hk]; rfl) rfl (lw_c2 X hl hP hS hR hc hL hi hr kk)
  · exact lv_tableIn (off := 318) (tgt := 351) X.1 X.2.1 ld_33 h1 h2 (by rw [hidx, hk]; rfl) rfl (lw_c3 X hl hP hS hR hc hL hi hr kk)
  · exact lv_tableIn (off := 331) (tgt := 364) X.1 X.2.1 ld_33 h1 h2 (by rw [hidx, hk]; rfl) rfl (lw_c4 X hl hP hS hR hc hL hi hr kk)
  · exact lv_tableIn (off := 344) (tgt := 377) X.1 X.2.1 ld_33 h1 h2 (by rw [hidx, hk]; rfl) rfl (lw_c5 X hl hP hS hR hc hL hi hr kk)
  · exact lv_tableIn (off := 367) (tgt := 400) X.1 X.2.1 ld_33 h1 h2 (by rw [hidx, hk]; rfl) rfl (lw_c6 X hl hP hS hR hc hL hi hr kk)
  · exact lv_tableIn (off := 390) (tgt := 423) X.1 X.2.1 ld_33 h1 h2 (by rw [hidx, hk]; rfl) rfl (lw_c7 X hl hP hS hR hc hL hi hr kk)
  · exact lv_tableIn (off := 403) (tgt := 436) X.1 X.2.1 ld_33 h1 h2 (by rw [hidx, hk]; rfl) rfl (lw_c8 X hl hP hS hR hc hL hi hr kk)
  · exact lv_tableIn (off := 426) (tgt := 459) X.1 X.2.1 ld_33 h1 h2 (by rw [hidx, hk]; rfl) rfl (lw_c9 X hl hP hS hR hc hL hi hr kk)
  · exact lv_tableIn (off := 449) (tgt := 482) X.1 X.2.1 ld_33 h1 h2 (by rw [hidx, hk]; rfl) rfl (lw_c10 X hl hP hS hR hc hL hi hr kk)
  · exact lv_tableIn (off := 524) (tgt := 557) X.1 X.2.1 ld_33 h1 h2 (by rw [hidx, hk]; rfl) rfl (lw_c11 X hl hP hS hR hc hL hi hr kk)
  · exact lv_tableIn (off := 547) (tgt := 580) X.1 X.2.1 ld_33 h1 h2 (by rw [hidx, hk]; rfl) rfl (lw_c12 X hl hP hS hR hc hL hi hr kk)
  · exact lv_tableIn (off := 570) (tgt := 603) X.1 X.2.1 ld_33 h1 h2 (by rw [hidx, hk]; rfl) rfl (lw_c13 X hl hP hS hR hc hL hi hr kk)
  · exact lv_tableIn (off := 593) (tgt := 626) X.1 X.2.1 ld_33 h1 h2 (by rw [hidx, hk]; rfl) rfl (lw_c14 X hl hP hS hR hc hL hi hr kk)
  · exact lv_tableIn (off := 642) (tgt := 675) X.1 X.2.1 ld_33 h1 h2 (by rw [hidx, hk]; rfl) rfl (lw_c15 X hl hP hS hR hc hL hi hr kk)
  · exact lv_tableIn (off := 665) (tgt := 698) X.1 X.2.1 ld_33 h1 h2 (by rw [hidx, hk]; rfl) rfl (lw_c16 X hl hP hS hR hc hL hi hr kk)
  · exact lv_tableIn (off := 678) (tgt := 711) X.1 X.2.1 ld_33 h1 h2 (by rw [hidx, hk]; rfl) rfl (lw_c17 X hl hP hS hR hc hL hi hr kk)
  · exact lv_tableIn (off := 691) (tgt := 724) X.1 X.2.1 ld_33 h1 h2 (by rw [hidx, hk]; rfl) rfl (lw_c18 X hl hP hS hR hc hL hi hr kk)
  · exact lv_tableIn (off := 714) (tgt := 747) X.1 X.2.1 ld_33 h1 h2 (by rw [hidx, hk]; rfl) rfl (lw_c19 X hl hP hS hR hc hL hi hr kk)
  · exact lv_tableIn (off := 737) (tgt := 770) X.1 X.2.1 ld_33 h1 h2 (by rw [hidx, hk]; rfl) rfl (lw_c20 X hl hP hS hR hc hL hi hr kk)
  · exact lv_tableIn (off := 760) (tgt := 793) X.1 X.2.1 ld_33 h1 h2 (by rw [hidx, hk]; rfl) rfl (lw_c21 X hl hP hS hR hc hL hi hr kk)
  · exact lv_tableIn (off := 783) (tgt := 816) X.1 X.2.1 ld_33 h1 h2 (by rw [hidx, hk]; rfl) rfl (lw_c22 X hl hP hS hR hc hL hi hr kk)
  · exact lv_tableIn (off := 806) (tgt := 839) X.1 X.2.1 ld_33 h1 h2 (by rw [hidx, hk]; rfl) rfl (lw_c23 X hl hP hS hR hc hL hi hr kk)
  · exact lv_tableIn (off := 819) (tgt := 852) X.1 X.2.1 ld_33 h1 h2 (by rw [hidx, hk]; rfl) rfl (lw_c24 X hl hP hS hR hc hL hi hr kk)
  · exact lv_tableIn (off := 842) (tgt := 875) X.1 X.2.1 ld_33 h1 h2 (by rw [hidx, hk]; rfl) rfl (lw_c25 X hl hP hS hR hc hL hi hr kk)
  · exact lv_tableIn (off := 865) (tgt := 898) X.1 X.2.1 ld_33 h1 h2 (by rw [hidx, hk]; rfl) rfl (lw_c26 X hl hP hS hR hc hL hi hr kk)
  · exact lv_tableIn (off := 888) (tgt := 921) X.1 X.2.1 ld_33 h1 h2 (by rw [hidx, hk]; rfl) rfl (lw_c27 X hl hP hS hR hc hL hi hr kk)
  · exact lv_tableIn (off := 911) (tgt := 944) X.1 X.2.1 ld_33 h1 h2 (by rw [hidx, hk]; rfl) rfl (lw_c28 X hl hP hS hR hc hL hi hr kk)
  · exact lv_tableIn (off := 934) (tgt := 967) X.1 X.2.1 ld_33 h1 h2 (by rw [hidx, hk]; rfl) rfl (lw_c29 X hl hP hS hR hc hL hi hr kk)
  · exact lv_tableIn (off := 957) (tgt := 990) X.1 X.2.1 ld_33 h1 h2 (by rw [hidx, hk]; rfl) rfl (lw_c30 X hl hP hS hR hc hL hi hr kk)
  · exact lv_tableIn (off := 980) (tgt := 1013) X.1 X.2.1 ld_33 h1 h2 (by rw [hidx, hk]; rfl) rfl (lw_c31 X hl hP hS hR hc hL hi hr kk)
  · exact lv_tableIn (off := 1003) (tgt := 1036) X.1 X.2.1 ld_33 h1 h2 (by rw [hidx, hk]; rfl) rfl (lw_c32 X hl hP hS hR hc hL hi hr kk)
  · exact lv_tableIn (off := 1026) (tgt := 1059) X.1 X.2.1 ld_33 h1 h2 (by rw [hidx, hk]; rfl) rfl (lw_c33 X hl hP hS hR hc hL hi hr kk)
  · exact lv_tableIn (off := 1049) (tgt := 1082) X.1 X.2.1 ld_33 h1 h2 (by rw [hidx, hk]; rfl) rfl (lw_c34 X hl hP hS hR hc hL hi hr kk)
  · exact lv_tableIn (off := 1072) (tgt := 1105) X.1 X.2.1 ld_33 h1 h2 (by rw [hidx, hk]; rfl) rfl (lw_c35 X hl hP hS hR hc hL hi hr kk)
  · exact lv_tableIn (off := 1095) (tgt := 1128) X.1 X.2.1 ld_33 h1 h2 (by rw [hidx, hk]; rfl) rfl (lw_c36 X hl hP hS hR hc hL hi hr kk)
  · exact lv_tableIn (off := 1108) (tgt := 1141) X.1 X.2.1 ld_33 h1 h2 (by rw [hidx, hk]; rfl) rfl (lw_c37 X hl hP hS hR hc hL hi hr kk)
  · exact lv_tableIn (off := 1121) (tgt := 1154) X.1 X.2.1 ld_33 h1 h2 (by rw [hidx, hk]; rfl) rfl (lw_c38 X hl hP hS hR hc hL hi hr kk)
  · exact lv_tableIn (off := 1144) (tgt := 1177) X.1 X.2.1 ld_33 h1 h2 (by rw [hidx, hk]; rfl) rfl (lw_c39 X hl hP hS hR hc hL hi hr kk)
  · exact lv_tableIn (off := 1167) (tgt := 1200) X.1 X.2.1 ld_33 h1 h2 (by rw [hidx, hk]; rfl) rfl (lw_c40 X hl hP hS hR hc hL hi hr kk)
  · exact lv_tableIn (off := 1190) (tgt := 1223) X.1 X.2.1 ld_33 h1 h2 (by rw [hidx, hk]; rfl) rfl (lw_c41 X hl hP hS hR hc hL hi hr kk)
  · exact lv_tableIn (off := 1223) (tgt := 1256) X.1 X.2.1 ld_33 h1 h2 (by rw [hidx, hk]; rfl) rfl (lw_c42 X hl hP hS hR hc hL hi hr kk)
  · exact lv_tableIn (off := 1256) (tgt := 1289) X.1 X.2.1 ld_33 h1 h2 (by rw [hidx, hk]; rfl) rfl (lw_c43 X hl hP hS hR hc hL hi hr kk)
  · exact lv_tableIn (off := 1279) (tgt := 1312) X.1 X.2.1 ld_33 h1 h2 (by rw [hidx, hk]; rfl) rfl (lw_c44 X hl hP hS hR hc hL hi hr kk)
  · exact lv_tableIn (off := 1312) (tgt := 1345) X.1 X.2.1 ld_33 h1 h2 (by rw [hidx, hk]; rfl) rfl (lw_c45 X hl hP hS hR hc hL hi hr kk)
  · exact lv_tableIn (off := 1345) (tgt := 1378) X.1 X.2.1 ld_33 h1 h2 (by rw [hidx, hk]; rfl) rfl (lw_c46 X hl hP hS hR hc hL hi hr kk)
  · exact lv_tableIn (off := 1358) (tgt := 1391) X.1 X.2.1 ld_33 h1 h2 (by rw [hidx, hk]; rfl) rfl (lw_c47 X hl hP hS hR hc hL hi hr kk)
  · exact lv_tableIn (off := 1381) (tgt := 1414) X.1 X.2.1 ld_33 h1 h2 (by rw [hidx, hk]; rfl) rfl (lw_c48 X hl hP hS hR hc hL hi hr kk)
  · exact lv_tableIn (off := 1394) (tgt := 1427) X.1 X.2.1 ld_33 h1 h2 (by rw [hidx, hk]; rfl) rfl (lw_c49 X hl hP hS hR hc hL hi hr kk)
  · exact lv_tableIn (off := 1417) (tgt := 1450) X.1 X.2.1 ld_33 h1 h2 (by rw [hidx, hk]; rfl) rfl (lw_c50 X hl hP hS hR hc hL hi hr kk)
theorem lw_cmp {L i : Nat} (hL : L < 2 ^ 31) (hi : i < 2 ^ 31) (h : ¬ (nI L - 7 < nI i)) : i + 7 ≤ L := by
  by_cases h7 : 7 ≤ L
  · have e : nI L - 7 = nI (L - 7) := by
      have e1 : nI L = nI (L - 7) + 7 := by
        rw [show (7 : Int32) = nI 7 from rfl, nI_add, Nat.sub_add_cancel h7]
      rw [e1, Int32.add_sub_cancel]
    rw [e] at h
    rcases Nat.lt_or_ge (L - 7) i with z | z
    · exact absurd (nI_lt z hi) h
    · omega
  · exfalso
    apply h
    have z : nI L - 7 < 0 := by
      rcases (by omega : L = 0 ∨ L = 1 ∨ L = 2 ∨ L = 3 ∨ L = 4 ∨ L = 5 ∨ L = 6) with rfl | rfl | rfl | rfl | rfl | rfl | rfl <;> decide
    exact Int32.lt_of_lt_of_le z (nI_pos' hi)
set_option maxRecDepth 20000 in
theorem law_loop {E : zE} {b L : Nat} {xs : Nat → Int32} (X : LW0 p s m args c E b L xs) (hL : L ≤ 3584) (hr : ca ≤ room_1.cells ∧ sl ≤ room_1.slots) (kk : ∀ (H : Heap) (locs : List Loc) (ls : Array Slot), va_S (zA E) s.heap H locs → W p l e room_1 s m args below meth c H locs ca sl Q (F0 m 1469 ls [])) :
    ∀ (r ct : Nat) (H : Heap) (locs : List Loc) (ls : Array Slot) (μ : zM), L ≤ 7 * ct + r → lv_has ls 4 [(3, .int (nI (7 * ct))), (2, .ref (E.2.1 (11, 0))), (1, .ref (E.2.1 (10, 0))), (0, .ref b)] → zP E μ H → va_S (zA E) s.heap H locs → REL μ ct → ct ≤ 512 → W p l e room_1 s m args below meth c H locs ca sl Q (F0 m 18 ls []) := by
  intro r
  induction r with
  | zero =>
    intro ct H locs ls μ h1 hl hP hS hR hct
    refine lv_iload_n X.1 X.2.1 (show decode code 18 = .ok (.iload_n 3, 1) by decide +kernel) rfl (lv_at hl 0 rfl) ?_
    refine lv_aload_n X.1 X.2.1 (show decode code 19 = .ok (.aload_n 0, 1) by decide +kernel) rfl (lv_at hl 3 rfl) ?_
    refine va_slen X.1 X.2.1 X.2.2.2.2.2.1.1 X.2.2.2.2.2.1.2.1 X.2.2.2.2.2.1.2.2 hS (show decode code 20 = .ok (.arraylength, 1) by decide +kernel) ?_
    refine lv_bipush (v := 7) X.1 X.2.1 (show decode code 21 = .ok (.bipush 7, 2) by decide +kernel) (by decide) ?_
    refine lv_isub X.1 X.2.1 (show decode code 23 = .ok (.isub, 1) by decide +kernel) ?_
    refine lv_icmp_gt X.1 X.2.1 (show decode code 24 = .ok (.if_icmp .gt 1445, 3) by decide +kernel) (tgt := 1469) rfl (fun _ => kk H locs ls hS) (fun h => ?_)
    have := lw_cmp (i := 7 * ct) (show L < 2 ^ 31 by omega) (show 7 * ct < 2 ^ 31 by omega) h
    omega
  | succ r ih =>
    intro ct H locs ls μ h1 hl hP hS hR hct
    refine lv_iload_n X.1 X.2.1 (show decode code 18 = .ok (.iload_n 3, 1) by decide +kernel) rfl (lv_at hl 0 rfl) ?_
    refine lv_aload_n X.1 X.2.1 (show decode code 19 = .ok (.aload_n 0, 1) by decide +kernel) rfl (lv_at hl 3 rfl) ?_
    refine va_slen X.1 X.2.1 X.2.2.2.2.2.1.1 X.2.2.2.2.2.1.2.1 X.2.2.2.2.2.1.2.2 hS (show decode code 20 = .ok (.arraylength, 1) by decide +kernel) ?_
    refine lv_bipush (v := 7) X.1 X.2.1 (show decode code 21 = .ok (.bipush 7, 2) by decide +kernel) (by decide) ?_
    refine lv_isub X.1 X.2.1 (show decode code 23 = .ok (.isub, 1) by decide +kernel) ?_
    refine lv_icmp_gt X.1 X.2.1 (show decode code 24 = .ok (.if_icmp .gt 1445, 3) by decide +kernel) (tgt := 1469) rfl (fun _ => kk H locs ls hS) (fun h => ?_)
    have hi := lw_cmp (i := 7 * ct) (show L < 2 ^ 31 by omega) (show 7 * ct < 2 ^ 31 by omega) h
    have hLW : LWL E ls b (7 * ct) := ⟨hl.1, lv_at hl 3 rfl, lv_at hl 2 rfl, lv_at hl 1 rfl, lv_at hl 0 rfl⟩
    refine lv_aload_n X.1 X.2.1 (show decode code 27 = .ok (.aload_n 0, 1) by decide +kernel) rfl (lv_at hl 3 rfl) ?_
    refine lv_iload_n X.1 X.2.1 (show decode code 28 = .ok (.iload_n 3, 1) by decide +kernel) rfl (lv_at hl 0 rfl) ?_
    refine va_sld X.1 X.2.1 X.2.2.2.2.2.1.1 X.2.2.2.2.2.1.2.1 X.2.2.2.2.2.1.2.2 hS (nI_in (show 7 * ct < L by omega) (by omega)) (show decode code 29 = .ok (.iaload, 1) by decide +kernel) ?_
    refine lv_bipush (v := 63) X.1 X.2.1 (show decode code 30 = .ok (.bipush 63, 2) by decide +kernel) (by decide) ?_
    refine lv_iand X.1 X.2.1 (show decode code 32 = .ok (.iand, 1) by decide +kernel) ?_
    refine lw_table X hLW hP hS hR (by omega) (by omega) hi hr (fun H1 locs1 μ1 hP1 hS1 hR1 => ?_)
    refine lv_iinc (x := nI (7 * ct)) (v := nI (7 * (ct + 1))) X.1 X.2.1 (show decode code 1463 = .ok (.iinc 3 7, 3) by decide +kernel) hl (k := 0) rfl (by rw [show Int32.ofInt 7 = nI 7 from by decide, nI_add]; rfl) (by decide) rfl (fun ls4 hl4 => ?_)
    have hl4 : lv_has ls4 4 [(3, .int (nI (7 * (ct + 1)))), (2, .ref (E.2.1 (11, 0))), (1, .ref (E.2.1 (10, 0))), (0, .ref b)] := hl4
    refine lv_goto X.1 X.2.1 (show decode code 1466 = .ok (.goto (-1448), 3) by decide +kernel) (tgt := 18) rfl ?_
    exact ih (ct + 1) H1 locs1 ls4 μ1 (by omega) hl4 hP1 hS1 hR1 (by omega)
end LAWLOOP
