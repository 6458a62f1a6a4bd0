/-! ===== History(setup) ===== -/
section CHIST
variable {p : Program} {l : Launch} {e : Env} {R : Room} {s : State} {m : MethodId} {args : Array Value} {below : List Frame} {meth : Method} {c : Code} {H : Heap} {locs : List Loc} {cells slots : Nat} {Q : State → Prop}
variable {own : String} {cc : ByteArray} {nL pc : Nat} {ls : Array Slot} {rest : List Value} {A : Nat → Prop} {N0 : Nat} {E : zE} {μ μ1 : zM} {raw : va_W}
theorem c_newq (X : cX own cc nL p s m args c) (hI : cI A N0 s E μ raw H locs) (hA : ∀ q, s.heap.size ≤ q → A q) {idx N' : Nat} {n : Int32} (hcl : Cond.classLink own idx RX9 ∈ zW) (n0 : ¬ n < 0) (nN : n.toNatClampNeg = N') (hbytes : N' * 4 ≤ 536870912) (hcells : cells + 1 ≤ R.cells) (hslots : slots + N' ≤ R.slots) (hd : decode cc pc = .ok (.anewarray idx, 3))
    (kk : ∀ (q : Nat) (H1 : Heap), cI A N0 s E μ ((q, .inl (E.2.2.2.1 2, N', .inr (.inr (.inr (.inr (fun _ => none)))))) :: raw) H1 locs → W p l e R s m args below meth c H1 locs (cells + 1) (slots + N') Q (F0 m (pc + 3) ls (.ref q :: rest))) : W p l e R s m args below meth c H locs cells slots Q (F0 m pc ls (.int n :: rest)) := by
  obtain ⟨hC, hE, hW, hS⟩ := hI
  have hK := hE.1.1
  refine va_newq (C := RX9) X.1 X.2.1 X.2.2.2.1 (X.2.2.2.2 _ hcl) hE.2.1 hK hW.P hW.D hS hA n0 nN hbytes hcells hslots hd (fun q cA H1 hK1 hP1 hD1 hS1 => ?_)
  have hcA : E.2.2.2.1 2 = cA := by
    obtain ⟨_, _, -, -, -, k1⟩ := (hK1.2 4 (cA, .object RX9) rfl).2
    obtain ⟨_, _, -, -, -, k2⟩ := (hK.2 2 (E.2.2.2.1 2, .object RX9) rfl).2
    exact Option.some.inj (Eq.trans (Eq.symm k2) k1)
  subst hcA
  exact kk q H1 ⟨hC, hE, CW.push hP1 hD1, hS1⟩
theorem c_astq (X : cX own cc nL p s m args c) {x0 : Nat × va_E} {q n i : Nat} {f : Nat → Option Nat} (hI : cI A N0 s E μ [x0, (q, .inl (E.2.2.2.1 2, n, .inr (.inr (.inr (.inr f)))))] H locs) (hw : (9, i) ∈ E.2.2.1) {j : Int32} (hin : vp_in j n) (hd : decode cc pc = .ok (.aastore, 1))
    (kk : ∀ (H1 : Heap) (locs1 : List Loc), cI A N0 s E μ [x0, (q, .inl (E.2.2.2.1 2, n, .inr (.inr (.inr (.inr (va_up f j.toNatClampNeg (some (E.2.1 (9, i)))))))))] H1 locs1 → W p l e R s m args below meth c H1 locs1 cells slots Q (F0 m (pc + 1) ls rest)) : W p l e R s m args below meth c H locs cells slots Q (F0 m pc ls (.ref (E.2.1 (9, i)) :: .int j :: .ref q :: rest)) := by
  obtain ⟨hC, hE, hW, hS⟩ := hI
  obtain ⟨k, hk⟩ := zws_get (μ := μ) hw
  rw [zcell_obj (h := (9, i)) rfl] at hk
  have hk2 : ([x0, (q, .inl (E.2.2.2.1 2, n, .inr (.inr (.inr (.inr f)))))] ++ zws E μ)[2 + k]? = some (E.2.1 (9, i), .inr (9, zfs E μ (9, i) 0 [fM 5, fI, fI, fI, fR 57 i, fR 58 i, fR 4 (2 * i), fR 4 (2 * i + 1), fR 3 i, fR 0 i, fR 59 i, fR 60 i, fR 61 i])) := by
    rw [List.getElem?_append_right (by show 2 ≤ 2 + k; omega), show 2 + k - [x0, (q, (.inl (E.2.2.2.1 2, n, .inr (.inr (.inr (.inr f)))) : va_E))].length = k from by show 2 + k - 2 = k; omega]
    exact hk
  exact va_astq (r := (RX9, TX9, 13)) X.1 X.2.1 hE.1.1 hW.P hW.D hS 1 2 (2 + k) 9 rfl rfl hk2 rfl hin hd (fun H1 locs1 hP1 hD1 hS1 => kk H1 locs1 ⟨hC, hE, CW.of (raw := [x0, (q, .inl (E.2.2.2.1 2, n, .inr (.inr (.inr (.inr (va_up f j.toNatClampNeg (some (E.2.1 (9, i)))))))))]) hP1 hD1, hS1⟩)
end CHIST
theorem hX9_isW {i : Nat} {h : zH} (m : h ∈ hX9 i) : isW i h.1 h.2 := by
  simp only [List.mem_cons, List.not_mem_nil, or_false] at m
  rcases m with rfl | rfl | rfl | rfl | rfl | rfl | rfl | rfl | rfl | rfl | rfl | rfl | rfl | rfl | rfl | rfl | rfl | rfl | rfl | rfl | rfl | rfl | rfl | rfl | rfl | rfl | rfl | rfl | rfl <;> (unfold isW; dsimp only; omega)
theorem isW_eq {i j k x : Nat} (a : isW i k x) (b : isW j k x) : i = j := by
  unfold isW at a b
  omega
def hsW : Nat → List zH
  | 0 => []
  | k + 1 => hsW k ++ hX9 (2 + k)
theorem hsW_in {h : zH} : ∀ {n k : Nat}, k < n → h ∈ hX9 (2 + k) → h ∈ hsW n
  | 0, _, hk, _ => absurd hk (Nat.not_lt_zero _)
  | n + 1, k, hk, m => by
    by_cases e : k = n
    · subst e; exact List.mem_append_right _ m
    · exact List.mem_append_left _ (hsW_in (by omega) m)
theorem hsW_num {h : zH} : ∀ {n : Nat}, h ∈ hsW n → ∃ k, k < n ∧ h ∈ hX9 (2 + k)
  | 0, m => absurd m List.not_mem_nil
  | n + 1, m => by
    rcases List.mem_append.mp m with z | z
    · obtain ⟨k, h1, h2⟩ := hsW_num z
      exact ⟨k, by omega, h2⟩
    · exact ⟨n, by omega, z⟩
theorem hsW_not {h : zH} {n : Nat} (m : h ∈ hX9 (2 + n)) : h ∉ hsW n := by
  intro z
  obtain ⟨k, h1, h2⟩ := hsW_num z
  have := isW_eq (hX9_isW m) (hX9_isW h2)
  omega
theorem hX9_74 {i : Nat} {h : zH} (m : h ∈ hX9 i) : h.1 < 74 := by
  have := hX9_isW m
  unfold isW at this
  omega
theorem hsW_74 {n : Nat} {h : zH} (m : h ∈ hsW n) : h.1 < 74 := by
  obtain ⟨k, -, h2⟩ := hsW_num m
  exact hX9_74 h2
abbrev hX2 : List zH := hsW 10 ++ [(35, 0), (2, 0)]
def rX2_init : Room := { frames := 4, cells := 291, slots := 19420, locals := 85 }
theorem va_up_at (f : Nat → Option Nat) (k : Nat) (v : Option Nat) (j : Nat) : va_up f k v j = if j = k then v else f j := rfl
section HLOOP
variable {p : Program} {l : Launch} {e : Env} {s : State} {m : MethodId} {args : Array Value} {below : List Frame} {meth : Method} {c : Code} {Q : State → Prop}
set_option maxRecDepth 20000 in
theorem hist_loop {A : Nat → Prop} {N0 a h : Nat} {E : zE} {μ : zM} (X : cX RX2 cX2_init 3 p s m args c) (hok : (5, 0) ∈ E.2.2.1 ∧ (5, 1) ∈ E.2.2.1) (hfr : ∀ h ∈ hX2, h ∉ E.2.2.1) (hN0 : N0 ≤ s.heap.size) (hN : ∀ q, A q → N0 ≤ q) (hA : ∀ q, s.heap.size ≤ q → A q)
    (kk : ∀ (H : Heap) (locs : List Loc) (E1 : zE) (μ1 : zM) (f : Nat → Option Nat) (ls : Array Slot), Pg E μ E1 μ1 (hsW 10) → (∀ j, j < 10 → f j = some (E1.2.1 (9, 2 + j))) → cI A N0 s E1 μ1 [(a, .inr (2, [.ref h, .int 0, .int 0])), (h, .inl (E1.2.2.2.1 2, 10, .inr (.inr (.inr (.inr f)))))] H locs → W p l e rX2_init s m args below meth c H locs 291 19420 Q (F0 m 41 ls [])) :
    ∀ (r k : Nat) (H : Heap) (locs : List Loc) (E1 : zE) (μ1 : zM) (f : Nat → Option Nat) (ls : Array Slot), k + r = 10 → lv_has ls 3 [(2, .int (nI k)), (0, .ref a), (1, .ref (E.2.1 (5, 0)))] → Pg E μ E1 μ1 (hsW k) → (∀ j, j < k → f j = some (E1.2.1 (9, 2 + j))) → cI A N0 s E1 μ1 [(a, .inr (2, [.ref h, .int 0, .int 0])), (h, .inl (E1.2.2.2.1 2, 10, .inr (.inr (.inr (.inr f)))))] H locs → W p l e rX2_init s m args below meth c H locs (1 + 29 * k) (10 + 1941 * k) Q (F0 m 15 ls []) := by
  intro r
  induction r with
  | zero =>
    intro k H locs E1 μ1 f ls hk hl P hf hI
    have hk : k = 10 := by omega
    subst hk
    refine lv_iload_n X.1 X.2.1 dX2_init_15 rfl (lv_at hl 0 rfl) ?_
    refine lv_bipush (v := 10) X.1 X.2.1 dX2_init_16 (by decide) ?_
    refine lv_icmp_ge X.1 X.2.1 dX2_init_18 (tgt := 41) rfl (fun _ => ?_) (fun h => absurd (show (10 : Int32) ≤ nI 10 by decide) h)
    exact kk H locs E1 μ1 f ls P hf hI
  | succ r ih =>
    intro k H locs E1 μ1 f ls hk hl P hf hI
    have hk10 : k < 10 := by omega
    have nfr : ∀ h' ∈ hX9 (2 + k), h' ∉ E1.2.2.1 := fun h' z => P.fr hfr (List.mem_append_left _ (hsW_in hk10 z)) (hsW_not z)
    have e5 : E1.2.1 (5, 0) = E.2.1 (5, 0) := P.1.2.2.2 (5, 0) (fun z => by
      obtain ⟨j, hj, h2⟩ := hsW_num z
      exact hfr (5, 0) (List.mem_append_left _ (hsW_in (show j < 10 by omega) h2)) hok.1)
    refine lv_iload_n X.1 X.2.1 dX2_init_15 rfl (lv_at hl 0 rfl) ?_
    refine lv_bipush (v := 10) X.1 X.2.1 dX2_init_16 (by decide) ?_
    refine lv_icmp_ge X.1 X.2.1 dX2_init_18 (tgt := 41) rfl (fun h => absurd (nI_lt (b := 10) hk10 (by decide)) (Int32.not_lt.mpr h)) (fun _ => ?_)
    refine lv_aload_n X.1 X.2.1 dX2_init_21 rfl (lv_at hl 1 rfl) ?_
    refine c_get X hI (C := RX2) (T := TX2) (N := 3) (k := 0) rfl inX2 (by decide) wi_494 rfl dX2_init_22 ?_
    refine lv_iload_n X.1 X.2.1 dX2_init_25 rfl (lv_at hl 0 rfl) ?_
    refine c_new X hI hA (C := RX9) (T := TX9) (N := 13) (ci := 9) (fs := [.null, .int 0, .int 0, .int 0, .null, .null, .null, .null, .null, .null, .null, .null, .null]) rfl inX9 tyX9 tyX9_ok wi_491 wi_318 wi_112 (fun j hj => by rcases (by omega : j = 0 ∨ j = 1 ∨ j = 2 ∨ j = 3 ∨ j = 4 ∨ j = 5 ∨ j = 6 ∨ j = 7 ∨ j = 8 ∨ j = 9 ∨ j = 10 ∨ j = 11 ∨ j = 12) with rfl | rfl | rfl | rfl | rfl | rfl | rfl | rfl | rfl | rfl | rfl | rfl | rfl <;> rfl) (show 1 + 29 * k + 1 ≤ 291 by omega) (show 10 + 1941 * k + 13 ≤ 19420 by omega) dX2_init_26 (fun q H2 hI => ?_)
    refine lv_dup X.1 X.2.1 dX2_init_29 rfl ?_
    refine lv_aload_n X.1 X.2.1 dX2_init_30 rfl (lv_at hl 2 rfl) ?_
    refine W.eq (g2 := F0 m 31 ls (([Value.ref (E1.2.1 (5, 0))]).reverse ++ .ref q :: [.ref q, .int (nI k), .ref h])) (by rw [e5]; rfl) ?_
    refine c_callK (n := 1) (b := q) (rest := [.ref q, .int (nI k), .ref h]) X hI hA hN hN0 (kX9_init (2 + k)) ⟨P.inE hok.1, P.inE hok.2⟩ nfr (fun h' z => hX9_74 z) wi_493 wi_320 wi_321 wi_112 rfl ⟨by decide, by decide, by decide +kernel⟩ ⟨Nat.le_of_ble_eq_true rfl, Nat.le_of_ble_eq_true rfl⟩ ⟨show 1 + 29 * k + 1 + 28 ≤ 291 by omega, show 10 + 1941 * k + 13 + 1928 ≤ 19420 by omega⟩ hl.1 (Nat.le_of_ble_eq_true rfl) rfl dX2_init_31 (fun H3 locs3 E3 μ3 g3 e3 z3 y3 hI => ?_)
    have P3 : Pg E μ E3 μ3 (hsW (k + 1)) := P.step g3 z3
    have hc2 : E3.2.2.2 = E1.2.2.2 := g3.2.1
    rw [← hc2] at hI
    refine W.eq (g2 := F0 m 34 ls [.ref (E3.2.1 (9, 2 + k)), .int (nI k), .ref h]) (by rw [e3]) ?_
    have hin9 : (9, 2 + k) ∈ E3.2.2.1 := P3.in (List.mem_append_right _ (by simp))
    refine c_astq X hI hin9 (nI_in hk10 (by decide)) dX2_init_34 (fun H4 locs4 hI => ?_)
    rw [nI_clamp (show k < 2 ^ 31 by omega)] at hI
    refine lv_iinc (x := nI k) (v := nI (k + 1)) X.1 X.2.1 dX2_init_35 hl (k := 0) rfl (by rw [show Int32.ofInt 1 = 1 from by decide]; exact nI_1 k) (by decide) rfl (fun ls4 hl4 => ?_)
    have hl4 : lv_has ls4 3 [(2, .int (nI (k + 1))), (0, .ref a), (1, .ref (E.2.1 (5, 0)))] := hl4
    refine lv_goto X.1 X.2.1 dX2_init_38 (tgt := 15) rfl ?_
    refine W.widen (k := 1 + 29 * (k + 1)) (n := 10 + 1941 * (k + 1)) (show 1 + 29 * k + 1 + 28 ≤ 1 + 29 * (k + 1) by omega) (show 10 + 1941 * k + 13 + 1928 ≤ 10 + 1941 * (k + 1) by omega) ?_
    refine ih (k + 1) H4 locs4 E3 μ3 _ ls4 (by omega) hl4 P3 (fun j hj => ?_) hI
    rw [va_up_at]
    by_cases hjk : j = k
    · subst hjk; rw [if_pos rfl]
    · rw [if_neg hjk, hf j (by omega), g3.2.2.2 (9, 2 + j) (fun z => ?_)]
      have := isW_eq (hX9_isW z) (show isW (2 + j) 9 (2 + j) from Or.inl ⟨Or.inl rfl, rfl⟩)
      omega
end HLOOP
