/-! ===== rows on objects of the memory while others are made ===== -/
section CEROW
variable {p : Program} {l : Launch} {e : Env} {R : Room} {s : State} {m : MethodId} {args : Array Value} {below : List Frame} {meth : Method} {c : Code} {H : Heap} {locs : List Loc} {cells slots : Nat} {Q : State → Prop}
variable {own : String} {cc : ByteArray} {nL pc : Nat} {ls : Array Slot} {rest : List Value} {A : Nat → Prop} {N0 : Nat} {E : zE} {μ μ1 : zM} {raw : va_W}
theorem c_getR (X : cX own cc nL p s m args c) (hI : cI A N0 s E μ [] H locs) {ho : zH} {fds : List zFT} {k kk0 ii idx : Nat} (hh : ho ∈ E.2.2.1) (hs : zS ho.1 ho.2 = .inl fds) (hf : fds[k]? = some (fR kk0 ii)) {C : String} {T : u_T} {N : Nat} (hc : vwCl[ho.1]? = some (C, T, N)) (hin : ∀ w ∈ u_ws C T N, w ∈ zW) (hk : k < N) (hl : Cond.fieldLink own idx (T k).1 (T k).2.1 (T k).2.2.1 ∈ zW) (hd : decode cc pc = .ok (.getfield idx, 3))
    (kk : W p l e R s m args below meth c H locs cells slots Q (F0 m (pc + 3) ls (.ref (E.2.1 (kk0, ii)) :: rest))) : W p l e R s m args below meth c H locs cells slots Q (F0 m pc ls (.ref (E.2.1 ho) :: rest)) := by
  obtain ⟨q0, hq0⟩ := zws_get (μ := μ) hh
  rw [zcell_obj hs] at hq0
  exact c_getN q0 X hI hq0 hc hin hk hl (zfs_get fds 0 k _ hf) hd kk
theorem c_iast (X : cX own cc nL p s m args c) (hI : cI A N0 s E μ [] H locs) {h : zH} {n : Nat} {q : zH} (hh : h ∈ E.2.2.1) (hs : zS h.1 h.2 = .inr (0, n, q)) {j x : Int32} (hin : vp_in j n) (hd : decode cc pc = .ok (.iastore, 1))
    (kk : ∀ (H1 : Heap) (locs1 : List Loc), cI A N0 s E (zup μ.1 h j.toNatClampNeg x, μ.2) [] H1 locs1 → W p l e R s m args below meth c H1 locs1 cells slots Q (F0 m (pc + 1) ls rest)) : W p l e R s m args below meth c H locs cells slots Q (F0 m pc ls (.int x :: .int j :: .ref (E.2.1 h) :: rest)) := by
  obtain ⟨hC, hE, hW, hS⟩ := hI
  obtain ⟨q0, hq0⟩ := zws_get (μ := μ) hh
  have hset := zws_set (μ' := (zup μ.1 h j.toNatClampNeg x, μ.2)) hW.D hq0 hh (zcell_0 hs) (fun h' _ z => zcell_congr (zup_ne z) rfl rfl)
  rw [zcell_0 hs] at hq0
  refine va_iast X.1 X.2.1 hE.1.1 hW.P hW.D hS q0 0 hq0 rfl hin hd (fun H1 locs1 hP1 hD1 hS1 => ?_)
  have e1 : upd (μ.1 h.1 h.2) j.toNatClampNeg x = zup μ.1 h j.toNatClampNeg x h.1 h.2 := (zup_at _ _ _ _).symm
  rw [e1] at hP1 hD1
  have hP1 : va_P E.1 vwCl ((zws E μ).set q0 (E.2.1 h, .inl (E.2.2.2.1 0, n, .inl (zup μ.1 h j.toNatClampNeg x h.1 h.2)))) H1 := hP1
  have hD1 : va_D A ((zws E μ).set q0 (E.2.1 h, .inl (E.2.2.2.1 0, n, .inl (zup μ.1 h j.toNatClampNeg x h.1 h.2)))) := hD1
  rw [hset] at hP1 hD1
  exact kk H1 locs1 ⟨hC, hE, CW.of (raw := []) hP1 hD1, hS1⟩
end CEROW
/-! ===== BaggageHandlingModel(): the loop over the positions ===== -/
def FM (μ : zM) : Prop := μ.1 11 0 1 = 0 ∧ μ.1 11 0 2 = -2 ∧ SU0 (μ.1 63 0) ∧ begW (μ.1 65 0) ∧ μ.1 11 0 14 = 0
def rX11_init : Room := { frames := 1, cells := 12, slots := 19000, locals := 23 }
theorem zup_63 (f : Nat → Nat → Nat → Int32) (n : Nat) (v : Int32) (z : Nat) : zup f (63, 0) n v 63 0 z = if z = n then v else f 63 0 z := by
  unfold zup
  by_cases h : z = n
  · rw [if_pos ⟨rfl, rfl, h⟩, if_pos h]
  · rw [if_neg (fun w => h w.2.2), if_neg h]
section MLOOP
variable {p : Program} {l : Launch} {e : Env} {s : State} {m : MethodId} {args : Array Value} {below : List Frame} {meth : Method} {c : Code} {Q : State → Prop}
set_option maxRecDepth 20000 in
theorem model_loop {A : Nat → Prop} {N0 a ca sl : Nat} {E1 : zE} {μ1 : zM} (X : cX RX11 cX11_init 2 p s m args c) (h11 : (11, 0) ∈ E1.2.2.1) (h63 : (63, 0) ∈ E1.2.2.1) (e11 : E1.2.1 (11, 0) = a)
    (kk : ∀ (H : Heap) (locs : List Loc) (μ2 : zM) (ls : Array Slot), lv_has ls 2 [(1, .int (nI 60)), (0, .ref a)] → SU0 (μ2.1 63 0) → (∀ h, h ≠ (63, 0) → zag μ1 μ2 h) → cI A N0 s E1 μ2 [] H locs → W p l e rX11_init s m args below meth c H locs ca sl Q (F0 m 159 ls [])) :
    ∀ (r k : Nat) (H : Heap) (locs : List Loc) (μ2 : zM) (ls : Array Slot), k + r = 60 → lv_has ls 2 [(1, .int (nI k)), (0, .ref a)] → SU0 (μ2.1 63 0) → (∀ h, h ≠ (63, 0) → zag μ1 μ2 h) → cI A N0 s E1 μ2 [] H locs → W p l e rX11_init s m args below meth c H locs ca sl Q (F0 m 137 ls []) := by
  intro r
  induction r with
  | zero =>
    intro k H locs μ2 ls hk hl hu hz hI
    have hk : k = 60 := by omega
    subst hk
    refine lv_iload_n X.1 X.2.1 dX11_init_137 rfl (lv_at hl 0 rfl) ?_
    refine lv_bipush (v := 60) X.1 X.2.1 dX11_init_138 (by decide) ?_
    refine lv_icmp_ge X.1 X.2.1 dX11_init_140 (tgt := 159) rfl (fun _ => ?_) (fun h => absurd (show (60 : Int32) ≤ nI 60 by decide) h)
    exact kk H locs μ2 ls hl hu hz hI
  | succ r ih =>
    intro k H locs μ2 ls hk hl hu hz hI
    have hk60 : k < 60 := by omega
    refine lv_iload_n X.1 X.2.1 dX11_init_137 rfl (lv_at hl 0 rfl) ?_
    refine lv_bipush (v := 60) X.1 X.2.1 dX11_init_138 (by decide) ?_
    refine lv_icmp_ge X.1 X.2.1 dX11_init_140 (tgt := 159) rfl (fun h => absurd (nI_lt (b := 60) hk60 (by decide)) (Int32.not_lt.mpr h)) (fun _ => ?_)
    refine lv_aload_n X.1 X.2.1 dX11_init_143 rfl (lv_at hl 1 rfl) ?_
    refine W.eq (g2 := F0 m 144 ls [.ref (E1.2.1 (11, 0))]) (by rw [e11]) ?_
    refine c_getR X hI (C := RX11) (T := TX11) (N := 22) (k := 3) (kk0 := 63) (ii := 0) h11 rfl rfl rfl inX11 (by decide) wi_1231 dX11_init_144 ?_
    refine lv_bipush (v := 20) X.1 X.2.1 dX11_init_147 (by decide) ?_
    refine lv_iload_n X.1 X.2.1 dX11_init_149 rfl (lv_at hl 0 rfl) ?_
    refine lv_iadd X.1 X.2.1 dX11_init_150 ?_
    refine lv_iconst (v := 0) X.1 X.2.1 dX11_init_151 (by decide) ?_
    refine W.eq (g2 := F0 m 152 ls [.int 0, .int (nI (20 + k)), .ref (E1.2.1 (63, 0))]) (by rw [show (20 : Int32) + nI k = nI (20 + k) from nI_add 20 k]) ?_
    refine c_iast X hI h63 (n := 400) rfl (nI_in (show 20 + k < 400 by omega) (by decide)) dX11_init_152 (fun H1 locs1 hI => ?_)
    rw [nI_clamp (show 20 + k < 2 ^ 31 by omega)] at hI
    refine lv_iinc (x := nI k) (v := nI (k + 1)) X.1 X.2.1 dX11_init_153 hl (k := 0) rfl (by rw [show Int32.ofInt 1 = 1 from by decide]; exact nI_1 k) (by decide) rfl (fun ls4 hl4 => ?_)
    have hl4 : lv_has ls4 2 [(1, .int (nI (k + 1))), (0, .ref a)] := hl4
    refine lv_goto X.1 X.2.1 dX11_init_156 (tgt := 137) rfl ?_
    refine ih (k + 1) H1 locs1 (zup μ2.1 (63, 0) (20 + k) 0, μ2.2) ls4 (by omega) hl4 ?_ (fun h n => (hz h n).trans ⟨zup_ne n, rfl, rfl⟩) hI
    obtain ⟨u1, u2, u3, u4⟩ := hu
    have hz' : ∀ z, zup μ2.1 (63, 0) (20 + k) 0 63 0 z = if z = 20 + k then 0 else μ2.1 63 0 z := zup_63 _ _ _
    refine ⟨?_, ?_, ?_, fun z z1 z2 z3 z4 => ?_⟩
    · show zup μ2.1 (63, 0) (20 + k) 0 63 0 0 = 10
      rw [hz', if_neg (by omega)]; exact u1
    · show zup μ2.1 (63, 0) (20 + k) 0 63 0 2 = 1
      rw [hz', if_neg (by omega)]; exact u2
    · show zup μ2.1 (63, 0) (20 + k) 0 63 0 3 = 3
      rw [hz', if_neg (by omega)]; exact u3
    · show zup μ2.1 (63, 0) (20 + k) 0 63 0 z = 0
      rw [hz']
      by_cases h : z = 20 + k
      · rw [if_pos h]
      · rw [if_neg h]; exact u4 z z1 z2 z3 z4
end MLOOP
