/-! ===== a virtual call of the law ===== -/
theorem lw_goodIn {y' : MethodName} {cc' : ByteArray} {nL' : Nat} {ret' : Option FieldType} (h : Cond.code y' cc' nL' ret' ∈ zW) : GoodIn lw_tbl (zws0 y' cc' nL' ret') := by
  intro w hw
  have hz : w ∈ zW := by
    rcases List.mem_cons.mp hw with e | e
    · rw [e]; exact h
    · exact e
  exact ⟨(List.mem_filter.mp hz).1, zW_good hz⟩
section LAWCALL
variable {p : Program} {l : Launch} {e : Env} {R : Room} {s : State} {m : MethodId} {args : Array Value} {below : List Frame} {meth : Method} {c : Code} {H : Heap} {locs : List Loc} {Q : State → Prop}
theorem lw_callV {E : zE} {y' : MethodName} {cc' : ByteArray} {nL' : Nat} {ret' : Option FieldType} {R' : Room} {g : zG} {idx n kc N pc ca sl : Nat} {C : String} {T : u_T} {μ μ1 : zM} {b : zH} {av : List zV} {r1 : Option zV} {rest : List Value} {ls : Array Slot} (X1 : p.tables.exec = Jvm.exec) (X2 : c.code = code) (X3 : c.maxLocals = 4) (X4 : s.vm.findClass "BaggageHandlingLaw" = some m.cls) (ht : ∀ w ∈ lw_tbl, w.before args s = true) (hE : zEnv E s) (hC : zCl E) (hC' : Con y' cc' nL' ret' R' g) (hd : decode code pc = .ok (.invokevirtual idx, 3)) (hw : zCW y' R y' cc' nL' ret' R' n) (hl : Cond.methodLink "BaggageHandlingLaw" idx y' ∈ lw_tbl) (hin : Cond.instanceMethod y' ∈ zW) (hse : Cond.selects C y' y' ∈ zW) (hkc : vwCl[kc]? = some (C, T, N)) (hg : g (.inr (.inr b) :: av) μ = some (r1, μ1)) (hbk : b.1 = kc) (hbm : b ∈ E.2.2.1) (hav : ∀ v ∈ av, zok E v) (hn : av.length = n) (hrest : (rest.map fun v => v.category).sum ≤ 8) (hP : zP E μ H) (hS : va_S (zA E) s.heap H locs) (hls : ls.size = 4) (hroom : ca ≤ R.cells ∧ sl ≤ R.slots)
    (k : ∀ (H1 : Heap) (locs1 : List Loc), zP E μ1 H1 → (∀ v, r1 = some v → zok E v) → va_S (zA E) s.heap H1 locs1 → W p l e R s m args below meth c H1 locs1 ca sl Q (F0 m (pc + 3) ls ((r1.map (zval E)).toList ++ rest))) : W p l e R s m args below meth c H locs ca sl Q (F0 m pc ls ((av.map (zval E)).reverse ++ Value.ref (E.2.1 b) :: rest)) := by
  have hlt : kc < 12 := by have := (List.getElem?_eq_some_iff.mp hkc).1; simpa using this
  have hb7 : ¬ b.1 = 77 := by omega
  obtain ⟨q0, hq0⟩ := zws_get (μ := μ) hbm
  have hobj : ∃ fs, zS b.1 b.2 = .inl fs := by
    rw [hbk]
    have h12 : kc = 0 ∨ kc = 1 ∨ kc = 2 ∨ kc = 3 ∨ kc = 4 ∨ kc = 5 ∨ kc = 6 ∨ kc = 7 ∨ kc = 8 ∨ kc = 9 ∨ kc = 10 ∨ kc = 11 := by omega
    rcases h12 with z | z | z | z | z | z | z | z | z | z | z | z <;> rw [z] <;> exact ⟨_, rfl⟩
  obtain ⟨fs, hs⟩ := hobj
  rw [zcell_obj hs, hbk] at hq0
  have hav' : ∀ v ∈ (Sum.inr (Sum.inr b) :: av : List zV), zok E v := by
    intro v hv
    rcases List.mem_cons.mp hv with rfl | hv
    · exact Or.inl hbm
    · exact hav v hv
  have hM := hC' l E μ _ r1 μ1 hC hav' hg
  refine z_runG (E := E) (r := r1) (μ := μ1) (rest := rest) (va_runV (C := C) (b := E.2.1 b) (As := av.map (zval E)) (rest := rest) (nL := 4) (own := "BaggageHandlingLaw") (Ts := lw_tbl) (g := F0 m pc ls ((av.map (zval E)).reverse ++ Value.ref (E.2.1 b) :: rest)) (n := n) ⟨X1, X2, X3, X4, ht⟩ hM ⟨callB_of n ht (lw_goodIn hw.1) rfl hw.2.2.2.1 hw.2.2.2.2.1 (ht _ (List.mem_filter.mp hw.2.1).1) (ht _ hl) hw.2.2.1 hw.2.2.2.2.2, ht _ (List.mem_filter.mp hin).1, ht _ (List.mem_filter.mp hse).1⟩ ⟨zblind, va_recv hE.1 hP.1 hkc hq0, fun U hU hW => ⟨?_, zenv_at hE hS hU hW, by rw [hU]; exact hP⟩⟩ rfl ?_ hls rfl (lv_room ?_) hd hroom) hS k
  · rw [List.map_cons, zval_ref hb7]
  · rw [List.length_map]; exact hn
  · exact hrest
end LAWCALL
