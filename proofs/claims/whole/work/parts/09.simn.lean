/-! ===== nest mates, Strings' methods, the formatter, a method's contract ===== -/
section SIM
variable {y : MethodName} {cc : ByteArray} {nL : Nat} {ret : Option FieldType} {R : Room} {pc : Nat} {f : zD}
theorem z_callSN {y' : MethodName} {cc' : ByteArray} {nL' : Nat} {ret' : Option FieldType} {R' : Room} {g : zG} {idx n rk : Nat} (hC' : Con y' cc' nL' ret' R' g) (hd : decode cc pc = .ok (.invokestatic idx, 3)) (hw : zCW y R y' cc' nL' ret' R' n) (hl : (y.cls, idx, y') ∈ zNestM) (hst0 : Cond.static y' ∈ zW) (k : Sim y cc nL ret R (pc + 3) f) : Sim y cc nL ret R pc (cCallS n rk g f) := by
  intro p l e s m args below meth c E X μ H locs ls lv st r μ' hP hS hL hst hf
  unfold cCallS at hf
  split at hf
  · next hc =>
    obtain ⟨hn, hcat⟩ := hc
    cases hg : g (st.take n).reverse μ with
    | none => rw [hg] at hf; exact (zfin_none hf).elim
    | some q =>
      obtain ⟨r1, μ1⟩ := q
      rw [hg] at hf
      have hf := zfin_some hf
      have hE := X.2.2.2.2.2.2.2.1
      have hC := X.2.2.2.2.2.2.2.2
      have ht := X.2.2.2.2.1
      have hav : ∀ v ∈ (st.take n).reverse, zok E v := fun v hv => hst v (List.mem_of_mem_take (List.mem_reverse.mp hv))
      have hM := hC' l E μ _ r1 μ1 hC hav hg
      have hrest : ∀ v ∈ st.drop n, zok E v := fun w hw => hst w (List.mem_of_mem_drop hw)
      have hstk : st.map (zval E) = ((st.take n).reverse.map (zval E)).reverse ++ (st.drop n).map (zval E) := by
        rw [← List.map_reverse, List.reverse_reverse, ← List.map_append, List.take_append_drop]
      rw [hstk]
      refine z_run (E := E) (r := r1) (μ := μ1) (rest := (st.drop n).map (zval E)) (va_runSN (host := "BaggageHandling") (As := (st.take n).reverse.map (zval E)) (rest := (st.drop n).map (zval E)) (nL := nL) (own := y.cls) (Ts := zws0 y cc nL ret) (g := F0 m pc ls (((st.take n).reverse.map (zval E)).reverse ++ (st.drop n).map (zval E))) (n := n) ⟨X.1, X.2.1, X.2.2.1, X.2.2.2.1, ht⟩ hM ⟨va_cnB n ht (zW_goodIn hw.1) rfl hw.2.2.2.1 hw.2.2.2.2.1 (hE.2.2.2.1 _ hl) (ht _ (List.mem_cons_of_mem _ hw.2.1)) hw.2.2.1 hw.2.2.2.2.2, ht _ (List.mem_cons_of_mem _ hst0), trivial⟩ ⟨zblind, fun U hU hW => ⟨rfl, zenv_at hE hS hU hW, by rw [hU]; exact hP⟩⟩ rfl ?_ hL.1 rfl (lv_room ?_) hd ⟨Nat.zero_le _, Nat.zero_le _⟩) hS (fun H1 locs1 hP1 hok1 hS1 => ?_)
      · simp; omega
      · rw [zcats_eq hC _ hrest]; exact hcat
      · have kk := k p l e s m args below meth c E X μ1 H1 locs1 ls lv (r1.toList ++ st.drop n) r μ' hP1 hS1 hL (fun v hv => by
          rcases List.mem_append.mp hv with h | h
          · exact hok1 v (by cases r1 with
              | none => cases h
              | some w => simp at h; rw [h])
          · exact hrest v h) hf
        rw [List.map_append] at kk
        cases r1 with
        | none => exact kk
        | some w => exact kk
  · cases hf
/-- a call on a String -/
theorem z_callT {y' : MethodName} {cc' : ByteArray} {nL' : Nat} {ret' : Option FieldType} {R' : Room} {g : zG} {idx n rk : Nat} (hC' : Con y' cc' nL' ret' R' g) (hd : decode cc pc = .ok (.invokevirtual idx, 3)) (hw : zCW y R y' cc' nL' ret' R' n) (hl : Cond.methodLink y.cls idx y' ∈ zW) (hin : Cond.instanceMethod y' ∈ zW) (hse : Cond.selects "java/lang/String" y' y' ∈ zW) (k : Sim y cc nL ret R (pc + 3) f) : Sim y cc nL ret R pc (cCallV 75 n rk g f) := by
  intro p l e s m args below meth c E X μ H locs ls lv st r μ' hP hS hL hst hf
  unfold cCallV at hf
  split at hf
  · next hc =>
    obtain ⟨hn, hrc, hcat⟩ := hc
    cases hg : g (st.take (n + 1)).reverse μ with
    | none => rw [hg] at hf; exact (zfin_none hf).elim
    | some q =>
      obtain ⟨r1, μ1⟩ := q
      rw [hg] at hf
      have hf := zfin_some hf
      have hE := X.2.2.2.2.2.2.2.1
      have hC := X.2.2.2.2.2.2.2.2
      have ht := X.2.2.2.2.1
      have hget : st[n]? = some st[n] := List.getElem?_eq_getElem hn
      rw [hget] at hrc
      obtain ⟨b, hb⟩ : ∃ b : zH, st[n] = .inr (.inr b) := by
        revert hrc
        rcases st[n] with z | z | z
        · intro h; cases h
        · intro h; cases h
        · intro _; exact ⟨z, rfl⟩
      rw [hb] at hrc
      have hbk : b.1 = 75 := by simpa [zrcv] using hrc
      have hbok : zok E (.inr (.inr b)) := hst _ (by rw [← hb]; exact List.getElem_mem hn)
      have hb7 : ¬ b.1 = 77 := by omega
      have hlt : b.2 < 18 := by
        rcases hbok with q | q | q | q
        · have := (hC b q).1; omega
        · exact q.2
        · rw [q] at hbk; cases hbk
        · omega
      have hrecv : ∃ cell : Cell, H[E.2.1 b]? = some cell ∧ cell.vm.isStatics = false ∧ s.vm.findClass "java/lang/String" = some cell.cls := by
        have e2 : b = (75, b.2) := Prod.ext hbk rfl
        rw [e2]
        obtain ⟨cell, h1, h2, h3, -⟩ := (hE.2.1 b.2 hlt).1.kept hS.2.1
        exact ⟨cell, h1, h2, h3⟩
      have hsplit : st = st.take n ++ .inr (.inr b) :: st.drop (n + 1) := by
        rw [← hb, List.getElem_cons_drop, List.take_append_drop]
      have htk : (st.take (n + 1)).reverse = .inr (.inr b) :: (st.take n).reverse := by
        rw [List.take_succ, hget, hb]; simp
      rw [htk] at hg
      have hav : ∀ v ∈ (Sum.inr (Sum.inr b) :: (st.take n).reverse : List zV), zok E v := by
        intro v hv
        rcases List.mem_cons.mp hv with rfl | hv
        · exact hbok
        · exact hst v (List.mem_of_mem_take (List.mem_reverse.mp hv))
      have hM := hC' l E μ _ r1 μ1 hC hav hg
      have hrest : ∀ v ∈ st.drop (n + 1), zok E v := fun w hw => hst w (List.mem_of_mem_drop hw)
      have hstk : st.map (zval E) = ((st.take n).reverse.map (zval E)).reverse ++ Value.ref (E.2.1 b) :: (st.drop (n + 1)).map (zval E) := by
        rw [← List.map_reverse, List.reverse_reverse]
        conv => lhs; rw [hsplit]
        rw [List.map_append, List.map_cons, zval_ref hb7]
      rw [hstk]
      refine z_run (E := E) (r := r1) (μ := μ1) (rest := (st.drop (n + 1)).map (zval E)) (va_runV (C := "java/lang/String") (b := E.2.1 b) (As := (st.take n).reverse.map (zval E)) (rest := (st.drop (n + 1)).map (zval E)) (nL := nL) (own := y.cls) (Ts := zws0 y cc nL ret) (g := F0 m pc ls (((st.take n).reverse.map (zval E)).reverse ++ Value.ref (E.2.1 b) :: (st.drop (n + 1)).map (zval E))) (n := n) ⟨X.1, X.2.1, X.2.2.1, X.2.2.2.1, ht⟩ hM ⟨callB_of n ht (zW_goodIn hw.1) rfl hw.2.2.2.1 hw.2.2.2.2.1 (ht _ (List.mem_cons_of_mem _ hw.2.1)) (ht _ (List.mem_cons_of_mem _ hl)) hw.2.2.1 hw.2.2.2.2.2, ht _ (List.mem_cons_of_mem _ hin), ht _ (List.mem_cons_of_mem _ hse)⟩ ⟨zblind, hrecv, fun U hU hW => ⟨?_, zenv_at hE hS hU hW, by rw [hU]; exact hP⟩⟩ rfl ?_ hL.1 rfl (lv_room ?_) hd ⟨Nat.zero_le _, Nat.zero_le _⟩) hS (fun H1 locs1 hP1 hok1 hS1 => ?_)
      · rw [List.map_cons, zval_ref hb7]
      · simp; omega
      · rw [zcats_eq hC _ hrest]; exact hcat
      · have kk := k p l e s m args below meth c E X μ1 H1 locs1 ls lv (r1.toList ++ st.drop (n + 1)) r μ' hP1 hS1 hL (fun v hv => by
          rcases List.mem_append.mp hv with h | h
          · exact hok1 v (by cases r1 with
              | none => cases h
              | some w => simp at h; rw [h])
          · exact hrest v h) hf
        rw [List.map_append] at kk
        cases r1 with
        | none => exact kk
        | some w => exact kk
  · cases hf
theorem zlv0_has {E : zE} (hC : zCl E) : ∀ (vs : List zV) (n i : Nat) (v : zV), (∀ w ∈ vs, zok E w) → (zlv0 vs)[i]? = some (some v) → (n + i, zval E v) ∈ lv_args n (vs.map (zval E)) ∧ v ∈ vs
  | [], _, _, _, _, h => by simp [zlv0] at h
  | w :: vs, n, i, v, hok, h => by
    have hcw := zcat_eq hC (hok w List.mem_cons_self)
    have hok' : ∀ x ∈ vs, zok E x := fun x hx => hok x (List.mem_cons_of_mem _ hx)
    rcases w with x | x | x
    · simp only [zlv0] at h
      rw [List.map_cons]
      simp only [lv_args, hcw, zcat]
      cases i with
      | zero => simp at h; subst h; exact ⟨List.mem_cons_self, List.mem_cons_self⟩
      | succ i =>
        have ih := zlv0_has hC vs (n + 1) i v hok' (by simpa using h)
        exact ⟨List.mem_cons_of_mem _ (by rw [show n + (i + 1) = n + 1 + i by omega]; simpa using ih.1), List.mem_cons_of_mem _ ih.2⟩
    · simp only [zlv0] at h
      rw [List.map_cons]
      simp only [lv_args, hcw, zcat]
      cases i with
      | zero => simp at h; subst h; exact ⟨List.mem_cons_self, List.mem_cons_self⟩
      | succ i =>
        cases i with
        | zero => simp at h
        | succ i =>
          have ih := zlv0_has hC vs (n + 2) i v hok' (by simpa using h)
          exact ⟨List.mem_cons_of_mem _ (by rw [show n + (i + 1 + 1) = n + 2 + i by omega]; simpa using ih.1), List.mem_cons_of_mem _ ih.2⟩
    · simp only [zlv0] at h
      rw [List.map_cons]
      simp only [lv_args, hcw, zcat]
      cases i with
      | zero => simp at h; subst h; exact ⟨List.mem_cons_self, List.mem_cons_self⟩
      | succ i =>
        have ih := zlv0_has hC vs (n + 1) i v hok' (by simpa using h)
        exact ⟨List.mem_cons_of_mem _ (by rw [show n + (i + 1) = n + 1 + i by omega]; simpa using ih.1), List.mem_cons_of_mem _ ih.2⟩
theorem zlv0_len {E : zE} (hC : zCl E) : ∀ (vs : List zV), (∀ w ∈ vs, zok E w) → (lg_sl (vs.map (zval E))).length = (zlv0 vs).length
  | [], _ => rfl
  | w :: vs, hok => by
    have hcw := zcat_eq hC (hok w List.mem_cons_self)
    have ih := zlv0_len hC vs (fun x hx => hok x (List.mem_cons_of_mem _ hx))
    rw [List.map_cons]
    unfold lg_sl at ih ⊢
    rw [List.flatMap_cons, List.length_append, ih, hcw]
    rcases w with x | x | x <;> simp [zcat, zlv0] <;> omega
/-- a method's contract out of its walk -/
theorem con_of (hp : plainName y.cls = true) (hR : R.cells = 0 ∧ R.slots = 0) (h : Sim y cc nL ret R 0 f) : Con y cc nL ret R (fun av μ => if (zlv0 av).length ≤ nL then f (zlv nL av) [] μ else none) := by
  intro l E μ av r μ' hC hok hf
  dsimp only at hf
  split at hf
  · next hlen =>
    refine Met.ofW (cc := cc) (maxL := nL) (ret := ret) hp rfl ?_
    intro p e s m args below meth c s₁ B hml hv
    obtain ⟨rfl, hE, hP⟩ := hv
    have hlen2 := zlv0_len hC av hok
    have hl := lv_entry (av.map (zval E)) (n := nL) (by rw [hlen2]; exact hlen)
    rw [lg_entry_eq]
    generalize (lg_sl (av.map (zval E)) ++ List.replicate (nL - (lg_sl (av.map (zval E))).length) Slot.unset).toArray = ls at hl ⊢
    have hts := atoms_spec (ws := zws0 y cc nL ret) B.pre
    have hX : zX E y cc nL ret p s m (av.map (zval E)).toArray meth c := ⟨B.exec, B.bytes, hml, findClass_of_methodNamed B.named, hts, B.notSynchronized, B.returns, hE, hC⟩
    refine h p l e s m _ below meth c E hX μ s.heap [] ls (zlv nL av) [] r μ' hP va_S.rf ⟨hl.1, hl.2.1, fun k v hk => ?_⟩ (fun v hv => by cases hv) hf
    unfold zlv at hk
    by_cases hkl : k < (zlv0 av).length
    · rw [List.getElem?_append_left hkl] at hk
      have h1 := zlv0_has hC av 0 k v hok hk
      rw [Nat.zero_add] at h1
      exact ⟨hl.2.2 _ h1.1, hok v h1.2⟩
    · rw [List.getElem?_append_right (by omega)] at hk
      have := List.eq_of_mem_replicate (List.mem_of_getElem? hk)
      cases this
  · cases hf
end SIM
