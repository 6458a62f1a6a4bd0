/-! ===== rows, copies, calls ===== -/
section SIM
variable {y : MethodName} {cc : ByteArray} {nL : Nat} {ret : Option FieldType} {R : Room} {pc : Nat} {f ft ff : zD}
theorem z_iald (hd : decode cc pc = .ok (.iaload, 1)) (k : Sim y cc nL ret R (pc + 1) f) : Sim y cc nL ret R pc (cIald f) := by
  intro p l e s m args below meth c E X μ H locs ls lv st r μ' hP hS hL hst hf
  unfold cIald at hf
  split at hf
  · next j h st' =>
    rw [qI_eq] at hf
    cases hg : zrow μ h j with
    | none => rw [hg] at hf; cases hf
    | some v =>
      rw [hg] at hf
      simp only [Option.bind_some] at hf
      have hok := hst _ (List.mem_cons_of_mem _ List.mem_cons_self)
      have hE := X.2.2.2.2.2.2.2.1
      have kk := k p l e s m args below meth c E X μ H locs ls lv (.inl v :: st') r μ' hP hS hL (List.forall_mem_cons.mpr ⟨trivial, fun w hw => hst w (List.mem_cons_of_mem _ (List.mem_cons_of_mem _ hw))⟩) hf
      unfold zrow at hg
      split at hg
      · next n q hs =>
        split at hg
        · cases hg
        · next hin =>
          cases hg
          have hlt := zrow_kind hs (by omega)
          have hmem := zok_in hok hlt
          obtain ⟨q0, hq0⟩ := zws_get (μ := μ) hmem
          rw [zcell_0 hs] at hq0
          rw [List.map_cons, List.map_cons, zval_ref (by omega)]
          exact va_iald X.1 X.2.1 hE.1 hP.1 q0 0 hq0 rfl hin hd kk
      · next n q hs =>
        split at hg
        · cases hg
        · next hin =>
          cases hg
          have h74 : h = (74, 0) := by
            rcases hok with q1 | q1 | q1 | q1
            · have h9 := (X.2.2.2.2.2.2.2.2 h q1).1
              exfalso
              unfold zS at hs
              split at hs <;> first | omega | (cases hs; done)
            · exfalso
              rcases q1.1 with z | z <;> rw [z] at hs <;> cases hs
            · exact q1
            · exfalso
              rw [q1.1] at hs; cases hs
          subst h74
          cases hs
          obtain ⟨cell, g1, g2, g3, g4, g5, g6, g7⟩ := hE.2.2.2.2.2.2.1.kept hS.2.1
          have hlt : j.toNatClampNeg < 7 := by omega
          rw [List.map_cons, List.map_cons, zval_ref (by decide)]
          exact W.iald (v := .int (zLim j.toNatClampNeg)) X.1 X.2.1 g1 g2 g3 (fun q => hin (by rcases q with q | q; exact Or.inl q; exact Or.inr (by omega))) (g6 _ hlt) rfl rfl hd kk
      · cases hg
  · cases hf
theorem z_bald (hd : decode cc pc = .ok (.baload, 1)) (k : Sim y cc nL ret R (pc + 1) f) : Sim y cc nL ret R pc (cBald f) := by
  intro p l e s m args below meth c E X μ H locs ls lv st r μ' hP hS hL hst hf
  unfold cBald at hf
  split at hf
  · next j h st' =>
    rw [qB_eq] at hf
    cases hg : zrowB μ h j with
    | none => rw [hg] at hf; cases hf
    | some v =>
      rw [hg] at hf
      simp only [Option.bind_some] at hf
      have hok := hst _ (List.mem_cons_of_mem _ List.mem_cons_self)
      have hE := X.2.2.2.2.2.2.2.1
      have kk := k p l e s m args below meth c E X μ H locs ls lv (.inl v :: st') r μ' hP hS hL (List.forall_mem_cons.mpr ⟨trivial, fun w hw => hst w (List.mem_cons_of_mem _ (List.mem_cons_of_mem _ hw))⟩) hf
      unfold zrowB at hg
      split at hg
      · next n q hs =>
        split at hg
        · cases hg
        · next hin =>
          cases hg
          have hlt := zrow_kind hs (by omega)
          have hmem := zok_in hok hlt
          obtain ⟨q0, hq0⟩ := zws_get (μ := μ) hmem
          rw [zcell_1 hs] at hq0
          rw [List.map_cons, List.map_cons, zval_ref (by omega)]
          exact va_bald X.1 X.2.1 hE.1 hP.1 q0 1 hq0 rfl hin hd kk
      · next n q hs =>
        split at hg
        · cases hg
        · next hin =>
          cases hg
          have h76 : h.1 = 76 ∧ h.2 < 18 := by
            rcases hok with q1 | q1 | q1 | q1
            · have h9 := (X.2.2.2.2.2.2.2.2 h q1).1
              exfalso
              unfold zS at hs
              split at hs <;> first | omega | (cases hs; done)
            · rcases q1.1 with z | z
              · rw [z] at hs; cases hs
              · exact ⟨z, q1.2⟩
            · rw [q1] at hs; cases hs
            · exfalso
              rw [q1.1] at hs; cases hs
          obtain ⟨hk, hi⟩ := h76
          obtain ⟨hk1, hi1⟩ := h
          dsimp only at hk hi hs hin
          subst hk
          cases hs
          obtain ⟨cell, g1, g2, g3, g4, g5, g6, g7⟩ := (hE.2.1 hi1 hi).2.2.2.kept hS.2.1
          have hlt : j.toNatClampNeg < zTxL hi1 := by omega
          rw [List.map_cons, List.map_cons, zval_ref (show ¬ (76 : Nat) = 77 by decide)]
          exact W.bald (v := .int ((zTxB hi1).getD j.toNatClampNeg 0)) X.1 X.2.1 g1 g2 g3 (fun q => hin (by rcases q with q | q; exact Or.inl q; exact Or.inr (by omega))) (g6 _ hlt) rfl rfl hd kk
      · cases hg
  · cases hf
theorem z_iast (hd : decode cc pc = .ok (.iastore, 1)) (k : Sim y cc nL ret R (pc + 1) f) : Sim y cc nL ret R pc (cIast f) := by
  intro p l e s m args below meth c E X μ H locs ls lv st r μ' hP hS hL hst hf
  unfold cIast at hf
  split at hf
  · next x j h st' =>
    rw [wI_eq] at hf
    cases hg : zsetI μ h j x with
    | none => rw [hg] at hf; cases hf
    | some μ1 =>
      rw [hg] at hf
      simp only [Option.bind_some] at hf
      have hok := hst _ (List.mem_cons_of_mem _ (List.mem_cons_of_mem _ List.mem_cons_self))
      have hE := X.2.2.2.2.2.2.2.1
      unfold zsetI at hg
      split at hg
      · next n q hs =>
        split at hg
        · cases hg
        · next hin =>
          cases hg
          have hlt := zrow_kind hs (by omega)
          have hmem := zok_in hok hlt
          obtain ⟨q0, hq0⟩ := zws_get (μ := μ) hmem
          have hset := zws_set (μ' := (zup μ.1 h j.toNatClampNeg x, μ.2)) hP.2 hq0 hmem (zcell_0 hs) (fun h' _ hh => zcell_congr (zup_ne hh) rfl rfl)
          rw [zcell_0 hs] at hq0
          rw [List.map_cons, List.map_cons, List.map_cons, zval_ref (by omega)]
          refine va_iast X.1 X.2.1 hE.1 hP.1 hP.2 hS q0 0 hq0 rfl hin hd (fun H1 locs1 hP1 hD1 hS1 => ?_)
          have e1 : upd (μ.1 h.1 h.2) j.toNatClampNeg x = zup μ.1 h j.toNatClampNeg x h.1 h.2 := (zup_at _ _ _ _).symm
          rw [e1] at hP1 hD1
          rw [hset] at hP1 hD1
          exact k p l e s m args below meth c E X _ H1 locs1 ls lv st' r μ' ⟨hP1, hD1⟩ hS1 hL (fun w hw => hst w (List.mem_cons_of_mem _ (List.mem_cons_of_mem _ (List.mem_cons_of_mem _ hw)))) hf
      · cases hg
  · cases hf
theorem z_bast (hd : decode cc pc = .ok (.bastore, 1)) (k : Sim y cc nL ret R (pc + 1) f) : Sim y cc nL ret R pc (cBast f) := by
  intro p l e s m args below meth c E X μ H locs ls lv st r μ' hP hS hL hst hf
  unfold cBast at hf
  split at hf
  · next x j h st' =>
    rw [wB_eq] at hf
    cases hg : zsetB μ h j x with
    | none => rw [hg] at hf; cases hf
    | some μ1 =>
      rw [hg] at hf
      simp only [Option.bind_some] at hf
      have hok := hst _ (List.mem_cons_of_mem _ (List.mem_cons_of_mem _ List.mem_cons_self))
      have hE := X.2.2.2.2.2.2.2.1
      unfold zsetB at hg
      split at hg
      · next n q hs =>
        split at hg
        · cases hg
        · next hin =>
          cases hg
          have hlt := zrow_kind hs (by omega)
          have hmem := zok_in hok hlt
          obtain ⟨q0, hq0⟩ := zws_get (μ := μ) hmem
          have hset := zws_set (μ' := (zup μ.1 h j.toNatClampNeg x.toInt8.toInt32, μ.2)) hP.2 hq0 hmem (zcell_1 hs) (fun h' _ hh => zcell_congr (zup_ne hh) rfl rfl)
          rw [zcell_1 hs] at hq0
          rw [List.map_cons, List.map_cons, List.map_cons, zval_ref (by omega)]
          refine va_bast X.1 X.2.1 hE.1 hP.1 hP.2 hS q0 1 hq0 rfl hin hd (fun H1 locs1 hP1 hD1 hS1 => ?_)
          have e1 : upd (μ.1 h.1 h.2) j.toNatClampNeg (vp_nar .byte x) = zup μ.1 h j.toNatClampNeg x.toInt8.toInt32 h.1 h.2 := (zup_at _ _ _ _).symm
          rw [e1] at hP1 hD1
          rw [hset] at hP1 hD1
          exact k p l e s m args below meth c E X _ H1 locs1 ls lv st' r μ' ⟨hP1, hD1⟩ hS1 hL (fun w hw => hst w (List.mem_cons_of_mem _ (List.mem_cons_of_mem _ (List.mem_cons_of_mem _ hw)))) hf
      · cases hg
  · cases hf
theorem z_alen (hd : decode cc pc = .ok (.arraylength, 1)) (k : Sim y cc nL ret R (pc + 1) f) : Sim y cc nL ret R pc (cAlen f) := by
  intro p l e s m args below meth c E X μ H locs ls lv st r μ' hP hS hL hst hf
  unfold cAlen at hf
  split at hf
  · next h st' =>
    rw [qL_eq] at hf
    cases hg : zlen h with
    | none => rw [hg] at hf; cases hf
    | some v =>
      rw [hg] at hf
      simp only [Option.bind_some] at hf
      have hok := hst _ List.mem_cons_self
      have hE := X.2.2.2.2.2.2.2.1
      have kk := k p l e s m args below meth c E X μ H locs ls lv (.inl v :: st') r μ' hP hS hL (List.forall_mem_cons.mpr ⟨trivial, fun w hw => hst w (List.mem_cons_of_mem _ hw)⟩) hf
      unfold zlen at hg
      split at hg
      · next n q hs =>
        cases hg
        have hlt := zrow_kind hs (by omega)
        have hmem := zok_in hok hlt
        obtain ⟨q0, hq0⟩ := zws_get (μ := μ) hmem
        rw [zcell_0 hs] at hq0
        rw [List.map_cons, zval_ref (by omega)]
        exact va_alen X.1 X.2.1 hE.1 hP.1 q0 0 hq0 (ty := .int) rfl rfl hd kk
      · next n q hs =>
        cases hg
        have hlt := zrow_kind hs (by omega)
        have hmem := zok_in hok hlt
        obtain ⟨q0, hq0⟩ := zws_get (μ := μ) hmem
        rw [zcell_1 hs] at hq0
        rw [List.map_cons, zval_ref (by omega)]
        exact va_alen X.1 X.2.1 hE.1 hP.1 q0 1 hq0 (ty := .byte) rfl rfl hd kk
      · next n q hs =>
        cases hg
        have h76 : h.1 = 76 ∧ h.2 < 18 := by
          rcases hok with q1 | q1 | q1 | q1
          · have h9 := (X.2.2.2.2.2.2.2.2 h q1).1
            exfalso
            unfold zS at hs
            split at hs <;> first | omega | (cases hs; done)
          · rcases q1.1 with z | z
            · rw [z] at hs; cases hs
            · exact ⟨z, q1.2⟩
          · rw [q1] at hs; cases hs
          · exfalso
            rw [q1.1] at hs; cases hs
        obtain ⟨hk, hi⟩ := h76
        obtain ⟨hk1, hi1⟩ := h
        dsimp only at hk hi hs
        subst hk
        cases hs
        obtain ⟨cell, g1, g2, g3, g4, g5, g6, g7⟩ := (hE.2.1 hi1 hi).2.2.2.kept hS.2.1
        rw [List.map_cons, zval_ref (show ¬ (76 : Nat) = 77 by decide)]
        exact W.alen X.1 X.2.1 g1 g2 g5 rfl rfl hd kk
      · cases hg
  · cases hf
theorem z_aald (hd : decode cc pc = .ok (.aaload, 1)) (k : Sim y cc nL ret R (pc + 1) f) : Sim y cc nL ret R pc (cAald f) := by
  intro p l e s m args below meth c E X μ H locs ls lv st r μ' hP hS hL hst hf
  unfold cAald at hf
  split at hf
  · next j h st' =>
    have hok := hst _ (List.mem_cons_of_mem _ List.mem_cons_self)
    have hE := X.2.2.2.2.2.2.2.1
    have hC := X.2.2.2.2.2.2.2.2
    split at hf
    · next n q hs =>
      rw [qX_eq] at hf
      unfold zix at hf
      split at hf
      · cases hf
      · next hin =>
        simp only [Option.bind_some] at hf
        have hlt := zrow_kind hs (by omega)
        have hmem := zok_in hok hlt
        have hj : j.toNatClampNeg < n := by omega
        have h1 := (hC h hmem).2.2 _ _ _ hs (Or.inl rfl) _ hj
        have h2 : q.1 < 74 := (hC _ h1).1
        have kk := k p l e s m args below meth c E X μ H locs ls lv (.inr (.inr (q.1, q.2 + j.toNatClampNeg)) :: st') r μ' hP hS hL (List.forall_mem_cons.mpr ⟨Or.inl h1, fun w hw => hst w (List.mem_cons_of_mem _ (List.mem_cons_of_mem _ hw))⟩) hf
        rw [List.map_cons, zval_ref (h := (q.1, q.2 + j.toNatClampNeg)) (show ¬ q.1 = 77 by omega)] at kk
        obtain ⟨q0, hq0⟩ := zws_get (μ := μ) hmem
        rw [zcell_2 hs] at hq0
        rw [List.map_cons, List.map_cons, zval_ref (by omega)]
        exact va_aldq X.1 X.2.1 hE.1 hP.1 q0 2 hq0 rfl hin hd kk
    · next n q hs =>
      rw [qX_eq] at hf
      unfold zix at hf
      split at hf
      · cases hf
      · next hin =>
        simp only [Option.bind_some] at hf
        have hlt := zrow_kind hs (by omega)
        have hmem := zok_in hok hlt
        have hj : j.toNatClampNeg < n := by omega
        have h1 := (hC h hmem).2.2 _ _ _ hs (Or.inr rfl) _ hj
        have h2 : q.1 < 74 := (hC _ h1).1
        have kk := k p l e s m args below meth c E X μ H locs ls lv (.inr (.inr (q.1, q.2 + j.toNatClampNeg)) :: st') r μ' hP hS hL (List.forall_mem_cons.mpr ⟨Or.inl h1, fun w hw => hst w (List.mem_cons_of_mem _ (List.mem_cons_of_mem _ hw))⟩) hf
        rw [List.map_cons, zval_ref (h := (q.1, q.2 + j.toNatClampNeg)) (show ¬ q.1 = 77 by omega)] at kk
        obtain ⟨q0, hq0⟩ := zws_get (μ := μ) hmem
        rw [zcell_4 hs] at hq0
        rw [List.map_cons, List.map_cons, zval_ref (by omega)]
        have hlt2 : j.toNatClampNeg < n := hj
        exact W.aald (v := .ref (E.2.1 (q.1, q.2 + j.toNatClampNeg))) (ty := .array .int) X.1 X.2.1 (hP.1 q0 _ hq0) ((hE.1.2 3 _ rfl).1 n (fun j => va_rf (some (E.2.1 (q.1, q.2 + j))))) rfl (fun q => by cases q) (by show ¬ (j < 0 ∨ (arrV _ _ _).slots.size ≤ _); rw [arrV_size]; exact hin) (by show (arrV _ _ _).slots[_]? = _; rw [arrV_read _ _ hlt2]; rfl) rfl rfl hd kk
    · cases hf
  · cases hf
theorem zcats_eq {E : zE} (hC : zCl E) : ∀ (st : List zV), (∀ v ∈ st, zok E v) → ((st.map (zval E)).map fun v => v.category).sum = zcats st
  | [], _ => rfl
  | v :: st, h => by
    have ih := zcats_eq hC st (fun w hw => h w (List.mem_cons_of_mem _ hw))
    simp only [zcats, List.map_cons, List.sum_cons] at ih ⊢
    rw [ih, zcat_eq hC (h v List.mem_cons_self)]
theorem z_copy {idx : Nat} (hd : decode cc pc = .ok (.invokestatic idx, 3)) (hl : Cond.methodLink y.cls idx arraycopyName ∈ zW) (hnat : Cond.native arraycopyName ∈ zW) (hstat : Cond.static arraycopyName ∈ zW) (hini : Cond.initialized "java/lang/System" ∈ zW) (hfr : 1 ≤ R.frames) (hlo : 8 + (nativeFrameWords "java/lang/System" "arraycopy" 5 + 11) ≤ R.locals) (k : Sim y cc nL ret R (pc + 3) f) : Sim y cc nL ret R pc (cCopy f) := by
  intro p l e s m args below meth c E X μ H locs ls lv st r μ' hP hS hL hst hf
  unfold cCopy at hf
  split at hf
  · next n dp h1 sp h0 st' =>
    split at hf
    · cases hf
    · next hcat =>
      rw [qC_eq] at hf
      cases hg : zcpy μ h0 h1 sp dp n with
      | none => rw [hg] at hf; cases hf
      | some μ1 =>
        rw [hg] at hf
        simp only [Option.bind_some] at hf
        have hok1 := hst _ (List.mem_cons_of_mem _ (List.mem_cons_of_mem _ List.mem_cons_self))
        have hok0 := hst _ (List.mem_cons_of_mem _ (List.mem_cons_of_mem _ (List.mem_cons_of_mem _ (List.mem_cons_of_mem _ List.mem_cons_self))))
        have hst' : ∀ v ∈ st', zok E v := fun w hw => hst w (List.mem_cons_of_mem _ (List.mem_cons_of_mem _ (List.mem_cons_of_mem _ (List.mem_cons_of_mem _ (List.mem_cons_of_mem _ hw)))))
        have hE := X.2.2.2.2.2.2.2.1
        have hC := X.2.2.2.2.2.2.2.2
        have ht := X.2.2.2.2.1
        unfold zcpy at hg
        split at hg
        · next n0 q0' n1 q1' hs0 hs1 =>
          split at hg
          · cases hg
          · next hin =>
            cases hg
            simp only [not_or] at hin
            have hlt0 := zrow_kind hs0 (by omega)
            have hlt1 := zrow_kind hs1 (by omega)
            have hm0 := zok_in hok0 hlt0
            have hm1 := zok_in hok1 hlt1
            obtain ⟨q0, hq0⟩ := zws_get (μ := μ) hm0
            obtain ⟨q1, hq1⟩ := zws_get (μ := μ) hm1
            have hset := zws_set (μ' := (zupR μ.1 h1 (va_cpy (μ.1 h0.1 h0.2) (μ.1 h1.1 h1.2) sp.toNatClampNeg dp.toNatClampNeg n.toNatClampNeg), μ.2)) hP.2 hq1 hm1 (zcell_0 hs1) (fun h' _ hh => zcell_congr (zupR_ne hh) rfl rfl)
            rw [zcell_0 hs0] at hq0
            rw [zcell_0 hs1] at hq1
            rw [List.map_cons, List.map_cons, List.map_cons, List.map_cons, List.map_cons, zval_ref (h := h1) (by omega), zval_ref (h := h0) (by omega)]
            refine va_copyi (ty := .int) X.1 X.2.1 (by rw [X.2.2.1]; exact hL.1.symm) X.2.2.2.1 (ht _ (List.mem_cons_of_mem _ hl)) (ht _ (List.mem_cons_of_mem _ hnat)) (ht _ (List.mem_cons_of_mem _ hstat)) (ht _ (List.mem_cons_of_mem _ hini)) hE.1 hP.1 hP.2 hS q0 q1 0 0 hq0 hq1 rfl rfl (by simp [refKind]) hin.1 hin.2.1 hin.2.2.1 (by omega) (by omega) (fun _ _ => rfl) hfr (by rw [zcats_eq hC st' hst']; omega) hd (fun H1 locs1 hP1 hD1 hS1 => ?_)
            have e1 : va_cpy (μ.1 h0.1 h0.2) (μ.1 h1.1 h1.2) sp.toNatClampNeg dp.toNatClampNeg n.toNatClampNeg = zupR μ.1 h1 (va_cpy (μ.1 h0.1 h0.2) (μ.1 h1.1 h1.2) sp.toNatClampNeg dp.toNatClampNeg n.toNatClampNeg) h1.1 h1.2 := (zupR_at _ _ _).symm
            have hset' := hset
            dsimp only at hset'
            rw [← e1] at hset'
            rw [hset'] at hP1 hD1
            exact k p l e s m args below meth c E X _ H1 locs1 ls lv st' r μ' ⟨hP1, hD1⟩ hS1 hL hst' hf
        · cases hg
  · cases hf
end SIM
