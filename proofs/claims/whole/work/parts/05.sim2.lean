theorem zcat_eq {E : zE} {v : zV} (hC : zCl E) (h : zok E v) : (zval E v).category = zcat v := by
  rcases v with x | x | x
  · rfl
  · rfl
  · by_cases h7 : x.1 = 77
    · simp only [zval, h7, if_true]
      rcases h with h | h | h | h
      · exact absurd h7 (by have := (hC x h).1; omega)
      · rcases h.1 with q | q <;> omega
      · rw [h] at h7; cases h7
      · exact h.2
    · simp [zval, h7, Value.category, zcat]
def zas (E : zE) (lv : List (Option zV)) : List (Nat × Value) := (List.range lv.length).filterMap (fun k => match lv[k]? with
  | some (some v) => some (k, zval E v)
  | _ => none)
theorem zas_of {E : zE} {lv : List (Option zV)} {k : Nat} {v : zV} (h : lv[k]? = some (some v)) : (k, zval E v) ∈ zas E lv := by
  refine List.mem_filterMap.mpr ⟨k, List.mem_range.mpr (List.getElem?_eq_some_iff.mp h).1, ?_⟩
  rw [h]
theorem zas_to {E : zE} {lv : List (Option zV)} {q : Nat × Value} (h : q ∈ zas E lv) : ∃ v, lv[q.1]? = some (some v) ∧ q.2 = zval E v := by
  obtain ⟨k, -, hk⟩ := List.mem_filterMap.mp h
  split at hk
  · next v hv => cases hk; exact ⟨v, hv, rfl⟩
  · cases hk
theorem zLr.has {E : zE} {ls : Array Slot} {nL : Nat} {lv : List (Option zV)} (h : zLr E ls nL lv) : lv_has ls nL (zas E lv) := by
  refine ⟨h.1, h.2.1, fun q hq => ?_⟩
  obtain ⟨v, h1, h2⟩ := zas_to hq
  rw [h2]
  exact (h.2.2 _ _ h1).1
theorem zLr.st {E : zE} {ls ls' : Array Slot} {nL i : Nat} {lv : List (Option zV)} {v : zV} (hC : zCl E) (h : zLr E ls nL lv) (hv : zok E v) (hb : zstb lv i = true) (h' : lv_has ls' nL ((i, zval E v) :: (zas E lv).filter (fun q => !(q.1 == i) && !(q.1 + 1 == i && q.2.category == 2)))) : zLr E ls' nL (lv.set i (some v)) := by
  refine ⟨h'.1, h'.2.1, fun k w hk => ?_⟩
  by_cases hki : k = i
  · subst hki
    have hlt : k < lv.length := by
      have := (List.getElem?_eq_some_iff.mp hk).1
      simpa using this
    rw [List.getElem?_set_self hlt] at hk
    cases hk
    exact ⟨h'.2.2 _ List.mem_cons_self, hv⟩
  · rw [List.getElem?_set_ne (Ne.symm hki)] at hk
    have h2 := (h.2.2 k w hk).2
    refine ⟨h'.2.2 (k, zval E w) (List.mem_cons_of_mem _ (List.mem_filter.mpr ⟨zas_of hk, ?_⟩)), h2⟩
    simp only [Bool.and_eq_true, Bool.not_eq_true', beq_eq_false_iff_ne, ne_eq, Bool.and_eq_false_iff]
    refine ⟨hki, ?_⟩
    by_cases h1 : k + 1 = i
    · right
      subst h1
      simp only [zstb, hk] at hb
      rw [zcat_eq hC h2]
      rcases w with x | x | x
      · simp [zcat]
      · simp at hb
      · simp [zcat]
    · left; exact h1
section SIM
variable {y : MethodName} {cc : ByteArray} {nL : Nat} {ret : Option FieldType} {R : Room} {pc : Nat} {f ft ff : zD}
theorem z_istore_n {i : Fin 4} {j : Nat} (hd : decode cc pc = .ok (.istore_n i, 1)) (hj : (i : Nat) = j) (hn : j < nL) (k : Sim y cc nL ret R (pc + 1) f) : Sim y cc nL ret R pc (cStI j f) := by
  intro p l e s m args below meth c E X μ H locs ls lv st r μ' hP hS hL hst hf
  unfold cStI at hf
  split at hf
  · next v st' =>
    split at hf
    · next hb =>
      exact lv_istore_n X.1 X.2.1 hd hj hL.has hn rfl (fun ls' hl' => k p l e s m args below meth c E X μ H locs ls' _ st' r μ' hP hS (zLr.st (v := .inl v) X.2.2.2.2.2.2.2.2 hL trivial hb hl') (fun w hw => hst w (List.mem_cons_of_mem _ hw)) hf)
    · cases hf
  · cases hf
theorem z_istore {j : Nat} (hd : decode cc pc = .ok (.istore j, 2)) (hn : j < nL) (k : Sim y cc nL ret R (pc + 2) f) : Sim y cc nL ret R pc (cStI j f) := by
  intro p l e s m args below meth c E X μ H locs ls lv st r μ' hP hS hL hst hf
  unfold cStI at hf
  split at hf
  · next v st' =>
    split at hf
    · next hb =>
      exact lv_istore X.1 X.2.1 hd hL.has hn rfl (fun ls' hl' => k p l e s m args below meth c E X μ H locs ls' _ st' r μ' hP hS (zLr.st (v := .inl v) X.2.2.2.2.2.2.2.2 hL trivial hb hl') (fun w hw => hst w (List.mem_cons_of_mem _ hw)) hf)
    · cases hf
  · cases hf
theorem z_astore_n {i : Fin 4} {j : Nat} (hd : decode cc pc = .ok (.astore_n i, 1)) (hj : (i : Nat) = j) (hn : j < nL) (k : Sim y cc nL ret R (pc + 1) f) : Sim y cc nL ret R pc (cStA j f) := by
  intro p l e s m args below meth c E X μ H locs ls lv st r μ' hP hS hL hst hf
  unfold cStA at hf
  split at hf
  · next h st' =>
    split at hf
    · cases hf
    · next h7 =>
      split at hf
      · next hb =>
        rw [List.map_cons, zval_ref h7]
        exact lv_astore_n X.1 X.2.1 hd hj hL.has hn rfl (fun ls' hl' => k p l e s m args below meth c E X μ H locs ls' _ st' r μ' hP hS (zLr.st (v := .inr (.inr h)) X.2.2.2.2.2.2.2.2 hL (hst _ List.mem_cons_self) hb (by rw [zval_ref h7]; exact hl')) (fun w hw => hst w (List.mem_cons_of_mem _ hw)) hf)
      · cases hf
  · cases hf
theorem z_iinc {j : Nat} {n : Int} {v : Int32} (hd : decode cc pc = .ok (.iinc j n, 3)) (hv : Int32.ofInt n = v) (hn : j < nL) (k : Sim y cc nL ret R (pc + 3) f) : Sim y cc nL ret R pc (cInc j v f) := by
  intro p l e s m args below meth c E X μ H locs ls lv st r μ' hP hS hL hst hf
  unfold cInc at hf
  split at hf
  · next x hx =>
    split at hf
    · next hb =>
      obtain ⟨q, hq⟩ := List.getElem?_of_mem (zas_of (E := E) hx)
      exact lv_iinc (v := x + v) X.1 X.2.1 hd hL.has (k := q) hq (by rw [hv]) hn rfl (fun ls' hl' => k p l e s m args below meth c E X μ H locs ls' _ st r μ' hP hS (zLr.st (v := .inl (x + v)) X.2.2.2.2.2.2.2.2 hL trivial hb hl') hst hf)
    · cases hf
  · cases hf
theorem z_iadd (hd : decode cc pc = .ok (.iadd, 1)) (k : Sim y cc nL ret R (pc + 1) f) : Sim y cc nL ret R pc (cBin (fun a b => a + b) f) := by
  intro p l e s m args below meth c E X μ H locs ls lv st r μ' hP hS hL hst hf
  unfold cBin at hf
  split at hf
  · next b a st' =>
    exact lv_iadd X.1 X.2.1 hd  (k p l e s m args below meth c E X μ H locs ls lv (.inl (((fun a b => a + b) : Int32 → Int32 → Int32) a b) :: st') r μ' hP hS hL (List.forall_mem_cons.mpr ⟨trivial, fun w hw => hst w (List.mem_cons_of_mem _ (List.mem_cons_of_mem _ hw))⟩) hf)
  · cases hf
theorem z_isub (hd : decode cc pc = .ok (.isub, 1)) (k : Sim y cc nL ret R (pc + 1) f) : Sim y cc nL ret R pc (cBin (fun a b => a - b) f) := by
  intro p l e s m args below meth c E X μ H locs ls lv st r μ' hP hS hL hst hf
  unfold cBin at hf
  split at hf
  · next b a st' =>
    exact lv_isub X.1 X.2.1 hd  (k p l e s m args below meth c E X μ H locs ls lv (.inl (((fun a b => a - b) : Int32 → Int32 → Int32) a b) :: st') r μ' hP hS hL (List.forall_mem_cons.mpr ⟨trivial, fun w hw => hst w (List.mem_cons_of_mem _ (List.mem_cons_of_mem _ hw))⟩) hf)
  · cases hf
theorem z_imul (hd : decode cc pc = .ok (.imul, 1)) (k : Sim y cc nL ret R (pc + 1) f) : Sim y cc nL ret R pc (cBin (fun a b => a * b) f) := by
  intro p l e s m args below meth c E X μ H locs ls lv st r μ' hP hS hL hst hf
  unfold cBin at hf
  split at hf
  · next b a st' =>
    exact lv_imul X.1 X.2.1 hd  (k p l e s m args below meth c E X μ H locs ls lv (.inl (((fun a b => a * b) : Int32 → Int32 → Int32) a b) :: st') r μ' hP hS hL (List.forall_mem_cons.mpr ⟨trivial, fun w hw => hst w (List.mem_cons_of_mem _ (List.mem_cons_of_mem _ hw))⟩) hf)
  · cases hf
theorem z_iand (hd : decode cc pc = .ok (.iand, 1)) (k : Sim y cc nL ret R (pc + 1) f) : Sim y cc nL ret R pc (cBin (fun a b => a &&& b) f) := by
  intro p l e s m args below meth c E X μ H locs ls lv st r μ' hP hS hL hst hf
  unfold cBin at hf
  split at hf
  · next b a st' =>
    exact lv_iand X.1 X.2.1 hd  (k p l e s m args below meth c E X μ H locs ls lv (.inl (((fun a b => a &&& b) : Int32 → Int32 → Int32) a b) :: st') r μ' hP hS hL (List.forall_mem_cons.mpr ⟨trivial, fun w hw => hst w (List.mem_cons_of_mem _ (List.mem_cons_of_mem _ hw))⟩) hf)
  · cases hf
theorem z_ior (hd : decode cc pc = .ok (.ior, 1)) (k : Sim y cc nL ret R (pc + 1) f) : Sim y cc nL ret R pc (cBin (fun a b => a ||| b) f) := by
  intro p l e s m args below meth c E X μ H locs ls lv st r μ' hP hS hL hst hf
  unfold cBin at hf
  split at hf
  · next b a st' =>
    exact lv_ior X.1 X.2.1 hd  (k p l e s m args below meth c E X μ H locs ls lv (.inl (((fun a b => a ||| b) : Int32 → Int32 → Int32) a b) :: st') r μ' hP hS hL (List.forall_mem_cons.mpr ⟨trivial, fun w hw => hst w (List.mem_cons_of_mem _ (List.mem_cons_of_mem _ hw))⟩) hf)
  · cases hf
theorem z_ixor (hd : decode cc pc = .ok (.ixor, 1)) (k : Sim y cc nL ret R (pc + 1) f) : Sim y cc nL ret R pc (cBin (fun a b => a ^^^ b) f) := by
  intro p l e s m args below meth c E X μ H locs ls lv st r μ' hP hS hL hst hf
  unfold cBin at hf
  split at hf
  · next b a st' =>
    exact lv_ixor X.1 X.2.1 hd  (k p l e s m args below meth c E X μ H locs ls lv (.inl (((fun a b => a ^^^ b) : Int32 → Int32 → Int32) a b) :: st') r μ' hP hS hL (List.forall_mem_cons.mpr ⟨trivial, fun w hw => hst w (List.mem_cons_of_mem _ (List.mem_cons_of_mem _ hw))⟩) hf)
  · cases hf
theorem z_ishl (hd : decode cc pc = .ok (.ishl, 1)) (k : Sim y cc nL ret R (pc + 1) f) : Sim y cc nL ret R pc (cBin (fun a b => a <<< (b &&& 31)) f) := by
  intro p l e s m args below meth c E X μ H locs ls lv st r μ' hP hS hL hst hf
  unfold cBin at hf
  split at hf
  · next b a st' =>
    exact lv_ishl X.1 X.2.1 hd  (k p l e s m args below meth c E X μ H locs ls lv (.inl (((fun a b => a <<< (b &&& 31)) : Int32 → Int32 → Int32) a b) :: st') r μ' hP hS hL (List.forall_mem_cons.mpr ⟨trivial, fun w hw => hst w (List.mem_cons_of_mem _ (List.mem_cons_of_mem _ hw))⟩) hf)
  · cases hf
theorem z_ishr (hd : decode cc pc = .ok (.ishr, 1)) (k : Sim y cc nL ret R (pc + 1) f) : Sim y cc nL ret R pc (cBin (fun a b => a >>> (b &&& 31)) f) := by
  intro p l e s m args below meth c E X μ H locs ls lv st r μ' hP hS hL hst hf
  unfold cBin at hf
  split at hf
  · next b a st' =>
    exact lv_ishr X.1 X.2.1 hd  (k p l e s m args below meth c E X μ H locs ls lv (.inl (((fun a b => a >>> (b &&& 31)) : Int32 → Int32 → Int32) a b) :: st') r μ' hP hS hL (List.forall_mem_cons.mpr ⟨trivial, fun w hw => hst w (List.mem_cons_of_mem _ (List.mem_cons_of_mem _ hw))⟩) hf)
  · cases hf
theorem z_iushr (hd : decode cc pc = .ok (.iushr, 1)) (k : Sim y cc nL ret R (pc + 1) f) : Sim y cc nL ret R pc (cBin (fun a b => (a.toUInt32 >>> (b.toUInt32 &&& Int32.toUInt32 31)).toInt32) f) := by
  intro p l e s m args below meth c E X μ H locs ls lv st r μ' hP hS hL hst hf
  unfold cBin at hf
  split at hf
  · next b a st' =>
    exact lv_iushr X.1 X.2.1 hd rfl (k p l e s m args below meth c E X μ H locs ls lv (.inl ((a.toUInt32 >>> (b.toUInt32 &&& Int32.toUInt32 31)).toInt32) :: st') r μ' hP hS hL (List.forall_mem_cons.mpr ⟨trivial, fun w hw => hst w (List.mem_cons_of_mem _ (List.mem_cons_of_mem _ hw))⟩) hf)
  · cases hf
theorem z_idiv (hd : decode cc pc = .ok (.idiv, 1)) (k : Sim y cc nL ret R (pc + 1) f) : Sim y cc nL ret R pc (cBin0 (fun a b => a / b) f) := by
  intro p l e s m args below meth c E X μ H locs ls lv st r μ' hP hS hL hst hf
  unfold cBin0 at hf
  split at hf
  · next b a st' =>
    by_cases hz : b = 0
    · rw [zif_pos hz] at hf; cases hf
    · rw [zif_neg hz] at hf
      exact lv_idiv X.1 X.2.1 hd hz (k p l e s m args below meth c E X μ H locs ls lv (.inl (a / b) :: st') r μ' hP hS hL (List.forall_mem_cons.mpr ⟨trivial, fun w hw => hst w (List.mem_cons_of_mem _ (List.mem_cons_of_mem _ hw))⟩) hf)
  · cases hf
theorem z_irem (hd : decode cc pc = .ok (.irem, 1)) (k : Sim y cc nL ret R (pc + 1) f) : Sim y cc nL ret R pc (cBin0 (fun a b => a - a / b * b) f) := by
  intro p l e s m args below meth c E X μ H locs ls lv st r μ' hP hS hL hst hf
  unfold cBin0 at hf
  split at hf
  · next b a st' =>
    by_cases hz : b = 0
    · rw [zif_pos hz] at hf; cases hf
    · rw [zif_neg hz] at hf
      exact lv_irem X.1 X.2.1 hd hz (k p l e s m args below meth c E X μ H locs ls lv (.inl (a - a / b * b) :: st') r μ' hP hS hL (List.forall_mem_cons.mpr ⟨trivial, fun w hw => hst w (List.mem_cons_of_mem _ (List.mem_cons_of_mem _ hw))⟩) hf)
  · cases hf
theorem z_i2b (hd : decode cc pc = .ok (.i2b, 1)) (k : Sim y cc nL ret R (pc + 1) f) : Sim y cc nL ret R pc (cUn (fun a => a.toInt8.toInt32) f) := by
  intro p l e s m args below meth c E X μ H locs ls lv st r μ' hP hS hL hst hf
  unfold cUn at hf
  split at hf
  · next a st' =>
    exact lv_i2b X.1 X.2.1 hd rfl (k p l e s m args below meth c E X μ H locs ls lv (.inl a.toInt8.toInt32 :: st') r μ' hP hS hL (List.forall_mem_cons.mpr ⟨trivial, fun w hw => hst w (List.mem_cons_of_mem _ hw)⟩) hf)
  · cases hf
theorem z_i2c (hd : decode cc pc = .ok (.i2c, 1)) (k : Sim y cc nL ret R (pc + 1) f) : Sim y cc nL ret R pc (cUn (fun a => (a.toUInt32 % 65536).toInt32) f) := by
  intro p l e s m args below meth c E X μ H locs ls lv st r μ' hP hS hL hst hf
  unfold cUn at hf
  split at hf
  · next a st' =>
    exact lv_i2c X.1 X.2.1 hd rfl (k p l e s m args below meth c E X μ H locs ls lv (.inl (a.toUInt32 % 65536).toInt32 :: st') r μ' hP hS hL (List.forall_mem_cons.mpr ⟨trivial, fun w hw => hst w (List.mem_cons_of_mem _ hw)⟩) hf)
  · cases hf
theorem z_i2l (hd : decode cc pc = .ok (.i2l, 1)) (k : Sim y cc nL ret R (pc + 1) f) : Sim y cc nL ret R pc (cI2L f) := by
  intro p l e s m args below meth c E X μ H locs ls lv st r μ' hP hS hL hst hf
  unfold cI2L at hf
  split at hf
  · next a st' =>
    exact lv_i2l X.1 X.2.1 hd rfl (k p l e s m args below meth c E X μ H locs ls lv (.inr (.inl a.toInt64) :: st') r μ' hP hS hL (List.forall_mem_cons.mpr ⟨trivial, fun w hw => hst w (List.mem_cons_of_mem _ hw)⟩) hf)
  · cases hf
theorem z_l2i (hd : decode cc pc = .ok (.l2i, 1)) (k : Sim y cc nL ret R (pc + 1) f) : Sim y cc nL ret R pc (cL2I f) := by
  intro p l e s m args below meth c E X μ H locs ls lv st r μ' hP hS hL hst hf
  unfold cL2I at hf
  split at hf
  · next a st' =>
    exact lv_l2i X.1 X.2.1 hd rfl (k p l e s m args below meth c E X μ H locs ls lv (.inl a.toInt32 :: st') r μ' hP hS hL (List.forall_mem_cons.mpr ⟨trivial, fun w hw => hst w (List.mem_cons_of_mem _ hw)⟩) hf)
  · cases hf
theorem z_ladd (hd : decode cc pc = .ok (.ladd, 1)) (k : Sim y cc nL ret R (pc + 1) f) : Sim y cc nL ret R pc (cLBin (fun a b => a + b) f) := by
  intro p l e s m args below meth c E X μ H locs ls lv st r μ' hP hS hL hst hf
  unfold cLBin at hf
  split at hf
  · next b a st' =>
    exact lv_ladd X.1 X.2.1 hd  (k p l e s m args below meth c E X μ H locs ls lv (.inr (.inl (((fun a b => a + b) : Int64 → Int64 → Int64) a b)) :: st') r μ' hP hS hL (List.forall_mem_cons.mpr ⟨trivial, fun w hw => hst w (List.mem_cons_of_mem _ (List.mem_cons_of_mem _ hw))⟩) hf)
  · cases hf
theorem z_lsub (hd : decode cc pc = .ok (.lsub, 1)) (k : Sim y cc nL ret R (pc + 1) f) : Sim y cc nL ret R pc (cLBin (fun a b => a - b) f) := by
  intro p l e s m args below meth c E X μ H locs ls lv st r μ' hP hS hL hst hf
  unfold cLBin at hf
  split at hf
  · next b a st' =>
    exact lv_lsub X.1 X.2.1 hd  (k p l e s m args below meth c E X μ H locs ls lv (.inr (.inl (((fun a b => a - b) : Int64 → Int64 → Int64) a b)) :: st') r μ' hP hS hL (List.forall_mem_cons.mpr ⟨trivial, fun w hw => hst w (List.mem_cons_of_mem _ (List.mem_cons_of_mem _ hw))⟩) hf)
  · cases hf
theorem z_lmul (hd : decode cc pc = .ok (.lmul, 1)) (k : Sim y cc nL ret R (pc + 1) f) : Sim y cc nL ret R pc (cLBin (fun a b => a * b) f) := by
  intro p l e s m args below meth c E X μ H locs ls lv st r μ' hP hS hL hst hf
  unfold cLBin at hf
  split at hf
  · next b a st' =>
    exact lv_lmul X.1 X.2.1 hd  (k p l e s m args below meth c E X μ H locs ls lv (.inr (.inl (((fun a b => a * b) : Int64 → Int64 → Int64) a b)) :: st') r μ' hP hS hL (List.forall_mem_cons.mpr ⟨trivial, fun w hw => hst w (List.mem_cons_of_mem _ (List.mem_cons_of_mem _ hw))⟩) hf)
  · cases hf
theorem z_land (hd : decode cc pc = .ok (.land, 1)) (k : Sim y cc nL ret R (pc + 1) f) : Sim y cc nL ret R pc (cLBin (fun a b => a &&& b) f) := by
  intro p l e s m args below meth c E X μ H locs ls lv st r μ' hP hS hL hst hf
  unfold cLBin at hf
  split at hf
  · next b a st' =>
    exact lv_land X.1 X.2.1 hd  (k p l e s m args below meth c E X μ H locs ls lv (.inr (.inl (((fun a b => a &&& b) : Int64 → Int64 → Int64) a b)) :: st') r μ' hP hS hL (List.forall_mem_cons.mpr ⟨trivial, fun w hw => hst w (List.mem_cons_of_mem _ (List.mem_cons_of_mem _ hw))⟩) hf)
  · cases hf
theorem z_lshr (hd : decode cc pc = .ok (.lshr, 1)) (k : Sim y cc nL ret R (pc + 1) f) : Sim y cc nL ret R pc (cLShr f) := by
  intro p l e s m args below meth c E X μ H locs ls lv st r μ' hP hS hL hst hf
  unfold cLShr at hf
  split at hf
  · next b a st' =>
    exact lv_lshr X.1 X.2.1 hd rfl (k p l e s m args below meth c E X μ H locs ls lv (.inr (.inl (a >>> (b.toInt64 &&& 63))) :: st') r μ' hP hS hL (List.forall_mem_cons.mpr ⟨trivial, fun w hw => hst w (List.mem_cons_of_mem _ (List.mem_cons_of_mem _ hw))⟩) hf)
  · cases hf
theorem z_lcmp (hd : decode cc pc = .ok (.lcmp, 1)) (k : Sim y cc nL ret R (pc + 1) f) : Sim y cc nL ret R pc (cLCmp f) := by
  intro p l e s m args below meth c E X μ H locs ls lv st r μ' hP hS hL hst hf
  unfold cLCmp at hf
  split at hf
  · next b a st' =>
    exact W.lcmp X.1 X.2.1 hd  (k p l e s m args below meth c E X μ H locs ls lv (.inl (lg_cmp a b) :: st') r μ' hP hS hL (List.forall_mem_cons.mpr ⟨trivial, fun w hw => hst w (List.mem_cons_of_mem _ (List.mem_cons_of_mem _ hw))⟩) hf)
  · cases hf
theorem z_dup (hd : decode cc pc = .ok (.dup, 1)) (k : Sim y cc nL ret R (pc + 1) f) : Sim y cc nL ret R pc (cDup f) := by
  intro p l e s m args below meth c E X μ H locs ls lv st r μ' hP hS hL hst hf
  unfold cDup at hf
  split at hf
  · next x st' =>
    exact lv_dup X.1 X.2.1 hd rfl (k p l e s m args below meth c E X μ H locs ls lv (.inl x :: .inl x :: st') r μ' hP hS hL (List.forall_mem_cons.mpr ⟨trivial, hst⟩) hf)
  · next h st' =>
    split at hf
    · cases hf
    · next h7 =>
      have h3 := k p l e s m args below meth c E X μ H locs ls lv (.inr (.inr h) :: .inr (.inr h) :: st') r μ' hP hS hL (List.forall_mem_cons.mpr ⟨hst _ List.mem_cons_self, hst⟩) hf
      rw [List.map_cons, List.map_cons, zval_ref h7] at h3
      rw [List.map_cons, zval_ref h7]
      exact lv_dup X.1 X.2.1 hd rfl h3
  · cases hf
theorem z_dup2 (hd : decode cc pc = .ok (.dup2, 1)) (k : Sim y cc nL ret R (pc + 1) f) : Sim y cc nL ret R pc (cDup2 f) := by
  intro p l e s m args below meth c E X μ H locs ls lv st r μ' hP hS hL hst hf
  unfold cDup2 at hf
  split at hf
  · next x h st' =>
    split at hf
    · cases hf
    · next h7 =>
      have h3 := k p l e s m args below meth c E X μ H locs ls lv (.inl x :: .inr (.inr h) :: .inl x :: .inr (.inr h) :: st') r μ' hP hS hL (List.forall_mem_cons.mpr ⟨trivial, List.forall_mem_cons.mpr ⟨hst _ (List.mem_cons_of_mem _ List.mem_cons_self), hst⟩⟩) hf
      simp only [List.map_cons, zval_ref h7] at h3
      simp only [List.map_cons, zval_ref h7]
      exact lv_dup2_11 X.1 X.2.1 hd rfl rfl h3
  · cases hf
theorem z_pop (hd : decode cc pc = .ok (.pop, 1)) (k : Sim y cc nL ret R (pc + 1) f) : Sim y cc nL ret R pc (cPop f) := by
  intro p l e s m args below meth c E X μ H locs ls lv st r μ' hP hS hL hst hf
  unfold cPop at hf
  split at hf
  · next x st' =>
    exact lv_pop X.1 X.2.1 hd rfl (k p l e s m args below meth c E X μ H locs ls lv st' r μ' hP hS hL (fun w hw => hst w (List.mem_cons_of_mem _ hw)) hf)
  · cases hf
theorem z_ifnull {off : Int} (hd : decode cc pc = .ok (.ifnull off, 3)) (k : Sim y cc nL ret R (pc + 3) f) : Sim y cc nL ret R pc (cNonnull f) := by
  intro p l e s m args below meth c E X μ H locs ls lv st r μ' hP hS hL hst hf
  unfold cNonnull at hf
  split at hf
  · next h st' =>
    split at hf
    · cases hf
    · next h7 =>
      rw [List.map_cons, zval_ref h7]
      exact lv_ifnull X.1 X.2.1 hd (k p l e s m args below meth c E X μ H locs ls lv st' r μ' hP hS hL (fun w hw => hst w (List.mem_cons_of_mem _ hw)) hf)
  · cases hf
theorem z_ifnonnull {off : Int} {tgt : Nat} (hd : decode cc pc = .ok (.ifnonnull off, 3)) (ht : (pc : Int) + off = (tgt : Int)) (k : Sim y cc nL ret R tgt f) : Sim y cc nL ret R pc (cNonnull f) := by
  intro p l e s m args below meth c E X μ H locs ls lv st r μ' hP hS hL hst hf
  unfold cNonnull at hf
  split at hf
  · next h st' =>
    split at hf
    · cases hf
    · next h7 =>
      rw [List.map_cons, zval_ref h7]
      exact lv_ifnonnull X.1 X.2.1 hd ht (k p l e s m args below meth c E X μ H locs ls lv st' r μ' hP hS hL (fun w hw => hst w (List.mem_cons_of_mem _ hw)) hf)
  · cases hf
theorem z_ifeq {off : Int} {tgt : Nat} (hd : decode cc pc = .ok (.ifCond .eq off, 3)) (ht : (pc : Int) + off = (tgt : Int)) (kt : Sim y cc nL ret R tgt ft) (kf : Sim y cc nL ret R (pc + 3) ff) : Sim y cc nL ret R pc (cIfEq ft ff) := by
  intro p l e s m args below meth c E X μ H locs ls lv st r μ' hP hS hL hst hf
  unfold cIfEq at hf
  split at hf
  · next a st' =>
    refine lv_if_eq X.1 X.2.1 hd ht (fun hc => ?_) (fun hc => ?_)
    · rw [zif_pos (hc)] at hf
      exact kt p l e s m args below meth c E X μ H locs ls lv st' r μ' hP hS hL (fun w hw => hst w (List.mem_cons_of_mem _ hw)) hf
    · rw [zif_neg (hc)] at hf
      exact kf p l e s m args below meth c E X μ H locs ls lv st' r μ' hP hS hL (fun w hw => hst w (List.mem_cons_of_mem _ hw)) hf
  · cases hf
theorem z_ifne {off : Int} {tgt : Nat} (hd : decode cc pc = .ok (.ifCond .ne off, 3)) (ht : (pc : Int) + off = (tgt : Int)) (kt : Sim y cc nL ret R tgt ft) (kf : Sim y cc nL ret R (pc + 3) ff) : Sim y cc nL ret R pc (cIfEq ff ft) := by
  intro p l e s m args below meth c E X μ H locs ls lv st r μ' hP hS hL hst hf
  unfold cIfEq at hf
  split at hf
  · next a st' =>
    refine lv_if_ne X.1 X.2.1 hd ht (fun hc => ?_) (fun hc => ?_)
    · rw [zif_neg (hc)] at hf
      exact kt p l e s m args below meth c E X μ H locs ls lv st' r μ' hP hS hL (fun w hw => hst w (List.mem_cons_of_mem _ hw)) hf
    · rw [zif_pos (hc)] at hf
      exact kf p l e s m args below meth c E X μ H locs ls lv st' r μ' hP hS hL (fun w hw => hst w (List.mem_cons_of_mem _ hw)) hf
  · cases hf
theorem z_iflt {off : Int} {tgt : Nat} (hd : decode cc pc = .ok (.ifCond .lt off, 3)) (ht : (pc : Int) + off = (tgt : Int)) (kt : Sim y cc nL ret R tgt ft) (kf : Sim y cc nL ret R (pc + 3) ff) : Sim y cc nL ret R pc (cIfLt ft ff) := by
  intro p l e s m args below meth c E X μ H locs ls lv st r μ' hP hS hL hst hf
  unfold cIfLt at hf
  split at hf
  · next a st' =>
    refine lv_if_lt X.1 X.2.1 hd ht (fun hc => ?_) (fun hc => ?_)
    · rw [zif_pos (hc)] at hf
      exact kt p l e s m args below meth c E X μ H locs ls lv st' r μ' hP hS hL (fun w hw => hst w (List.mem_cons_of_mem _ hw)) hf
    · rw [zif_neg (hc)] at hf
      exact kf p l e s m args below meth c E X μ H locs ls lv st' r μ' hP hS hL (fun w hw => hst w (List.mem_cons_of_mem _ hw)) hf
  · cases hf
theorem z_ifge {off : Int} {tgt : Nat} (hd : decode cc pc = .ok (.ifCond .ge off, 3)) (ht : (pc : Int) + off = (tgt : Int)) (kt : Sim y cc nL ret R tgt ft) (kf : Sim y cc nL ret R (pc + 3) ff) : Sim y cc nL ret R pc (cIfLt ff ft) := by
  intro p l e s m args below meth c E X μ H locs ls lv st r μ' hP hS hL hst hf
  unfold cIfLt at hf
  split at hf
  · next a st' =>
    refine lv_if_ge X.1 X.2.1 hd ht (fun hc => ?_) (fun hc => ?_)
    · rw [zif_neg (Int32.not_lt.mpr hc)] at hf
      exact kt p l e s m args below meth c E X μ H locs ls lv st' r μ' hP hS hL (fun w hw => hst w (List.mem_cons_of_mem _ hw)) hf
    · rw [zif_pos (Int32.not_le.mp hc)] at hf
      exact kf p l e s m args below meth c E X μ H locs ls lv st' r μ' hP hS hL (fun w hw => hst w (List.mem_cons_of_mem _ hw)) hf
  · cases hf
theorem z_ifgt {off : Int} {tgt : Nat} (hd : decode cc pc = .ok (.ifCond .gt off, 3)) (ht : (pc : Int) + off = (tgt : Int)) (kt : Sim y cc nL ret R tgt ft) (kf : Sim y cc nL ret R (pc + 3) ff) : Sim y cc nL ret R pc (cIfLe ff ft) := by
  intro p l e s m args below meth c E X μ H locs ls lv st r μ' hP hS hL hst hf
  unfold cIfLe at hf
  split at hf
  · next a st' =>
    refine lv_if_gt X.1 X.2.1 hd ht (fun hc => ?_) (fun hc => ?_)
    · rw [zif_pos (hc)] at hf
      exact kt p l e s m args below meth c E X μ H locs ls lv st' r μ' hP hS hL (fun w hw => hst w (List.mem_cons_of_mem _ hw)) hf
    · rw [zif_neg (hc)] at hf
      exact kf p l e s m args below meth c E X μ H locs ls lv st' r μ' hP hS hL (fun w hw => hst w (List.mem_cons_of_mem _ hw)) hf
  · cases hf
theorem z_ifle {off : Int} {tgt : Nat} (hd : decode cc pc = .ok (.ifCond .le off, 3)) (ht : (pc : Int) + off = (tgt : Int)) (kt : Sim y cc nL ret R tgt ft) (kf : Sim y cc nL ret R (pc + 3) ff) : Sim y cc nL ret R pc (cIfLe ft ff) := by
  intro p l e s m args below meth c E X μ H locs ls lv st r μ' hP hS hL hst hf
  unfold cIfLe at hf
  split at hf
  · next a st' =>
    refine lv_if_le X.1 X.2.1 hd ht (fun hc => ?_) (fun hc => ?_)
    · rw [zif_neg (Int32.not_lt.mpr hc)] at hf
      exact kt p l e s m args below meth c E X μ H locs ls lv st' r μ' hP hS hL (fun w hw => hst w (List.mem_cons_of_mem _ hw)) hf
    · rw [zif_pos (Int32.not_le.mp hc)] at hf
      exact kf p l e s m args below meth c E X μ H locs ls lv st' r μ' hP hS hL (fun w hw => hst w (List.mem_cons_of_mem _ hw)) hf
  · cases hf
theorem z_cmpeq {off : Int} {tgt : Nat} (hd : decode cc pc = .ok (.if_icmp .eq off, 3)) (ht : (pc : Int) + off = (tgt : Int)) (kt : Sim y cc nL ret R tgt ft) (kf : Sim y cc nL ret R (pc + 3) ff) : Sim y cc nL ret R pc (cCmpEq ft ff) := by
  intro p l e s m args below meth c E X μ H locs ls lv st r μ' hP hS hL hst hf
  unfold cCmpEq at hf
  split at hf
  · next b a st' =>
    refine lv_icmp_eq X.1 X.2.1 hd ht (fun hc => ?_) (fun hc => ?_)
    · rw [zif_pos (hc)] at hf
      exact kt p l e s m args below meth c E X μ H locs ls lv st' r μ' hP hS hL (fun w hw => hst w (List.mem_cons_of_mem _ (List.mem_cons_of_mem _ hw))) hf
    · rw [zif_neg (hc)] at hf
      exact kf p l e s m args below meth c E X μ H locs ls lv st' r μ' hP hS hL (fun w hw => hst w (List.mem_cons_of_mem _ (List.mem_cons_of_mem _ hw))) hf
  · cases hf
theorem z_cmpne {off : Int} {tgt : Nat} (hd : decode cc pc = .ok (.if_icmp .ne off, 3)) (ht : (pc : Int) + off = (tgt : Int)) (kt : Sim y cc nL ret R tgt ft) (kf : Sim y cc nL ret R (pc + 3) ff) : Sim y cc nL ret R pc (cCmpEq ff ft) := by
  intro p l e s m args below meth c E X μ H locs ls lv st r μ' hP hS hL hst hf
  unfold cCmpEq at hf
  split at hf
  · next b a st' =>
    refine lv_icmp_ne X.1 X.2.1 hd ht (fun hc => ?_) (fun hc => ?_)
    · rw [zif_neg (hc)] at hf
      exact kt p l e s m args below meth c E X μ H locs ls lv st' r μ' hP hS hL (fun w hw => hst w (List.mem_cons_of_mem _ (List.mem_cons_of_mem _ hw))) hf
    · rw [zif_pos (hc)] at hf
      exact kf p l e s m args below meth c E X μ H locs ls lv st' r μ' hP hS hL (fun w hw => hst w (List.mem_cons_of_mem _ (List.mem_cons_of_mem _ hw))) hf
  · cases hf
theorem z_cmplt {off : Int} {tgt : Nat} (hd : decode cc pc = .ok (.if_icmp .lt off, 3)) (ht : (pc : Int) + off = (tgt : Int)) (kt : Sim y cc nL ret R tgt ft) (kf : Sim y cc nL ret R (pc + 3) ff) : Sim y cc nL ret R pc (cCmpLt ft ff) := by
  intro p l e s m args below meth c E X μ H locs ls lv st r μ' hP hS hL hst hf
  unfold cCmpLt at hf
  split at hf
  · next b a st' =>
    refine lv_icmp_lt X.1 X.2.1 hd ht (fun hc => ?_) (fun hc => ?_)
    · rw [zif_pos (hc)] at hf
      exact kt p l e s m args below meth c E X μ H locs ls lv st' r μ' hP hS hL (fun w hw => hst w (List.mem_cons_of_mem _ (List.mem_cons_of_mem _ hw))) hf
    · rw [zif_neg (hc)] at hf
      exact kf p l e s m args below meth c E X μ H locs ls lv st' r μ' hP hS hL (fun w hw => hst w (List.mem_cons_of_mem _ (List.mem_cons_of_mem _ hw))) hf
  · cases hf
theorem z_cmpge {off : Int} {tgt : Nat} (hd : decode cc pc = .ok (.if_icmp .ge off, 3)) (ht : (pc : Int) + off = (tgt : Int)) (kt : Sim y cc nL ret R tgt ft) (kf : Sim y cc nL ret R (pc + 3) ff) : Sim y cc nL ret R pc (cCmpLt ff ft) := by
  intro p l e s m args below meth c E X μ H locs ls lv st r μ' hP hS hL hst hf
  unfold cCmpLt at hf
  split at hf
  · next b a st' =>
    refine lv_icmp_ge X.1 X.2.1 hd ht (fun hc => ?_) (fun hc => ?_)
    · rw [zif_neg (Int32.not_lt.mpr hc)] at hf
      exact kt p l e s m args below meth c E X μ H locs ls lv st' r μ' hP hS hL (fun w hw => hst w (List.mem_cons_of_mem _ (List.mem_cons_of_mem _ hw))) hf
    · rw [zif_pos (Int32.not_le.mp hc)] at hf
      exact kf p l e s m args below meth c E X μ H locs ls lv st' r μ' hP hS hL (fun w hw => hst w (List.mem_cons_of_mem _ (List.mem_cons_of_mem _ hw))) hf
  · cases hf
theorem z_cmpgt {off : Int} {tgt : Nat} (hd : decode cc pc = .ok (.if_icmp .gt off, 3)) (ht : (pc : Int) + off = (tgt : Int)) (kt : Sim y cc nL ret R tgt ft) (kf : Sim y cc nL ret R (pc + 3) ff) : Sim y cc nL ret R pc (cCmpLe ff ft) := by
  intro p l e s m args below meth c E X μ H locs ls lv st r μ' hP hS hL hst hf
  unfold cCmpLe at hf
  split at hf
  · next b a st' =>
    refine lv_icmp_gt X.1 X.2.1 hd ht (fun hc => ?_) (fun hc => ?_)
    · rw [zif_pos (hc)] at hf
      exact kt p l e s m args below meth c E X μ H locs ls lv st' r μ' hP hS hL (fun w hw => hst w (List.mem_cons_of_mem _ (List.mem_cons_of_mem _ hw))) hf
    · rw [zif_neg (hc)] at hf
      exact kf p l e s m args below meth c E X μ H locs ls lv st' r μ' hP hS hL (fun w hw => hst w (List.mem_cons_of_mem _ (List.mem_cons_of_mem _ hw))) hf
  · cases hf
theorem z_cmple {off : Int} {tgt : Nat} (hd : decode cc pc = .ok (.if_icmp .le off, 3)) (ht : (pc : Int) + off = (tgt : Int)) (kt : Sim y cc nL ret R tgt ft) (kf : Sim y cc nL ret R (pc + 3) ff) : Sim y cc nL ret R pc (cCmpLe ft ff) := by
  intro p l e s m args below meth c E X μ H locs ls lv st r μ' hP hS hL hst hf
  unfold cCmpLe at hf
  split at hf
  · next b a st' =>
    refine lv_icmp_le X.1 X.2.1 hd ht (fun hc => ?_) (fun hc => ?_)
    · rw [zif_neg (Int32.not_lt.mpr hc)] at hf
      exact kt p l e s m args below meth c E X μ H locs ls lv st' r μ' hP hS hL (fun w hw => hst w (List.mem_cons_of_mem _ (List.mem_cons_of_mem _ hw))) hf
    · rw [zif_pos (Int32.not_le.mp hc)] at hf
      exact kf p l e s m args below meth c E X μ H locs ls lv st' r μ' hP hS hL (fun w hw => hst w (List.mem_cons_of_mem _ (List.mem_cons_of_mem _ hw))) hf
  · cases hf
theorem zq_ret {E : zE} {args : Array Value} {s : State} {H : Heap} {locs : List Loc} {v : zV} {w : Value} {μ : zM} (hP : zP E μ H) (hS : va_S (zA E) s.heap H locs) (hv : zok E v) (hw : zval E v = w) : ∀ t : State, t.heap = H → s.WarmedH t.vm → zQ E (some v) μ args s (.returned (some w)) t := by
  intro t ht _
  refine ⟨⟨by rw [← hw]; rfl, by rw [ht]; exact hP, fun v' h => ?_⟩, hS.F ht⟩
  cases h
  exact hv
theorem z_ireturn (hr : ret = some .int) (hd : decode cc pc = .ok (.ireturn, 1)) : Sim y cc nL ret R pc cRetI := by
  intro p l e s m args below meth c E X μ H locs ls lv st r μ' hP hS hL hst hf
  unfold cRetI at hf
  split at hf
  · next v =>
    cases hf
    exact W.iret X.1 X.2.1 (X.2.2.2.2.2.2.1.trans hr) (zq_ret (v := .inl v) hP hS trivial rfl) hS.2.2 hd (hlocks := X.2.2.2.2.2.1)
  · cases hf
theorem z_zreturn {ty : FieldType} (hr : ret = some ty) (hty : ∀ v, narrow ty (.int v) = .int (vp_nar ty v)) (hd : decode cc pc = .ok (.ireturn, 1)) : Sim y cc nL ret R pc (cRetZ ty) := by
  intro p l e s m args below meth c E X μ H locs ls lv st r μ' hP hS hL hst hf
  unfold cRetZ at hf
  split at hf
  · next v =>
    by_cases hn : vp_nar ty v = v
    · rw [zif_pos hn] at hf
      cases hf
      exact W.zret X.1 X.2.1 (X.2.2.2.2.2.2.1.trans hr) (by rw [hty, hn]) (zq_ret (v := .inl v) hP hS trivial rfl) hS.2.2 hd (hlocks := X.2.2.2.2.2.1)
    · rw [zif_neg hn] at hf; cases hf
  · cases hf
theorem z_lreturn (hr : ret = some .long) (hd : decode cc pc = .ok (.lreturn, 1)) : Sim y cc nL ret R pc cRetL := by
  intro p l e s m args below meth c E X μ H locs ls lv st r μ' hP hS hL hst hf
  unfold cRetL at hf
  split at hf
  · next v =>
    cases hf
    exact W.lret X.1 X.2.1 (X.2.2.2.2.2.2.1.trans hr) (zq_ret (v := .inr (.inl v)) hP hS trivial rfl) hS.2.2 hd (hlocks := X.2.2.2.2.2.1)
  · cases hf
theorem z_areturn {rt : FieldType} (hr : ret = some rt) (hrt : (∃ n, rt = .object n) ∨ ∃ t, rt = .array t) (hd : decode cc pc = .ok (.areturn, 1)) : Sim y cc nL ret R pc cRetA := by
  intro p l e s m args below meth c E X μ H locs ls lv st r μ' hP hS hL hst hf
  unfold cRetA at hf
  split at hf
  · next h =>
    split at hf
    · cases hf
    · next h7 =>
      cases hf
      have h1 := hst _ List.mem_cons_self
      rw [List.map_cons, List.map_nil]
      exact W.aret X.1 X.2.1 (X.2.2.2.2.2.2.1.trans hr) hrt (Or.inr ⟨_, zval_ref h7⟩) (zq_ret (v := .inr (.inr h)) hP hS h1 rfl) hS.2.2 hd (hlocks := X.2.2.2.2.2.1)
  · cases hf
theorem z_return (hr : ret = none) (hd : decode cc pc = .ok (.return_, 1)) : Sim y cc nL ret R pc cRetV := by
  intro p l e s m args below meth c E X μ H locs ls lv st r μ' hP hS hL hst hf
  unfold cRetV at hf
  split at hf
  · cases hf
    exact W.vret X.1 X.2.1 (X.2.2.2.2.2.2.1.trans hr) (fun t ht _ => ⟨⟨rfl, by rw [ht]; exact hP, fun v' h => by cases h⟩, hS.F ht⟩) hS.2.2 hd (hlocks := X.2.2.2.2.2.1)
  · cases hf
theorem nar_z (v : Int32) : narrow .boolean (.int v) = .int (vp_nar .boolean v) := rfl
theorem nar_c (v : Int32) : narrow .char (.int v) = .int (vp_nar .char v) := rfl
theorem nar_b (v : Int32) : narrow .byte (.int v) = .int (vp_nar .byte v) := rfl
end SIM
