/-! ===== the judgement: bytecode from pc on does what f says ===== -/
abbrev zws0 (y : MethodName) (cc : ByteArray) (nL : Nat) (ret : Option FieldType) : List Cond := Cond.code y cc nL ret :: zW
theorem zW_goodIn {y y' : MethodName} {cc cc' : ByteArray} {nL nL' : Nat} {ret ret' : Option FieldType} (h : Cond.code y' cc' nL' ret' ∈ zW) : GoodIn (zws0 y cc nL ret) (zws0 y' cc' nL' ret') := by
  intro w hw
  have hz : w ∈ zW := by
    rcases List.mem_cons.mp hw with e | e
    · rw [e]; exact h
    · exact e
  exact ⟨List.mem_cons_of_mem _ hz, zW_good hz⟩
def zQ (E : zE) (r : Option zV) (μ : zM) : Array Value → State → Outcome → State → Prop := fun _ st oc t => (oc = .returned (r.map (zval E)) ∧ zP E μ t.heap ∧ ∀ v, r = some v → zok E v) ∧ va_F (zA E) st t
def zX (E : zE) (y : MethodName) (cc : ByteArray) (nL : Nat) (ret : Option FieldType) (p : Program) (s : State) (m : MethodId) (args : Array Value) (meth : Method) (c : Code) : Prop :=
  p.tables.exec = Jvm.exec ∧ c.code = cc ∧ c.maxLocals = nL ∧ s.vm.findClass y.cls = some m.cls ∧ (∀ w ∈ zws0 y cc nL ret, w.before args s = true) ∧ meth.locks = false ∧ meth.sig.returnType = ret ∧ zEnv E s ∧ zCl E
def zLr (E : zE) (ls : Array Slot) (nL : Nat) (lv : List (Option zV)) : Prop := ls.size = nL ∧ lv_wf ls ∧ ∀ (k : Nat) (v : zV), lv[k]? = some (some v) → ls[k]? = some (Slot.val (zval E v)) ∧ zok E v
def Sim (y : MethodName) (cc : ByteArray) (nL : Nat) (ret : Option FieldType) (R : Room) (pc : Nat) (f : zD) : Prop :=
  ∀ (p : Program) (l : Launch) (e : Env) (s : State) (m : MethodId) (args : Array Value) (below : List Frame) (meth : Method) (c : Code) (E : zE), zX E y cc nL ret p s m args meth c →
  ∀ (μ : zM) (H : Heap) (locs : List Loc) (ls : Array Slot) (lv : List (Option zV)) (st : List zV) (r : Option zV) (μ' : zM), zP E μ H → va_S (zA E) s.heap H locs → zLr E ls nL lv → (∀ v ∈ st, zok E v) → f lv st μ = some (r, μ') →
  W p l e R s m args below meth c H locs 0 0 (MQ below (zQ E r μ') args s 0 0 (zA E)) (F0 m pc ls (st.map (zval E)))
/-- a method's contract -/
def Con (y : MethodName) (cc : ByteArray) (nL : Nat) (ret : Option FieldType) (R : Room) (g : zG) : Prop :=
  ∀ (l : Launch) (E : zE) (μ : zM) (av : List zV) (r : Option zV) (μ' : zM), zCl E → (∀ v ∈ av, zok E v) → g av μ = some (r, μ') →
  Met l y (zws0 y cc nL ret) R (va_Pc (av.map (zval E)) (fun U => zEnv E U ∧ zP E μ U.heap)) (zQ E r μ') 0 0 (zA E)
/-! the combinators -/
/-- a choice that no reduction looks into -/
noncomputable def zif {α : Type} (c : Prop) (a b : α) : α := @ite α c (Classical.propDecidable c) a b
theorem zif_pos {α : Type} {c : Prop} {a b : α} (h : c) : zif c a b = a := by unfold zif; exact if_pos h
theorem zif_neg {α : Type} {c : Prop} {a b : α} (h : ¬ c) : zif c a b = b := by unfold zif; exact if_neg h
theorem zif_eq {α : Type} {c : Prop} [Decidable c] {a b : α} : zif c a b = if c then a else b := by
  by_cases h : c
  · rw [zif_pos h, if_pos h]
  · rw [zif_neg h, if_neg h]
def cNone : zD := fun _ _ _ => none
def cPush (v : zV) (f : zD) : zD := fun lv st μ => f lv (v :: st) μ
def cLdI (k : Nat) (f : zD) : zD := fun lv st μ => match lv[k]? with
  | some (some (.inl v)) => f lv (.inl v :: st) μ
  | _ => none
def cLdL (k : Nat) (f : zD) : zD := fun lv st μ => match lv[k]? with
  | some (some (.inr (.inl v))) => f lv (.inr (.inl v) :: st) μ
  | _ => none
def cLdA (k : Nat) (f : zD) : zD := fun lv st μ => match lv[k]? with
  | some (some (.inr (.inr h))) => if h.1 = 77 then none else f lv (.inr (.inr h) :: st) μ
  | _ => none
/-- a slot may be stored to: no long stands before it -/
def zstb (lv : List (Option zV)) : Nat → Bool
  | 0 => true
  | k + 1 => match lv[k]? with
    | some (some (.inr (.inl _))) => false
    | _ => true
def cStI (k : Nat) (f : zD) : zD := fun lv st μ => match st with
  | .inl v :: st' => if zstb lv k then f (lv.set k (some (.inl v))) st' μ else none
  | _ => none
def cStA (k : Nat) (f : zD) : zD := fun lv st μ => match st with
  | .inr (.inr h) :: st' => if h.1 = 77 then none else if zstb lv k then f (lv.set k (some (.inr (.inr h)))) st' μ else none
  | _ => none
def cInc (k : Nat) (n : Int32) (f : zD) : zD := fun lv st μ => match lv[k]? with
  | some (some (.inl v)) => if zstb lv k then f (lv.set k (some (.inl (v + n)))) st μ else none
  | _ => none
/-- what is no longer needed is left out -/
def zkeep : List Bool → List (Option zV) → List (Option zV)
  | [], _ => []
  | _, [] => []
  | b :: bs, v :: lv => (if b then v else none) :: zkeep bs lv
def cKeep (bs : List Bool) (f : zD) : zD := fun lv st μ => f (zkeep bs lv) st μ
def cBin (op : Int32 → Int32 → Int32) (f : zD) : zD := fun lv st μ => match st with
  | .inl y :: .inl x :: st' => f lv (.inl (op x y) :: st') μ
  | _ => none
noncomputable def cBin0 (op : Int32 → Int32 → Int32) (f : zD) : zD := fun lv st μ => match st with
  | .inl y :: .inl x :: st' => zif (y = 0) none (f lv (.inl (op x y) :: st') μ)
  | _ => none
def cUn (op : Int32 → Int32) (f : zD) : zD := fun lv st μ => match st with
  | .inl x :: st' => f lv (.inl (op x) :: st') μ
  | _ => none
def cI2L (f : zD) : zD := fun lv st μ => match st with
  | .inl x :: st' => f lv (.inr (.inl x.toInt64) :: st') μ
  | _ => none
def cL2I (f : zD) : zD := fun lv st μ => match st with
  | .inr (.inl x) :: st' => f lv (.inl x.toInt32 :: st') μ
  | _ => none
def cLBin (op : Int64 → Int64 → Int64) (f : zD) : zD := fun lv st μ => match st with
  | .inr (.inl y) :: .inr (.inl x) :: st' => f lv (.inr (.inl (op x y)) :: st') μ
  | _ => none
def cLShr (f : zD) : zD := fun lv st μ => match st with
  | .inl y :: .inr (.inl x) :: st' => f lv (.inr (.inl (x >>> (y.toInt64 &&& 63))) :: st') μ
  | _ => none
def cLCmp (f : zD) : zD := fun lv st μ => match st with
  | .inr (.inl y) :: .inr (.inl x) :: st' => f lv (.inl (lg_cmp x y) :: st') μ
  | _ => none
def zcat : zV → Nat
  | .inr (.inl _) => 2
  | _ => 1
def cDup (f : zD) : zD := fun lv st μ => match st with
  | .inl x :: st' => f lv (.inl x :: .inl x :: st') μ
  | .inr (.inr h) :: st' => if h.1 = 77 then none else f lv (.inr (.inr h) :: .inr (.inr h) :: st') μ
  | _ => none
def cDup2 (f : zD) : zD := fun lv st μ => match st with
  | .inl y :: .inr (.inr h) :: st' => if h.1 = 77 then none else f lv (.inl y :: .inr (.inr h) :: .inl y :: .inr (.inr h) :: st') μ
  | _ => none
def cPop (f : zD) : zD := fun lv st μ => match st with
  | .inl _ :: st' => f lv st' μ
  | _ => none
noncomputable def cIfEq (ft ff : zD) : zD := fun lv st μ => match st with
  | .inl x :: st' => zif (x = 0) (ft lv st' μ) (ff lv st' μ)
  | _ => none
noncomputable def cIfLt (ft ff : zD) : zD := fun lv st μ => match st with
  | .inl x :: st' => zif (x < 0) (ft lv st' μ) (ff lv st' μ)
  | _ => none
noncomputable def cIfLe (ft ff : zD) : zD := fun lv st μ => match st with
  | .inl x :: st' => zif (0 < x) (ff lv st' μ) (ft lv st' μ)
  | _ => none
noncomputable def cCmpEq (ft ff : zD) : zD := fun lv st μ => match st with
  | .inl y :: .inl x :: st' => zif (x = y) (ft lv st' μ) (ff lv st' μ)
  | _ => none
noncomputable def cCmpLt (ft ff : zD) : zD := fun lv st μ => match st with
  | .inl y :: .inl x :: st' => zif (x < y) (ft lv st' μ) (ff lv st' μ)
  | _ => none
noncomputable def cCmpLe (ft ff : zD) : zD := fun lv st μ => match st with
  | .inl y :: .inl x :: st' => zif (y < x) (ff lv st' μ) (ft lv st' μ)
  | _ => none
def cNonnull (f : zD) : zD := fun lv st μ => match st with
  | .inr (.inr h) :: st' => if h.1 = 77 then none else f lv st' μ
  | _ => none
def cRetI : zD := fun _ st μ => match st with
  | [.inl v] => some (some (.inl v), μ)
  | _ => none
noncomputable def cRetZ (ty : FieldType) : zD := fun _ st μ => match st with
  | [.inl v] => zif (vp_nar ty v = v) (some (some (.inl v), μ)) none
  | _ => none
def cRetL : zD := fun _ st μ => match st with
  | [.inr (.inl v)] => some (some (.inr (.inl v)), μ)
  | _ => none
def cRetA : zD := fun _ st μ => match st with
  | [.inr (.inr h)] => if h.1 = 77 then none else some (some (.inr (.inr h)), μ)
  | _ => none
def cRetV : zD := fun _ st μ => match st with
  | [] => some (none, μ)
  | _ => none
section SIM
variable {y : MethodName} {cc : ByteArray} {nL : Nat} {ret : Option FieldType} {R : Room} {pc : Nat} {f ft ff : zD}
theorem z_none : Sim y cc nL ret R pc cNone := by
  intro p l e s m args below meth c E X μ H locs ls lv st r μ' hP hS hL hst hf
  cases hf
theorem z_iconst {n : Int} {v : Int32} (hd : decode cc pc = .ok (.iconst n, 1)) (hv : Int32.ofInt n = v) (k : Sim y cc nL ret R (pc + 1) f) : Sim y cc nL ret R pc (cPush (.inl v) f) := by
  intro p l e s m args below meth c E X μ H locs ls lv st r μ' hP hS hL hst hf
  exact lv_iconst X.1 X.2.1 hd hv (k p l e s m args below meth c E X μ H locs ls lv (.inl v :: st) r μ' hP hS hL (List.forall_mem_cons.mpr ⟨trivial, hst⟩) hf)
theorem z_bipush {n : Int} {v : Int32} (hd : decode cc pc = .ok (.bipush n, 2)) (hv : (Int8.ofInt n).toInt32 = v) (k : Sim y cc nL ret R (pc + 2) f) : Sim y cc nL ret R pc (cPush (.inl v) f) := by
  intro p l e s m args below meth c E X μ H locs ls lv st r μ' hP hS hL hst hf
  exact lv_bipush X.1 X.2.1 hd hv (k p l e s m args below meth c E X μ H locs ls lv (.inl v :: st) r μ' hP hS hL (List.forall_mem_cons.mpr ⟨trivial, hst⟩) hf)
theorem z_sipush {n : Int} {v : Int32} (hd : decode cc pc = .ok (.sipush n, 3)) (hv : (Int16.ofInt n).toInt32 = v) (k : Sim y cc nL ret R (pc + 3) f) : Sim y cc nL ret R pc (cPush (.inl v) f) := by
  intro p l e s m args below meth c E X μ H locs ls lv st r μ' hP hS hL hst hf
  exact lv_sipush X.1 X.2.1 hd hv (k p l e s m args below meth c E X μ H locs ls lv (.inl v :: st) r μ' hP hS hL (List.forall_mem_cons.mpr ⟨trivial, hst⟩) hf)
theorem z_lconst {n : Fin 2} {v : Int64} (hd : decode cc pc = .ok (.lconst n, 1)) (hv : Int64.ofNat (n : Nat) = v) (k : Sim y cc nL ret R (pc + 1) f) : Sim y cc nL ret R pc (cPush (.inr (.inl v)) f) := by
  intro p l e s m args below meth c E X μ H locs ls lv st r μ' hP hS hL hst hf
  exact lv_lconst X.1 X.2.1 hd hv (k p l e s m args below meth c E X μ H locs ls lv (.inr (.inl v) :: st) r μ' hP hS hL (List.forall_mem_cons.mpr ⟨trivial, hst⟩) hf)
theorem z_ldc {i : Nat} {v : Int32} (hd : decode cc pc = .ok (.ldc i, 2)) (hw : Cond.constant y.cls i v ∈ zW) (k : Sim y cc nL ret R (pc + 2) f) : Sim y cc nL ret R pc (cPush (.inl v) f) := by
  intro p l e s m args below meth c E X μ H locs ls lv st r μ' hP hS hL hst hf
  exact lv_ldc X.1 X.2.1 X.2.2.2.1 (X.2.2.2.2.1 _ (List.mem_cons_of_mem _ hw)) hd (k p l e s m args below meth c E X μ H locs ls lv (.inl v :: st) r μ' hP hS hL (List.forall_mem_cons.mpr ⟨trivial, hst⟩) hf)
theorem z_ldc2 {i : Nat} {v : Int64} (hd : decode cc pc = .ok (.ldc2_w i, 3)) (hw : Cond.constantLong y.cls i v ∈ zW) (k : Sim y cc nL ret R (pc + 3) f) : Sim y cc nL ret R pc (cPush (.inr (.inl v)) f) := by
  intro p l e s m args below meth c E X μ H locs ls lv st r μ' hP hS hL hst hf
  exact lv_ldc2 X.1 X.2.1 X.2.2.2.1 (X.2.2.2.2.1 _ (List.mem_cons_of_mem _ hw)) hd (k p l e s m args below meth c E X μ H locs ls lv (.inr (.inl v) :: st) r μ' hP hS hL (List.forall_mem_cons.mpr ⟨trivial, hst⟩) hf)
theorem z_iload_n {i : Fin 4} {j : Nat} (hd : decode cc pc = .ok (.iload_n i, 1)) (hj : (i : Nat) = j) (k : Sim y cc nL ret R (pc + 1) f) : Sim y cc nL ret R pc (cLdI j f) := by
  intro p l e s m args below meth c E X μ H locs ls lv st r μ' hP hS hL hst hf
  unfold cLdI at hf
  split at hf
  · next v hv =>
    have h1 := hL.2.2 j _ hv
    exact lv_iload_n X.1 X.2.1 hd hj h1.1 (k p l e s m args below meth c E X μ H locs ls lv (.inl v :: st) r μ' hP hS hL (List.forall_mem_cons.mpr ⟨trivial, hst⟩) hf)
  · cases hf
theorem z_iload {j : Nat} (hd : decode cc pc = .ok (.iload j, 2)) (k : Sim y cc nL ret R (pc + 2) f) : Sim y cc nL ret R pc (cLdI j f) := by
  intro p l e s m args below meth c E X μ H locs ls lv st r μ' hP hS hL hst hf
  unfold cLdI at hf
  split at hf
  · next v hv =>
    have h1 := hL.2.2 j _ hv
    exact lv_iload X.1 X.2.1 hd h1.1 (k p l e s m args below meth c E X μ H locs ls lv (.inl v :: st) r μ' hP hS hL (List.forall_mem_cons.mpr ⟨trivial, hst⟩) hf)
  · cases hf
theorem z_lload_n {i : Fin 4} {j : Nat} (hd : decode cc pc = .ok (.lload_n i, 1)) (hj : (i : Nat) = j) (k : Sim y cc nL ret R (pc + 1) f) : Sim y cc nL ret R pc (cLdL j f) := by
  intro p l e s m args below meth c E X μ H locs ls lv st r μ' hP hS hL hst hf
  unfold cLdL at hf
  split at hf
  · next v hv =>
    have h1 := hL.2.2 j _ hv
    exact lv_lload_n X.1 X.2.1 hd hj h1.1 (k p l e s m args below meth c E X μ H locs ls lv (.inr (.inl v) :: st) r μ' hP hS hL (List.forall_mem_cons.mpr ⟨trivial, hst⟩) hf)
  · cases hf
theorem z_lload {j : Nat} (hd : decode cc pc = .ok (.lload j, 2)) (k : Sim y cc nL ret R (pc + 2) f) : Sim y cc nL ret R pc (cLdL j f) := by
  intro p l e s m args below meth c E X μ H locs ls lv st r μ' hP hS hL hst hf
  unfold cLdL at hf
  split at hf
  · next v hv =>
    have h1 := hL.2.2 j _ hv
    exact lv_lload X.1 X.2.1 hd h1.1 (k p l e s m args below meth c E X μ H locs ls lv (.inr (.inl v) :: st) r μ' hP hS hL (List.forall_mem_cons.mpr ⟨trivial, hst⟩) hf)
  · cases hf
theorem zval_ref {E : zE} {h : zH} (hh : ¬ h.1 = 77) : zval E (.inr (.inr h)) = .ref (E.2.1 h) := by simp [zval, hh]
theorem z_aload_n {i : Fin 4} {j : Nat} (hd : decode cc pc = .ok (.aload_n i, 1)) (hj : (i : Nat) = j) (k : Sim y cc nL ret R (pc + 1) f) : Sim y cc nL ret R pc (cLdA j f) := by
  intro p l e s m args below meth c E X μ H locs ls lv st r μ' hP hS hL hst hf
  unfold cLdA at hf
  split at hf
  · next h hv =>
    have h1 := hL.2.2 j _ hv
    by_cases h7 : h.1 = 77
    · rw [if_pos h7] at hf; cases hf
    · rw [if_neg h7] at hf
      have h2 := h1.1
      rw [zval_ref h7] at h2
      refine lv_aload_n X.1 X.2.1 hd hj h2 ?_
      have h3 := k p l e s m args below meth c E X μ H locs ls lv (.inr (.inr h) :: st) r μ' hP hS hL (List.forall_mem_cons.mpr ⟨h1.2, hst⟩) hf
      rw [List.map_cons, zval_ref h7] at h3
      exact h3
  · cases hf
theorem z_goto {off : Int} {tgt : Nat} (hd : decode cc pc = .ok (.goto off, 3)) (ht : (pc : Int) + off = (tgt : Int)) (k : Sim y cc nL ret R tgt f) : Sim y cc nL ret R pc f := by
  intro p l e s m args below meth c E X μ H locs ls lv st r μ' hP hS hL hst hf
  exact lv_goto X.1 X.2.1 hd ht (k p l e s m args below meth c E X μ H locs ls lv st r μ' hP hS hL hst hf)
theorem zkeep_get : ∀ (bs : List Bool) (lv : List (Option zV)) (k : Nat) (v : zV), (zkeep bs lv)[k]? = some (some v) → lv[k]? = some (some v)
  | [], _, k, v, h => by simp [zkeep] at h
  | b :: bs, [], k, v, h => by simp [zkeep] at h
  | b :: bs, w :: lv, 0, v, h => by
    simp only [zkeep, List.getElem?_cons_zero, Option.some.injEq] at h ⊢
    split at h
    · exact h
    · cases h
  | b :: bs, w :: lv, k + 1, v, h => by
    simp only [zkeep, List.getElem?_cons_succ] at h ⊢
    exact zkeep_get bs lv k v h
theorem z_keep (bs : List Bool) (k : Sim y cc nL ret R pc f) : Sim y cc nL ret R pc (cKeep bs f) := by
  intro p l e s m args below meth c E X μ H locs ls lv st r μ' hP hS hL hst hf
  exact k p l e s m args below meth c E X μ H locs ls (zkeep bs lv) st r μ' hP hS ⟨hL.1, hL.2.1, fun j v hj => hL.2.2 j v (zkeep_get bs lv j v hj)⟩ hst hf
end SIM
