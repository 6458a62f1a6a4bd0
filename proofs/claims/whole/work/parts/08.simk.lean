/-! ===== constants, calls, a method's contract ===== -/
def zrcv (kc : Nat) : Option zV → Bool
  | some (.inr (.inr h)) => h.1 == kc
  | _ => false
/-- what a call answers: nothing, an int, a long, a reference -/
def zU (o : Option (Option zV × zM)) (k : zM → Option (Option zV × zM)) : Option (Option zV × zM) := o.bind fun q => match q.1 with
  | none => k q.2
  | _ => none
def zI (o : Option (Option zV × zM)) (k : Int32 → zM → Option (Option zV × zM)) : Option (Option zV × zM) := o.bind fun q => match q.1 with
  | some (.inl r) => k r q.2
  | _ => none
def zJ (o : Option (Option zV × zM)) (k : Int64 → zM → Option (Option zV × zM)) : Option (Option zV × zM) := o.bind fun q => match q.1 with
  | some (.inr (.inl r)) => k r q.2
  | _ => none
def zT (o : Option (Option zV × zM)) (k : Nat → zM → Option (Option zV × zM)) : Option (Option zV × zM) := o.bind fun q => match q.1 with
  | some (.inr (.inr r)) => if r.1 = 75 then k r.2 q.2 else none
  | _ => none
def zfin (rk : Nat) (o : Option (Option zV × zM)) (k : List zV → zM → Option (Option zV × zM)) : Option (Option zV × zM) := match rk with
  | 0 => zU o (fun μ => k [] μ)
  | 1 => zI o (fun r μ => k [.inl r] μ)
  | 2 => zJ o (fun r μ => k [.inr (.inl r)] μ)
  | _ => zT o (fun r μ => k [.inr (.inr (75, r))] μ)
theorem zfin_some {rk : Nat} {r1 : Option zV} {μ1 : zM} {k : List zV → zM → Option (Option zV × zM)} {x : Option zV × zM} (h : zfin rk (some (r1, μ1)) k = some x) : k r1.toList μ1 = some x := by
  unfold zfin at h
  split at h
  · unfold zU at h
    rcases r1 with _ | r1
    · exact h
    · cases h
  · unfold zI at h
    rcases r1 with _ | r1 | r1 | r1
    · cases h
    · exact h
    · cases h
    · cases h
  · unfold zJ at h
    rcases r1 with _ | r1 | r1 | r1
    · cases h
    · cases h
    · exact h
    · cases h
  · unfold zT at h
    rcases r1 with _ | r1 | r1 | r1
    · cases h
    · cases h
    · cases h
    · simp only [Option.bind_some] at h
      split at h
      · next h75 =>
        obtain ⟨a, b⟩ := r1
        dsimp only at h75
        subst h75
        exact h
      · cases h
theorem zfin_none {rk : Nat} {k : List zV → zM → Option (Option zV × zM)} {x : Option zV × zM} (h : zfin rk none k = some x) : False := by
  unfold zfin at h
  split at h <;> cases h
/-- a call with n arguments on an object of kind kc -/
def cCallV (kc n rk : Nat) (g : zG) (f : zD) : zD := fun lv st μ => if n < st.length ∧ zrcv kc st[n]? = true ∧ zcats (st.drop (n + 1)) ≤ 8 then zfin rk (g (st.take (n + 1)).reverse μ) fun s μ' => f lv (s ++ st.drop (n + 1)) μ' else none
def cCallS (n rk : Nat) (g : zG) (f : zD) : zD := fun lv st μ => if n ≤ st.length ∧ zcats (st.drop n) ≤ 8 then zfin rk (g (st.take n).reverse μ) fun s μ' => f lv (s ++ st.drop n) μ' else none
def cStrVal (f : zD) : zD := fun lv st μ => match st with
  | .inr (.inr h) :: st' => if h.1 = 75 then f lv (.inr (.inr (76, h.2)) :: st') μ else none
  | _ => none
def cStrCod (f : zD) : zD := fun lv st μ => match st with
  | .inr (.inr h) :: st' => if h.1 = 75 then f lv (.inl 0 :: st') μ else none
  | _ => none
/-- the table of wordOf -/
noncomputable def cTab5 (f1 f2 f3 f4 f5 f0 : zD) : zD := fun lv st μ => match st with
  | .inl x :: st' => zif (x = 1) (f1 lv st' μ) (zif (x = 2) (f2 lv st' μ) (zif (x = 3) (f3 lv st' μ) (zif (x = 4) (f4 lv st' μ) (zif (x = 5) (f5 lv st' μ) (f0 lv st' μ)))))
  | _ => none
/-- the locals with which a method begins -/
def zlv0 : List zV → List (Option zV)
  | [] => []
  | .inr (.inl x) :: vs => some (.inr (.inl x)) :: none :: zlv0 vs
  | v :: vs => some v :: zlv0 vs
def zlv (nL : Nat) (vs : List zV) : List (Option zV) := zlv0 vs ++ List.replicate (nL - (zlv0 vs).length) none
theorem zblind {E : zE} {μ : zM} {av : List Value} : FrameBlind (va_Pc av (fun U => zEnv E U ∧ zP E μ U.heap)) := by
  intro a U g mk h
  exact ⟨h.1, h.2.1.same rfl rfl, h.2.2⟩
theorem zenv_at {E : zE} {s U : State} {H : Heap} {locs : List Loc} (hE : zEnv E s) (hS : va_S (zA E) s.heap H locs) (hU : U.heap = H) (hW : s.WarmedH U.vm) : zEnv E U := hE.go hW (fun a h1 h2 => by rw [hU]; exact hS.2.1 a h1 h2)
section ZRUN
variable {p : Program} {l : Launch} {e : Env} {R : Room} {s : State} {m : MethodId} {args : Array Value} {below : List Frame} {meth : Method} {c : Code} {H : Heap} {locs : List Loc} {Q : State → Prop}
theorem z_run {E : zE} {a : Array Value} {r : Option zV} {μ : zM} {pc : Nat} {ls : Array Slot} {st0 rest : List Value} (hr : va_Run p l e R s m args below meth c H locs 0 0 0 0 (F0 m pc ls st0) rest (zQ E r μ a) (zA E)) (hS : va_S (zA E) s.heap H locs)
    (kk : ∀ (H1 : Heap) (locs1 : List Loc), zP E μ H1 → (∀ v, r = some v → zok E v) → va_S (zA E) s.heap H1 locs1 → W p l e R s m args below meth c H1 locs1 0 0 Q (F0 m (pc + 3) ls ((r.map (zval E)).toList ++ rest))) : W p l e R s m args below meth c H locs 0 0 Q (F0 m pc ls st0) := by
  intro T hT X
  obtain ⟨v, st₀, t, T', L, h0, X', hL, e1, e2, ⟨⟨hv, hp, hok⟩, hz, hk⟩, st⟩ := hr T hT X
  cases hv
  rw [h0] at hz hk
  obtain ⟨t2, a1, b1⟩ := kk T'.heap (locs ++ L) (by rw [e1]; exact hp) hok
    ⟨Nat.le_trans hS.1 (by rw [e1]; exact hz), fun q h1 h2 => by rw [e1, hk q (Nat.lt_of_lt_of_le h1 hS.1) h2]; exact hS.2.1 q h1 h2, fun q hq => by
      rcases List.mem_append.mp hq with h | h
      · exact hS.2.2 q h
      · exact hL q h⟩ T' rfl X'
  exact ⟨t2, st t2 a1, b1⟩
end ZRUN
section SIM
variable {y : MethodName} {cc : ByteArray} {nL : Nat} {ret : Option FieldType} {R : Room} {pc : Nat} {f f0 f1 f2 f3 f4 f5 : zD}
theorem z_ldcw {i : Nat} {v : Int32} (hd : decode cc pc = .ok (.ldc_w i, 3)) (hw : Cond.constant y.cls i v ∈ zW) (k : Sim y cc nL ret R (pc + 3) f) : Sim y cc nL ret R pc (cPush (.inl v) f) := by
  intro p l e s m args below meth c E X μ H locs ls lv st r μ' hP hS hL hst hf
  exact lv_ldcw X.1 X.2.1 X.2.2.2.1 (X.2.2.2.2.1 _ (List.mem_cons_of_mem _ hw)) hd (k p l e s m args below meth c E X μ H locs ls lv (.inl v :: st) r μ' hP hS hL (List.forall_mem_cons.mpr ⟨trivial, hst⟩) hf)
theorem zStrs_lt : ∀ q ∈ zStrs, q.2.2.2 < 18 := by decide
theorem z_ldcS {i j : Nat} {own tx : String} (hd : decode cc pc = .ok (.ldc i, 2)) (ho : y.cls = own) (hq : (own, i, tx, j) ∈ zStrs) (k : Sim y cc nL ret R (pc + 2) f) : Sim y cc nL ret R pc (cPush (.inr (.inr (75, j))) f) := by
  intro p l e s m args below meth c E X μ H locs ls lv st r μ' hP hS hL hst hf
  have hE := X.2.2.2.2.2.2.2.1
  have kk := k p l e s m args below meth c E X μ H locs ls lv (.inr (.inr (75, j)) :: st) r μ' hP hS hL (List.forall_mem_cons.mpr ⟨Or.inr (Or.inl ⟨Or.inl rfl, zStrs_lt _ hq⟩), hst⟩) hf
  rw [List.map_cons, zval_ref (h := (75, j)) (show ¬ (75 : Nat) = 77 by decide)] at kk
  have hown := X.2.2.2.1
  rw [ho] at hown
  exact va_ldcS X.1 X.2.1 hown (hE.2.2.1 _ hq) hd kk
theorem z_ldcSw {i j : Nat} {own tx : String} (hd : decode cc pc = .ok (.ldc_w i, 3)) (ho : y.cls = own) (hq : (own, i, tx, j) ∈ zStrs) (k : Sim y cc nL ret R (pc + 3) f) : Sim y cc nL ret R pc (cPush (.inr (.inr (75, j))) f) := by
  intro p l e s m args below meth c E X μ H locs ls lv st r μ' hP hS hL hst hf
  have hE := X.2.2.2.2.2.2.2.1
  have kk := k p l e s m args below meth c E X μ H locs ls lv (.inr (.inr (75, j)) :: st) r μ' hP hS hL (List.forall_mem_cons.mpr ⟨Or.inr (Or.inl ⟨Or.inl rfl, zStrs_lt _ hq⟩), hst⟩) hf
  rw [List.map_cons, zval_ref (h := (75, j)) (show ¬ (75 : Nat) = 77 by decide)] at kk
  have hown := X.2.2.2.1
  rw [ho] at hown
  have hZ := hE.2.2.1 _ hq
  intro T hT Xs
  obtain ⟨t, a1, b1⟩ := kk T hT Xs
  exact ⟨t, Xs.ldcStringW X.1 hown (text := tx) (a := E.2.1 (75, j)) hZ.1 hZ.2 (g := F0 m pc ls (st.map (zval E))) rfl (by rw [X.2.1]; exact hd) t a1, b1⟩
theorem z_getLim (hd : decode cc pc = .ok (.getstatic 73, 3)) (ho : y.cls = RX6) (k : Sim y cc nL ret R (pc + 3) f) : Sim y cc nL ret R pc (cPush (.inr (.inr (74, 0))) f) := by
  intro p l e s m args below meth c E X μ H locs ls lv st r μ' hP hS hL hst hf
  have hE := X.2.2.2.2.2.2.2.1
  have kk := k p l e s m args below meth c E X μ H locs ls lv (.inr (.inr (74, 0)) :: st) r μ' hP hS hL (List.forall_mem_cons.mpr ⟨Or.inr (Or.inr (Or.inl rfl)), hst⟩) hf
  rw [List.map_cons, zval_ref (h := (74, 0)) (show ¬ (74 : Nat) = 77 by decide)] at kk
  have hown := X.2.2.2.1
  rw [ho] at hown
  exact va_getsN X.1 X.2.1 hE.2.2.2.2.2.1 hS hown (va_Nw.use rfl hE.2.2.2.2.1) (fun _ h => h) hd kk
theorem z_getCompact {i : Nat} (hd : decode cc pc = .ok (.getstatic i, 3)) (hl : Cond.fieldLink y.cls i "java/lang/String" "COMPACT_STRINGS" "Z" ∈ zW) (k : Sim y cc nL ret R (pc + 3) f) : Sim y cc nL ret R pc (cPush (.inl 1) f) := by
  intro p l e s m args below meth c E X μ H locs ls lv st r μ' hP hS hL hst hf
  have hE := X.2.2.2.2.2.2.2.1
  have kk := k p l e s m args below meth c E X μ H locs ls lv (.inl 1 :: st) r μ' hP hS hL (List.forall_mem_cons.mpr ⟨trivial, hst⟩) hf
  exact va_gets X.1 X.2.1 hE.2.2.2.2.2.2.2.1 hS X.2.2.2.1 (X.2.2.2.2.1 _ (List.mem_cons_of_mem _ hl)) (fun _ h => h) hd kk
theorem z_getForm {i : Nat} (hd : decode cc pc = .ok (.getstatic i, 3)) (hl : Cond.fieldLink y.cls i "jdk/internal/util/Preconditions" "SIOOBE_FORMATTER" "Ljava/util/function/BiFunction;" ∈ zW) (k : Sim y cc nL ret R (pc + 3) f) : Sim y cc nL ret R pc (cPush (.inr (.inr (77, 0))) f) := by
  intro p l e s m args below meth c E X μ H locs ls lv st r μ' hP hS hL hst hf
  have hE := X.2.2.2.2.2.2.2.1
  have kk := k p l e s m args below meth c E X μ H locs ls lv (.inr (.inr (77, 0)) :: st) r μ' hP hS hL (List.forall_mem_cons.mpr ⟨Or.inr (Or.inr (Or.inr ⟨rfl, hE.2.2.2.2.2.2.2.2.2⟩)), hst⟩) hf
  exact va_gets X.1 X.2.1 hE.2.2.2.2.2.2.2.2.1 hS X.2.2.2.1 (X.2.2.2.2.1 _ (List.mem_cons_of_mem _ hl)) (fun _ h => h) hd kk
theorem z_tab5 {o0 o1 o2 o3 o4 o5 : Int} {len t0 t1 t2 t3 t4 t5 : Nat} (hd : decode cc pc = .ok (.tableswitch o0 1 5 #[o1, o2, o3, o4, o5], len)) (h0 : (pc : Int) + o0 = (t0 : Int)) (h1 : (pc : Int) + o1 = (t1 : Int)) (h2 : (pc : Int) + o2 = (t2 : Int)) (h3 : (pc : Int) + o3 = (t3 : Int)) (h4 : (pc : Int) + o4 = (t4 : Int)) (h5 : (pc : Int) + o5 = (t5 : Int))
    (k1 : Sim y cc nL ret R t1 f1) (k2 : Sim y cc nL ret R t2 f2) (k3 : Sim y cc nL ret R t3 f3) (k4 : Sim y cc nL ret R t4 f4) (k5 : Sim y cc nL ret R t5 f5) (k0 : Sim y cc nL ret R t0 f0) : Sim y cc nL ret R pc (cTab5 f1 f2 f3 f4 f5 f0) := by
  intro p l e s m args below meth c E X μ H locs ls lv st r μ' hP hS hL hst hf
  unfold cTab5 at hf
  split at hf
  · next x st' =>
    have hst' : ∀ v ∈ st', zok E v := fun w hw => hst w (List.mem_cons_of_mem _ hw)
    by_cases e1 : x = 1
    · rw [zif_pos e1] at hf
      subst e1
      exact lv_tableIn X.1 X.2.1 hd (by decide) (by decide) (off := o1) rfl h1 (k1 p l e s m args below meth c E X μ H locs ls lv st' r μ' hP hS hL hst' hf)
    rw [zif_neg e1] at hf
    by_cases e2 : x = 2
    · rw [zif_pos e2] at hf
      subst e2
      exact lv_tableIn X.1 X.2.1 hd (by decide) (by decide) (off := o2) rfl h2 (k2 p l e s m args below meth c E X μ H locs ls lv st' r μ' hP hS hL hst' hf)
    rw [zif_neg e2] at hf
    by_cases e3 : x = 3
    · rw [zif_pos e3] at hf
      subst e3
      exact lv_tableIn X.1 X.2.1 hd (by decide) (by decide) (off := o3) rfl h3 (k3 p l e s m args below meth c E X μ H locs ls lv st' r μ' hP hS hL hst' hf)
    rw [zif_neg e3] at hf
    by_cases e4 : x = 4
    · rw [zif_pos e4] at hf
      subst e4
      exact lv_tableIn X.1 X.2.1 hd (by decide) (by decide) (off := o4) rfl h4 (k4 p l e s m args below meth c E X μ H locs ls lv st' r μ' hP hS hL hst' hf)
    rw [zif_neg e4] at hf
    by_cases e5 : x = 5
    · rw [zif_pos e5] at hf
      subst e5
      exact lv_tableIn X.1 X.2.1 hd (by decide) (by decide) (off := o5) rfl h5 (k5 p l e s m args below meth c E X μ H locs ls lv st' r μ' hP hS hL hst' hf)
    rw [zif_neg e5] at hf
    refine lv_tableOut X.1 X.2.1 hd ?_ h0 (k0 p l e s m args below meth c E X μ H locs ls lv st' r μ' hP hS hL hst' hf)
    have g1 := lv_neT (a := 1) e1 (by decide)
    have g2 := lv_neT (a := 2) e2 (by decide)
    have g3 := lv_neT (a := 3) e3 (by decide)
    have g4 := lv_neT (a := 4) e4 (by decide)
    have g5 := lv_neT (a := 5) e5 (by decide)
    omega
  · cases hf
theorem z_strVal {i : Nat} (hd : decode cc pc = .ok (.getfield i, 3)) (hl : Cond.fieldLink y.cls i "java/lang/String" "value" "[B" ∈ zW) (k : Sim y cc nL ret R (pc + 3) f) : Sim y cc nL ret R pc (cStrVal f) := by
  intro p l e s m args below meth c E X μ H locs ls lv st r μ' hP hS hL hst hf
  unfold cStrVal at hf
  split at hf
  · next h st' =>
    split at hf
    · next h75 =>
      have hE := X.2.2.2.2.2.2.2.1
      have hlt : h.2 < 18 := by
        rcases hst _ List.mem_cons_self with q | q | q | q
        · have := (X.2.2.2.2.2.2.2.2 h q).1; omega
        · exact q.2
        · rw [q] at h75; cases h75
        · omega
      have kk := k p l e s m args below meth c E X μ H locs ls lv (.inr (.inr (76, h.2)) :: st') r μ' hP hS hL (List.forall_mem_cons.mpr ⟨Or.inr (Or.inl ⟨Or.inr rfl, hlt⟩), fun w hw => hst w (List.mem_cons_of_mem _ hw)⟩) hf
      rw [List.map_cons, zval_ref (h := (76, h.2)) (show ¬ (76 : Nat) = 77 by decide)] at kk
      have e2 : h = (75, h.2) := Prod.ext h75 rfl
      rw [List.map_cons, e2, zval_ref (h := (75, h.2)) (show ¬ (75 : Nat) = 77 by decide)]
      exact vk_getf X.1 X.2.1 (hE.2.1 h.2 hlt).2.2.1 hS X.2.2.2.1 (X.2.2.2.2.1 _ (List.mem_cons_of_mem _ hl)) (fun _ h => h) hd kk
    · cases hf
  · cases hf
theorem z_strCod {i : Nat} (hd : decode cc pc = .ok (.getfield i, 3)) (hl : Cond.fieldLink y.cls i "java/lang/String" "coder" "B" ∈ zW) (k : Sim y cc nL ret R (pc + 3) f) : Sim y cc nL ret R pc (cStrCod f) := by
  intro p l e s m args below meth c E X μ H locs ls lv st r μ' hP hS hL hst hf
  unfold cStrCod at hf
  split at hf
  · next h st' =>
    split at hf
    · next h75 =>
      have hE := X.2.2.2.2.2.2.2.1
      have hlt : h.2 < 18 := by
        rcases hst _ List.mem_cons_self with q | q | q | q
        · have := (X.2.2.2.2.2.2.2.2 h q).1; omega
        · exact q.2
        · rw [q] at h75; cases h75
        · omega
      have kk := k p l e s m args below meth c E X μ H locs ls lv (.inl 0 :: st') r μ' hP hS hL (List.forall_mem_cons.mpr ⟨trivial, fun w hw => hst w (List.mem_cons_of_mem _ hw)⟩) hf
      have e2 : h = (75, h.2) := Prod.ext h75 rfl
      rw [List.map_cons, e2, zval_ref (h := (75, h.2)) (show ¬ (75 : Nat) = 77 by decide)]
      exact vk_getf X.1 X.2.1 (hE.2.1 h.2 hlt).2.1 hS X.2.2.2.1 (X.2.2.2.2.1 _ (List.mem_cons_of_mem _ hl)) (fun _ h => h) hd kk
    · cases hf
  · cases hf
/-- the words of a call -/
def zCW (y : MethodName) (R : Room) (y' : MethodName) (cc' : ByteArray) (nL' : Nat) (ret' : Option FieldType) (R' : Room) (n : Nat) : Prop :=
  Cond.code y' cc' nL' ret' ∈ zW ∧ Cond.initialized y'.cls ∈ zW ∧ (y'.cls ≠ "java/lang/invoke/MethodHandle" ∧ y'.cls ≠ "java/lang/invoke/VarHandle" ∧ (parseMethodDescriptor y'.desc).map (fun d => d.parameters.length) = some n) ∧ R'.cells = 0 ∧ R'.slots = 0 ∧ R'.frames + 1 ≤ R.frames ∧ 8 + (nL' + 11) + R'.locals ≤ R.locals
theorem z_callV {y' : MethodName} {cc' : ByteArray} {nL' : Nat} {ret' : Option FieldType} {R' : Room} {g : zG} {idx n kc N rk : Nat} {C : String} {T : u_T} (hC' : Con y' cc' nL' ret' R' g) (hd : decode cc pc = .ok (.invokevirtual idx, 3)) (hw : zCW y R y' cc' nL' ret' R' n) (hl : Cond.methodLink y.cls idx y' ∈ zW) (hin : Cond.instanceMethod y' ∈ zW) (hse : Cond.selects C y' y' ∈ zW) (hkc : vwCl[kc]? = some (C, T, N)) (k : Sim y cc nL ret R (pc + 3) f) : Sim y cc nL ret R pc (cCallV kc n rk g f) := by
  intro p l e s m args below meth c E X μ H locs ls lv st r μ' hP hS hL hst hf
  unfold cCallV at hf
  split at hf
  · next hc =>
    obtain ⟨hn, hrc, hcat⟩ := hc
    cases hg : g (st.take (n + 1)).reverse μ with
    | none => rw [hg] at hf; exact (zfin_none hf).elim
    | some q =>
      obtain ⟨r1, μ1⟩ := q
      rw [hg] at hf
      have hf := zfin_some hf
      have hE := X.2.2.2.2.2.2.2.1
      have hC := X.2.2.2.2.2.2.2.2
      have ht := X.2.2.2.2.1
      have hget : st[n]? = some st[n] := List.getElem?_eq_getElem hn
      rw [hget] at hrc
      obtain ⟨b, hb⟩ : ∃ b : zH, st[n] = .inr (.inr b) := by
        revert hrc
        rcases st[n] with z | z | z
        · intro h; cases h
        · intro h; cases h
        · intro _; exact ⟨z, rfl⟩
      rw [hb] at hrc
      have hbk : b.1 = kc := by simpa [zrcv] using hrc
      have hbok : zok E (.inr (.inr b)) := hst _ (by rw [← hb]; exact List.getElem_mem hn)
      have hlt : kc < 12 := by have := (List.getElem?_eq_some_iff.mp hkc).1; simpa using this
      have hb7 : ¬ b.1 = 77 := by omega
      have hbm := zok_in hbok (by omega)
      obtain ⟨q0, hq0⟩ := zws_get (μ := μ) hbm
      have hobj : ∃ fs, zS b.1 b.2 = .inl fs := by
        rw [hbk]
        have h12 : kc = 0 ∨ kc = 1 ∨ kc = 2 ∨ kc = 3 ∨ kc = 4 ∨ kc = 5 ∨ kc = 6 ∨ kc = 7 ∨ kc = 8 ∨ kc = 9 ∨ kc = 10 ∨ kc = 11 := by omega
        rcases h12 with z | z | z | z | z | z | z | z | z | z | z | z <;> rw [z] <;> exact ⟨_, rfl⟩
      obtain ⟨fs, hs⟩ := hobj
      rw [zcell_obj hs, hbk] at hq0
      have hsplit : st = st.take n ++ .inr (.inr b) :: st.drop (n + 1) := by
        rw [← hb, List.getElem_cons_drop, List.take_append_drop]
      have htk : (st.take (n + 1)).reverse = .inr (.inr b) :: (st.take n).reverse := by
        rw [List.take_succ, hget, hb]; simp
      rw [htk] at hg
      have hav : ∀ v ∈ (Sum.inr (Sum.inr b) :: (st.take n).reverse : List zV), zok E v := by
        intro v hv
        rcases List.mem_cons.mp hv with rfl | hv
        · exact hbok
        · exact hst v (List.mem_of_mem_take (List.mem_reverse.mp hv))
      have hM := hC' l E μ _ r1 μ1 hC hav hg
      have hrest : ∀ v ∈ st.drop (n + 1), zok E v := fun w hw => hst w (List.mem_of_mem_drop hw)
      have hstk : st.map (zval E) = ((st.take n).reverse.map (zval E)).reverse ++ Value.ref (E.2.1 b) :: (st.drop (n + 1)).map (zval E) := by
        rw [← List.map_reverse, List.reverse_reverse]
        conv => lhs; rw [hsplit]
        rw [List.map_append, List.map_cons, zval_ref hb7]
      rw [hstk]
      refine z_run (E := E) (r := r1) (μ := μ1) (rest := (st.drop (n + 1)).map (zval E)) (va_runV (C := C) (b := E.2.1 b) (As := (st.take n).reverse.map (zval E)) (rest := (st.drop (n + 1)).map (zval E)) (nL := nL) (own := y.cls) (Ts := zws0 y cc nL ret) (g := F0 m pc ls (((st.take n).reverse.map (zval E)).reverse ++ Value.ref (E.2.1 b) :: (st.drop (n + 1)).map (zval E))) (n := n) ⟨X.1, X.2.1, X.2.2.1, X.2.2.2.1, ht⟩ hM ⟨callB_of n ht (zW_goodIn hw.1) rfl hw.2.2.2.1 hw.2.2.2.2.1 (ht _ (List.mem_cons_of_mem _ hw.2.1)) (ht _ (List.mem_cons_of_mem _ hl)) hw.2.2.1 hw.2.2.2.2.2, ht _ (List.mem_cons_of_mem _ hin), ht _ (List.mem_cons_of_mem _ hse)⟩ ⟨zblind, va_recv hE.1 hP.1 hkc hq0, fun U hU hW => ⟨?_, zenv_at hE hS hU hW, by rw [hU]; exact hP⟩⟩ rfl ?_ hL.1 rfl (lv_room ?_) hd ⟨Nat.zero_le _, Nat.zero_le _⟩) hS (fun H1 locs1 hP1 hok1 hS1 => ?_)
      · rw [List.map_cons, zval_ref hb7]
      · simp; omega
      · rw [zcats_eq hC _ hrest]; exact hcat
      · have kk := k p l e s m args below meth c E X μ1 H1 locs1 ls lv (r1.toList ++ st.drop (n + 1)) r μ' hP1 hS1 hL (fun v hv => by
          rcases List.mem_append.mp hv with h | h
          · exact hok1 v (by cases r1 with
              | none => cases h
              | some w => simp at h; rw [h])
          · exact hrest v h) hf
        rw [List.map_append] at kk
        cases r1 with
        | none => exact kk
        | some w => exact kk
  · cases hf
theorem z_callS {y' : MethodName} {cc' : ByteArray} {nL' : Nat} {ret' : Option FieldType} {R' : Room} {g : zG} {idx n rk : Nat} (hC' : Con y' cc' nL' ret' R' g) (hd : decode cc pc = .ok (.invokestatic idx, 3)) (hw : zCW y R y' cc' nL' ret' R' n) (hl : Cond.methodLink y.cls idx y' ∈ zW) (hst0 : Cond.static y' ∈ zW) (k : Sim y cc nL ret R (pc + 3) f) : Sim y cc nL ret R pc (cCallS n rk g f) := by
  intro p l e s m args below meth c E X μ H locs ls lv st r μ' hP hS hL hst hf
  unfold cCallS at hf
  split at hf
  · next hc =>
    obtain ⟨hn, hcat⟩ := hc
    cases hg : g (st.take n).reverse μ with
    | none => rw [hg] at hf; exact (zfin_none hf).elim
    | some q =>
      obtain ⟨r1, μ1⟩ := q
      rw [hg] at hf
      have hf := zfin_some hf
      have hE := X.2.2.2.2.2.2.2.1
      have hC := X.2.2.2.2.2.2.2.2
      have ht := X.2.2.2.2.1
      have hav : ∀ v ∈ (st.take n).reverse, zok E v := fun v hv => hst v (List.mem_of_mem_take (List.mem_reverse.mp hv))
      have hM := hC' l E μ _ r1 μ1 hC hav hg
      have hrest : ∀ v ∈ st.drop n, zok E v := fun w hw => hst w (List.mem_of_mem_drop hw)
      have hstk : st.map (zval E) = ((st.take n).reverse.map (zval E)).reverse ++ (st.drop n).map (zval E) := by
        rw [← List.map_reverse, List.reverse_reverse, ← List.map_append, List.take_append_drop]
      rw [hstk]
      refine z_run (E := E) (r := r1) (μ := μ1) (rest := (st.drop n).map (zval E)) (va_runS (As := (st.take n).reverse.map (zval E)) (rest := (st.drop n).map (zval E)) (nL := nL) (own := y.cls) (Ts := zws0 y cc nL ret) (g := F0 m pc ls (((st.take n).reverse.map (zval E)).reverse ++ (st.drop n).map (zval E))) (n := n) ⟨X.1, X.2.1, X.2.2.1, X.2.2.2.1, ht⟩ hM ⟨callB_of n ht (zW_goodIn hw.1) rfl hw.2.2.2.1 hw.2.2.2.2.1 (ht _ (List.mem_cons_of_mem _ hw.2.1)) (ht _ (List.mem_cons_of_mem _ hl)) hw.2.2.1 hw.2.2.2.2.2, ht _ (List.mem_cons_of_mem _ hst0)⟩ ⟨zblind, fun U hU hW => ⟨rfl, zenv_at hE hS hU hW, by rw [hU]; exact hP⟩⟩ rfl ?_ hL.1 rfl (lv_room ?_) hd ⟨Nat.zero_le _, Nat.zero_le _⟩) hS (fun H1 locs1 hP1 hok1 hS1 => ?_)
      · simp; omega
      · rw [zcats_eq hC _ hrest]; exact hcat
      · have kk := k p l e s m args below meth c E X μ1 H1 locs1 ls lv (r1.toList ++ st.drop n) r μ' hP1 hS1 hL (fun v hv => by
          rcases List.mem_append.mp hv with h | h
          · exact hok1 v (by cases r1 with
              | none => cases h
              | some w => simp at h; rw [h])
          · exact hrest v h) hf
        rw [List.map_append] at kk
        cases r1 with
        | none => exact kk
        | some w => exact kk
  · cases hf
end SIM
