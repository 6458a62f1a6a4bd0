/-! ===== fields and rows ===== -/
def zup (f : Nat → Nat → Nat → Int32) (h : zH) (n : Nat) (v : Int32) : Nat → Nat → Nat → Int32 := fun k i j => if k = h.1 ∧ i = h.2 ∧ j = n then v else f k i j
def zupN (f : Nat → Nat → Nat → Nat) (h : zH) (n : Nat) (v : Nat) : Nat → Nat → Nat → Nat := fun k i j => if k = h.1 ∧ i = h.2 ∧ j = n then v else f k i j
def zupL (f : Nat → Nat → Nat → Int64) (h : zH) (n : Nat) (v : Int64) : Nat → Nat → Nat → Int64 := fun k i j => if k = h.1 ∧ i = h.2 ∧ j = n then v else f k i j
/-- a whole row -/
def zupR (f : Nat → Nat → Nat → Int32) (h : zH) (g : Nat → Int32) : Nat → Nat → Nat → Int32 := fun k i j => if k = h.1 ∧ i = h.2 then g j else f k i j
def zget (μ : zM) (h : zH) (n : Nat) : Option zV := match zS h.1 h.2 with
  | .inl fs => match fs[n]? with
    | some (0, _) => some (.inl (μ.1 h.1 h.2 n))
    | some (4, _) => some (.inl (μ.1 h.1 h.2 n))
    | some (1, _) => some (.inr (.inl (μ.2.2 h.1 h.2 n)))
    | some (2, q) => some (.inr (.inr q))
    | some (3, q) => if μ.2.1 h.1 h.2 n < 2 then some (.inr (.inr (q.1, μ.2.1 h.1 h.2 n))) else none
    | _ => none
  | _ => none
def zput (μ : zM) (h : zH) (n : Nat) (v : zV) : Option zM := match zS h.1 h.2 with
  | .inl fs => match fs[n]?, v with
    | some (0, _), .inl x => some (zup μ.1 h n x, μ.2)
    | some (4, _), .inl x => if x = 0 ∨ x = 1 then some (zup μ.1 h n x, μ.2) else none
    | some (1, _), .inr (.inl x) => some (μ.1, μ.2.1, zupL μ.2.2 h n x)
    | some (3, q), .inr (.inr g) => if g.1 = q.1 ∧ g.2 < 2 then some (μ.1, zupN μ.2.1 h n g.2, μ.2.2) else none
    | _, _ => none
  | _ => none
def cGetf (kc n : Nat) (f : zD) : zD := fun lv st μ => match st with
  | .inr (.inr h) :: st' => if h.1 = kc then (zget μ h n).bind fun v => f lv (v :: st') μ else none
  | _ => none
def cPutf (kc n : Nat) (f : zD) : zD := fun lv st μ => match st with
  | v :: .inr (.inr h) :: st' => if h.1 = kc then (zput μ h n v).bind fun μ' => f lv st' μ' else none
  | _ => none
/-- what an int or byte row holds -/
def zrow (μ : zM) (h : zH) (j : Int32) : Option Int32 := match zS h.1 h.2 with
  | .inr (0, n, _) => if j < 0 ∨ n ≤ j.toNatClampNeg then none else some (μ.1 h.1 h.2 j.toNatClampNeg)
  | .inr (3, n, _) => if j < 0 ∨ n ≤ j.toNatClampNeg then none else some (zLim j.toNatClampNeg)
  | _ => none
def zrowB (μ : zM) (h : zH) (j : Int32) : Option Int32 := match zS h.1 h.2 with
  | .inr (1, n, _) => if j < 0 ∨ n ≤ j.toNatClampNeg then none else some (μ.1 h.1 h.2 j.toNatClampNeg)
  | .inr (5, n, _) => if j < 0 ∨ n ≤ j.toNatClampNeg then none else some ((zTxB h.2).getD j.toNatClampNeg 0)
  | _ => none
def zsetI (μ : zM) (h : zH) (j x : Int32) : Option zM := match zS h.1 h.2 with
  | .inr (0, n, _) => if j < 0 ∨ n ≤ j.toNatClampNeg then none else some (zup μ.1 h j.toNatClampNeg x, μ.2)
  | _ => none
def zsetB (μ : zM) (h : zH) (j x : Int32) : Option zM := match zS h.1 h.2 with
  | .inr (1, n, _) => if j < 0 ∨ n ≤ j.toNatClampNeg then none else some (zup μ.1 h j.toNatClampNeg x.toInt8.toInt32, μ.2)
  | _ => none
def zlen (h : zH) : Option Int32 := match zS h.1 h.2 with
  | .inr (0, n, _) => some (Int32.ofNat n)
  | .inr (1, n, _) => some (Int32.ofNat n)
  | .inr (5, n, _) => some (Int32.ofNat n)
  | _ => none
def zix (n : Nat) (j : Int32) : Option Nat := if j < 0 ∨ n ≤ j.toNatClampNeg then none else some j.toNatClampNeg
/-- a value that no reduction looks into -/
noncomputable def zseal {α : Type} (x : α) : α := Classical.choose (⟨x, rfl⟩ : ∃ y, y = x)
theorem zseal_eq {α : Type} (x : α) : zseal x = x := Classical.choose_spec (⟨x, rfl⟩ : ∃ y, y = x)
noncomputable def zN : Nat := zseal 100000
theorem zN_eq : zN = 100000 := zseal_eq _
noncomputable def qI (μ : zM) (h : zH) (j : Int32) : Option Int32 := zseal (zrow μ h j)
theorem qI_eq (μ : zM) (h : zH) (j : Int32) : qI μ h j = zrow μ h j := zseal_eq _
noncomputable def qB (μ : zM) (h : zH) (j : Int32) : Option Int32 := zseal (zrowB μ h j)
theorem qB_eq (μ : zM) (h : zH) (j : Int32) : qB μ h j = zrowB μ h j := zseal_eq _
noncomputable def wI (μ : zM) (h : zH) (j x : Int32) : Option zM := zseal (zsetI μ h j x)
theorem wI_eq (μ : zM) (h : zH) (j x : Int32) : wI μ h j x = zsetI μ h j x := zseal_eq _
noncomputable def wB (μ : zM) (h : zH) (j x : Int32) : Option zM := zseal (zsetB μ h j x)
theorem wB_eq (μ : zM) (h : zH) (j x : Int32) : wB μ h j x = zsetB μ h j x := zseal_eq _
noncomputable def qL (h : zH) : Option Int32 := zseal (zlen h)
theorem qL_eq (h : zH) : qL h = zlen h := zseal_eq _
noncomputable def qX (n : Nat) (j : Int32) : Option Nat := zseal (zix n j)
theorem qX_eq (n : Nat) (j : Int32) : qX n j = zix n j := zseal_eq _
noncomputable def cIald (f : zD) : zD := fun lv st μ => match st with
  | .inl j :: .inr (.inr h) :: st' => (qI μ h j).bind fun v => f lv (.inl v :: st') μ
  | _ => none
noncomputable def cBald (f : zD) : zD := fun lv st μ => match st with
  | .inl j :: .inr (.inr h) :: st' => (qB μ h j).bind fun v => f lv (.inl v :: st') μ
  | _ => none
noncomputable def cIast (f : zD) : zD := fun lv st μ => match st with
  | .inl x :: .inl j :: .inr (.inr h) :: st' => (wI μ h j x).bind fun μ' => f lv st' μ'
  | _ => none
noncomputable def cBast (f : zD) : zD := fun lv st μ => match st with
  | .inl x :: .inl j :: .inr (.inr h) :: st' => (wB μ h j x).bind fun μ' => f lv st' μ'
  | _ => none
noncomputable def cAlen (f : zD) : zD := fun lv st μ => match st with
  | .inr (.inr h) :: st' => (qL h).bind fun v => f lv (.inl v :: st') μ
  | _ => none
noncomputable def cAald (f : zD) : zD := fun lv st μ => match st with
  | .inl j :: .inr (.inr h) :: st' => match zS h.1 h.2 with
    | .inr (2, n, r) => (qX n j).bind fun e => f lv (.inr (.inr (r.1, r.2 + e)) :: st') μ
    | .inr (4, n, r) => (qX n j).bind fun e => f lv (.inr (.inr (r.1, r.2 + e)) :: st') μ
    | _ => none
  | _ => none
/-- a row copied -/
def zcpy (μ : zM) (h0 h1 : zH) (sp dp n : Int32) : Option zM := match zS h0.1 h0.2, zS h1.1 h1.2 with
  | .inr (0, n0, _), .inr (0, n1, _) => if sp < 0 ∨ dp < 0 ∨ n < 0 ∨ n0 < sp.toNatClampNeg + n.toNatClampNeg ∨ n1 < dp.toNatClampNeg + n.toNatClampNeg then none else some (zupR μ.1 h1 (va_cpy (μ.1 h0.1 h0.2) (μ.1 h1.1 h1.2) sp.toNatClampNeg dp.toNatClampNeg n.toNatClampNeg), μ.2)
  | _, _ => none
noncomputable def qC (μ : zM) (h0 h1 : zH) (sp dp n : Int32) : Option zM := zseal (zcpy μ h0 h1 sp dp n)
theorem qC_eq (μ : zM) (h0 h1 : zH) (sp dp n : Int32) : qC μ h0 h1 sp dp n = zcpy μ h0 h1 sp dp n := zseal_eq _
def zcats (st : List zV) : Nat := (st.map zcat).sum
noncomputable def cCopy (f : zD) : zD := fun lv st μ => match st with
  | .inl n :: .inl dp :: .inr (.inr h1) :: .inl sp :: .inr (.inr h0) :: st' => if 8 < zcats st' then none else (qC μ h0 h1 sp dp n).bind fun μ' => f lv st' μ'
  | _ => none
theorem zok_in {E : zE} {h : zH} (h1 : zok E (.inr (.inr h))) (h2 : h.1 < 74) : h ∈ E.2.2.1 := by
  rcases h1 with q | q | q | q
  · exact q
  · rcases q.1 with z | z <;> omega
  · rw [q] at h2; exact absurd h2 (by decide)
  · omega
theorem zS_obj {k i : Nat} {fs : List zFT} (h : zS k i = .inl fs) : k < 12 := by
  unfold zS at h
  split at h <;> first | omega | (cases h; done)
theorem zcell_obj {E : zE} {μ : zM} {h : zH} {fs : List zFT} (hs : zS h.1 h.2 = .inl fs) : zcell E μ h = .inr (h.1, zfs E μ h 0 fs) := by
  simp only [zcell, hs]
theorem zcell_0 {E : zE} {μ : zM} {h : zH} {n : Nat} {q : zH} (hs : zS h.1 h.2 = .inr (0, n, q)) : zcell E μ h = .inl (E.2.2.2.1 0, n, .inl (μ.1 h.1 h.2)) := by
  simp only [zcell, hs]
theorem zcell_1 {E : zE} {μ : zM} {h : zH} {n : Nat} {q : zH} (hs : zS h.1 h.2 = .inr (1, n, q)) : zcell E μ h = .inl (E.2.2.2.1 1, n, .inl (μ.1 h.1 h.2)) := by
  simp only [zcell, hs]
theorem zcell_2 {E : zE} {μ : zM} {h : zH} {n : Nat} {q : zH} (hs : zS h.1 h.2 = .inr (2, n, q)) : zcell E μ h = .inl (E.2.2.2.1 2, n, .inr (.inr (.inr (.inr (fun j => some (E.2.1 (q.1, q.2 + j))))))) := by
  simp only [zcell, hs]
theorem zcell_4 {E : zE} {μ : zM} {h : zH} {n : Nat} {q : zH} (hs : zS h.1 h.2 = .inr (4, n, q)) : zcell E μ h = .inl (E.2.2.2.1 3, n, .inr (.inr (.inr (.inr (fun j => some (E.2.1 (q.1, q.2 + j))))))) := by
  simp only [zcell, hs]
theorem zfs_congr {E : zE} {μ μ' : zM} {h : zH} (h1 : μ'.1 h.1 h.2 = μ.1 h.1 h.2) (h2 : μ'.2.1 h.1 h.2 = μ.2.1 h.1 h.2) (h3 : μ'.2.2 h.1 h.2 = μ.2.2 h.1 h.2) : ∀ (fs : List zFT) (n : Nat), zfs E μ' h n fs = zfs E μ h n fs
  | [], _ => rfl
  | f :: fs, n => by
    simp only [zfs, zfs_congr h1 h2 h3 fs (n + 1)]
    congr 1
    unfold zfv
    rw [h1, h2, h3]
/-- a cell depends on its own contents alone -/
theorem zcell_congr {E : zE} {μ μ' : zM} {h : zH} (h1 : μ'.1 h.1 h.2 = μ.1 h.1 h.2) (h2 : μ'.2.1 h.1 h.2 = μ.2.1 h.1 h.2) (h3 : μ'.2.2 h.1 h.2 = μ.2.2 h.1 h.2) : zcell E μ' h = zcell E μ h := by
  unfold zcell
  simp only [h1, zfs_congr h1 h2 h3]
theorem zup_ne {f : Nat → Nat → Nat → Int32} {h h' : zH} {n : Nat} {v : Int32} (hne : h' ≠ h) : zup f h n v h'.1 h'.2 = f h'.1 h'.2 := by
  funext j
  simp only [zup]
  rw [if_neg]
  rintro ⟨a, b, -⟩
  exact hne (Prod.ext a b)
theorem zupN_ne {f : Nat → Nat → Nat → Nat} {h h' : zH} {n : Nat} {v : Nat} (hne : h' ≠ h) : zupN f h n v h'.1 h'.2 = f h'.1 h'.2 := by
  funext j
  simp only [zupN]
  rw [if_neg]
  rintro ⟨a, b, -⟩
  exact hne (Prod.ext a b)
theorem zupL_ne {f : Nat → Nat → Nat → Int64} {h h' : zH} {n : Nat} {v : Int64} (hne : h' ≠ h) : zupL f h n v h'.1 h'.2 = f h'.1 h'.2 := by
  funext j
  simp only [zupL]
  rw [if_neg]
  rintro ⟨a, b, -⟩
  exact hne (Prod.ext a b)
theorem zupR_ne {f : Nat → Nat → Nat → Int32} {h h' : zH} {g : Nat → Int32} (hne : h' ≠ h) : zupR f h g h'.1 h'.2 = f h'.1 h'.2 := by
  funext j
  simp only [zupR]
  rw [if_neg]
  rintro ⟨a, b⟩
  exact hne (Prod.ext a b)
theorem zup_at (f : Nat → Nat → Nat → Int32) (h : zH) (n : Nat) (v : Int32) : zup f h n v h.1 h.2 = upd (f h.1 h.2) n v := by
  funext j
  simp [zup, upd]
theorem zupR_at (f : Nat → Nat → Nat → Int32) (h : zH) (g : Nat → Int32) : zupR f h g h.1 h.2 = g := by
  funext j
  simp [zupR]
section SIM
variable {y : MethodName} {cc : ByteArray} {nL : Nat} {ret : Option FieldType} {R : Room} {pc : Nat} {f ft ff : zD}
theorem z_getf {kc n idx N : Nat} {C : String} {T : u_T} (hd : decode cc pc = .ok (.getfield idx, 3)) (hc : vwCl[kc]? = some (C, T, N)) (hk : n < N) (hin : ∀ w ∈ u_ws C T N, w ∈ zW) (hl : Cond.fieldLink y.cls idx (T n).1 (T n).2.1 (T n).2.2.1 ∈ zW) (k : Sim y cc nL ret R (pc + 3) f) : Sim y cc nL ret R pc (cGetf kc n f) := by
  intro p l e s m args below meth c E X μ H locs ls lv st r μ' hP hS hL hst hf
  unfold cGetf at hf
  split at hf
  · next h st' =>
    split at hf
    · next hkc =>
      cases hg : zget μ h n with
      | none => rw [hg] at hf; cases hf
      | some v =>
        rw [hg] at hf
        simp only [Option.bind_some] at hf
        have hok := hst _ List.mem_cons_self
        have hE := X.2.2.2.2.2.2.2.1
        have hC := X.2.2.2.2.2.2.2.2
        unfold zget at hg
        split at hg
        · next fs hs =>
          have hlt := zS_obj hs
          have hmem := zok_in hok (by omega)
          obtain ⟨q0, hq0⟩ := zws_get (μ := μ) hmem
          rw [zcell_obj hs, hkc] at hq0
          have hne : ¬ h.1 = 77 := by omega
          have hval : ∃ ftv, fs[n]? = some ftv ∧ zfv E μ h n ftv = zval E v ∧ zok E v := by
            split at hg
            · next q hq => cases hg; exact ⟨_, hq, rfl, trivial⟩
            · next q hq => cases hg; exact ⟨_, hq, rfl, trivial⟩
            · next q hq => cases hg; exact ⟨_, hq, rfl, trivial⟩
            · next q hq =>
              cases hg
              have h1 := ((hC h hmem).2.1 fs hs _ (List.mem_of_getElem? hq)).1 rfl
              have h2 : q.1 < 74 := (hC _ h1).1
              exact ⟨_, hq, by rw [zval_ref (show ¬ q.1 = 77 by omega)]; rfl, Or.inl h1⟩
            · next q hq =>
              split at hg
              · next hj =>
                cases hg
                have h1 := ((hC h hmem).2.1 fs hs _ (List.mem_of_getElem? hq)).2 rfl _ hj
                have h2 : q.1 < 74 := (hC _ h1).1
                refine ⟨_, hq, ?_, Or.inl h1⟩
                rw [zval_ref (h := (q.1, μ.2.1 h.1 h.2 n)) (show ¬ q.1 = 77 by omega)]
                simp [zfv, zmr, hj]
              · cases hg
            · cases hg
          obtain ⟨ftv, hfn, hvv, hvok⟩ := hval
          rw [List.map_cons, zval_ref hne]
          refine va_get (C := C) (T := T) (N := N) (ref := (T n).1) (index := idx) (Ts := zws0 y cc nL ret) X.1 X.2.1 X.2.2.2.2.1 (fun w hw => List.mem_cons_of_mem _ (hin w hw)) X.2.2.2.1 hE.1 hP.1 q0 hq0 hc n hk (X.2.2.2.2.1 _ (List.mem_cons_of_mem _ hl)) (fun _ h9 => h9) (v := zval E v) ?_ hd ?_
          · rw [zfs_get fs 0 n ftv hfn, Nat.zero_add, hvv]
          · exact k p l e s m args below meth c E X μ H locs ls lv (v :: st') r μ' hP hS hL (List.forall_mem_cons.mpr ⟨hvok, fun w hw => hst w (List.mem_cons_of_mem _ hw)⟩) hf
        · cases hg
    · cases hf
  · cases hf
theorem z_putf {kc n idx N : Nat} {C : String} {T : u_T} {ty0 : Nat → FieldType} (hd : decode cc pc = .ok (.putfield idx, 3)) (hc : vwCl[kc]? = some (C, T, N)) (hk : n < N) (hin : ∀ w ∈ u_ws C T N, w ∈ zW) (hty : ∀ k, k < N → parseFieldDescriptor (T k).2.2.1 = some (ty0 k)) (hnm : ∀ a, a < N → ∀ b, b < N → a ≠ b → (T a).2.1 ≠ (T b).2.1) (hfin : (T n).2.2.2 = false)
    (hsh : ∀ i ft fs, zS kc i = .inl fs → fs[n]? = some ft → (ft.1 = 0 → ty0 n = .int) ∧ (ft.1 = 4 → ty0 n = .boolean) ∧ (ft.1 = 1 → ty0 n = .long) ∧ (ft.1 = 3 → ∃ q, ty0 n = .object q)) (hl : Cond.fieldLink y.cls idx (T n).1 (T n).2.1 (T n).2.2.1 ∈ zW) (k : Sim y cc nL ret R (pc + 3) f) : Sim y cc nL ret R pc (cPutf kc n f) := by
  intro p l e s m args below meth c E X μ H locs ls lv st r μ' hP hS hL hst hf
  unfold cPutf at hf
  split at hf
  · next v h st' =>
    split at hf
    · next hkc =>
      cases hg : zput μ h n v with
      | none => rw [hg] at hf; cases hf
      | some μ1 =>
        rw [hg] at hf
        simp only [Option.bind_some] at hf
        have hok := hst _ (List.mem_cons_of_mem _ List.mem_cons_self)
        have hokv := hst _ List.mem_cons_self
        have hE := X.2.2.2.2.2.2.2.1
        have hC := X.2.2.2.2.2.2.2.2
        unfold zput at hg
        split at hg
        · next fs hs =>
          have hlt := zS_obj hs
          have hmem := zok_in hok (by omega)
          obtain ⟨q0, hq0⟩ := zws_get (μ := μ) hmem
          have hq1 := hq0
          rw [zcell_obj hs, hkc] at hq0
          have hne : ¬ h.1 = 77 := by omega
          have key : ∃ ftv, fs[n]? = some ftv ∧ narrow (ty0 n) (zval E v) = zval E v ∧ fits (ty0 n) (zval E v) = true ∧ zfv E μ1 h n ftv = zval E v ∧ (∀ j g, fs[j]? = some g → j ≠ n → zfv E μ1 h j g = zfv E μ h j g) ∧ (∀ h' : zH, h' ≠ h → zcell E μ1 h' = zcell E μ h') := by
            split at hg
            · next q x hq =>
              cases hg
              have e1 := (hsh h.2 _ fs (hkc ▸ hs) hq).1 rfl
              refine ⟨_, hq, by rw [e1]; rfl, by rw [e1]; rfl, by simp [zfv, zup, zval], fun j g hj hjn => ?_, fun h' hh => zcell_congr (zup_ne hh) rfl rfl⟩
              unfold zfv
              simp only [zup]
              simp [hjn]
            · next q x hq =>
              split at hg
              · next hx =>
                cases hg
                have e1 := (hsh h.2 _ fs (hkc ▸ hs) hq).2.1 rfl
                refine ⟨_, hq, by rw [e1]; rcases hx with rfl | rfl <;> rfl, by rw [e1]; rcases hx with rfl | rfl <;> rfl, by simp [zfv, zup, zval], fun j g hj hjn => ?_, fun h' hh => zcell_congr (zup_ne hh) rfl rfl⟩
                unfold zfv
                simp only [zup]
                simp [hjn]
              · cases hg
            · next q x hq =>
              cases hg
              have e1 := (hsh h.2 _ fs (hkc ▸ hs) hq).2.2.1 rfl
              refine ⟨_, hq, by rw [e1]; rfl, by rw [e1]; rfl, by simp [zfv, zupL, zval], fun j g hj hjn => ?_, fun h' hh => zcell_congr rfl rfl (zupL_ne hh)⟩
              unfold zfv
              simp only [zupL]
              simp [hjn]
            · next q g0 hq =>
              split at hg
              · next hx =>
                cases hg
                obtain ⟨q1, e1⟩ := (hsh h.2 _ fs (hkc ▸ hs) hq).2.2.2 rfl
                have hg7 : ¬ g0.1 = 77 := by
                  have h1 := ((hC h hmem).2.1 fs hs _ (List.mem_of_getElem? hq)).2 rfl _ hx.2
                  have h2 : q.1 < 74 := (hC _ h1).1
                  omega
                rw [zval_ref hg7]
                refine ⟨_, hq, by rw [e1]; rfl, by rw [e1]; rfl, ?_, fun j g hj hjn => ?_, fun h' hh => zcell_congr rfl (zupN_ne hh) rfl⟩
                · have e2 : g0 = (q.1, g0.2) := Prod.ext hx.1 rfl
                  simp only [zfv, zupN, zmr]
                  simp [hx.2]
                  rw [← e2]
                · unfold zfv
                  simp only [zupN]
                  simp [hjn]
              · cases hg
            · cases hg
          obtain ⟨ftv, hfn, hn1, hn2, hvv, ho, hrest⟩ := key
          have hset := zws_set (μ' := μ1) (e := .inr (kc, (zfs E μ h 0 fs).set n (zval E v))) hP.2 hq1 hmem (by
            rw [zcell_obj hs, hkc]
            congr 2
            exact zfs_set fs 0 n ftv hfn (by rw [Nat.zero_add]; exact hvv) (fun j g hj hjn => by rw [Nat.zero_add]; exact ho j g hj hjn)) (fun h' _ hh => hrest h' hh)
          rw [List.map_cons, List.map_cons, zval_ref hne]
          refine va_put (C := C) (T := T) (N := N) (ref := (T n).1) (index := idx) (Ts := zws0 y cc nL ret) (ty := ty0 n) X.1 X.2.1 X.2.2.2.2.1 (fun w hw => List.mem_cons_of_mem _ (hin w hw)) ty0 hty hnm X.2.2.2.1 hE.1 hP.1 hP.2 hS q0 hq0 hc n hk (X.2.2.2.2.1 _ (List.mem_cons_of_mem _ hl)) (fun _ h9 => h9) hfin (hty n hk) hn1 hn2 (by rw [zfs_len]; exact (List.getElem?_eq_some_iff.mp hfn).1) hd (fun H1 locs1 hP1 hD1 hS1 => ?_)
          rw [hset] at hP1 hD1
          exact k p l e s m args below meth c E X μ1 H1 locs1 ls lv st' r μ' ⟨hP1, hD1⟩ hS1 hL (fun w hw => hst w (List.mem_cons_of_mem _ (List.mem_cons_of_mem _ hw))) hf
        · cases hg
    · cases hf
  · cases hf
theorem zin_of {j : Int32} {n : Nat} (h : ¬ (j < 0 ∨ n ≤ j.toNatClampNeg)) : vp_in j n := h
theorem zrow_kind {k i t n : Nat} {q : zH} (h : zS k i = .inr (t, n, q)) (ht : t = 0 ∨ t = 1 ∨ t = 2 ∨ t = 4) : k < 74 := by
  unfold zS at h
  split at h <;> first | omega | (exfalso; cases h; done) | (exfalso; cases h; omega)
end SIM
/-- a named value, and an int written -/
def zlet {α β : Type} (x : α) (f : α → β) : β := f x
def mS (μ : zM) (k i n : Nat) (v : Int32) : zM := (zup μ.1 (k, i) n v, μ.2)
