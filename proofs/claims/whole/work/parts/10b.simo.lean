noncomputable def cMin (f : zD) : zD := fun lv st μ => match st with
  | .inl y :: .inl x :: st' => if 8 < zcats st' then none else f lv (.inl (zif (y < x) y x) :: st') μ
  | _ => none
noncomputable def cMax (f : zD) : zD := fun lv st μ => match st with
  | .inl y :: .inl x :: st' => if 8 < zcats st' then none else f lv (.inl (zif (x < y) y x) :: st') μ
  | _ => none
set_option maxRecDepth 20000 in
theorem wd_min : Cond.static Lib.Math.min.name ∈ zW ∧ Cond.initialized "java/lang/Math" ∈ zW ∧ Cond.code Lib.Math.min.name Lib.Math.min.code 2 (some .int) ∈ zW := ⟨zW_in (i := 866) rfl rfl, zW_in (i := 114) rfl rfl, zW_in (i := 867) rfl rfl⟩
set_option maxRecDepth 20000 in
theorem wd_max : Cond.static Lib.Math.max.name ∈ zW ∧ Cond.initialized "java/lang/Math" ∈ zW ∧ Cond.code Lib.Math.max.name Lib.Math.max.code 2 (some .int) ∈ zW := ⟨zW_in (i := 330) rfl rfl, zW_in (i := 114) rfl rfl, zW_in (i := 331) rfl rfl⟩
section SIM
variable {y : MethodName} {cc : ByteArray} {nL : Nat} {ret : Option FieldType} {R : Room} {pc : Nat} {f : zD}
theorem z_mmin {idx : Nat} (hd : decode cc pc = .ok (.invokestatic idx, 3)) (hl : Cond.methodLink y.cls idx Lib.Math.min.name ∈ zW) (hfr : 1 ≤ R.frames) (hlo : 21 ≤ R.locals) (k : Sim y cc nL ret R (pc + 3) f) : Sim y cc nL ret R pc (cMin f) := by
  intro p l e s m args below meth c E X μ H locs ls lv st r μ' hP hS hL hst hf
  unfold cMin at hf
  split at hf
  · next b a st' =>
    split at hf
    · cases hf
    · next hcat =>
      rw [zif_eq] at hf
      have hst' : ∀ v ∈ st', zok E v := fun w hw => hst w (List.mem_cons_of_mem _ (List.mem_cons_of_mem _ hw))
      have ht := X.2.2.2.2.1
      exact va_mmin X.1 X.2.1 (by rw [X.2.2.1]; exact hL.1.symm) X.2.2.2.1 (ht _ (List.mem_cons_of_mem _ hl)) (ht _ (List.mem_cons_of_mem _ wd_min.1)) (ht _ (List.mem_cons_of_mem _ wd_min.2.1)) (ht _ (List.mem_cons_of_mem _ wd_min.2.2)) hfr (by rw [zcats_eq X.2.2.2.2.2.2.2.2 st' hst']; omega) (Nat.zero_le _) (Nat.zero_le _) hd (k p l e s m args below meth c E X μ H locs ls lv (.inl (if b < a then b else a) :: st') r μ' hP hS hL (List.forall_mem_cons.mpr ⟨trivial, hst'⟩) hf)
  · cases hf
theorem z_mmax {idx : Nat} (hd : decode cc pc = .ok (.invokestatic idx, 3)) (hl : Cond.methodLink y.cls idx Lib.Math.max.name ∈ zW) (hfr : 1 ≤ R.frames) (hlo : 21 ≤ R.locals) (k : Sim y cc nL ret R (pc + 3) f) : Sim y cc nL ret R pc (cMax f) := by
  intro p l e s m args below meth c E X μ H locs ls lv st r μ' hP hS hL hst hf
  unfold cMax at hf
  split at hf
  · next b a st' =>
    split at hf
    · cases hf
    · next hcat =>
      rw [zif_eq] at hf
      have hst' : ∀ v ∈ st', zok E v := fun w hw => hst w (List.mem_cons_of_mem _ (List.mem_cons_of_mem _ hw))
      have ht := X.2.2.2.2.1
      exact va_mmax X.1 X.2.1 (by rw [X.2.2.1]; exact hL.1.symm) X.2.2.2.1 (ht _ (List.mem_cons_of_mem _ hl)) (ht _ (List.mem_cons_of_mem _ wd_max.1)) (ht _ (List.mem_cons_of_mem _ wd_max.2.1)) (ht _ (List.mem_cons_of_mem _ wd_max.2.2)) hfr (by rw [zcats_eq X.2.2.2.2.2.2.2.2 st' hst']; omega) (Nat.zero_le _) (Nat.zero_le _) hd (k p l e s m args below meth c E X μ H locs ls lv (.inl (if a < b then b else a) :: st') r μ' hP hS hL (List.forall_mem_cons.mpr ⟨trivial, hst'⟩) hf)
  · cases hf
end SIM
/-- a reference that changes -/
noncomputable def cGetM (kc n kd : Nat) (f : zD) : zD := fun lv st μ => match st with
  | .inr (.inr (a, b)) :: st' => if a = kc then zif (μ.2.1 kc b n < 2) (f lv (.inr (.inr (kd, μ.2.1 kc b n)) :: st') μ) none else none
  | _ => none
theorem Sim.congr {y : MethodName} {cc : ByteArray} {nL : Nat} {ret : Option FieldType} {R : Room} {pc : Nat} {f f' : zD} (h : ∀ lv st μ, f' lv st μ = f lv st μ) (k : Sim y cc nL ret R pc f) : Sim y cc nL ret R pc f' := by
  have e : f' = f := by funext lv st μ; exact h lv st μ
  rw [e]; exact k
theorem z_getM {y : MethodName} {cc : ByteArray} {nL : Nat} {ret : Option FieldType} {R : Room} {pc : Nat} {f : zD} {kc n kd : Nat} (hsh : ∀ i, ∃ fs, zS kc i = .inl fs ∧ fs[n]? = some (3, (kd, 0))) (k : Sim y cc nL ret R pc (cGetf kc n f)) : Sim y cc nL ret R pc (cGetM kc n kd f) := by
  refine Sim.congr (fun lv st μ => ?_) k
  rcases st with _ | ⟨v, st'⟩
  · rfl
  rcases v with v | v | ⟨a, b⟩
  · rfl
  · rfl
  by_cases hk : a = kc
  · subst hk
    obtain ⟨fs, h1, h2⟩ := hsh b
    have hz : zget μ (a, b) n = if μ.2.1 a b n < 2 then some (.inr (.inr (kd, μ.2.1 a b n))) else none := by
      unfold zget
      simp only [h1, h2]
    show (if a = a then zif (μ.2.1 a b n < 2) (f lv (.inr (.inr (kd, μ.2.1 a b n)) :: st') μ) none else none) = (if a = a then (zget μ (a, b) n).bind (fun v => f lv (v :: st') μ) else none)
    rw [if_pos rfl, if_pos rfl, hz, zif_eq]
    split <;> rfl
  · show (if a = kc then zif (μ.2.1 kc b n < 2) (f lv (.inr (.inr (kd, μ.2.1 kc b n)) :: st') μ) none else none) = (if a = kc then (zget μ (a, b) n).bind (fun v => f lv (v :: st') μ) else none)
    rw [if_neg hk, if_neg hk]
/-- an int field read -/
def cGetI (kc n : Nat) (f : zD) : zD := fun lv st μ => match st with
  | .inr (.inr (a, b)) :: st' => if a = kc then f lv (.inl (μ.1 kc b n) :: st') μ else none
  | _ => none
theorem z_getI {y : MethodName} {cc : ByteArray} {nL : Nat} {ret : Option FieldType} {R : Room} {pc : Nat} {f : zD} {kc n : Nat} (hsh : ∀ i, ∃ fs, zS kc i = .inl fs ∧ (fs[n]? = some (0, (0, 0)) ∨ fs[n]? = some (4, (0, 0)))) (k : Sim y cc nL ret R pc (cGetf kc n f)) : Sim y cc nL ret R pc (cGetI kc n f) := by
  refine Sim.congr (fun lv st μ => ?_) k
  rcases st with _ | ⟨v, st'⟩
  · rfl
  rcases v with v | v | ⟨a, b⟩
  · rfl
  · rfl
  by_cases hk : a = kc
  · subst hk
    obtain ⟨fs, h1, h2⟩ := hsh b
    have hz : zget μ (a, b) n = some (.inl (μ.1 a b n)) := by
      unfold zget
      rcases h2 with h2 | h2 <;> simp only [h1, h2]
    show (if a = a then f lv (.inl (μ.1 a b n) :: st') μ else none) = (if a = a then (zget μ (a, b) n).bind (fun v => f lv (v :: st') μ) else none)
    rw [if_pos rfl, if_pos rfl, hz]
    rfl
  · show (if a = kc then f lv (.inl (μ.1 kc b n) :: st') μ else none) = (if a = kc then (zget μ (a, b) n).bind (fun v => f lv (v :: st') μ) else none)
    rw [if_neg hk, if_neg hk]
/-- an int written to a field -/
def cPutI (kc n : Nat) (f : zD) : zD := fun lv st μ => match st with
  | .inl x :: .inr (.inr (a, b)) :: st' => if a = kc then f lv st' (mS μ kc b n x) else none
  | _ => none
theorem z_putI {y : MethodName} {cc : ByteArray} {nL : Nat} {ret : Option FieldType} {R : Room} {pc : Nat} {f : zD} {kc n : Nat} (hsh : ∀ i, ∃ fs, zS kc i = .inl fs ∧ fs[n]? = some (0, (0, 0))) (k : Sim y cc nL ret R pc (cPutf kc n f)) : Sim y cc nL ret R pc (cPutI kc n f) := by
  intro p l e s m args below meth c E X μ H locs ls lv st r μ' hP hS hL hst hf
  refine k p l e s m args below meth c E X μ H locs ls lv st r μ' hP hS hL hst ?_
  rcases st with _ | ⟨v, _ | ⟨w, st'⟩⟩
  · cases hf
  · rcases v with v | v | v <;> cases hf
  rcases v with v | v | v
  · rcases w with w | w | ⟨a, b⟩
    · cases hf
    · cases hf
    · by_cases hk : a = kc
      · subst hk
        obtain ⟨fs, h1, h2⟩ := hsh b
        have hz : zput μ (a, b) n (.inl v) = some (mS μ a b n v) := by
          unfold zput
          simp only [h1, h2]
          rfl
        have hf : (if a = a then f lv st' (mS μ a b n v) else none) = some (r, μ') := hf
        rw [if_pos rfl] at hf
        show (if a = a then (zput μ (a, b) n (.inl v)).bind (fun μ' => f lv st' μ') else none) = some (r, μ')
        rw [if_pos rfl, hz]
        exact hf
      · have hf : (if a = kc then f lv st' (mS μ kc b n v) else none) = some (r, μ') := hf
        rw [if_neg hk] at hf
        cases hf
  · cases hf
  · cases hf
noncomputable def qP (μ : zM) (h : zH) (n : Nat) (v : zV) : Option zM := zseal (zput μ h n v)
theorem qP_eq (μ : zM) (h : zH) (n : Nat) (v : zV) : qP μ h n v = zput μ h n v := zseal_eq _
/-- another value written to a field -/
noncomputable def cPutP (kc n : Nat) (f : zD) : zD := fun lv st μ => match st with
  | v :: .inr (.inr h) :: st' => if h.1 = kc then (qP μ h n v).bind fun μ' => f lv st' μ' else none
  | _ => none
theorem z_putP {y : MethodName} {cc : ByteArray} {nL : Nat} {ret : Option FieldType} {R : Room} {pc : Nat} {f : zD} {kc n : Nat} (k : Sim y cc nL ret R pc (cPutf kc n f)) : Sim y cc nL ret R pc (cPutP kc n f) := by
  refine Sim.congr (fun lv st μ => ?_) k
  unfold cPutP cPutf
  simp only [qP_eq]
  rcases st with _ | ⟨v, _ | ⟨w | w | w, st'⟩⟩ <;> rfl
theorem zsS {y : MethodName} {cc : ByteArray} {nL : Nat} {ret : Option FieldType} {R : Room} {pc : Nat} {f : zD} (k : Sim y cc nL ret R pc f) : Sim y cc nL ret R pc (zseal f) := by rw [zseal_eq]; exact k
theorem zs3 (f : zD) (lv : List (Option zV)) (st : List zV) (μ : zM) : zseal f lv st μ = f lv st μ := by rw [zseal_eq]
theorem zif_cg {α : Type} {c : Prop} {a b a' b' : α} (h1 : a = a') (h2 : b = b') : zif c a b = zif c a' b' := by rw [h1, h2]
theorem bind_cg {α β : Type} {o : Option α} {k k' : α → Option β} (h : ∀ v, k v = k' v) : o.bind k = o.bind k' := by
  have e : k = k' := funext h
  rw [e]
theorem zlet_i {α β : Type} (k : α → β) {k' : α → β} (x : α) (h : ∀ v, k v = k' v) : k x = zlet x k' := h x
theorem zU_cg {o : Option (Option zV × zM)} {k k' : zM → Option (Option zV × zM)} (h : ∀ v, k v = k' v) : zU o k = zU o k' := by
  have e : k = k' := funext h
  rw [e]
theorem zI_cg {o : Option (Option zV × zM)} {k k' : Int32 → zM → Option (Option zV × zM)} (h : ∀ r v, k r v = k' r v) : zI o k = zI o k' := by
  have e : k = k' := by funext r v; exact h r v
  rw [e]
theorem zJ_cg {o : Option (Option zV × zM)} {k k' : Int64 → zM → Option (Option zV × zM)} (h : ∀ r v, k r v = k' r v) : zJ o k = zJ o k' := by
  have e : k = k' := by funext r v; exact h r v
  rw [e]
theorem zT_cg {o : Option (Option zV × zM)} {k k' : Nat → zM → Option (Option zV × zM)} (h : ∀ r v, k r v = k' r v) : zT o k = zT o k' := by
  have e : k = k' := by funext r v; exact h r v
  rw [e]
/-! more words -/
