def cMin (f : zD) : zD := fun lv st μ => match st with
  | .inl y :: .inl x :: st' => if 8 < zcats st' then none else f lv (.inl (if y < x then y else x) :: st') μ
  | _ => none
def cMax (f : zD) : zD := fun lv st μ => match st with
  | .inl y :: .inl x :: st' => if 8 < zcats st' then none else f lv (.inl (if x < y then y else x) :: st') μ
  | _ => none
set_option maxRecDepth 20000 in
theorem wd_min : Cond.static Lib.Math.min.name ∈ zW ∧ Cond.initialized "java/lang/Math" ∈ zW ∧ Cond.code Lib.Math.min.name Lib.Math.min.code 2 (some .int) ∈ zW := ⟨zW_in (i := 866) rfl rfl, zW_in (i := 114) rfl rfl, zW_in (i := 867) rfl rfl⟩
set_option maxRecDepth 20000 in
theorem wd_max : Cond.static Lib.Math.max.name ∈ zW ∧ Cond.initialized "java/lang/Math" ∈ zW ∧ Cond.code Lib.Math.max.name Lib.Math.max.code 2 (some .int) ∈ zW := ⟨zW_in (i := 330) rfl rfl, zW_in (i := 114) rfl rfl, zW_in (i := 331) rfl rfl⟩
section SIM
variable {y : MethodName} {cc : ByteArray} {nL : Nat} {ret : Option FieldType} {R : Room} {pc : Nat} {f : zD}
theorem z_mmin {idx : Nat} (hd : decode cc pc = .ok (.invokestatic idx, 3)) (hl : Cond.methodLink y.cls idx Lib.Math.min.name ∈ zW) (hfr : 1 ≤ R.frames) (hlo : 21 ≤ R.locals) (k : Sim y cc nL ret R (pc + 3) f) : Sim y cc nL ret R pc (cMin f) := by
  intro p l e s m args below meth c E X μ H locs ls lv st r μ' hP hS hL hst hf
  unfold cMin at hf
  split at hf
  · next b a st' =>
    split at hf
    · cases hf
    · next hcat =>
      have hst' : ∀ v ∈ st', zok E v := fun w hw => hst w (List.mem_cons_of_mem _ (List.mem_cons_of_mem _ hw))
      have ht := X.2.2.2.2.1
      exact va_mmin X.1 X.2.1 (by rw [X.2.2.1]; exact hL.1.symm) X.2.2.2.1 (ht _ (List.mem_cons_of_mem _ hl)) (ht _ (List.mem_cons_of_mem _ wd_min.1)) (ht _ (List.mem_cons_of_mem _ wd_min.2.1)) (ht _ (List.mem_cons_of_mem _ wd_min.2.2)) hfr (by rw [zcats_eq X.2.2.2.2.2.2.2.2 st' hst']; omega) (Nat.zero_le _) (Nat.zero_le _) hd (k p l e s m args below meth c E X μ H locs ls lv (.inl (if b < a then b else a) :: st') r μ' hP hS hL (List.forall_mem_cons.mpr ⟨trivial, hst'⟩) hf)
  · cases hf
theorem z_mmax {idx : Nat} (hd : decode cc pc = .ok (.invokestatic idx, 3)) (hl : Cond.methodLink y.cls idx Lib.Math.max.name ∈ zW) (hfr : 1 ≤ R.frames) (hlo : 21 ≤ R.locals) (k : Sim y cc nL ret R (pc + 3) f) : Sim y cc nL ret R pc (cMax f) := by
  intro p l e s m args below meth c E X μ H locs ls lv st r μ' hP hS hL hst hf
  unfold cMax at hf
  split at hf
  · next b a st' =>
    split at hf
    · cases hf
    · next hcat =>
      have hst' : ∀ v ∈ st', zok E v := fun w hw => hst w (List.mem_cons_of_mem _ (List.mem_cons_of_mem _ hw))
      have ht := X.2.2.2.2.1
      exact va_mmax X.1 X.2.1 (by rw [X.2.2.1]; exact hL.1.symm) X.2.2.2.1 (ht _ (List.mem_cons_of_mem _ hl)) (ht _ (List.mem_cons_of_mem _ wd_max.1)) (ht _ (List.mem_cons_of_mem _ wd_max.2.1)) (ht _ (List.mem_cons_of_mem _ wd_max.2.2)) hfr (by rw [zcats_eq X.2.2.2.2.2.2.2.2 st' hst']; omega) (Nat.zero_le _) (Nat.zero_le _) hd (k p l e s m args below meth c E X μ H locs ls lv (.inl (if a < b then b else a) :: st') r μ' hP hS hL (List.forall_mem_cons.mpr ⟨trivial, hst'⟩) hf)
  · cases hf
end SIM
/-- a reference that changes -/
def cGetM (kc n kd : Nat) (f : zD) : zD := fun lv st μ => match st with
  | .inr (.inr h) :: st' => if h.1 = kc then (if μ.2.1 kc h.2 n < 2 then f lv (.inr (.inr (kd, μ.2.1 kc h.2 n)) :: st') μ else none) else none
  | _ => none
theorem Sim.congr {y : MethodName} {cc : ByteArray} {nL : Nat} {ret : Option FieldType} {R : Room} {pc : Nat} {f f' : zD} (h : ∀ lv st μ, f' lv st μ = f lv st μ) (k : Sim y cc nL ret R pc f) : Sim y cc nL ret R pc f' := by
  have e : f' = f := by funext lv st μ; exact h lv st μ
  rw [e]; exact k
theorem z_getM {y : MethodName} {cc : ByteArray} {nL : Nat} {ret : Option FieldType} {R : Room} {pc : Nat} {f : zD} {kc n kd : Nat} (hsh : ∀ i, ∃ fs, zS kc i = .inl fs ∧ fs[n]? = some (3, (kd, 0))) (k : Sim y cc nL ret R pc (cGetf kc n f)) : Sim y cc nL ret R pc (cGetM kc n kd f) := by
  refine Sim.congr (fun lv st μ => ?_) k
  rcases st with _ | ⟨v, st'⟩
  · rfl
  rcases v with v | v | ⟨a, b⟩
  · rfl
  · rfl
  by_cases hk : a = kc
  · subst hk
    obtain ⟨fs, h1, h2⟩ := hsh b
    have hz : zget μ (a, b) n = if μ.2.1 a b n < 2 then some (.inr (.inr (kd, μ.2.1 a b n))) else none := by
      unfold zget
      simp only [h1, h2]
    show (if a = a then (if μ.2.1 a b n < 2 then f lv (.inr (.inr (kd, μ.2.1 a b n)) :: st') μ else none) else none) = (if a = a then (zget μ (a, b) n).bind (fun v => f lv (v :: st') μ) else none)
    rw [if_pos rfl, if_pos rfl, hz]
    split <;> rfl
  · show (if a = kc then (if μ.2.1 kc b n < 2 then f lv (.inr (.inr (kd, μ.2.1 kc b n)) :: st') μ else none) else none) = (if a = kc then (zget μ (a, b) n).bind (fun v => f lv (v :: st') μ) else none)
    rw [if_neg hk, if_neg hk]
/-! more words -/
