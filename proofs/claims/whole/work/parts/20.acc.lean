/-! ===== reading and writing, in plain words ===== -/
theorem zI_some (r : Int32) (μ : zM) (k : Int32 → zM → Option (Option zV × zM)) : zI (some (some (.inl r), μ)) k = k r μ := rfl
theorem zU_some (μ : zM) (k : zM → Option (Option zV × zM)) : zU (some (none, μ)) k = k μ := rfl
theorem zJ_some (r : Int64) (μ : zM) (k : Int64 → zM → Option (Option zV × zM)) : zJ (some (some (.inr (.inl r)), μ)) k = k r μ := rfl
theorem zT_some (r : Nat) (μ : zM) (k : Nat → zM → Option (Option zV × zM)) : zT (some (some (.inr (.inr (75, r))), μ)) k = k r μ := rfl
theorem zlet_eq {α β : Type} (x : α) (f : α → β) : zlet x f = f x := rfl
theorem mS_1 (μ : zM) (k i n : Nat) (v : Int32) (k' i' n' : Nat) : (mS μ k i n v).1 k' i' n' = if k' = k ∧ i' = i ∧ n' = n then v else μ.1 k' i' n' := rfl
theorem mS_2 (μ : zM) (k i n : Nat) (v : Int32) : (mS μ k i n v).2 = μ.2 := rfl
theorem mS_same (μ : zM) (k i n : Nat) (v : Int32) : (mS μ k i n v).1 k i n = v := by rw [mS_1, if_pos ⟨rfl, rfl, rfl⟩]
theorem mS_k (μ : zM) (k i n : Nat) (v : Int32) (k' i' n' : Nat) (h : k' ≠ k) : (mS μ k i n v).1 k' i' n' = μ.1 k' i' n' := by rw [mS_1, if_neg (fun q => h q.1)]
theorem mS_n (μ : zM) (k i n : Nat) (v : Int32) (k' i' n' : Nat) (h : n' ≠ n) : (mS μ k i n v).1 k' i' n' = μ.1 k' i' n' := by rw [mS_1, if_neg (fun q => h q.2.2)]
theorem mS_i (μ : zM) (k i n : Nat) (v : Int32) (k' i' n' : Nat) (h : i' ≠ i) : (mS μ k i n v).1 k' i' n' = μ.1 k' i' n' := by rw [mS_1, if_neg (fun q => h q.2.1)]
/-- an int row read within -/
theorem qI_in {μ : zM} {k i N p : Nat} {q : zH} {x : Int32} (hs : zS k i = .inr (0, N, q)) (hx : x = nI p) (hp : p < N) (hN : N < 2 ^ 31) : qI μ (k, i) x = some (μ.1 k i p) := by
  subst hx
  rw [qI_eq]
  unfold zrow
  simp only [hs]
  rw [if_neg (nI_in hp hN), nI_clamp (by omega)]
theorem wI_in {μ : zM} {k i N p : Nat} {q : zH} {x v : Int32} (hs : zS k i = .inr (0, N, q)) (hx : x = nI p) (hp : p < N) (hN : N < 2 ^ 31) : wI μ (k, i) x v = some (mS μ k i p v) := by
  subst hx
  rw [wI_eq]
  unfold zsetI
  simp only [hs]
  rw [if_neg (nI_in hp hN), nI_clamp (by omega)]
  rfl
theorem qB_in {μ : zM} {k i N p : Nat} {q : zH} {x : Int32} (hs : zS k i = .inr (1, N, q)) (hx : x = nI p) (hp : p < N) (hN : N < 2 ^ 31) : qB μ (k, i) x = some (μ.1 k i p) := by
  subst hx
  rw [qB_eq]
  unfold zrowB
  simp only [hs]
  rw [if_neg (nI_in hp hN), nI_clamp (by omega)]
theorem wB_in {μ : zM} {k i N p : Nat} {q : zH} {x v : Int32} (hs : zS k i = .inr (1, N, q)) (hx : x = nI p) (hp : p < N) (hN : N < 2 ^ 31) : wB μ (k, i) x v = some (mS μ k i p v.toInt8.toInt32) := by
  subst hx
  rw [wB_eq]
  unfold zsetB
  simp only [hs]
  rw [if_neg (nI_in hp hN), nI_clamp (by omega)]
  rfl
theorem qX_in {N p : Nat} {x : Int32} (hx : x = nI p) (hp : p < N) (hN : N < 2 ^ 31) : qX N x = some p := by
  subst hx
  rw [qX_eq]
  unfold zix
  rw [if_neg (nI_in hp hN), nI_clamp (by omega)]
theorem qLim_in {μ : zM} {p : Nat} {x : Int32} (hx : x = nI p) (hp : p < 7) : qI μ (74, 0) x = some (zLim p) := by
  subst hx
  rw [qI_eq]
  show (if nI p < 0 ∨ 7 ≤ (nI p).toNatClampNeg then none else some (zLim (nI p).toNatClampNeg)) = _
  rw [if_neg (nI_in hp (by decide)), nI_clamp (by omega)]
theorem qT_in {μ : zM} {i p : Nat} {x : Int32} (hx : x = nI p) (hp : p < zTxL i) (hN : zTxL i < 2 ^ 31) : qB μ (76, i) x = some ((zTxB i).getD p 0) := by
  subst hx
  rw [qB_eq]
  show (if nI p < 0 ∨ zTxL i ≤ (nI p).toNatClampNeg then none else some ((zTxB i).getD (nI p).toNatClampNeg 0)) = _
  rw [if_neg (nI_in hp hN), nI_clamp (by omega)]
theorem n_60 : (60 : Nat) < 2 ^ 31 := by decide
theorem n_100 : (100 : Nat) < 2 ^ 31 := by decide
/-! the boolean answers -/
theorem nar_0 : vp_nar .boolean 0 = 0 := by decide
theorem nar_1 : vp_nar .boolean 1 = 1 := by decide
def zb (c : Prop) [Decidable c] : Int32 := if c then 1 else 0
theorem zb_nar (c : Prop) [Decidable c] : vp_nar .boolean (zb c) = zb c := by
  unfold zb
  split
  · exact nar_1
  · exact nar_0
theorem zb_0 (c : Prop) [Decidable c] : zb c = 0 ↔ ¬ c := by
  unfold zb
  split <;> simp_all
theorem zb_t {c : Prop} [Decidable c] (h : c) : zb c = 1 := if_pos h
theorem zb_f {c : Prop} [Decidable c] (h : ¬ c) : zb c = 0 := if_neg h
/-! ===== the class's small methods ===== -/
theorem pX9_wrapped (μ : zM) (i : Nat) (x : Int32) (hj : μ.2.1 9 i 0 < 2) : tX9_wrapped_0 i x μ = some (some (.inl (if x < 0 then x + μ.1 5 (μ.2.1 9 i 0) 0 else if x < μ.1 5 (μ.2.1 9 i 0) 0 then x else x - μ.1 5 (μ.2.1 9 i 0) 0)), μ) := by
  rw [eX9_wrapped_0]
  simp only [zif_pos hj, zif_eq, eX9_wrapped_38]
  split
  · rfl
  · split <;> rfl
/-- a slot for a position, a position for a slot -/
def zslot (n t p : Nat) : Nat := (p + n - t) % n
theorem wrap_sub {n t p : Nat} (hn : n ≤ 60) (ht : t < n) (hp : p < n) : (if nI p - nI t < 0 then nI p - nI t + nI n else if nI p - nI t < nI n then nI p - nI t else nI p - nI t - nI n) = nI (zslot n t p) := by
  unfold zslot
  by_cases h : p < t
  · rw [if_pos (pk_sneg (by omega) h)]
    have e : nI p - nI t + nI n = nI (p + n) - nI t := by
      rw [← nI_add, Int32.sub_eq_add_neg, Int32.sub_eq_add_neg, Int32.add_assoc, Int32.add_assoc, Int32.add_comm (-nI t)]
    rw [e, pk_sub (by omega), Nat.mod_eq_of_lt (by omega)]
  · rw [pk_sub (by omega), if_neg (nI_pos (by omega)), if_pos (nI_lt (by omega) (by omega))]
    rw [show p + n - t = (p - t) + n by omega, Nat.add_mod_right, Nat.mod_eq_of_lt (by omega)]
theorem wrap_add {n t p : Nat} (hn : n ≤ 60) (ht : t < n) (hp : p < n) : (if nI p + nI t < 0 then nI p + nI t + nI n else if nI p + nI t < nI n then nI p + nI t else nI p + nI t - nI n) = nI ((p + t) % n) := by
  rw [nI_add, if_neg (nI_pos (by omega))]
  by_cases h : p + t < n
  · rw [if_pos (nI_lt h (by omega)), Nat.mod_eq_of_lt h]
  · rw [if_neg (nI_nlt (by omega) (by omega)), pk_sub (by omega)]
    rw [Nat.mod_eq_sub_mod (by omega), Nat.mod_eq_of_lt (by omega)]
theorem pX9_slotAt {μ : zM} {i n t p : Nat} {x : Int32} (hj : μ.2.1 9 i 0 < 2) (hn : μ.1 5 (μ.2.1 9 i 0) 0 = nI n) (hn6 : n ≤ 60) (ht : μ.1 9 i 2 = nI t) (htn : t < n) (hx : x = nI p) (hp : p < n) : tX9_slotAt_0 i x μ = some (some (.inl (nI (zslot n t p))), μ) := by
  rw [eX9_slotAt_0, ht, hx, pX9_wrapped μ i _ hj, zI_some, hn, wrap_sub hn6 htn hp]
theorem pX9_positionOf {μ : zM} {i n t p : Nat} {x : Int32} (hj : μ.2.1 9 i 0 < 2) (hn : μ.1 5 (μ.2.1 9 i 0) 0 = nI n) (hn6 : n ≤ 60) (ht : μ.1 9 i 2 = nI t) (htn : t < n) (hx : x = nI p) (hp : p < n) : tX9_positionOf_0 i x μ = some (some (.inl (nI ((p + t) % n))), μ) := by
  rw [eX9_positionOf_0, ht, hx, pX9_wrapped μ i _ hj, zI_some, hn, wrap_add hn6 htn hp]
