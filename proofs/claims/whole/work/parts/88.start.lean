/-! ===== the relation at the start: the built-in setup ===== -/
def ST0 (μ : zM) : Prop := (μ.1 5 0 0 = 10 ∧ μ.1 5 0 1 = 1 ∧ μ.1 5 0 2 = 3 ∧ μ.1 1 0 0 = 0) ∧ (∀ z, z < 60 → μ.1 43 0 z = 0) ∧ (∀ z, z < 7 → μ.1 49 0 z = 0) ∧ μ.1 5 0 13 = 0 ∧ μ.1 5 0 15 = 0
def D0 : zDv := fun _ _ _ => 0
def T0 : List Int32 := TX (S0 10) D0 3 0 (fun _ => 0) (fun _ => 0)
theorem okS0 {n : Nat} (h1 : 10 ≤ n) (h2 : n ≤ 60) : okS (S0 n) := ⟨h1, h2, Nat.le_of_ble_eq_true rfl, Nat.zero_le _, fun f hf => absurd hf (Nat.not_lt_zero _), fun _ => Nat.zero_le _, fun _ _ => rfl, fun _ => Nat.zero_le _, fun s k _ _ h => absurd h (Nat.not_lt_zero _), fun p h _ => absurd h (Nat.not_lt_zero 0), Nat.zero_le _, Nat.zero_le _, Nat.zero_le _, Nat.zero_le _, Nat.zero_le _⟩
theorem okD0 (n : Nat) : okD (S0 n) D0 := fun s k _ _ h => absurd h (Nat.not_lt_zero _)
theorem SX0 {μ : zM} (h : ST0 μ) : SX μ 0 (S0 10) D0 (nI 3) := by
  obtain ⟨⟨a1, a2, a3, a4⟩, b, c, -⟩ := h
  exact ⟨by decide, a1, a2, a3, ⟨Nat.zero_le _, a4, fun c f _ hf => absurd hf (Nat.not_lt_zero _)⟩, fun p hp => b p hp, fun s s1 s6 => c s (by omega), fun s k _ _ h => absurd h (Nat.not_lt_zero _), fun s k _ _ h => absurd h (Nat.not_lt_zero _)⟩
theorem describe_start {μ : zM} (h : ST0 μ) : ∃ μ', tX5_describe_0 0 μ = some (none, μ') ∧ XO μ μ' T0 := by
  obtain ⟨μ', e1, e2, -⟩ := describe_all (ds := fun _ => 0) (dk := fun _ => 0) (d := 0) (lm := 3) (okS0 (by decide) (by decide)) (okD0 10) (by decide) (SX0 h) h.2.2.2.1 (fun x hx => absurd hx (Nat.not_lt_zero _)) (fun x hx => absurd hx (Nat.not_lt_zero _)) (Nat.zero_le _) (Nat.zero_le _)
  exact ⟨μ', e1, e2⟩
/-- the reference's setup at the start -/
def SU0 (u : Nat → Int32) : Prop := u 0 = 10 ∧ u 2 = 1 ∧ u 3 = 3 ∧ ∀ z, z < 400 → z ≠ 0 → z ≠ 2 → z ≠ 3 → u z = 0
theorem SU0.su {u : Nat → Int32} (h : SU0 u) : SU u (S0 10) D0 (nI 3) 0 (fun _ _ => 0) (fun _ => 0) (fun _ => 0) := by
  obtain ⟨a, b, c, d⟩ := h
  exact ⟨a, d 1 (by decide) (by decide) (by decide) (by decide), b, c, fun p hp => d _ (by omega) (by omega) (by omega) (by omega), fun s s1 s6 => d _ (by omega) (by omega) (by omega) (by omega), fun p h _ => absurd h (Nat.not_lt_zero 0), fun s k _ _ h => absurd h (Nat.not_lt_zero _), fun x hx => absurd hx (Nat.not_lt_zero _), ⟨d 4 (by decide) (by decide) (by decide) (by decide), fun c f _ hf => absurd hf (Nat.not_lt_zero _)⟩, rfl, rfl⟩
theorem T0_len : T0.length ≤ 1024 := by
  have h1 := hdL_len (n := 10) (by decide)
  have h2 := tlL_len (wd := 1) (lm := 3) (by decide) (by decide)
  show (hdL 10 ++ [] ++ [] ++ tlL 1 3).length ≤ 1024
  rw [List.append_nil, List.append_nil, List.length_append]
  omega
theorem REL_start {μ : zM} (hp : μ.2.1 10 0 6 = 0 ∧ μ.2.1 10 0 7 = 1 ∧ μ.2.1 9 0 0 = 0) (hS : ST0 μ) (hB : BEG μ) (hh : μ.1 2 0 1 = 0 ∧ μ.1 2 0 2 = 0) (ht : μ.1 7 0 1 = 0 ∧ μ.1 11 0 1 = 0) (he : μ.1 10 0 8 = -2 ∧ μ.1 11 0 2 = -2) (hx : μ.1 8 0 1 = nI T0.length ∧ ∀ z, z < T0.length → μ.1 56 0 z = T0.getD z 0) (hu : SU0 (μ.1 63 0)) (hw : begW (μ.1 65 0)) (h14 : μ.1 11 0 14 = 0) : REL μ 0 := by
  have o := okS0 (n := 10) (by decide) (by decide)
  have hm := hu.su.sm (Nat.zero_le _) (Nat.zero_le _)
  have hbl : busyL (S0 10) = [] := by decide
  refine ⟨0, S0 10, D0, nI 3, 0, 15, 0, 0, 0, 0, fun _ => 0, ⟨hp.1, by decide, hp.2.1⟩, by decide, ⟨o, okD0 10, SX0 hS, ⟨?_, fun k p hk => ?_⟩, hm.1, hm.2⟩, RQ_beg o hB hp.2.2 hw, ⟨by decide, by decide, hh.1, hh.2, h14, fun u u' _ a => absurd a (Nat.not_lt_zero _), fun u a => absurd a (Nat.not_lt_zero _), fun u a => absurd a (Nat.not_lt_zero _)⟩, ⟨0, by decide, ht.1, ht.2, fun z hz => absurd hz (Nat.not_lt_zero _)⟩, ⟨T0, T0_len, hx.1, hx.2, says_all o (okD0 10) (by decide) hu.su⟩, he.1.trans he.2.symm⟩
  · rw [hbl]
    exact hS.2.2.2.2
  · rw [hbl] at hk
    cases k <;> cases hk
