/-! ===== the end, and all of it ===== -/
def blL (S : zSt) (a : Nat) : List Nat := (List.range a).filter (fun p => decide (ssrt S p ≠ 0))
theorem blL_len (S : zSt) (a : Nat) : (blL S a).length ≤ a := by
  have := List.length_filter_le (fun p => decide (ssrt S p ≠ 0)) (List.range a)
  rw [List.length_range] at this
  exact this
theorem blL_s (S : zSt) (a : Nat) : blL S (a + 1) = if ssrt S a = 0 then blL S a else blL S a ++ [a] := by
  unfold blL
  rw [List.range_succ, List.filter_append]
  by_cases h : ssrt S a = 0
  · rw [if_pos h]
    simp [h]
  · rw [if_neg h]
    simp [h]
theorem busy_loop {j : Nat} {S : zSt} {μ : zM} (hS : okS S) (hn : μ.1 5 j 0 = nI (sn S)) (h43 : ∀ p, p < 60 → μ.1 43 j p = nI (ssrt S p)) : ∀ (m a f : Nat) (μ1 : zM), a + m = sn S → m < f → (μ1.2 = μ.2 ∧ ∀ k i z, ¬ (k = 5 ∧ i = j ∧ z = 15) → ¬ (k = 52 ∧ i = j) → μ1.1 k i z = μ.1 k i z) → μ1.1 5 j 15 = nI (blL S a).length → (∀ k p, (blL S a)[k]? = some p → μ1.1 52 j k = nI p) → ∃ μ', tX5_listBusyPositions_2 f j (nI a) μ1 = some (none, μ') ∧ (μ'.2 = μ.2 ∧ ∀ k i z, ¬ (k = 5 ∧ i = j ∧ z = 15) → ¬ (k = 52 ∧ i = j) → μ'.1 k i z = μ.1 k i z) ∧ SXb μ' j S := by
  have h60 := hS.2.1
  intro m
  induction m with
  | zero =>
    intro a f μ1 h1 h2 h3 h4 h5
    obtain ⟨f, rfl⟩ : ∃ g, f = g + 1 := ⟨f - 1, by omega⟩
    have : a = sn S := by omega
    subst this
    refine ⟨μ1, ?_, h3, h4, h5⟩
    rw [eX5_listBusyPositions_2, h3.2 _ _ _ (by omega) (by omega), hn, zif_neg (nI_nlt (by omega) (by omega))]
  | succ m ih =>
    intro a f μ1 h1 h2 h3 h4 h5
    obtain ⟨f, rfl⟩ : ∃ g, f = g + 1 := ⟨f - 1, by omega⟩
    have hl := blL_len S a
    have h7 := hS.2.2.2.2.2.1 a
    rw [eX5_listBusyPositions_2, h3.2 5 j 0 (by omega) (by omega), hn, zif_pos (nI_lt (by omega) (by omega)), qI_in (zS_43 j) rfl (by omega) (by decide), Option.bind_some, h3.2 43 j a (by omega) (by omega), h43 a (by omega)]
    by_cases g : ssrt S a = 0
    · rw [zif_pos (show nI (ssrt S a) = 0 by rw [g]; rfl), eX5_listBusyPositions_39, eX5_listBusyPositions_42, nI_1]
      refine ih (a + 1) f μ1 (by omega) (by omega) h3 ?_ ?_
      · rw [blL_s, if_pos g]; exact h4
      · rw [blL_s, if_pos g]; exact h5
    · rw [zif_neg (show ¬ nI (ssrt S a) = 0 from nI_ne (b := 0) (by omega) (by decide) g), h4, wI_60 (zS_52 j) rfl (by omega), Option.bind_some, zlet_eq, mS_k _ _ _ _ _ _ _ _ (by decide), h4, nI_1, eX5_listBusyPositions_39, eX5_listBusyPositions_42, nI_1]
      refine ih (a + 1) f _ (by omega) (by omega) ⟨h3.1, fun k i z n1 n2 => ?_⟩ ?_ (fun k p hk => ?_)
      · rw [mS_1, if_neg n1, mS_1, if_neg (by omega)]
        exact h3.2 k i z n1 n2
      · rw [mS_same, blL_s, if_neg g, List.length_append]
        rfl
      · rw [blL_s, if_neg g] at hk
        rw [mS_k _ _ _ _ _ _ _ _ (by decide)]
        by_cases e : k = (blL S a).length
        · subst e
          rw [mS_same]
          rw [List.getElem?_append_right (Nat.le_refl _)] at hk
          simp at hk
          rw [hk]
        · have hk2 : k < (blL S a).length := by
            have := (List.getElem?_eq_some_iff.mp hk).1
            rw [List.length_append] at this
            simp at this
            omega
          rw [mS_n _ _ _ _ _ _ _ _ e]
          rw [List.getElem?_append_left hk2] at hk
          exact h5 k p hk
theorem P_end {μ ν : zM} (h : TOKP μ ν) : (tX7_isAtEnd_0 μ = some (some (.inl 1), μ) ∧ tX11_reads_204 ν = some (none, ν)) ∨ (∃ ν', tX7_isAtEnd_0 μ = some (some (.inl 0), μ) ∧ tX11_reads_204 ν = some (none, ν') ∧ BAD μ ν' ∧ MG ν ν') := by
  have hf := h.fine
  obtain ⟨b, L, s, e, κ, h1, ⟨t1, t2, t3⟩, h3, h4, h5, h6, h7⟩ := h
  rw [eX7_isAtEnd_0, h5.1, h3.2, eX7_isAtEnd_16, eX7_isAtEnd_16, zif_pos nar_0, zif_pos nar_1, eX11_reads_204, hf, zif_neg (show ¬ (1 : Int32) = 0 by decide), h6.2.2.1]
  by_cases g : κ = 0
  · left
    have : s = L := by omega
    rw [this, zif_neg (nI_nlt (Nat.le_refl _) (by omega)), zif_pos (show nI κ = 0 by rw [g]; rfl), eX11_reads_231]
    exact ⟨rfl, rfl⟩
  · right
    refine ⟨mS (mS ν 11 0 10 0) 11 0 2 (ν.1 11 0 6), by rw [zif_pos (nI_lt (show s < L by omega) (by omega))], ?_, ⟨by simp [mS_1], by rw [mS_same, h6.2.1, h5.1]⟩, rfl, fun k i z n _ => ?_, fun _ _ _ _ => rfl⟩
    · rw [zif_neg (show ¬ nI κ = 0 from nI_ne (b := 0) (by omega) (by decide) g), qP_f (Or.inl rfl), Option.bind_some, zlet_eq, eX11_reads_231, mS_n _ _ _ _ _ _ _ _ (by decide)]
    · rw [mS_1, if_neg (by omega), mS_1, if_neg (by omega)]
/-- the class's cells that reading may change -/
def XH (j : Nat) (μ μ' : zM) : Prop := (∀ k i n, ¬ (k = 6 ∧ i = 0 ∧ n = 1) → μ'.2.1 k i n = μ.2.1 k i n) ∧ μ'.2.2 = μ.2.2 ∧ ∀ k i z, k ≠ 7 → ¬ isSj j k i → μ'.1 k i z = μ.1 k i z
def S0 (n : Nat) : zSt := (n, 1, 0, (fun _ _ => 0), (fun _ => 0), (fun _ _ => 0), (fun _ => 0), fun _ => 0)
theorem draft0 {ν : zM} : ∀ (m a f : Nat), a + m = 400 → m < f → tX11_reads_2 f (nI a) (fil ν 64 0 a 0) = tX11_reads_2 (f - m) (nI 400) (fil ν 64 0 400 0) := by
  intro m
  induction m with
  | zero =>
    intro a f h1 h2
    have : a = 400 := by omega
    subst this
    rfl
  | succ m ih =>
    intro a f h1 h2
    obtain ⟨f, rfl⟩ : ∃ g, f = g + 1 := ⟨f - 1, by omega⟩
    rw [eX11_reads_2, zif_pos (show nI a < 400 from nI_lt (b := 400) (by omega) (by decide)), wI_64 rfl (by omega), Option.bind_some, eX11_reads_19, nI_1, fil_s, ih (a + 1) f (by omega) (by omega)]
    congr 1
    omega
theorem into_pair {μ ν : zM} {j L : Nat} (hj : j < 2) (hL : L ≤ 900) (hT : TP μ ν L) (h2 : ν.1 11 0 2 = -2) : (∃ μ' ν' S D l d dv ds dk, 1 ≤ l ∧ l ≤ 9 ∧ tX6_readInto_0 j μ = some (some (.inl 1), μ') ∧ tX11_reads_0 ν = some (none, ν') ∧ (okS S ∧ okD S D ∧ SX μ' j S D (nI l) ∧ SXb μ' j S ∧ SU (ν'.1 64 0) S D (nI l) d dv ds dk ∧ μ'.1 5 j 13 = nI d ∧ ∀ x, x < d → μ'.1 51 j x = nI (spos S (ds x) (dk x))) ∧ (ν'.1 11 0 10 = 1 ∧ ν'.1 11 0 2 = -2) ∧ XH j μ μ' ∧ MG ν ν') ∨ (∃ μ' ν', tX6_readInto_0 j μ = some (some (.inl 0), μ') ∧ tX11_reads_0 ν = some (none, ν') ∧ BAD μ' ν' ∧ XH j μ μ' ∧ MG ν ν') := by
  -- the class begins
  let μa : zM := (μ.1, zupN μ.2.1 (6, 0) 1 j, μ.2.2)
  have eq1 : qP μ (6, 0) 1 (.inr (.inr (5, j))) = some μa := by
    rw [qP_eq]
    show (if 5 = 5 ∧ j < 2 then _ else _) = _
    rw [if_pos ⟨rfl, hj⟩]
  have pa : μa.2.1 6 0 1 = j := by
    show zupN μ.2.1 (6, 0) 1 j 6 0 1 = j
    unfold zupN
    exact if_pos ⟨rfl, rfl, rfl⟩
  let c1 := mS μa 5 j 0 10
  let c2 := mS c1 5 j 1 1
  let c3 := mS c2 5 j 2 3
  let c4 := mS c3 1 j 0 0
  let c5 := fil c4 43 j 60 0
  let c6 := fil c5 49 j 7 0
  let c7 := mS c6 5 j 13 0
  let c8 := mS c7 5 j 15 0
  have eC : tX5_clear_0 j μa = some (none, c8) := by
    rw [eX5_clear_0, zlet_eq, zlet_eq, zlet_eq, zlet_eq, pJ_fill (zS_43 j) (by decide) (by decide), zU_some, pJ_fill (zS_49 j) (by decide) (by decide), zU_some, zlet_eq, zlet_eq]
  have r8 : ∀ k i z, c8.1 k i z = if k = 5 ∧ i = j ∧ z = 15 then 0 else if k = 5 ∧ i = j ∧ z = 13 then 0 else if k = 49 ∧ i = j ∧ z < 7 then 0 else if k = 43 ∧ i = j ∧ z < 60 then 0 else if k = 1 ∧ i = j ∧ z = 0 then 0 else if k = 5 ∧ i = j ∧ z = 2 then 3 else if k = 5 ∧ i = j ∧ z = 1 then 1 else if k = 5 ∧ i = j ∧ z = 0 then 10 else μ.1 k i z := fun k i z => by
    show (mS (mS (fil (fil (mS (mS (mS (mS μa 5 j 0 10) 5 j 1 1) 5 j 2 3) 1 j 0 0) 43 j 60 0) 49 j 7 0) 5 j 13 0) 5 j 15 0).1 k i z = _
    simp only [mS_1, fil_1]
    rfl
  have f8 : XH j μ c8 := ⟨fun k i n h => by
    show zupN μ.2.1 (6, 0) 1 j k i n = _
    unfold zupN
    exact if_neg h, rfl, fun k i z _ n => by
      unfold isSj at n
      rw [r8, if_neg (by omega), if_neg (by omega), if_neg (by omega), if_neg (by omega), if_neg (by omega), if_neg (by omega), if_neg (by omega), if_neg (by omega)]⟩
  have t7 : ∀ i z, c8.1 7 i z = μ.1 7 i z := fun i z => by
    rw [r8, if_neg (by omega), if_neg (by omega), if_neg (by omega), if_neg (by omega), if_neg (by omega), if_neg (by omega), if_neg (by omega), if_neg (by omega)]
  have t55 : ∀ z, c8.1 55 0 z = μ.1 55 0 z := fun z => f8.2.2 _ _ _ (by decide) (by unfold isSj; omega)
  -- the reference begins
  let d1 := fil ν 64 0 400 0
  let d2 := mS d1 64 0 2 1
  let d3 := mS d2 64 0 3 3
  let d4 := mS d3 11 0 10 1
  let d5 := mS d4 11 0 5 0
  have k5 : ∀ k i z, ¬ (k = 64 ∧ i = 0) → ¬ (k = 11 ∧ i = 0 ∧ (z = 5 ∨ z = 10)) → d5.1 k i z = ν.1 k i z := fun k i z n1 n2 => by
    show (mS (mS (mS (mS (fil ν 64 0 400 0) 64 0 2 1) 64 0 3 3) 11 0 10 1) 11 0 5 0).1 k i z = _
    rw [mS_1, if_neg (by omega), mS_1, if_neg (by omega), mS_1, if_neg (by omega), mS_1, if_neg (by omega), fil_1, if_neg (by omega)]
  have r64 : ∀ z, z < 400 → d5.1 64 0 z = if z = 3 then 3 else if z = 2 then 1 else 0 := fun z hz => by
    show (mS (mS (mS (mS (fil ν 64 0 400 0) 64 0 2 1) 64 0 3 3) 11 0 10 1) 11 0 5 0).1 64 0 z = _
    rw [mS_k _ _ _ _ _ _ _ _ (by decide), mS_k _ _ _ _ _ _ _ _ (by decide), mS_1, mS_1, fil_1]
    by_cases q3 : z = 3
    · rw [if_pos ⟨rfl, rfl, q3⟩, if_pos q3]
    · rw [if_neg (by omega), if_neg q3]
      by_cases q2 : z = 2
      · rw [if_pos ⟨rfl, rfl, q2⟩, if_pos q2]
      · rw [if_neg (by omega), if_neg q2, if_pos ⟨rfl, rfl, hz⟩]
  have gD : MG ν d5 := ⟨rfl, fun k i z n1 n2 => k5 k i z n2 (by omega), fun _ _ _ _ => rfl⟩
  have eM : ∃ g, tX11_reads_0 ν = tX11_reads_2 (g + 1) (nI 400) d1 := by
    refine ⟨100000 - 400 - 1, ?_⟩
    rw [eX11_reads_0, zN_eq]
    have := draft0 (ν := ν) 400 0 100000 (by decide) (by decide)
    rw [fil_0] at this
    exact this
  obtain ⟨g, eM⟩ := eM
  -- the first token
  obtain ⟨s, e, κ, x1, x2, x3, x4⟩ := tok_ex (fun z => ν.1 62 0 z) L 0 (by omega)
  have hbX : ∀ z, z < L → c8.1 55 0 z = ν.1 62 0 z := fun z hz => by rw [t55]; exact (hT.2.2 z hz).1
  obtain ⟨m1, y1, y2, y3, y4, y5, y6⟩ := X_find (b := fun z => ν.1 62 0 z) hbX (by rw [t7]; exact hT.1) hL x1 x2 x3 x4 (x := 0) rfl
  obtain ⟨n1, z1, z2, z3, z4, z5, z6, z7⟩ := M_next (ν := d5) (b := fun z => ν.1 62 0 z) (fun z hz => k5 _ _ _ (by omega) (by omega)) (by rw [k5 _ _ _ (by omega) (by omega)]; exact hT.2.1) hL x1 x2 x3 x4 (mS_same _ _ _ _ _)
  have tk1 : TOKP m1 n1 := by
    refine ⟨fun z => ν.1 62 0 z, L, s, e, κ, hL, x4, ⟨fun z hz => ?_, ?_⟩, ⟨fun z hz => ?_, ?_⟩, ⟨y2, y3, y4⟩, ⟨z2, z3, z4, z5, z6⟩, ?_, ?_⟩
    · rw [y6 _ _ _ (by omega)]; exact hbX z hz
    · rw [y6 _ _ _ (by omega), t7]; exact hT.1
    · rw [z7.2.1 _ _ _ (by omega)]; exact k5 _ _ _ (by omega) (by omega)
    · rw [z7.2.1 _ _ _ (by omega), k5 _ _ _ (by omega) (by omega)]; exact hT.2.1
    · rw [z7.2.1 _ _ _ (by omega)]
      show (mS d4 11 0 5 0).1 11 0 10 = 1
      rw [mS_n _ _ _ _ _ _ _ _ (by decide)]
      exact mS_same _ _ _ _ _
    · rw [z7.2.1 _ _ _ (by omega), k5 _ _ _ (by omega) (by omega)]; exact h2
  have f1 : XF c8 m1 := ⟨y5, y6⟩
  have pj : ∀ m, XG j m1 m → m.2.1 6 0 1 = j := fun m q => by rw [q.1, y5]; exact pa
  have fin : ∀ m, XG j m1 m → XH j μ m := fun m q => ⟨fun k i n h => by rw [q.1, y5]; exact f8.1 k i n h, by rw [q.1, y5]; exact f8.2.1, fun k i z n1 n2 => by rw [q.2 k i z n1 n2, y6 _ _ _ (by omega)]; exact f8.2.2 k i z n1 n2⟩
  have gN : MG ν n1 := gD.t z7.g
  rw [eX6_readInto_0, eq1, Option.bind_some, pa, zif_pos hj, eC, zU_some, y1, zU_some, eM, eX11_reads_2, zif_neg (show ¬ nI 400 < 400 by decide), wI_64 (x := 2) (z := 2) rfl (by decide), Option.bind_some, wI_64 (x := 3) (z := 3) rfl (by decide), Option.bind_some, qP_f (Or.inr rfl), Option.bind_some, zlet_eq, show tX11_next_0 zN (mS (mS (mS (mS d1 64 0 2 1) 64 0 3 3) 11 0 10 1) 11 0 5 0) = some (none, n1) from z1, zU_some]
  rcases P_named tk1 (i := 6) (c := 599495) (lo := 10) (hi := 60) (by decide) (by decide) (by decide) with ⟨v, m2, n2, a1, a2, a3, a4, a5, a6⟩ | ⟨v, m2, n2, a1, a2, a3, a4, a5⟩
  · obtain ⟨n, hn1, hn2, rfl⟩ := rng_nat (a := 10) (b := 60) a3.1 a3.2 (by decide) (by decide)
    rw [a1, zI_some, a2, zI_some, eX6_readInto_34, zif_neg (m1_nI (by omega)), pj m2 a5.g, zif_pos hj, zlet_eq, wI_64 (x := 0) (z := 0) rfl (by decide), Option.bind_some]
    have t1 : TOKP (mS m2 5 j 0 (nI n)) (mS n2 64 0 0 (nI n)) := a4.of (fun z => mS_k _ _ _ _ _ _ _ _ (by decide)) (fun z => mS_k _ _ _ _ _ _ _ _ (by decide)) (fun z => mS_k _ _ _ _ _ _ _ _ (by decide)) (fun z => mS_k _ _ _ _ _ _ _ _ (by decide)) rfl
    have gX : XG j m1 (mS m2 5 j 0 (nI n)) := (a5.g (j := j)).s (by unfold isSj; omega)
    have gM : MG ν (mS n2 64 0 0 (nI n)) := (gN.t a6.g).t ((MD.r n2).s _ _).g
    rcases P_semi t1 with ⟨m3, n3, b1, b2, b3, b4, b5, b6⟩ | ⟨n3, b1, b2, b3, b4, b5⟩
    · have gX3 := gX.t (b5.g (j := j))
      have gM3 := gM.t b6.g
      rw [b1, zI_some, zif_neg (show ¬ (1 : Int32) = 0 by decide), zif_pos b2, eX11_reads_81, b3, zU_some, eX6_readDevices_0]
      have cx : ∀ k i z, k ≠ 7 → ¬ (k = 5 ∧ i = j ∧ z = 0) → m3.1 k i z = c8.1 k i z := fun k i z p1 p2 => by
        rw [b5.2 _ _ _ (by omega), mS_1, if_neg p2, a5.2 _ _ _ (by omega), y6 _ _ _ (by omega)]
      have cm : ∀ z, z < 400 → z ≠ 0 → n3.1 64 0 z = if z = 3 then 3 else if z = 2 then 1 else 0 := fun z hz h0 => by
        rw [b6.2.1 _ _ _ (by omega), mS_n _ _ _ _ _ _ _ _ h0, a6.2.1 _ _ _ (by omega), z7.2.1 _ _ _ (by omega), r64 z hz]
      have cz : ∀ z, z < 400 → z ≠ 0 → z ≠ 2 → z ≠ 3 → n3.1 64 0 z = 0 := fun z p1 p2 p3 p4 => by rw [cm z p1 p2, if_neg p4, if_neg p3]
      have hRD : RD m3 n3 j (S0 n) (fun _ _ _ => 0) (nI 3) 0 (fun _ _ => 0) (fun _ => 0) (fun _ => 0) := by
        refine ⟨⟨hn1, hn2, Nat.le_of_ble_eq_true rfl, Nat.zero_le _, fun f hf => absurd hf (Nat.not_lt_zero _), fun _ => Nat.zero_le _, fun _ _ => rfl, fun _ => Nat.zero_le _, fun s k _ _ h => absurd h (Nat.not_lt_zero _), fun p h _ => absurd h (Nat.not_lt_zero 0), Nat.zero_le _, Nat.zero_le _, Nat.zero_le _, Nat.zero_le _, Nat.zero_le _⟩, fun s k _ _ h => absurd h (Nat.not_lt_zero _), ⟨hj, ?_, ?_, ?_, ⟨Nat.zero_le _, ?_, fun c f _ hf => absurd hf (Nat.not_lt_zero _)⟩, fun p hp => ?_, fun s a b => ?_, fun s k _ _ h => absurd h (Nat.not_lt_zero _), fun s k _ _ h => absurd h (Nat.not_lt_zero _)⟩, ⟨?_, ?_, ?_, ?_, fun p hp => ?_, fun s a b => ?_, fun p a _ => absurd a (Nat.not_lt_zero 0), fun s k _ _ h => absurd h (Nat.not_lt_zero _), fun x hx => absurd hx (Nat.not_lt_zero _), ⟨?_, fun c f _ hf => absurd hf (Nat.not_lt_zero _)⟩, rfl, rfl⟩, ⟨?_, ?_⟩, fun x hx => absurd hx (Nat.not_lt_zero _)⟩
        · rw [b5.2 _ _ _ (by omega), mS_same]; rfl
        · rw [cx _ _ _ (by decide) (by omega), r8, if_neg (by omega), if_neg (by omega), if_neg (by omega), if_neg (by omega), if_neg (by omega), if_neg (by omega), if_pos ⟨rfl, rfl, rfl⟩]; rfl
        · rw [cx _ _ _ (by decide) (by omega), r8, if_neg (by omega), if_neg (by omega), if_neg (by omega), if_neg (by omega), if_neg (by omega), if_pos ⟨rfl, rfl, rfl⟩]; rfl
        · rw [cx _ _ _ (by decide) (by omega), r8, if_neg (by omega), if_neg (by omega), if_neg (by omega), if_neg (by omega), if_pos ⟨rfl, rfl, rfl⟩]; rfl
        · rw [cx _ _ _ (by decide) (by omega), r8, if_neg (by omega), if_neg (by omega), if_neg (by omega), if_pos ⟨rfl, rfl, hp⟩]; rfl
        · rw [cx _ _ _ (by decide) (by omega), r8, if_neg (by omega), if_neg (by omega), if_pos ⟨rfl, rfl, by omega⟩]; rfl
        · rw [b6.2.1 _ _ _ (by omega), mS_same]; rfl
        · rw [cz 1 (by decide) (by decide) (by decide) (by decide)]; rfl
        · rw [cm 2 (by decide) (by decide)]; rfl
        · rw [cm 3 (by decide) (by decide)]; rfl
        · rw [cz _ (by omega) (by omega) (by omega) (by omega)]; rfl
        · rw [cz _ (by omega) (by omega) (by omega) (by omega)]; rfl
        · rw [cz 4 (by decide) (by decide) (by decide) (by decide)]; rfl
        · rw [cx _ _ _ (by decide) (by omega), r8, if_neg (by omega), if_pos ⟨rfl, rfl, rfl⟩]; rfl
        · rw [cx _ _ _ (by decide) (by omega), r8, if_pos ⟨rfl, rfl, rfl⟩]
      rcases devs_loop 18 zN zN hRD b4 (pj _ gX3) rfl (by rw [zN_eq]; decide) (by rw [zN_eq]; decide) with ⟨m4, n4, d, S, D, dv, ds, dk, c1, c2, c3, c4, c5, c6⟩ | ⟨m4, n4, c1, c2, c3, c4, c5⟩
      · have gX4 := gX3.t c5
        have gM4 := gM3.t c6
        have hF := c4.1.2.2.2.1
        rw [show tX6_readDevices_2 zN 0 m3 = some (some (.inl 1), m4) from c1, zI_some, zif_neg (show ¬ (1 : Int32) = 0 by decide), c2, eX6_readFlights_0]
        rcases fls_loop (10 - sF S) zN zN 0 c4 c3 (pj _ gX4) (Nat.zero_le _) (by omega) (by rw [zN_eq]; omega) (by rw [zN_eq]; omega) with ⟨m5, n5, S', e1, e2, e3, e4, e5, e6⟩ | ⟨m5, n5, e1, e2, e3, e4, e5⟩
        · have gX5 := gX4.t e5
          have gM5 := gM4.t e6
          rw [show tX6_readFlights_2 zN 0 m4 = some (some (.inl 1), m5) from e1, zI_some, zif_neg (show ¬ (1 : Int32) = 0 by decide), e2]
          rcases win_step e4 e3 (pj _ gX5) with ⟨m6, n6, S2, k1, k2, k3, k4, k5', k6⟩ | ⟨m6, n6, k1, k2, k3, k4, k5'⟩
          · have gX6 := gX5.t k5'
            have gM6 := gM5.t k6
            rw [k1, zI_some, zif_neg (show ¬ (1 : Int32) = 0 by decide), k2]
            rcases lim_step k4 ⟨3, by decide, by decide, rfl⟩ k3 (pj _ gX6) with ⟨m7, n7, l, l1, l9, i1, i2, i3, i4, i5, i6⟩ | ⟨m7, n7, i1, i2, i3, i4, i5⟩
            · have gX7 := gX6.t i5
              have gM7 := gM6.t i6
              rw [i1, zI_some, zif_neg (show ¬ (1 : Int32) = 0 by decide), i2, pj _ gX7, zif_pos hj, eX5_listBusyPositions_0]
              have i4' := i4
              obtain ⟨hS, hD, hX, hU, h13, h51⟩ := i4'
              obtain ⟨m8, o1, o2, o3⟩ := busy_loop hS hX.2.1 hX.2.2.2.2.2.1 (sn S2) 0 zN m7 (by omega) (by rw [zN_eq]; have := hS.2.1; omega) ⟨rfl, fun _ _ _ _ _ => rfl⟩ h13.2 (fun k p hk => by cases k <;> cases hk)
              rw [show tX5_listBusyPositions_2 zN j 0 m7 = some (none, m8) from o1, zU_some]
              have tk8 : TOKP m8 n7 := i3.of (fun z => o2.2 _ _ _ (by omega) (by omega)) (fun z => o2.2 _ _ _ (by omega) (by omega)) (fun _ => rfl) (fun _ => rfl) rfl
              have gX8 : XG j m1 m8 := gX7.t ⟨o2.1, fun k i z p1 p2 => o2.2 _ _ _ (by unfold isSj at p2; omega) (by unfold isSj at p2; omega)⟩
              rcases P_end tk8 with ⟨q1, q2⟩ | ⟨n9, q1, q2, q3, q4⟩
              · left
                rw [q1, zI_some, zif_pos nar_1, q2]
                refine ⟨m8, n7, S2, D, l, d, dv, ds, dk, l1, l9, rfl, rfl, ⟨hS, hD, ?_, o3, hU, ?_, fun x hx => ?_⟩, ⟨i3.fine, i3.err⟩, fin _ gX8, gM7⟩
                · obtain ⟨a1', a2', a3', a4', ⟨a5', a6', a7'⟩, a8', a9', a10', a11'⟩ := hX
                  have ok : ∀ k i z, k ≠ 52 → ¬ (k = 5 ∧ z = 15) → m8.1 k i z = m7.1 k i z := fun k i z p1 p2 => o2.2 _ _ _ (by omega) (by omega)
                  refine ⟨a1', by rw [ok _ _ _ (by decide) (by decide)]; exact a2', by rw [ok _ _ _ (by decide) (by decide)]; exact a3', by rw [ok _ _ _ (by decide) (by decide)]; exact a4', ⟨a5', by rw [ok _ _ _ (by decide) (by decide)]; exact a6', fun c f hc hf => by rw [ok _ _ _ (by omega) (by omega)]; exact a7' c f hc hf⟩, fun p hp => by rw [ok _ _ _ (by decide) (by omega)]; exact a8' p hp, fun s a b => by rw [ok _ _ _ (by decide) (by omega)]; exact a9' s a b, fun s k a b c => by rw [ok _ _ _ (by decide) (by omega), ok _ _ _ (by decide) (by omega)]; exact a10' s k a b c, fun s k a b c => ?_⟩
                  obtain ⟨r1, r2, r3, r4, r5⟩ := a11' s k a b c
                  rw [ok 45 _ _ (by decide) (by omega), ok 46 _ _ (by decide) (by omega), ok 47 _ _ (by decide) (by omega)]
                  exact ⟨r1, r2, fun z l l1 l3 => by rw [ok _ _ _ (by decide) (by omega)]; exact r3 z l l1 l3, fun z => by rw [ok _ _ _ (by decide) (by omega)]; exact r4 z, r5⟩
                · rw [o2.2 _ _ _ (by omega) (by omega)]; exact h13.1
                · rw [o2.2 _ _ _ (by omega) (by omega)]; exact h51 x hx
              · right
                rw [q1, zI_some, zif_pos nar_0, q2]
                exact ⟨m8, n9, rfl, rfl, q3, fin _ gX8, gM7.t q4⟩
            · right
              rw [i1, zI_some, zif_pos rfl, eX6_readInto_89, zif_pos nar_0, i2]
              exact ⟨m7, n7, rfl, rfl, i3, fin _ (gX6.t i4), gM6.t i5⟩
          · right
            rw [k1, zI_some, zif_pos rfl, eX6_readInto_89, zif_pos nar_0, k2]
            exact ⟨m6, n6, rfl, rfl, k3, fin _ (gX5.t k4), gM5.t k5'⟩
        · right
          rw [show tX6_readFlights_2 zN 0 m4 = some (some (.inl 0), m5) from e1, zI_some, zif_pos rfl, eX6_readInto_89, zif_pos nar_0, e2]
          exact ⟨m5, n5, rfl, rfl, e3, fin _ (gX4.t e4), gM4.t e5⟩
      · right
        rw [show tX6_readDevices_2 zN 0 m3 = some (some (.inl 0), m4) from c1, zI_some, zif_pos rfl, eX6_readInto_89, zif_pos nar_0, c2]
        exact ⟨m4, n4, rfl, rfl, c3, fin _ (gX3.t c4), gM3.t c5⟩
    · right
      rw [b1, zI_some, zif_pos rfl, eX6_readInto_89, zif_pos nar_0, zif_neg b2, eX11_reads_81, b3, zU_some]
      obtain ⟨g', hg'⟩ := zN_succ
      rw [hg', D_84 b4.1]
      exact ⟨_, n3, rfl, rfl, b4, fin _ gX, gM.t b5⟩
  · right
    rw [a1, zI_some, a2, zI_some, eX6_readInto_34, zif_pos rfl, zif_pos nar_0, wI_64 (x := 0) (z := 0) rfl (by decide), Option.bind_some]
    have h0 : (mS n2 64 0 0 v).1 11 0 10 = 0 := h64 a3.1
    rw [D_81 h0, D_81 h0, zif_same]
    have w3 : MD n2 (mS n2 64 0 0 v) := (MD.r n2).s _ _
    exact ⟨m2, _, rfl, rfl, a3.d w3, fin _ a4.g, (gN.t a5).t w3.g⟩
