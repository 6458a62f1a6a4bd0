/-! ===== a fresh world ===== -/
def BEG (μ : zM) : Prop := (μ.1 9 0 1 = 0 ∧ μ.1 9 0 2 = 0 ∧ μ.1 9 0 3 = 15 ∧ μ.1 0 0 0 = 0) ∧ (∀ z, z < 60 → μ.1 40 0 z = -2 ∧ μ.1 36 0 z = -1 ∧ μ.1 37 0 z = -1 ∧ μ.1 38 0 z = 0 ∧ μ.1 58 0 z = -1 ∧ μ.1 59 0 z = 0 ∧ μ.1 60 0 z = 0 ∧ μ.1 61 0 z = 1) ∧ ∀ z, z < 8 → μ.1 57 0 z = 0
theorem X_begin {μ : zM} {j : Nat} (hj : j < 2) : ∃ μ', tX9_begin_0 0 j μ = some (none, μ') ∧ BEG μ' ∧ μ'.2.1 = zupN μ.2.1 (9, 0) 0 j ∧ μ'.2.2 = μ.2.2 ∧ ∀ k x z, ¬ isW 0 k x → μ'.1 k x z = μ.1 k x z := by
  let m0 : zM := (μ.1, zupN μ.2.1 (9, 0) 0 j, μ.2.2)
  let m1 := mS (mS (mS (mS m0 9 0 1 0) 9 0 2 0) 9 0 3 15) 0 0 0 0
  let m2 := fil (fil m1 40 0 60 (-2)) 40 1 100 (-2)
  let m3 := fil (fil (fil m2 36 0 60 (-1)) 37 0 60 (-1)) 38 0 60 0
  let m4 := fil (fil (fil (fil (fil m3 57 0 8 0) 58 0 60 (-1)) 59 0 60 0) 60 0 60 0) 61 0 60 1
  have e : tX9_begin_0 0 j μ = some (none, m4) := by
    rw [eX9_begin_0, qP_set hj, Option.bind_some, zlet_eq, zlet_eq, zlet_eq, zlet_eq, eX4_removeAll_0, pJ_fill (k := 40) (i := 2 * 0) (N := 60) rfl (by decide) (by decide), zU_some, zU_some, eX4_removeAll_0, pJ_fill (k := 40) (i := 2 * 0 + 1) (N := 100) rfl (by decide) (by decide), zU_some, zU_some, eX3_removeAll_0, pJ_fill (zS_36 0) (by decide) (by decide), zU_some, pJ_fill (zS_37 0) (by decide) (by decide), zU_some, pJ_fill (zS_38 0) (by decide) (by decide), zU_some, zU_some, pJ_fill (zS_57 0) (by decide) (by decide), zU_some, pJ_fill (zS_58 0) (by decide) (by decide), zU_some, pJ_fill (zS_59 0) (by decide) (by decide), zU_some, pJ_fill (zS_60 0) (by decide) (by decide), zU_some, pJ_fill (zS_61 0) (by decide) (by decide), zU_some]
  have r : ∀ k x z, m4.1 k x z = if k = 61 ∧ x = 0 ∧ z < 60 then 1 else if k = 60 ∧ x = 0 ∧ z < 60 then 0 else if k = 59 ∧ x = 0 ∧ z < 60 then 0 else if k = 58 ∧ x = 0 ∧ z < 60 then -1 else if k = 57 ∧ x = 0 ∧ z < 8 then 0 else if k = 38 ∧ x = 0 ∧ z < 60 then 0 else if k = 37 ∧ x = 0 ∧ z < 60 then -1 else if k = 36 ∧ x = 0 ∧ z < 60 then -1 else if k = 40 ∧ x = 1 ∧ z < 100 then -2 else if k = 40 ∧ x = 0 ∧ z < 60 then -2 else if k = 0 ∧ x = 0 ∧ z = 0 then 0 else if k = 9 ∧ x = 0 ∧ z = 3 then 15 else if k = 9 ∧ x = 0 ∧ z = 2 then 0 else if k = 9 ∧ x = 0 ∧ z = 1 then 0 else μ.1 k x z := fun k x z => by
    show (fil (fil (fil (fil (fil (fil (fil (fil (fil (fil (mS (mS (mS (mS m0 9 0 1 0) 9 0 2 0) 9 0 3 15) 0 0 0 0) 40 0 60 (-2)) 40 1 100 (-2)) 36 0 60 (-1)) 37 0 60 (-1)) 38 0 60 0) 57 0 8 0) 58 0 60 (-1)) 59 0 60 0) 60 0 60 0) 61 0 60 1).1 k x z = _
    simp only [mS_1, fil_1]
    rfl
  refine ⟨m4, e, ⟨⟨?_, ?_, ?_, ?_⟩, fun z hz => ⟨?_, ?_, ?_, ?_, ?_, ?_, ?_, ?_⟩, fun z hz => ?_⟩, rfl, rfl, fun k x z n => ?_⟩
  · rw [r]; simp
  · rw [r]; simp
  · rw [r]; simp
  · rw [r]; simp
  · rw [r]; simp [hz]
  · rw [r]; simp [hz]
  · rw [r]; simp [hz]
  · rw [r]; simp [hz]
  · rw [r]; simp [hz]
  · rw [r]; simp [hz]
  · rw [r]; simp [hz]
  · rw [r]; simp [hz]
  · rw [r]; simp [hz]
  · unfold isW at n
    rw [r, if_neg (by omega), if_neg (by omega), if_neg (by omega), if_neg (by omega), if_neg (by omega), if_neg (by omega), if_neg (by omega), if_neg (by omega), if_neg (by omega), if_neg (by omega), if_neg (by omega), if_neg (by omega), if_neg (by omega), if_neg (by omega)]
def begW (w : Nat → Int32) : Prop := ∀ z, z < 1200 → w z = if 90 ≤ z ∧ z < 150 then -2 else if 11 ≤ z ∧ z ≤ 14 then 1 else 0
theorem zS_65' (i : Nat) : zS 65 i = .inr (0, 1200, (0, 0)) := rfl
def filR (μ : zM) (k lo a : Nat) (v : Int32) : zM := (fun k' i' z => if k' = k ∧ i' = 0 ∧ lo ≤ z ∧ z < lo + a then v else μ.1 k' i' z, μ.2)
theorem filR_1 (μ : zM) (k lo a : Nat) (v : Int32) (k' i' z : Nat) : (filR μ k lo a v).1 k' i' z = if k' = k ∧ i' = 0 ∧ lo ≤ z ∧ z < lo + a then v else μ.1 k' i' z := rfl
theorem filR_0 (μ : zM) (k lo : Nat) (v : Int32) : filR μ k lo 0 v = μ := by
  refine Prod.ext (funext fun k' => funext fun i' => funext fun z => ?_) rfl
  rw [filR_1, if_neg (by omega)]
theorem filR_s (μ : zM) (k lo a : Nat) (v : Int32) : mS (filR μ k lo a v) k 0 (lo + a) v = filR μ k lo (a + 1) v := by
  refine Prod.ext (funext fun k' => funext fun i' => funext fun z => ?_) rfl
  rw [mS_1, filR_1, filR_1]
  by_cases h : k' = k ∧ i' = 0 ∧ z = lo + a
  · rw [if_pos h, if_pos (by omega)]
  · rw [if_neg h]
    by_cases g : k' = k ∧ i' = 0 ∧ lo ≤ z ∧ z < lo + a
    · rw [if_pos g, if_pos (by omega)]
    · rw [if_neg g, if_neg (by omega)]
theorem M_begins (ν : zM) : ∃ ν', tX11_begins_0 ν = some (none, ν') ∧ begW (ν'.1 65 0) ∧ ν'.1 11 0 14 = 0 ∧ ν'.2 = ν.2 ∧ ∀ k i z, ¬ (k = 65 ∧ i = 0) → ¬ (k = 11 ∧ i = 0 ∧ z = 14) → ν'.1 k i z = ν.1 k i z := by
  have l1 : ∀ m a f, a + m = 1200 → m < f → tX11_begins_2 f (nI a) (filR ν 65 0 a 0) = tX11_begins_24 zN 0 (filR ν 65 0 1200 0) := by
    intro m
    induction m with
    | zero =>
      intro a f h1 h2
      obtain ⟨f, rfl⟩ : ∃ g, f = g + 1 := ⟨f - 1, by omega⟩
      have : a = 1200 := by omega
      subst this
      rw [eX11_begins_2, zif_neg (by decide)]
    | succ m ih =>
      intro a f h1 h2
      obtain ⟨f, rfl⟩ : ∃ g, f = g + 1 := ⟨f - 1, by omega⟩
      rw [eX11_begins_2, zif_pos (show nI a < 1200 from nI_lt (b := 1200) (by omega) (by decide)), wI_in (zS_65' 0) rfl (by omega) (by decide), Option.bind_some, eX11_begins_19, nI_1]
      have := filR_s ν 65 0 a 0
      rw [Nat.zero_add] at this
      rw [this]
      exact ih (a + 1) f (by omega) (by omega)
  have l2 : ∀ (n0 : zM) m a f, a + m = 4 → m < f → tX11_begins_24 f (nI a) (filR n0 65 11 a 1) = tX11_begins_47 zN 0 (filR n0 65 11 4 1) := by
    intro n0 m
    induction m with
    | zero =>
      intro a f h1 h2
      obtain ⟨f, rfl⟩ : ∃ g, f = g + 1 := ⟨f - 1, by omega⟩
      have : a = 4 := by omega
      subst this
      rw [eX11_begins_24, zif_neg (by decide)]
    | succ m ih =>
      intro a f h1 h2
      obtain ⟨f, rfl⟩ : ∃ g, f = g + 1 := ⟨f - 1, by omega⟩
      rw [eX11_begins_24, zif_pos (show nI a < 4 from nI_lt (b := 4) (by omega) (by decide)), show (11 : Int32) + nI a = nI (11 + a) from nI_add 11 a, wI_in (zS_65' 0) rfl (by omega) (by decide), Option.bind_some, eX11_begins_42, nI_1, filR_s]
      exact ih (a + 1) f (by omega) (by omega)
  have l3 : ∀ (n0 : zM) m a f, a + m = 60 → m < f → tX11_begins_47 f (nI a) (filR n0 65 90 a (-2)) = some (none, mS (filR n0 65 90 60 (-2)) 11 0 14 0) := by
    intro n0 m
    induction m with
    | zero =>
      intro a f h1 h2
      obtain ⟨f, rfl⟩ : ∃ g, f = g + 1 := ⟨f - 1, by omega⟩
      have : a = 60 := by omega
      subst this
      rw [eX11_begins_47, zif_neg (by decide), zlet_eq]
    | succ m ih =>
      intro a f h1 h2
      obtain ⟨f, rfl⟩ : ∃ g, f = g + 1 := ⟨f - 1, by omega⟩
      rw [eX11_begins_47, zif_pos (show nI a < 60 from nI_lt (b := 60) (by omega) (by decide)), show (90 : Int32) + nI a = nI (90 + a) from nI_add 90 a, wI_in (zS_65' 0) rfl (by omega) (by decide), Option.bind_some, eX11_begins_67, nI_1, filR_s]
      exact ih (a + 1) f (by omega) (by omega)
  have k1 := l1 1200 0 100000 (by decide) (by decide)
  rw [filR_0] at k1
  have k2 := l2 (filR ν 65 0 1200 0) 4 0 100000 (by decide) (by decide)
  rw [filR_0] at k2
  have k3 := l3 (filR (filR ν 65 0 1200 0) 65 11 4 1) 60 0 100000 (by decide) (by decide)
  rw [filR_0] at k3
  refine ⟨mS (filR (filR (filR ν 65 0 1200 0) 65 11 4 1) 65 90 60 (-2)) 11 0 14 0, ?_, fun z hz => ?_, mS_same _ _ _ _ _, rfl, fun k i z n1 n2 => ?_⟩
  · rw [eX11_begins_0, zN_eq]
    refine (show tX11_begins_2 100000 0 ν = _ from k1).trans ?_
    rw [zN_eq]
    refine (show tX11_begins_24 100000 0 _ = _ from k2).trans ?_
    rw [zN_eq]
    exact k3
  · rw [mS_k _ _ _ _ _ _ _ _ (by decide), filR_1, filR_1, filR_1]
    by_cases q1 : 90 ≤ z ∧ z < 150
    · rw [if_pos (by omega), if_pos q1]
    · rw [if_neg (by omega), if_neg q1]
      by_cases q2 : 11 ≤ z ∧ z ≤ 14
      · rw [if_pos (by omega), if_pos q2]
      · rw [if_neg (by omega), if_neg q2, if_pos (by omega)]
  · rw [mS_1, if_neg n2, filR_1, if_neg (by omega), filR_1, if_neg (by omega), filR_1, if_neg (by omega)]
theorem RQ_beg {μ ν : zM} {j B : Nat} {S : zSt} {w : Nat → Int32} (hS : okS S) (hB : BEG μ) (hj : μ.2.1 9 0 0 = j) (hw : begW w) : RQ μ ν 0 j S w B 0 15 0 0 (fun _ => False) := by
  obtain ⟨⟨a1, a2, a3, a4⟩, b, c⟩ := hB
  have n60 := hS.2.1
  have n10 := hS.1
  have w0 : ∀ z, z < 1200 → ¬ (90 ≤ z ∧ z < 150) → ¬ (11 ≤ z ∧ z ≤ 14) → w z = 0 := fun z h1 h2 h3 => by rw [hw z h1, if_neg h2, if_neg h3]
  have w9 : ∀ p, p < 60 → w (90 + p) = -2 := fun p hp => by rw [hw _ (by omega), if_pos (by omega)]
  refine ⟨0, fun _ => 0, fun _ => [], ⟨⟨hj, by omega, a2, by omega, a1, w0 0 (by decide) (by decide) (by decide), by decide, a3, fun h hh => ?_, fun k hk => ?_, by decide, a4, w0 1 (by decide) (by decide) (by decide)⟩, fun p hp => ⟨Or.inl ⟨?_, w9 p (by omega)⟩, Or.inl ⟨?_, w0 _ (by omega) (by omega) (by omega)⟩⟩, fun p hp r hr e => ?_, fun b hb => absurd hb (Nat.not_lt_zero _), fun b hb => absurd hb (Nat.not_lt_zero _), fun q hq => ⟨?_, fun b => ⟨fun z => absurd z (by simp), fun z => absurd z.1 (Nat.not_lt_zero _)⟩, List.Pairwise.nil⟩, ⟨fun p hp => ?_, fun k hk => ?_, fun k hk => ?_⟩, Nat.zero_le _, w0 2 (by decide) (by decide) (by decide), fun b hb => absurd hb (Nat.not_lt_zero _)⟩, fun b hb => hb.elim⟩
  · rw [hw _ (by omega), if_neg (by omega), if_pos (by omega)]
    rcases (by omega : h = 0 ∨ h = 1 ∨ h = 2 ∨ h = 3) with rfl | rfl | rfl | rfl <;> decide
  · rw [w0 _ (by omega) (by omega) (by omega), c k hk]
  · exact (b _ (by unfold zslot; have := Nat.mod_lt (p + sn S - 0) (show 0 < sn S by omega); omega)).2.2.2.2.1
  · exact (b _ (by unfold zslot; have := Nat.mod_lt (p + sn S - 0) (show 0 < sn S by omega); omega)).1
  · rw [w9 p (by omega)] at e
    exfalso
    have := nI_pos (show r < 2 ^ 31 by omega)
    rw [← e] at this
    exact this (by decide)
  · have hq60 : q < 60 := by have := hq.1; omega
    exact ⟨(b q hq60).2.1, (b q hq60).2.2.1, (b q hq60).2.2.2.1, trivial, fun a ha => absurd ha (by simp), List.nodup_nil⟩
  · rw [(b p (by omega)).2.2.2.2.2.1, w0 _ (by omega) (by omega) (by omega)]
  · have h6 := (hS.2.2.2.2.2.2.2.2.1 6 k (by decide) (by decide) hk).1
    have l6 := hS.2.2.2.2.2.2.2.2.2.2.2.2.2.2
    rw [(b _ (by omega)).2.2.2.2.2.2.1, w0 _ (by omega) (by omega) (by omega)]
  · have h4 := (hS.2.2.2.2.2.2.2.2.1 4 k (by decide) (by decide) hk).1
    have l4 := hS.2.2.2.2.2.2.2.2.2.2.2.2.1
    refine ⟨by rw [(b _ (by omega)).2.2.2.2.2.2.1, w0 _ (by omega) (by omega) (by omega)], 1, by decide, by decide, (b _ (by omega)).2.2.2.2.2.2.2, ?_⟩
    rw [w0 _ (by omega) (by omega) (by omega)]
    rfl
