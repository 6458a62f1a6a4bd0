/-! ===== the ring turns ===== -/
noncomputable def mvF (w : Nat → Int32) : Nat → Nat → Int32
  | 0 => w
  | k + 1 => zif (w (90 + k) < 0) (mvF w k) (upd (mvF w k) (400 + 8 * (w (90 + k)).toNatClampNeg + 1) (nI k))
theorem mvF_succ (w : Nat → Int32) (k : Nat) : mvF w (k + 1) = zif (w (90 + k) < 0) (mvF w k) (upd (mvF w k) (400 + 8 * (w (90 + k)).toNatClampNeg + 1) (nI k)) := rfl
/-- nothing but the places of bags changes -/
theorem mvF_off (w : Nat → Int32) : ∀ (k j : Nat), (∀ b, j ≠ 400 + 8 * b + 1) → mvF w k j = w j
  | 0, _, _ => rfl
  | k + 1, j, h => by
    rw [mvF_succ]
    by_cases a : w (90 + k) < 0
    · rw [zif_pos a]; exact mvF_off w k j h
    · rw [zif_neg a, upd_ne _ _ (h _)]; exact mvF_off w k j h
/-- a bag that rides at p -/
theorem mvF_on (w : Nat → Int32) {b p : Nat} (hb : b < 100) (hp : w (90 + p) = nI b) : ∀ k, p < k → (∀ q, q < k → w (90 + q) = nI b → q = p) → mvF w k (400 + 8 * b + 1) = nI p
  | 0, h, _ => absurd h (by omega)
  | k + 1, h, hu => by
    rw [mvF_succ]
    by_cases e : k = p
    · subst e
      rw [hp, zif_neg (nI_pos (by omega)), nI_clamp (by omega), upd_at]
    · have ih := mvF_on w hb hp k (by omega) (fun q hq => hu q (by omega))
      by_cases a : w (90 + k) < 0
      · rw [zif_pos a]; exact ih
      · obtain ⟨r, hr, er⟩ := nI_of a
        have hne : r ≠ b := fun z => e (hu k (by omega) (by rw [er, z]))
        rw [zif_neg a, er, nI_clamp hr, upd_ne _ _ (by omega)]
        exact ih
/-- a bag that does not ride -/
theorem mvF_not (w : Nat → Int32) {b : Nat} (hb : b < 100) : ∀ k, (∀ q, q < k → ¬ w (90 + q) = nI b) → mvF w k (400 + 8 * b + 1) = w (400 + 8 * b + 1)
  | 0, _ => rfl
  | k + 1, h => by
    rw [mvF_succ]
    have ih := mvF_not w hb k (fun q hq => h q (by omega))
    by_cases a : w (90 + k) < 0
    · rw [zif_pos a]; exact ih
    · obtain ⟨r, hr, er⟩ := nI_of a
      have hne : r ≠ b := fun z => h k (by omega) (by rw [er, z])
      rw [zif_neg a, er, nI_clamp hr, upd_ne _ _ (by omega)]
      exact ih
theorem pM_mv_loop {μ : zM} {w : Nat → Int32} {n : Nat} (hn6 : n ≤ 60) (hu : μ.1 63 0 0 = nI n) (hw : ∀ p, p < n → w (90 + p) = -2 ∨ ∃ r, r < 100 ∧ w (90 + p) = nI r) : ∀ (m k f : Nat), k + m = n → m < f → tX11_moves_36 f (nI k) (mW μ (mvF w k)) = some (none, mW μ (mvF w n))
  | 0, k, f, hk, hf => by
    obtain ⟨f, rfl⟩ : ∃ q, f = q + 1 := ⟨f - 1, by omega⟩
    rw [eX11_moves_36, qI_in (x := 0) (p := 0) (zS_63 0) rfl (by decide) (by decide), Option.bind_some, mW_k _ _ _ _ _ (by decide), hu, zif_neg (nI_nlt (by omega) (by omega)), show k = n by omega]
  | m + 1, k, f, hk, hf => by
    obtain ⟨f, rfl⟩ : ∃ q, f = q + 1 := ⟨f - 1, by omega⟩
    have ih := pM_mv_loop hn6 hu hw m (k + 1) f (by omega) (by omega)
    rw [mvF_succ] at ih
    have e9 : mvF w k (90 + k) = w (90 + k) := mvF_off w k (90 + k) (fun b => by omega)
    rw [eX11_moves_36, qI_in (x := 0) (p := 0) (zS_63 0) rfl (by decide) (by decide), Option.bind_some, mW_k _ _ _ _ _ (by decide), hu, zif_pos (nI_lt (by omega) (by omega)), qW (a90 rfl) (by omega), Option.bind_some, e9, eX11_moves_56]
    rcases hw k (by omega) with h | ⟨r, hr, h⟩
    · rw [h, zif_pos m2_lt] at ih
      rw [h, zif_pos m2_lt, eX11_moves_76, eX11_moves_79, nI_1]
      exact ih
    · rw [h, zif_neg (nI_pos (by omega)), nI_clamp (by omega)] at ih
      rw [h, zif_neg (nI_pos (by omega)), wW (b1 rfl) (by omega), Option.bind_some, eX11_moves_76, eX11_moves_79, nI_1]
      exact ih
def rot5 (w : Nat → Int32) (n : Nat) : Nat → Int32 := rotF (rotF (rotF (rotF (rotF w 90 n) 150 n) 210 n) 270 n) 330 n
theorem rotF_off {w : Nat → Int32} {r n k : Nat} (h : ¬ (r ≤ k ∧ k < r + n)) : rotF w r n k = w k := if_neg h
theorem rotF_on {w : Nat → Int32} {r n p : Nat} (h : p < n) : rotF w r n (r + p) = w (r + (p + n - 1) % n) := by
  unfold rotF
  rw [if_pos ⟨by omega, by omega⟩, show r + p - r = p by omega]
theorem rot5_off {w : Nat → Int32} {n k : Nat} (hn : n ≤ 60) (h : k < 90 ∨ 390 ≤ k) : rot5 w n k = w k := by
  unfold rot5
  rw [rotF_off (by omega), rotF_off (by omega), rotF_off (by omega), rotF_off (by omega), rotF_off (by omega)]
theorem rot5_90 {w : Nat → Int32} {n p : Nat} (hn : n ≤ 60) (hp : p < n) : rot5 w n (90 + p) = w (90 + (p + n - 1) % n) := by
  unfold rot5
  rw [rotF_off (by omega), rotF_off (by omega), rotF_off (by omega), rotF_off (by omega), rotF_on hp]
theorem rot5_150 {w : Nat → Int32} {n p : Nat} (hn : n ≤ 60) (hp : p < n) : rot5 w n (150 + p) = w (150 + (p + n - 1) % n) := by
  have h := Nat.mod_lt (p + n - 1) (show 0 < n by omega)
  unfold rot5
  rw [rotF_off (by omega), rotF_off (by omega), rotF_off (by omega), rotF_on hp, rotF_off (by omega)]
theorem rot5_210 {w : Nat → Int32} {n p : Nat} (hn : n ≤ 60) (hp : p < n) : rot5 w n (210 + p) = w (210 + (p + n - 1) % n) := by
  have h := Nat.mod_lt (p + n - 1) (show 0 < n by omega)
  unfold rot5
  rw [rotF_off (by omega), rotF_off (by omega), rotF_on hp, rotF_off (by omega), rotF_off (by omega)]
theorem rot5_270 {w : Nat → Int32} {n p : Nat} (hn : n ≤ 60) (hp : p < n) : rot5 w n (270 + p) = w (270 + (p + n - 1) % n) := by
  have h := Nat.mod_lt (p + n - 1) (show 0 < n by omega)
  unfold rot5
  rw [rotF_off (by omega), rotF_on hp, rotF_off (by omega), rotF_off (by omega), rotF_off (by omega)]
theorem rot5_330 {w : Nat → Int32} {n p : Nat} (hn : n ≤ 60) (hp : p < n) : rot5 w n (330 + p) = w (330 + (p + n - 1) % n) := by
  have h := Nat.mod_lt (p + n - 1) (show 0 < n by omega)
  unfold rot5
  rw [rotF_on hp, rotF_off (by omega), rotF_off (by omega), rotF_off (by omega), rotF_off (by omega)]
theorem pM_moves {μ : zM} {w : Nat → Int32} {n : Nat} (hn3 : 10 ≤ n) (hn6 : n ≤ 60) (hu : μ.1 63 0 0 = nI n) (hw : ∀ p, p < n → w (90 + p) = -2 ∨ ∃ r, r < 100 ∧ w (90 + p) = nI r) : tX11_moves_0 (mW μ w) = some (none, mW μ (mvF (rot5 w n) n)) := by
  rw [eX11_moves_0, pM_turns (x := 90) (r := 90) rfl (by omega) (by omega) hn6 hu, zU_some, pM_turns (x := 150) (r := 150) rfl (by omega) (by omega) hn6 hu, zU_some, pM_turns (x := 210) (r := 210) rfl (by omega) (by omega) hn6 hu, zU_some, pM_turns (x := 270) (r := 270) rfl (by omega) (by omega) hn6 hu, zU_some, pM_turns (x := 330) (r := 330) rfl (by omega) (by omega) hn6 hu, zU_some]
  exact pM_mv_loop hn6 hu (w := rot5 w n) (fun p hp => by rw [rot5_90 hn6 hp]; exact hw _ (Nat.mod_lt _ (by omega))) n 0 zN (by omega) (by rw [zN_eq]; omega)
/-- a slot behind the turn -/
theorem slot_turn {n t p : Nat} (ht : t < n) (hp : p < n) : zslot n ((t + 1) % n) p = zslot n t ((p + n - 1) % n) := by
  rw [slot_back ht hp (by omega)]
  unfold zslot
  by_cases h : t + 1 < n
  · rw [Nat.mod_eq_of_lt h]
    have e : (p + n - t) % n + n - 1 = (p + n - t) % n + (n - 1) := by omega
    rw [e, Nat.mod_add_mod, show p + n - t + (n - 1) = (p + n - (t + 1)) + n by omega, Nat.add_mod_right]
  · have e0 : t + 1 = n := by omega
    rw [e0, Nat.mod_self]
    have e : (p + n - t) % n + n - 1 = (p + n - t) % n + (n - 1) := by omega
    rw [e, Nat.mod_add_mod, show p + n - t + (n - 1) = p + n - 0 by omega]
