/-! ===== questions: plain ones ===== -/
def UN (μ : zM) (j : Nat) (S : zSt) (D : zDv) (lim : Int32) (B t hd C now O : Nat) (st : Nat → Nat) (Q : Nat → List Nat) : Prop := (μ.2.1 10 0 6 = j ∧ j < 2) ∧ ENV μ μ j S D lim ∧ RW μ μ 0 j S (μ.1 65 0) B t hd C now O st Q
theorem REL.un {μ : zM} {c : Nat} (h : REL μ c) : ∃ j S D lim t hd C now O st Q, UN μ j S D lim (30000 * c) t hd C now O st Q := by
  obtain ⟨j, S, D, lim, t, hd, C, now, nx, cn, Cf, h1, h2, h3, ⟨O, st, Q, h4, -⟩, h5, h6⟩ := h
  exact ⟨j, S, D, lim, t, hd, C, now, O, st, Q, ⟨h1.1, h1.2.1⟩, h3, h4⟩
theorem ok_yes {p n : Nat} (hp : p < n) (hn : n < 2 ^ 31) : zif (nI p < 0 ∨ ¬ nI p < nI n) (0 : Int32) 1 = 1 := zif_neg (fun z => z.elim (nI_pos (by omega)) (fun y => y (nI_lt hp hn)))
theorem ok_no {x : Int32} {n : Nat} (h : x < 0 ∨ ¬ x < nI n) : zif (x < 0 ∨ ¬ x < nI n) (0 : Int32) 1 = 0 := zif_pos h
theorem pX5_has {μ : zM} {j n : Nat} {x : Int32} (h : μ.1 5 j 0 = nI n) : tX5_hasPosition_0 j x μ = some (some (.inl (zif (x < 0 ∨ ¬ x < nI n) 0 1)), μ) := by
  rw [eX5_hasPosition_0, eX5_hasPosition_16, eX5_hasPosition_17, eX5_hasPosition_17, zif_pos nar_0, zif_pos nar_1, h]
  by_cases a : x < 0
  · rw [zif_pos a, zif_pos (Or.inl a)]
  · rw [zif_neg a]
    by_cases b : x < nI n
    · rw [zif_pos b, zif_neg (fun z => z.elim a (fun y => y b))]
    · rw [zif_neg b, zif_pos (Or.inr b)]
theorem pX1_has {μ : zM} {j n : Nat} {x : Int32} (h : μ.1 1 j 0 = nI n) : tX1_has_0 j x μ = some (some (.inl (zif (x < 0 ∨ ¬ x < nI n) 0 1)), μ) := by
  rw [eX1_has_0, eX1_has_16, eX1_has_17, eX1_has_17, zif_pos nar_0, zif_pos nar_1, h]
  by_cases a : x < 0
  · rw [zif_pos a, zif_pos (Or.inl a)]
  · rw [zif_neg a]
    by_cases b : x < nI n
    · rw [zif_pos b, zif_neg (fun z => z.elim a (fun y => y b))]
    · rw [zif_neg b, zif_pos (Or.inr b)]
theorem pX0_has {μ : zM} {j n : Nat} {x : Int32} (h : μ.1 0 j 0 = nI n) : tX0_has_0 j x μ = some (some (.inl (zif (x < 0 ∨ ¬ x < nI n) 0 1)), μ) := by
  rw [eX0_has_0, eX0_has_16, eX0_has_17, eX0_has_17, zif_pos nar_0, zif_pos nar_1, h]
  by_cases a : x < 0
  · rw [zif_pos a, zif_pos (Or.inl a)]
  · rw [zif_neg a]
    by_cases b : x < nI n
    · rw [zif_pos b, zif_neg (fun z => z.elim a (fun y => y b))]
    · rw [zif_neg b, zif_pos (Or.inr b)]
theorem pM_below {μ : zM} {n : Nat} {x : Int32} (hn : n < 2 ^ 31) : tX11_in_0 x.toInt64 0 ((nI n - 1).toInt64) μ = some (some (.inl (zif (x < 0 ∨ ¬ x < nI n) 0 1)), μ) := by
  rw [pM_in (a := x) (lo := 0) (hi := nI n - 1) rfl (by decide) rfl]
  by_cases h : x < 0 ∨ ¬ x < nI n
  · rw [zif_pos h, zif_pos ((in_pred hn).mpr h)]
  · rw [zif_neg h, zif_neg (fun z => h ((in_pred hn).mp z))]
theorem pM_isPosition {μ : zM} {n : Nat} {x : Int32} (h : μ.1 63 0 0 = nI n) (hn : n < 2 ^ 31) : tX11_isPosition_0 x μ = some (some (.inl (zif (x < 0 ∨ ¬ x < nI n) 0 1)), μ) := by
  rw [eX11_isPosition_0, qI_in (x := 0) (p := 0) (zS_63 0) rfl (by decide) (by decide), Option.bind_some, h, pM_below hn, zI_some, zif_pos zif01_nar]
theorem pM_isFlight {μ : zM} {n : Nat} {x : Int32} (h : μ.1 63 0 4 = nI n) (hn : n < 2 ^ 31) : tX11_isFlight_0 x μ = some (some (.inl (zif (x < 0 ∨ ¬ x < nI n) 0 1)), μ) := by
  rw [eX11_isFlight_0, qI_in (x := 4) (p := 4) (zS_63 0) rfl (by decide) (by decide), Option.bind_some, h, pM_below hn, zI_some, zif_pos zif01_nar]
theorem pM_isBag {μ : zM} {n : Nat} {x : Int32} (h : μ.1 65 0 1 = nI n) (hn : n < 2 ^ 31) : tX11_isBag_0 x μ = some (some (.inl (zif (x < 0 ∨ ¬ x < nI n) 0 1)), μ) := by
  rw [eX11_isBag_0, qI_in (x := 1) (p := 1) (zS_65 0) rfl (by decide) (by decide), Option.bind_some, h, pM_below hn, zI_some, zif_pos zif01_nar]
theorem pM_manyS {μ : zM} {s c : Nat} {y : Int32} (hy : y = nI s) (hs : s ≤ 6) (h : μ.1 63 0 (10 + s) = nI c) : tX11_many_0 y μ = some (some (.inl (nI c)), μ) := by
  rw [eX11_many_0, qI_in (zS_63 0) (a10 hy) (by omega) (by decide), Option.bind_some, h]
theorem pM_isDevice {μ : zM} {s n : Nat} {x y : Int32} (hy : y = nI s) (hs : s ≤ 6) (h : μ.1 63 0 (10 + s) = nI n) (hn : n < 2 ^ 31) : tX11_isDevice_0 y x μ = some (some (.inl (zif (x < 0 ∨ ¬ x < nI n) 0 1)), μ) := by
  rw [eX11_isDevice_0, pM_manyS hy hs h, zI_some, pM_below hn, zI_some, zif_pos zif01_nar]
theorem pX5_place_yes {μ ν : zM} {j : Nat} {S : zSt} {D : zDv} {lim : Int32} (hE : ENV μ ν j S D lim) {s k : Nat} {x y : Int32} (hy : y = nI s) (h1 : 1 ≤ s) (h6 : s ≤ 6) (hx : x = nI k) (hk : k < scnt S s) : tX5_placeOf_0 j y x μ = some (some (.inl (nI (spos S s k))), μ) := by
  obtain ⟨a1, a2, a3⟩ := cnt_X hE h1 h6
  rw [eX5_placeOf_0, hx, zif_neg (nI_pos (by omega)), qI_in (zS_49 j) hy (by omega) (by decide), Option.bind_some, a1, zif_pos (nI_lt hk (by omega)), qX_in (N := 7) hy (by omega) (by decide), Option.bind_some, qI_in (zS_54 _) rfl (show k < 6 by omega) (by decide), Option.bind_some, eX5_placeOf_26, pos_X hE h1 h6 hk]
theorem pX5_place_no {μ ν : zM} {j : Nat} {S : zSt} {D : zDv} {lim : Int32} (hE : ENV μ ν j S D lim) {s : Nat} {x y : Int32} (hy : y = nI s) (h1 : 1 ≤ s) (h6 : s ≤ 6) (hx : x < 0 ∨ ¬ x < nI (scnt S s)) : tX5_placeOf_0 j y x μ = some (some (.inl (-1)), μ) := by
  obtain ⟨a1, a2, a3⟩ := cnt_X hE h1 h6
  rw [eX5_placeOf_0, eX5_placeOf_25, eX5_placeOf_26]
  by_cases h : x < 0
  · rw [zif_pos h]
  · rw [zif_neg h, qI_in (zS_49 j) hy (by omega) (by decide), Option.bind_some, a1, zif_neg (hx.resolve_left h)]
section ASK
variable {μ : zM} {c : Nat}
theorem a_errorPosition (h : REL μ c) : CALL tX10_errorPosition_0 tX11_errorPosition_0 μ (c + 1) := by
  have e : μ.1 10 0 8 = μ.1 11 0 2 := by
    obtain ⟨j, S, D, lim, t, hd, C, now, nx, cn, Cf, h1, h2, h3, h4, h5, h6, h7, h8⟩ := h
    exact h8
  exact CALL.ask h (eX10_errorPosition_0 μ) (by rw [eX11_errorPosition_0, e])
theorem a_tapeLength (h : REL μ c) : CALL tX10_tapeLength_0 tX11_tapeLength_0 μ (c + 1) := by
  obtain ⟨L, h1, h2, h3, -⟩ : TAP μ := by
    obtain ⟨j, S, D, lim, t, hd, C, now, nx, cn, Cf, h1, h2, h3, h4, h5, h6, h7, h8⟩ := h
    exact h6
  exact CALL.ask h (eX10_tapeLength_0 μ) (by rw [eX11_tapeLength_0, h2, h3])
theorem a_positions (h : REL μ c) : CALL tX10_positions_0 tX11_positions_0 μ (c + 1) := by
  obtain ⟨j, S, D, lim, t, hd, C, now, O, st, Q, ⟨hj, hj2⟩, hE, hR⟩ := h.un
  refine CALL.ask h (v := nI (sn S)) ?_ ?_
  · rw [eX10_positions_0, hj, zif_pos hj2, hE.2.2.1.2.1]
  · rw [eX11_positions_0, qI_in (x := 0) (p := 0) (zS_63 0) rfl (by decide) (by decide), Option.bind_some, hE.2.2.2.2.1.1]
theorem a_flights (h : REL μ c) : CALL tX10_flights_0 tX11_flights_0 μ (c + 1) := by
  obtain ⟨j, S, D, lim, t, hd, C, now, O, st, Q, ⟨hj, hj2⟩, hE, hR⟩ := h.un
  refine CALL.ask h (v := nI (sF S)) ?_ ?_
  · rw [eX10_flights_0, hj, zif_pos hj2, hE.2.2.1.2.2.2.2.1.2.1]
  · rw [eX11_flights_0, qI_in (x := 4) (p := 4) (zS_63 0) rfl (by decide) (by decide), Option.bind_some, hE.2.2.2.2.2.2.1]
theorem a_tick (h : REL μ c) : CALL tX10_tick_0 tX11_tick_0 μ (c + 1) := by
  obtain ⟨j, S, D, lim, t, hd, C, now, O, st, Q, ⟨hj, hj2⟩, hE, hR⟩ := h.un
  refine CALL.ask h (v := nI now) ?_ ?_
  · rw [eX10_tick_0, hR.1.2.2.2.2.1]
  · rw [eX11_tick_0, qI_in (x := 0) (p := 0) (zS_65 0) rfl (by decide) (by decide), Option.bind_some, hR.1.2.2.2.2.2.1]
theorem a_bags (h : REL μ c) : CALL tX10_bags_0 tX11_bags_0 μ (c + 1) := by
  obtain ⟨j, S, D, lim, t, hd, C, now, O, st, Q, ⟨hj, hj2⟩, hE, hR⟩ := h.un
  refine CALL.ask h (v := nI C) ?_ ?_
  · rw [eX10_bags_0, hR.1.2.2.2.2.2.2.2.2.2.2.2.1]
  · rw [eX11_bags_0, qI_in (x := 1) (p := 1) (zS_65 0) rfl (by decide) (by decide), Option.bind_some, hR.1.2.2.2.2.2.2.2.2.2.2.2.2]
theorem a_deviceAt (h : REL μ c) (x : Int32) : CALL (tX10_deviceAt_0 x) (tX11_deviceAt_0 x) μ (c + 1) := by
  obtain ⟨j, S, D, lim, t, hd, C, now, O, st, Q, ⟨hj, hj2⟩, hE, hR⟩ := h.un
  have hn6 := hE.1.2.1
  rcases ix_of x (n := sn S) (by omega) with ⟨p, hp, rfl⟩ | hx
  · obtain ⟨s1, s2⟩ := dev_srt hE (q := p) (by omega)
    refine CALL.ask h (v := nI (ssrt S p)) ?_ ?_
    · rw [eX10_deviceAt_0, hj, zif_pos hj2, pX5_has hE.2.2.1.2.1, zI_some, ok_yes hp (by omega), zif_neg one_ne0, hj, zif_pos hj2, qI_in (zS_43 j) rfl (show p < 60 by omega) (by decide), Option.bind_some, s1, eX10_deviceAt_24]
    · rw [eX11_deviceAt_0, pM_isPosition hE.2.2.2.2.1.1 (by omega), zI_some, ok_yes hp (by omega), zif_neg one_ne0, qI_in (zS_63 0) (a20 rfl) (by omega) (by decide), Option.bind_some, s2, eX11_deviceAt_21]
  · refine CALL.ask h (v := -1) ?_ ?_
    · rw [eX10_deviceAt_0, hj, zif_pos hj2, pX5_has hE.2.2.1.2.1, zI_some, ok_no hx, zif_pos rfl, eX10_deviceAt_24]
    · rw [eX11_deviceAt_0, pM_isPosition hE.2.2.2.2.1.1 (by omega), zI_some, ok_no hx, zif_pos rfl, eX11_deviceAt_21]
/-- an int within given bounds -/
theorem rng_of {x lo hi : Int32} {a b : Nat} (hlo : lo = nI a) (hhi : hi = nI b) (hb : b < 2 ^ 31) (hab : a ≤ b) (h : ¬ (x < lo ∨ hi < x)) : ∃ s, a ≤ s ∧ s ≤ b ∧ x = nI s := by
  subst hlo; subst hhi
  have h0 : ¬ x < 0 := fun z => h (Or.inl (by
    rw [Int32.lt_iff_toInt_lt] at z ⊢
    rw [nI_toInt (by omega)]
    have : (0 : Int32).toInt = 0 := by decide
    omega))
  obtain ⟨s, hs, rfl⟩ := nI_of h0
  rw [nI_ltI hs (by omega), nI_ltI hb hs] at h
  exact ⟨s, by omega, by omega, rfl⟩
theorem a_devices (h : REL μ c) (x : Int32) : CALL (tX10_devices_0 x) (tX11_devices_0 x) μ (c + 1) := by
  obtain ⟨j, S, D, lim, t, hd, C, now, O, st, Q, ⟨hj, hj2⟩, hE, hR⟩ := h.un
  by_cases hx : x < 1 ∨ (6 : Int32) < x
  · refine CALL.ask h (v := -1) ?_ ?_
    · rw [eX10_devices_0, eX10_devices_23, eX10_devices_24]
      by_cases h1 : x < 1
      · rw [zif_pos h1]
      · rw [zif_neg h1, zif_pos (hx.resolve_left h1)]
    · rw [eX11_devices_0, pM_in (a := x) (lo := 1) (hi := 6) rfl (by decide) (by decide), zI_some, zif_pos hx, zif_pos rfl, eX11_devices_21]
  · obtain ⟨s, s1, s2, rfl⟩ := rng_of (a := 1) (b := 6) rfl rfl (by decide) (by decide) hx
    obtain ⟨a1, a2, a3⟩ := cnt_X hE s1 s2
    refine CALL.ask h (v := nI (scnt S s)) ?_ ?_
    · rw [eX10_devices_0, zif_neg (fun z => hx (Or.inl z)), zif_neg (fun z => hx (Or.inr z)), hj, zif_pos hj2, qI_in (zS_49 j) rfl (show s < 7 by omega) (by decide), Option.bind_some, a1, eX10_devices_24]
    · rw [eX11_devices_0, pM_in (a := nI s) (lo := 1) (hi := 6) rfl (by decide) (by decide), zI_some, zif_neg hx, zif_neg one_ne0, pM_manyS rfl s2 a2, zI_some, eX11_devices_21]
theorem a_flightNumber (h : REL μ c) (x : Int32) : CALL (tX10_flightNumber_0 x) (tX11_flightNumber_0 x) μ (c + 1) := by
  obtain ⟨j, S, D, lim, t, hd, C, now, O, st, Q, ⟨hj, hj2⟩, hE, hR⟩ := h.un
  have hF := hE.1.2.2.2.1
  have hFX := hE.2.2.1.2.2.2.2.1
  have hFM := hE.2.2.2.2.2
  rcases ix_of x (n := sF S) (by omega) with ⟨p, hp, rfl⟩ | hx
  · refine CALL.ask h (v := sT S 0 p) ?_ ?_
    · rw [eX10_flightNumber_0, hj, zif_pos hj2, pX1_has hFX.2.1, zI_some, ok_yes hp (by omega), zif_neg one_ne0, hj, zif_pos hj2, qI_in (zS_31 j) rfl (show p < 10 by omega) (by decide), Option.bind_some, eX10_flightNumber_30, show μ.1 31 j p = sT S 0 p from hFX.2.2 0 p (by decide) hp]
    · rw [eX11_flightNumber_0, pM_isFlight hFM.2.1 (by omega), zI_some, ok_yes hp (by omega), zif_neg one_ne0, pM_ofFlight (x := nI p) (y := 0) hFM hp (show 0 < 4 by decide) rfl rfl, zI_some, eX11_flightNumber_18]
  · refine CALL.ask h (v := -1) ?_ ?_
    · rw [eX10_flightNumber_0, hj, zif_pos hj2, pX1_has hFX.2.1, zI_some, ok_no hx, zif_pos rfl, eX10_flightNumber_30]
    · rw [eX11_flightNumber_0, pM_isFlight hFM.2.1 (by omega), zI_some, ok_no hx, zif_pos rfl, eX11_flightNumber_18]
theorem a_flightState (h : REL μ c) (x : Int32) : CALL (tX10_flightState_0 x) (tX11_flightState_0 x) μ (c + 1) := by
  obtain ⟨j, S, D, lim, t, hd, C, now, O, st, Q, ⟨hj, hj2⟩, hE, hR⟩ := h.un
  have hF := hE.1.2.2.2.1
  have hFX := hE.2.2.1.2.2.2.2.1
  have hFM := hE.2.2.2.2.2
  rcases ix_of x (n := sF S) (by omega) with ⟨p, hp, rfl⟩ | hx
  · refine CALL.ask h (v := flSt (sT S) (nI now) p) ?_ ?_
    · rw [eX10_flightState_0, hj, zif_pos hj2, pX1_has hFX.2.1, zI_some, ok_yes hp (by omega), zif_neg one_ne0, hj, zif_pos hj2, qI_in (zS_33 j) rfl (show p < 10 by omega) (by decide), Option.bind_some, hR.1.2.2.2.2.1, show μ.1 33 j p = sT S 2 p from hFX.2.2 2 p (by decide) hp, zif_pos hj2, qI_in (zS_34 j) rfl (show p < 10 by omega) (by decide), Option.bind_some, show μ.1 34 j p = sT S 3 p from hFX.2.2 3 p (by decide) hp, eX10_flightState_67, eX10_flightState_67]
      unfold flSt
      by_cases h1 : nI now < sT S 2 p
      · rw [zif_pos h1, if_pos h1]
      · rw [zif_neg h1, if_neg h1]
        by_cases h2 : nI now < sT S 3 p
        · rw [zif_pos h2, if_pos h2]
        · rw [zif_neg h2, if_neg h2]
    · rw [eX11_flightState_0, pM_isFlight hFM.2.1 (by omega), zI_some, ok_yes hp (by omega), zif_neg one_ne0, pM_flightIs hFM hp rfl, zI_some, eX11_flightState_17, hR.1.2.2.2.2.2.1]
  · refine CALL.ask h (v := -1) ?_ ?_
    · rw [eX10_flightState_0, hj, zif_pos hj2, pX1_has hFX.2.1, zI_some, ok_no hx, zif_pos rfl]
    · rw [eX11_flightState_0, pM_isFlight hFM.2.1 (by omega), zI_some, ok_no hx, zif_pos rfl, eX11_flightState_17]
theorem a_count (h : REL μ c) (x : Int32) : CALL (tX10_count_0 x) (tX11_count_0 x) μ (c + 1) := by
  obtain ⟨j, S, D, lim, t, hd, C, now, O, st, Q, ⟨hj, hj2⟩, hE, hR⟩ := h.un
  by_cases hx : x < 0 ∨ (7 : Int32) < x
  · refine CALL.ask h (v := -1) ?_ ?_
    · rw [eX10_count_0, pX10_isWithin, zI_some, zif_pos hx, zif_pos rfl, eX10_count_23]
    · rw [eX11_count_0, pM_in (a := x) (lo := 0) (hi := 7) rfl (by decide) (by decide), zI_some, zif_pos hx, zif_pos rfl, eX11_count_24]
  · obtain ⟨s, s1, s2, rfl⟩ := rng_of (a := 0) (b := 7) rfl rfl (by decide) (by decide) hx
    refine CALL.ask h (v := μ.1 57 0 s) ?_ ?_
    · rw [eX10_count_0, pX10_isWithin, zI_some, zif_neg hx, zif_neg one_ne0, qI_in (zS_57 0) rfl (show s < 8 by omega) (by decide), Option.bind_some, eX10_count_23]
    · rw [eX11_count_0, pM_in (a := nI s) (lo := 0) (hi := 7) rfl (by decide) (by decide), zI_some, zif_neg hx, zif_neg one_ne0, qI_in (zS_65 0) (a3 rfl) (by omega) (by decide), Option.bind_some, eX11_count_24, hR.1.2.2.2.2.2.2.2.2.2.1 s (by omega)]
/-! at a position -/
theorem un_slot {j : Nat} {S : zSt} {D : zDv} {lim : Int32} {B t hd C now O : Nat} {st : Nat → Nat} {Q : Nat → List Nat} (hE : ENV μ μ j S D lim) (hR : RW μ μ 0 j S (μ.1 65 0) B t hd C now O st Q) {p : Nat} (hp : p < sn S) : tX9_slotAt_0 0 (nI p) μ = some (some (.inl (nI (zslot (sn S) t p))), μ) ∧ zslot (sn S) t p < 60 := by
  have hn3 := hE.1.1
  have hn6 := hE.1.2.1
  have := zslot_lt (n := sn S) (t := t) (p := p) (by omega)
  exact ⟨pX9_slotAt (n := sn S) (t := t) (p := p) (by rw [hR.1.1]; exact hE.2.2.1.1) (by rw [hR.1.1]; exact hE.2.2.1.2.1) hn6 hR.1.2.2.1 hR.1.2.1 rfl hp, by omega⟩
theorem a_bagAt (h : REL μ c) (x : Int32) : CALL (tX10_bagAt_0 x) (tX11_bagAt_0 x) μ (c + 1) := by
  obtain ⟨j, S, D, lim, t, hd, C, now, O, st, Q, ⟨hj, hj2⟩, hE, hR⟩ := h.un
  have hn6 := hE.1.2.1
  rcases ix_of x (n := sn S) (by omega) with ⟨p, hp, rfl⟩ | hx
  · obtain ⟨s1, s2⟩ := un_slot hE hR hp
    refine CALL.ask h (v := μ.1 65 0 (90 + p)) ?_ ?_
    · rw [eX10_bagAt_0, hj, zif_pos hj2, pX5_has hE.2.2.1.2.1, zI_some, ok_yes hp (by omega), zif_neg one_ne0, s1, zI_some, qI_in (zS_58 0) rfl s2 (by decide), Option.bind_some, eX10_bagAt_30, eX10_bagAt_40, eX10_bagAt_40]
      rcases (hR.2.1 p hp).1 with ⟨a1, a2⟩ | ⟨r, hr, a1, a2⟩
      · rw [a1, a2, zif_pos m1_lt]
      · rw [a1, a2, zif_neg (nI_pos (by omega))]
    · rw [eX11_bagAt_0, pM_isPosition hE.2.2.2.2.1.1 (by omega), zI_some, ok_yes hp (by omega), zif_neg one_ne0, qI_in (zS_65 0) (a90 rfl) (by omega) (by decide), Option.bind_some, eX11_bagAt_21]
  · refine CALL.ask h (v := -1) ?_ ?_
    · rw [eX10_bagAt_0, hj, zif_pos hj2, pX5_has hE.2.2.1.2.1, zI_some, ok_no hx, zif_pos rfl]
    · rw [eX11_bagAt_0, pM_isPosition hE.2.2.2.2.1.1 (by omega), zI_some, ok_no hx, zif_pos rfl, eX11_bagAt_21]
theorem pM_hasRec {n p : Nat} (h : μ.1 63 0 0 = nI n) (hn : n ≤ 60) (hp : p < n) : tX11_hasRecord_0 (nI p) μ = some (some (.inl (zif (μ.1 65 0 (150 + p) = 1) 1 0)), μ) := by
  rw [eX11_hasRecord_0, pM_isPosition h (by omega), zI_some, ok_yes hp (by omega), zif_neg one_ne0, qI_in (zS_65 0) (a150 rfl) (by omega) (by decide), Option.bind_some, eX11_hasRecord_26, eX11_hasRecord_27, eX11_hasRecord_27, zif_pos nar_0, zif_pos nar_1]
  by_cases e : μ.1 65 0 (150 + p) = 1
  · rw [zif_pos e, zif_pos e]
  · rw [zif_neg e, zif_neg e]
theorem a_recordLabel (h : REL μ c) (x : Int32) : CALL (tX10_recordLabel_0 x) (tX11_recordLabel_0 x) μ (c + 1) := by
  obtain ⟨j, S, D, lim, t, hd, C, now, O, st, Q, ⟨hj, hj2⟩, hE, hR⟩ := h.un
  have hn6 := hE.1.2.1
  rcases ix_of x (n := sn S) (by omega) with ⟨p, hp, rfl⟩ | hx
  · obtain ⟨s1, s2⟩ := un_slot hE hR hp
    have eX : tX10_recordLabel_0 (nI p) μ = tX10_recordLabel_33 (μ.1 40 (2 * 0) (zslot (sn S) t p)) μ := by
      rw [eX10_recordLabel_0, hj, zif_pos hj2, pX5_has hE.2.2.1.2.1, zI_some, ok_yes hp (by omega), zif_neg one_ne0, s1, zI_some, qI_in (bel_40 0) rfl s2 (by decide), Option.bind_some]
    have eM : tX11_recordLabel_0 (nI p) μ = zif (μ.1 65 0 (150 + p) = 1) (zif (μ.1 65 0 (210 + p) < 0) (some (some (.inl 1), μ)) (some (some (.inl (μ.1 65 0 (210 + p))), μ))) (some (some (.inl (-2)), μ)) := by
      rw [eX11_recordLabel_0, pM_isPosition hE.2.2.2.2.1.1 (by omega), zI_some, ok_yes hp (by omega), zif_neg one_ne0, pM_hasRec hE.2.2.2.2.1.1 hn6 hp, zI_some, qI_in (zS_65 0) (a210 rfl) (by omega) (by decide), Option.bind_some, Option.bind_some, eX11_recordLabel_48, eX11_recordLabel_48]
      by_cases e : μ.1 65 0 (150 + p) = 1
      · rw [zif_pos e, zif_neg one_ne0, zif_pos e]
      · rw [zif_neg e, zif_pos rfl, zif_neg e]
    rcases (hR.2.1 p hp).2 with ⟨a1, a2⟩ | ⟨a1, a2, a3, a4, a5, a6⟩
    · refine CALL.ask h (v := -2) ?_ ?_
      · rw [eX, eX10_recordLabel_33, zif_pos a1]
      · rw [eM, a2, zif_neg zo_ne]
    · by_cases e : μ.1 40 (2 * 0) (zslot (sn S) t p) = -1
      · refine CALL.ask h (v := 1) ?_ ?_
        · rw [eX, eX10_recordLabel_33, zif_neg a1, zif_pos e, eX10_recordLabel_52]
        · rw [eM, zif_pos a3, a4, e, zif_pos m1_lt]
      · refine CALL.ask h (v := μ.1 40 (2 * 0) (zslot (sn S) t p)) ?_ ?_
        · rw [eX, eX10_recordLabel_33, zif_neg a1, zif_neg e, eX10_recordLabel_52]
        · rw [eM, zif_pos a3, a4, zif_neg]
          intro z
          rcases a2 with q | q | ⟨q, q1, q2, q3⟩
          · rw [q] at z; exact absurd z (by decide)
          · exact e q
          · rw [q3] at z; exact nI_pos (by omega) z
  · refine CALL.ask h (v := -1) ?_ ?_
    · rw [eX10_recordLabel_0, hj, zif_pos hj2, pX5_has hE.2.2.1.2.1, zI_some, ok_no hx, zif_pos rfl]
    · rw [eX11_recordLabel_0, pM_isPosition hE.2.2.2.2.1.1 (by omega), zI_some, ok_no hx, zif_pos rfl]
theorem a_isCleared (h : REL μ c) (x : Int32) : CALL (tX10_isCleared_0 x) (tX11_isCleared_0 x) μ (c + 1) := by
  obtain ⟨j, S, D, lim, t, hd, C, now, O, st, Q, ⟨hj, hj2⟩, hE, hR⟩ := h.un
  have hn6 := hE.1.2.1
  rcases ix_of x (n := sn S) (by omega) with ⟨p, hp, rfl⟩ | hx
  · obtain ⟨s1, s2⟩ := un_slot hE hR hp
    have eX : tX10_isCleared_0 (nI p) μ = zif (zif (μ.1 40 (2 * 0) (zslot (sn S) t p) = -2) (0 : Int32) 1 = 0) (some (some (.inl 0), μ)) (zif (μ.1 42 (2 * 0) (zslot (sn S) t p) = 0) (some (some (.inl 0), μ)) (some (some (.inl 1), μ))) := by
      rw [eX10_isCleared_0, hj, zif_pos hj2, pX5_has hE.2.2.1.2.1, zI_some, ok_yes hp (by omega), zif_neg one_ne0, s1, zI_some, eX10_isCleared_22, pX4_has rfl s2, zI_some, qI_in (bel_42 0) rfl s2 (by decide), Option.bind_some, eX10_isCleared_55, eX10_isCleared_56, eX10_isCleared_56, zif_pos nar_0, zif_pos nar_1]
    have eM : tX11_isCleared_0 (nI p) μ = zif (μ.1 65 0 (150 + p) = 1) (zif (μ.1 65 0 (270 + p) = 1) (some (some (.inl 1), μ)) (some (some (.inl 0), μ))) (some (some (.inl 0), μ)) := by
      rw [eX11_isCleared_0, pM_hasRec hE.2.2.2.2.1.1 hn6 hp, zI_some, qI_in (zS_65 0) (a270 rfl) (by omega) (by decide), Option.bind_some, eX11_isCleared_26, eX11_isCleared_27, eX11_isCleared_27, zif_pos nar_0, zif_pos nar_1]
      by_cases e : μ.1 65 0 (150 + p) = 1
      · rw [zif_pos e, zif_neg one_ne0, zif_pos e]
      · rw [zif_neg e, zif_pos rfl, zif_neg e]
    rcases (hR.2.1 p hp).2 with ⟨a1, a2⟩ | ⟨a1, a2, a3, a4, ⟨a5, a7⟩, a6⟩
    · refine CALL.ask h (v := 0) ?_ ?_
      · rw [eX, zif_pos a1, zif_pos rfl]
      · rw [eM, a2, zif_neg zo_ne]
    · rcases a7 with e | e
      · refine CALL.ask h (v := 0) ?_ ?_
        · rw [eX, zif_neg a1, zif_neg one_ne0, zif_pos e]
        · rw [eM, zif_pos a3, a5, e, zif_neg zo_ne]
      · refine CALL.ask h (v := 1) ?_ ?_
        · rw [eX, zif_neg a1, zif_neg one_ne0, e, zif_neg one_ne0]
        · rw [eM, zif_pos a3, a5, e, zif_pos rfl]
  · refine CALL.ask h (v := 0) ?_ ?_
    · rw [eX10_isCleared_0, hj, zif_pos hj2, pX5_has hE.2.2.1.2.1, zI_some, ok_no hx, zif_pos rfl, zif_pos nar_0]
    · rw [eX11_isCleared_0, eX11_hasRecord_0, pM_isPosition hE.2.2.2.2.1.1 (by omega), zI_some, ok_no hx, zif_pos rfl, eX11_hasRecord_26, eX11_hasRecord_27, zif_pos nar_0, zI_some, zif_pos rfl, eX11_isCleared_26, eX11_isCleared_27, zif_pos nar_0]
theorem a_passes (h : REL μ c) (x : Int32) : CALL (tX10_passes_0 x) (tX11_passes_0 x) μ (c + 1) := by
  obtain ⟨j, S, D, lim, t, hd, C, now, O, st, Q, ⟨hj, hj2⟩, hE, hR⟩ := h.un
  have hn6 := hE.1.2.1
  rcases ix_of x (n := sn S) (by omega) with ⟨p, hp, rfl⟩ | hx
  · obtain ⟨s1, s2⟩ := un_slot hE hR hp
    have eX : tX10_passes_0 (nI p) μ = zif (zif (μ.1 40 (2 * 0) (zslot (sn S) t p) = -2) (0 : Int32) 1 = 0) (some (some (.inl (-2)), μ)) (some (some (.inl (μ.1 41 (2 * 0) (zslot (sn S) t p))), μ)) := by
      rw [eX10_passes_0, hj, zif_pos hj2, pX5_has hE.2.2.1.2.1, zI_some, ok_yes hp (by omega), zif_neg one_ne0, s1, zI_some, eX10_passes_22, pX4_has rfl s2, zI_some, qI_in (bel_41 0) rfl s2 (by decide), Option.bind_some, eX10_passes_53, eX10_passes_53]
    have eM : tX11_passes_0 (nI p) μ = zif (μ.1 65 0 (150 + p) = 1) (some (some (.inl (μ.1 65 0 (330 + p))), μ)) (some (some (.inl (-2)), μ)) := by
      rw [eX11_passes_0, pM_isPosition hE.2.2.2.2.1.1 (by omega), zI_some, ok_yes hp (by omega), zif_neg one_ne0, pM_hasRec hE.2.2.2.2.1.1 hn6 hp, zI_some, qI_in (zS_65 0) (a330 rfl) (by omega) (by decide), Option.bind_some, eX11_passes_35, eX11_passes_35]
      by_cases e : μ.1 65 0 (150 + p) = 1
      · rw [zif_pos e, zif_neg one_ne0, zif_pos e]
      · rw [zif_neg e, zif_pos rfl, zif_neg e]
    rcases (hR.2.1 p hp).2 with ⟨a1, a2⟩ | ⟨a1, a2, a3, a4, a5, a6⟩
    · refine CALL.ask h (v := -2) ?_ ?_
      · rw [eX, zif_pos a1, zif_pos rfl]
      · rw [eM, a2, zif_neg zo_ne]
    · refine CALL.ask h (v := μ.1 41 (2 * 0) (zslot (sn S) t p)) ?_ ?_
      · rw [eX, zif_neg a1, zif_neg one_ne0]
      · rw [eM, zif_pos a3, a6]
  · refine CALL.ask h (v := -1) ?_ ?_
    · rw [eX10_passes_0, hj, zif_pos hj2, pX5_has hE.2.2.1.2.1, zI_some, ok_no hx, zif_pos rfl]
    · rw [eX11_passes_0, pM_isPosition hE.2.2.2.2.1.1 (by omega), zI_some, ok_no hx, zif_pos rfl, eX11_passes_35]
theorem a_destination (h : REL μ c) (x : Int32) : CALL (tX10_destination_0 x) (tX11_destination_0 x) μ (c + 1) := by
  obtain ⟨j, S, D, lim, t, hd, C, now, O, st, Q, ⟨hj, hj2⟩, hE, hR⟩ := h.un
  have hn6 := hE.1.2.1
  rcases ix_of x (n := sn S) (by omega) with ⟨p, hp, rfl⟩ | hx
  · obtain ⟨s1, s2⟩ := un_slot hE hR hp
    have eX : tX10_destination_0 (nI p) μ = zif (zif (μ.1 40 (2 * 0) (zslot (sn S) t p) = -2) (0 : Int32) 1 = 0) (some (some (.inl (-2)), μ)) (some (some (.inl (zgoal (sT S) (sF S) lim (nI now) (μ.1 40 (2 * 0) (zslot (sn S) t p)) (μ.1 42 (2 * 0) (zslot (sn S) t p)) (μ.1 41 (2 * 0) (zslot (sn S) t p)))), μ)) := by
      rw [eX10_destination_0, hj, zif_pos hj2, pX5_has hE.2.2.1.2.1, zI_some, ok_yes hp (by omega), zif_neg one_ne0, s1, zI_some, eX10_destination_22, pX4_has rfl s2, zI_some, pX9_goalOf hR.1.1 hj2 hE.2.2.1.2.2.2.2.1 rfl s2, zI_some, eX10_destination_49, eX10_destination_49, hE.2.2.1.2.2.2.1, hR.1.2.2.2.2.1]
    have eM : isLb (μ.1 65 0 (210 + p)) → tX11_destination_0 (nI p) μ = zif (μ.1 65 0 (150 + p) = 1) (some (some (.inl (zgoal (sT S) (sF S) lim (nI now) (μ.1 65 0 (210 + p)) (μ.1 65 0 (270 + p)) (μ.1 65 0 (330 + p)))), μ)) (some (some (.inl (-2)), μ)) := fun hl => by
      rw [eX11_destination_0, pM_isPosition hE.2.2.2.2.1.1 (by omega), zI_some, ok_yes hp (by omega), zif_neg one_ne0, pM_hasRec hE.2.2.2.2.1.1 hn6 hp, zI_some, pM_destinationAt hE.2.2.2.2.2 hE.1.2.2.2.2.1 rfl (by omega) hl, zI_some, eX11_destination_30, eX11_destination_30, hE.2.2.2.2.1.2.2.1, hR.1.2.2.2.2.2.1]
      by_cases e : μ.1 65 0 (150 + p) = 1
      · rw [zif_pos e, zif_neg one_ne0, zif_pos e]
      · rw [zif_neg e, zif_pos rfl, zif_neg e]
    rcases (hR.2.1 p hp).2 with ⟨a1, a2⟩ | ⟨a1, a2, a3, a4, a5, a6⟩
    · refine CALL.ask h (v := -2) ?_ ?_
      · rw [eX, zif_pos a1, zif_pos rfl]
      · rw [eX11_destination_0, pM_isPosition hE.2.2.2.2.1.1 (by omega), zI_some, ok_yes hp (by omega), zif_neg one_ne0, pM_hasRec hE.2.2.2.2.1.1 hn6 hp, zI_some, a2, zif_neg zo_ne, zif_pos rfl, eX11_destination_30]
    · refine CALL.ask h (v := zgoal (sT S) (sF S) lim (nI now) (μ.1 40 (2 * 0) (zslot (sn S) t p)) (μ.1 42 (2 * 0) (zslot (sn S) t p)) (μ.1 41 (2 * 0) (zslot (sn S) t p))) ?_ ?_
      · rw [eX, zif_neg a1, zif_neg one_ne0]
      · rw [eM (by rw [a4]; exact a2), zif_pos a3, a4, a5.1, a6]
  · refine CALL.ask h (v := -1) ?_ ?_
    · rw [eX10_destination_0, hj, zif_pos hj2, pX5_has hE.2.2.1.2.1, zI_some, ok_no hx, zif_pos rfl]
    · rw [eX11_destination_0, pM_isPosition hE.2.2.2.2.1.1 (by omega), zI_some, ok_no hx, zif_pos rfl, eX11_destination_30]
end ASK
