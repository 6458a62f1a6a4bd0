/-! ===== usable labels, where a record goes ===== -/
def lbGood (T : Nat → Nat → Int32) (F : Nat) (now x : Int32) : Prop := match flOf T F x with
  | none => False
  | some f => now < T 3 f
noncomputable def lbUse (T : Nat → Nat → Int32) (F : Nat) (now a b : Int32) : Option Int32 := zif (lbGood T F now a) (some a) (zif (lbGood T F now b) (some b) none)
def flSt (T : Nat → Nat → Int32) (now : Int32) (f : Nat) : Int32 := if now < T 2 f then 0 else if now < T 3 f then 1 else 2
noncomputable def zgoal (T : Nat → Nat → Int32) (F : Nat) (lim now label cleared passes : Int32) : Int32 :=
  if passes = 0 ∧ label = 0 then 0 else if lim < passes then 6 else if label = 0 ∨ label = -1 then 6 else if cleared = 0 then 4 else match flOf T F label with
  | none => 6
  | some f => if now < T 3 f then (if now < T 2 f then 5 else 10 + T 1 f) else 6
theorem lbGood_some {T : Nat → Nat → Int32} {F f : Nat} {now x : Int32} (h : flOf T F x = some f) : lbGood T F now x ↔ now < T 3 f := by unfold lbGood; rw [h]
theorem lbGood_none {T : Nat → Nat → Int32} {F : Nat} {now x : Int32} (h : flOf T F x = none) : ¬ lbGood T F now x := by unfold lbGood; rw [h]; exact id
theorem fX_neg {f : Nat} (h : f < 2 ^ 31) : ¬ nI f = -1 := by
  intro e
  have h1 := nI_pos h
  rw [e] at h1
  exact h1 (by decide)
theorem m1_lt : (-1 : Int32) < 0 := by decide
theorem m2_lt : (-2 : Int32) < 0 := by decide
theorem zS_34 (i : Nat) : zS 34 i = .inr (0, 10, (0, 0)) := rfl
theorem zS_33 (i : Nat) : zS 33 i = .inr (0, 10, (0, 0)) := rfl
theorem zS_32 (i : Nat) : zS 32 i = .inr (0, 10, (0, 0)) := rfl
theorem zS_21 (i : Nat) : zS 21 i = .inr (0, 100, (0, 0)) := rfl
theorem zS_23 (i : Nat) : zS 23 i = .inr (0, 100, (0, 0)) := rfl
theorem zS_65 (i : Nat) : zS 65 i = .inr (0, 1200, (0, 0)) := rfl
theorem zS_68 (i : Nat) : zS 68 i = .inr (0, 100, (0, 0)) := rfl
theorem zS_70 (i : Nat) : zS 70 i = .inr (0, 100, (0, 0)) := rfl
theorem pX9_use_72 {μ : zM} {i j F : Nat} {T : Nat → Nat → Int32} (hj : μ.2.1 9 i 0 = j) (hj2 : j < 2) (h : FlX μ j F T) (x : Int32) : tX9_usableLabel_72 i (fX (flOf T F x)) x μ = some (some (.inl ((zif (lbGood T F (μ.1 9 i 1) x) (some x) none).getD 0)), μ) := by
  have hF := h.1
  rw [eX9_usableLabel_72, eX9_usableLabel_99]
  cases hf : flOf T F x with
  | none => rw [zif_pos (show fX none = -1 from rfl), zif_neg (lbGood_none hf)]; rfl
  | some f =>
    have hlt := flOf_lt hf
    rw [zif_neg (show ¬ fX (some f) = -1 from fX_neg (by omega)), hj, zif_pos hj2, qI_in (zS_34 j) (show fX (some f) = nI f from rfl) (show f < 10 by omega) (by decide), Option.bind_some, h.2.2 3 f (by omega) hlt]
    by_cases hg : μ.1 9 i 1 < T 3 f
    · rw [zif_pos hg, zif_pos ((lbGood_some hf).mpr hg)]; rfl
    · rw [zif_neg hg, zif_neg (fun q => hg ((lbGood_some hf).mp q))]; rfl
theorem pX9_usableLabel {μ : zM} {i j F b : Nat} {T : Nat → Nat → Int32} {x : Int32} (hj : μ.2.1 9 i 0 = j) (hj2 : j < 2) (h : FlX μ j F T) (hx : x = nI b) (hb : b < 100) : tX9_usableLabel_0 i x μ = some (some (.inl ((lbUse T F (μ.1 9 i 1) (μ.1 21 i b) (μ.1 23 i b)).getD 0)), μ) := by
  have hF := h.1
  have hj' : μ.2.1 9 i 0 < 2 := by rw [hj]; exact hj2
  have h48 : tX9_usableLabel_48 i x μ = some (some (.inl ((zif (lbGood T F (μ.1 9 i 1) (μ.1 23 i b)) (some (μ.1 23 i b)) none).getD 0)), μ) := by
    rw [eX9_usableLabel_48, qI_in (zS_23 i) hx hb (by decide), Option.bind_some, eX9_usableLabel_59, zif_pos hj', hj, pX1_ofLabel h, zI_some, pX9_use_72 hj hj2 h]
  rw [eX9_usableLabel_0, qI_in (zS_21 i) hx hb (by decide), Option.bind_some, eX9_usableLabel_10, zif_pos hj', hj, pX1_ofLabel h, zI_some, eX9_usableLabel_22, h48]
  unfold lbUse
  cases hf : flOf T F (μ.1 21 i b) with
  | none => rw [zif_pos (show fX none = -1 from rfl), zif_neg (lbGood_none hf)]
  | some f =>
    have hlt := flOf_lt hf
    rw [zif_neg (show ¬ fX (some f) = -1 from fX_neg (by omega)), zif_pos hj', hj, qI_in (zS_34 j) (show fX (some f) = nI f from rfl) (show f < 10 by omega) (by decide), Option.bind_some, h.2.2 3 f (by omega) hlt]
    by_cases hg : μ.1 9 i 1 < T 3 f
    · rw [zif_pos hg, zif_pos ((lbGood_some hf).mpr hg)]; rfl
    · rw [zif_neg hg, zif_neg (fun q => hg ((lbGood_some hf).mp q))]
theorem pM_flightIs {μ : zM} {F f : Nat} {T : Nat → Nat → Int32} {x : Int32} (h : FlM μ F T) (hf : f < F) (hx : x = nI f) : tX11_flightIs_0 x μ = some (some (.inl (flSt T (μ.1 65 0 0) f)), μ) := by
  rw [eX11_flightIs_0, qI_in (x := 0) (p := 0) (zS_65 0) rfl (by decide) (by decide), Option.bind_some, eX11_flightIs_7, pM_ofFlight h (y := 2) (c := 2) hf (by decide) hx rfl, zI_some, pM_ofFlight h (y := 3) (c := 3) hf (by decide) hx rfl, zI_some, eX11_flightIs_36, eX11_flightIs_36, eX11_flightIs_36, zif_eq, zif_eq]
  unfold flSt
  split
  · rfl
  · split <;> rfl
theorem flSt_good {F f : Nat} {T : Nat → Nat → Int32} (hT : FlT F T) (hf : f < F) (now : Int32) : flSt T now f < 2 ↔ now < T 3 f := by
  obtain ⟨-, -, o, c, h1, h2, h3, h4⟩ := hT f hf
  unfold flSt
  by_cases ho : now < T 2 f
  · rw [if_pos ho]
    refine ⟨fun _ => Int32.lt_trans ho ?_, fun _ => by decide⟩
    rw [h3, h4]
    exact nI_lt h1 (by omega)
  · rw [if_neg ho]
    by_cases hc : now < T 3 f
    · rw [if_pos hc]; exact ⟨fun _ => hc, fun _ => by decide⟩
    · rw [if_neg hc]; exact ⟨fun h => absurd h (by decide), fun h => absurd h hc⟩
theorem pM_isGood {μ : zM} {F : Nat} {T : Nat → Nat → Int32} {x : Int32} (h : FlM μ F T) (hT : FlT F T) (hx : isLb x) : tX11_isGood_0 x μ = some (some (.inl (zif (lbGood T F (μ.1 65 0 0) x) 1 0)), μ) := by
  have hF := h.1
  have h1 : tX11_isGood_24 1 μ = some (some (.inl 1), μ) := by rw [eX11_isGood_24, zif_pos nar_1]
  have h0 : tX11_isGood_23 μ = some (some (.inl 0), μ) := by rw [eX11_isGood_23, eX11_isGood_24, zif_pos nar_0]
  rw [eX11_isGood_0, pM_flightBy h hT hx, zI_some, eX11_isGood_6]
  cases hf : flOf T F x with
  | none => rw [zif_pos (show fMo none < 0 from m2_lt), h0, zif_neg (lbGood_none hf)]
  | some f =>
    have hlt := flOf_lt hf
    rw [zif_neg (show ¬ fMo (some f) < 0 from nI_pos (by omega)), pM_flightIs h hlt (show fMo (some f) = nI f from rfl), zI_some, h1, h0]
    by_cases hg : μ.1 65 0 0 < T 3 f
    · rw [zif_pos ((flSt_good hT hlt _).mpr hg), zif_pos ((lbGood_some hf).mpr hg)]
    · rw [zif_neg (fun q => hg ((flSt_good hT hlt _).mp q)), zif_neg (fun q => hg ((lbGood_some hf).mp q))]
theorem one_ne0 : ¬ (1 : Int32) = 0 := by decide
theorem pM_properOf {μ : zM} {F b : Nat} {T : Nat → Nat → Int32} {x : Int32} (h : FlM μ F T) (hT : FlT F T) (hx : x = nI b) (hb : b < 100) (ha : isLb (μ.1 68 0 b)) (hc : isLb (μ.1 70 0 b)) : tX11_properOf_0 x μ = some (some (.inl ((lbUse T F (μ.1 65 0 0) (μ.1 68 0 b) (μ.1 70 0 b)).getD (-2))), μ) := by
  rw [eX11_properOf_0, qI_in (zS_68 0) hx hb (by decide), Option.bind_some, pM_isGood h hT ha, zI_some, qI_in (zS_70 0) hx hb (by decide), Option.bind_some, pM_isGood h hT hc, zI_some, qI_in (zS_70 0) hx hb (by decide), Option.bind_some, qI_in (zS_68 0) hx hb (by decide), Option.bind_some, eX11_properOf_46, eX11_properOf_46, eX11_properOf_46]
  unfold lbUse
  by_cases h1 : lbGood T F (μ.1 65 0 0) (μ.1 68 0 b)
  · rw [zif_pos h1, zif_pos h1, zif_neg one_ne0]; rfl
  · rw [zif_neg h1, zif_neg h1, zif_pos rfl]
    by_cases h2 : lbGood T F (μ.1 65 0 0) (μ.1 70 0 b)
    · rw [zif_pos h2, zif_pos h2, zif_neg one_ne0]; rfl
    · rw [zif_neg h2, zif_neg h2, zif_pos rfl]; rfl
theorem zS_40 (i : Nat) : zS 40 i = .inr (0, (if i % 2 = 0 then 60 else 100), (0, 0)) := rfl
theorem zS_41 (i : Nat) : zS 41 i = .inr (0, (if i % 2 = 0 then 60 else 100), (0, 0)) := rfl
theorem zS_42 (i : Nat) : zS 42 i = .inr (0, (if i % 2 = 0 then 60 else 100), (0, 0)) := rfl
theorem bel_40 (i : Nat) : zS 40 (2 * i) = .inr (0, 60, (0, 0)) := by rw [zS_40, if_pos (by omega)]
theorem bel_41 (i : Nat) : zS 41 (2 * i) = .inr (0, 60, (0, 0)) := by rw [zS_41, if_pos (by omega)]
theorem bel_42 (i : Nat) : zS 42 (2 * i) = .inr (0, 60, (0, 0)) := by rw [zS_42, if_pos (by omega)]
theorem hel_40 (i : Nat) : zS 40 (2 * i + 1) = .inr (0, 100, (0, 0)) := by rw [zS_40, if_neg (by omega)]
theorem hel_41 (i : Nat) : zS 41 (2 * i + 1) = .inr (0, 100, (0, 0)) := by rw [zS_41, if_neg (by omega)]
theorem hel_42 (i : Nat) : zS 42 (2 * i + 1) = .inr (0, 100, (0, 0)) := by rw [zS_42, if_neg (by omega)]
/-- where the record on a slot goes -/
theorem pX9_goalOf {μ : zM} {i j F p : Nat} {T : Nat → Nat → Int32} {x : Int32} (hj : μ.2.1 9 i 0 = j) (hj2 : j < 2) (h : FlX μ j F T) (hx : x = nI p) (hp : p < 60) : tX9_goalOf_0 i x μ = some (some (.inl (zgoal T F (μ.1 5 j 2) (μ.1 9 i 1) (μ.1 40 (2 * i) p) (μ.1 42 (2 * i) p) (μ.1 41 (2 * i) p))), μ) := by
  have hF := h.1
  have hj' : μ.2.1 9 i 0 < 2 := by rw [hj]; exact hj2
  rw [eX9_goalOf_0, qI_in (bel_40 i) hx hp (by decide), Option.bind_some, eX9_goalOf_10, qI_in (bel_41 i) hx hp (by decide), Option.bind_some, eX9_goalOf_20]
  have h30 : ∀ (l q : Int32), ¬ (q = 0 ∧ l = 0) → tX9_goalOf_30 i x l q μ = some (some (.inl (zgoal T F (μ.1 5 j 2) (μ.1 9 i 1) l (μ.1 42 (2 * i) p) q)), μ) := by
    intro l q hlq
    unfold zgoal
    rw [if_neg hlq, eX9_goalOf_30, zif_pos hj', hj, eX9_goalOf_50]
    by_cases h1 : μ.1 5 j 2 < q
    · rw [zif_pos h1, if_pos h1]
    rw [zif_neg h1, if_neg h1]
    by_cases h2 : l = 0
    · rw [zif_pos h2, if_pos (Or.inl h2)]
    rw [zif_neg h2]
    by_cases h3 : l = -1
    · rw [zif_pos h3, if_pos (Or.inr h3)]
    rw [zif_neg h3, if_neg (fun q => q.elim h2 h3), qI_in (bel_42 i) hx hp (by decide), Option.bind_some]
    by_cases h4 : μ.1 42 (2 * i) p = 0
    · rw [zif_pos h4, if_pos h4]
    rw [zif_neg h4, if_neg h4, zif_pos hj2, pX1_ofLabel h, zI_some, eX9_goalOf_80, eX9_goalOf_106]
    cases hf : flOf T F l with
    | none => rw [zif_pos (show fX none = -1 from rfl)]
    | some f =>
      have hlt := flOf_lt hf
      have e9 : fX (some f) = nI f := rfl
      rw [zif_neg (show ¬ fX (some f) = -1 from fX_neg (by omega)), zif_pos hj', hj, qI_in (zS_34 j) e9 (show f < 10 by omega) (by decide), Option.bind_some, h.2.2 3 f (by omega) hlt]
      dsimp only
      by_cases h5 : μ.1 9 i 1 < T 3 f
      · rw [zif_pos h5, if_pos h5, zif_pos hj2, qI_in (zS_33 j) e9 (show f < 10 by omega) (by decide), Option.bind_some, h.2.2 2 f (by omega) hlt]
        by_cases h6 : μ.1 9 i 1 < T 2 f
        · rw [zif_pos h6, if_pos h6]
        · rw [zif_neg h6, if_neg h6, zif_pos hj2, qI_in (zS_32 j) e9 (show f < 10 by omega) (by decide), Option.bind_some, h.2.2 1 f (by omega) hlt]
      · rw [zif_neg h5, if_neg h5]
  by_cases a : μ.1 41 (2 * i) p = 0
  · rw [zif_pos a]
    by_cases b : μ.1 40 (2 * i) p = 0
    · rw [zif_pos b]
      unfold zgoal
      rw [if_pos ⟨a, b⟩]
    · rw [zif_neg b]
      exact h30 _ _ (fun q => b q.2)
  · rw [zif_neg a]
    exact h30 _ _ (fun q => a q.1)
theorem lb_pos {x : Int32} (h : isLb x) : ¬ 0 < x ↔ x = 0 ∨ x = -1 := by
  rcases h with rfl | rfl | ⟨q, h1, h2, rfl⟩
  · exact ⟨fun _ => Or.inl rfl, fun _ => by decide⟩
  · exact ⟨fun _ => Or.inr rfl, fun _ => by decide⟩
  · refine ⟨fun h => absurd (by rw [← nI_0]; exact nI_lt (by omega) (by omega)) h, fun h => ?_⟩
    rcases h with h | h
    · exact absurd h (nI_ne0 (by omega) (by omega))
    · exact absurd h (fX_neg (by omega))
theorem i_add (a p : Nat) {x y : Int32} (hx : x = nI p) (hy : y = nI a) : y + x = nI (a + p) := by rw [hx, hy, nI_add]
theorem pM_destinationAt {μ : zM} {F p : Nat} {T : Nat → Nat → Int32} {x : Int32} (h : FlM μ F T) (hT : FlT F T) (hx : x = nI p) (hp : p < 60) (hl : isLb (μ.1 65 0 (210 + p))) : tX11_destinationAt_0 x μ = some (some (.inl (zgoal T F (μ.1 63 0 3) (μ.1 65 0 0) (μ.1 65 0 (210 + p)) (μ.1 65 0 (270 + p)) (μ.1 65 0 (330 + p)))), μ) := by
  have hF := h.1
  have q210 : qI μ (65, 0) (210 + x) = some (μ.1 65 0 (210 + p)) := qI_in (zS_65 0) (i_add 210 p hx rfl) (by omega) (by decide)
  have q270 : qI μ (65, 0) (270 + x) = some (μ.1 65 0 (270 + p)) := qI_in (zS_65 0) (i_add 270 p hx rfl) (by omega) (by decide)
  have q330 : qI μ (65, 0) (330 + x) = some (μ.1 65 0 (330 + p)) := qI_in (zS_65 0) (i_add 330 p hx rfl) (by omega) (by decide)
  rw [eX11_destinationAt_0, q210, Option.bind_some, eX11_destinationAt_11, q330, Option.bind_some]
  generalize μ.1 65 0 (210 + p) = l at hl ⊢
  generalize μ.1 65 0 (330 + p) = q at q330 ⊢
  have h30 : ¬ (q = 0 ∧ l = 0) → tX11_destinationAt_30 x l μ = some (some (.inl (zgoal T F (μ.1 63 0 3) (μ.1 65 0 0) l (μ.1 65 0 (270 + p)) q)), μ) := by
    intro hlq
    unfold zgoal
    rw [if_neg hlq, eX11_destinationAt_30, q330, Option.bind_some, qI_in (x := 3) (p := 3) (zS_63 0) rfl (by decide) (by decide), Option.bind_some, eX11_destinationAt_53]
    by_cases h1 : μ.1 63 0 3 < q
    · rw [zif_pos h1, if_pos h1]
    rw [zif_neg h1, if_neg h1]
    by_cases h2 : 0 < l
    · rw [zif_pos h2, if_neg (fun z => (lb_pos hl).mpr z h2), q270, Option.bind_some]
      by_cases h4 : μ.1 65 0 (270 + p) = 0
      · rw [zif_pos h4, if_pos h4]
      rw [zif_neg h4, if_neg h4, pM_flightBy h hT hl, zI_some, eX11_destinationAt_77, eX11_destinationAt_90]
      cases hf : flOf T F l with
      | none => rw [zif_pos (show fMo none < 0 from m2_lt)]
      | some f =>
        have hlt := flOf_lt hf
        have e9 : fMo (some f) = nI f := rfl
        rw [zif_neg (show ¬ fMo (some f) < 0 from nI_pos (by omega)), pM_flightIs h hlt e9, zI_some, pM_flightIs h hlt e9, zI_some, pM_ofFlight h (y := 1) (c := 1) hlt (by decide) e9 rfl, zI_some, eX11_destinationAt_90, eX11_destinationAt_114, eX11_destinationAt_114]
        dsimp only
        have hg := flSt_good hT hlt (μ.1 65 0 0)
        by_cases h5 : μ.1 65 0 0 < T 3 f
        · rw [if_pos h5]
          have e2 : ¬ flSt T (μ.1 65 0 0) f = 2 := fun e => absurd (hg.mpr h5) (by rw [e]; decide)
          rw [zif_neg e2]
          by_cases h6 : μ.1 65 0 0 < T 2 f
          · rw [if_pos h6, zif_pos (by unfold flSt; rw [if_pos h6])]
          · rw [if_neg h6, zif_neg (by unfold flSt; rw [if_neg h6, if_pos h5]; decide)]
        · rw [if_neg h5]
          have e2 : flSt T (μ.1 65 0 0) f = 2 := by
            unfold flSt
            rw [if_neg (fun z => h5 (hg.mp (by unfold flSt; rw [if_pos z]; decide))), if_neg h5]
          rw [zif_pos e2]
    · rw [zif_neg h2, if_pos ((lb_pos hl).mp h2)]
  by_cases a : q = 0
  · rw [zif_pos a]
    by_cases b : l = 0
    · rw [zif_pos b]
      unfold zgoal
      rw [if_pos ⟨a, b⟩]
    · rw [zif_neg b]
      exact h30 (fun z => b z.2)
  · rw [zif_neg a]
    exact h30 (fun z => a z.1)
