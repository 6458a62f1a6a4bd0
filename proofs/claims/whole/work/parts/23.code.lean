/-! ===== what the heads read ===== -/
def HdM (μ : zM) (hd : Nat) : Prop := hd < 16 ∧ ∀ h, h < 4 → μ.1 65 0 (11 + h) = nI (hd / 2 ^ h % 2)
theorem hd_or : ∀ hd, hd < 16 → (((0 ||| (nI (hd / 2 ^ 0 % 2) <<< ((0 : Int32) &&& 31))) ||| (nI (hd / 2 ^ 1 % 2) <<< ((0 + 1 : Int32) &&& 31))) ||| (nI (hd / 2 ^ 2 % 2) <<< ((0 + 1 + 1 : Int32) &&& 31))) ||| (nI (hd / 2 ^ 3 % 2) <<< ((0 + 1 + 1 + 1 : Int32) &&& 31)) = nI hd := by decide
noncomputable def zseen (hd heads lab : Int32) : Int32 := zif (heads &&& hd = 0) 0 lab
noncomputable def zcode (T : Nat → Nat → Int32) (F : Nat) (one two : Int32) : Int32 :=
  zif (one = 0) two (zif (one = two) two (zif (two = 0) one (zif ((flOf T F one = none) ↔ (flOf T F two = none)) (-1) (zif (flOf T F one = none) two one))))
theorem zN_5 : ∃ n, zN = n + 5 := ⟨99995, by rw [zN_eq]⟩
theorem pM_isSeen {μ : zM} {hd : Nat} (h : HdM μ hd) (x y : Int32) : tX11_isSeen_0 x y μ = some (some (.inl (zif (x = 0) 0 (zif (y &&& nI hd = 0) 0 1))), μ) := by
  obtain ⟨n, hn⟩ := zN_5
  have q (k : Nat) (hk : k < 4) {z : Int32} (hz : z = nI (11 + k)) : qI μ (65, 0) z = some (nI (hd / 2 ^ k % 2)) := by rw [qI_in (zS_65 0) hz (by omega) (by decide), h.2 k hk]
  have h1 : tX11_isSeen_48 1 μ = some (some (.inl 1), μ) := by rw [eX11_isSeen_48, zif_pos nar_1]
  have h0 : tX11_isSeen_47 μ = some (some (.inl 0), μ) := by rw [eX11_isSeen_47, eX11_isSeen_48, zif_pos nar_0]
  rw [eX11_isSeen_0, eX11_isSeen_2, hn]
  rw [eX11_isSeen_5, zif_pos (by decide), q 0 (by decide) (by decide), Option.bind_some, eX11_isSeen_27, eX11_isSeen_30]
  rw [eX11_isSeen_5, zif_pos (by decide), q 1 (by decide) (by decide), Option.bind_some, eX11_isSeen_27, eX11_isSeen_30]
  rw [eX11_isSeen_5, zif_pos (by decide), q 2 (by decide) (by decide), Option.bind_some, eX11_isSeen_27, eX11_isSeen_30]
  rw [eX11_isSeen_5, zif_pos (by decide), q 3 (by decide) (by decide), Option.bind_some, eX11_isSeen_27, eX11_isSeen_30]
  rw [eX11_isSeen_5, zif_neg (by decide), hd_or hd h.1, h0, h1]
  by_cases a : x = 0
  · rw [zif_pos a, zif_pos a]
  · rw [zif_neg a, zif_neg a]
    by_cases b : y &&& nI hd = 0
    · rw [zif_pos b, zif_pos b]
    · rw [zif_neg b, zif_neg b]
theorem fM_none {F : Nat} {T : Nat → Nat → Int32} {x : Int32} (hF : F ≤ 10) : fMo (flOf T F x) < 0 ↔ flOf T F x = none := by
  cases hf : flOf T F x with
  | none => exact ⟨fun _ => rfl, fun _ => m2_lt⟩
  | some f =>
    have := flOf_lt hf
    exact ⟨fun h => absurd h (nI_pos (by omega)), fun h => by cases h⟩
theorem fX_none {F : Nat} {T : Nat → Nat → Int32} {x : Int32} (hF : F ≤ 10) : fX (flOf T F x) = -1 ↔ flOf T F x = none := by
  cases hf : flOf T F x with
  | none => exact ⟨fun _ => rfl, fun _ => rfl⟩
  | some f =>
    have := flOf_lt hf
    exact ⟨fun h => absurd h (fX_neg (by omega)), fun h => by cases h⟩
theorem zS_69 (i : Nat) : zS 69 i = .inr (0, 100, (0, 0)) := rfl
theorem zS_71 (i : Nat) : zS 71 i = .inr (0, 100, (0, 0)) := rfl
theorem zS_22 (i : Nat) : zS 22 i = .inr (0, 100, (0, 0)) := rfl
theorem zS_24 (i : Nat) : zS 24 i = .inr (0, 100, (0, 0)) := rfl
theorem zseen_lb {hd heads lab : Int32} (h : isLb lab) : isLb (zseen hd heads lab) := by
  unfold zseen
  by_cases a : heads &&& hd = 0
  · rw [zif_pos a]; exact Or.inl rfl
  · rw [zif_neg a]; exact h
theorem zo_ne : ¬ (0 : Int32) = 1 := by decide
theorem pM_read60 {μ : zM} {F : Nat} {T : Nat → Nat → Int32} (h : FlM μ F T) (hT : FlT F T) {a b : Int32} (ha : isLb a) (hb : isLb b) : tX11_readOf_60 a b μ = some (some (.inl (zcode T F a b)), μ) := by
  have hF := h.1
  rw [eX11_readOf_60, eX11_readOf_69, pM_flightBy h hT ha, zI_some, eX11_readOf_90, eX11_readOf_90, eX11_readOf_92, eX11_readOf_92, pM_flightBy h hT hb, zI_some, zI_some, eX11_readOf_105, eX11_readOf_105, eX11_readOf_105, eX11_readOf_105, eX11_readOf_107, eX11_readOf_107, eX11_readOf_107, eX11_readOf_107]
  simp only [eX11_readOf_128]
  unfold zcode
  by_cases c1 : a = 0
  · rw [zif_pos c1, zif_pos c1]
  rw [zif_neg c1, zif_neg c1]
  by_cases c2 : a = b
  · rw [zif_pos c2, zif_pos c2]
  rw [zif_neg c2, zif_neg c2]
  by_cases c3 : b = 0
  · rw [zif_pos c3, zif_pos c3]
  rw [zif_neg c3, zif_neg c3]
  by_cases u : flOf T F a = none
  · rw [zif_pos ((fM_none hF).mpr u)]
    by_cases v : flOf T F b = none
    · rw [zif_pos ((fM_none hF).mpr v), zif_pos trivial, zif_pos ⟨fun _ => v, fun _ => u⟩]
    · rw [zif_neg (fun z => v ((fM_none hF).mp z)), zif_neg zo_ne, zif_pos trivial, zif_neg (fun z => v (z.mp u)), zif_pos u]
  · rw [zif_neg (fun z => u ((fM_none hF).mp z))]
    by_cases v : flOf T F b = none
    · rw [zif_pos ((fM_none hF).mpr v), zif_neg one_ne0, zif_neg one_ne0, zif_neg (fun z => u (z.mpr v)), zif_neg u]
    · rw [zif_neg (fun z => v ((fM_none hF).mp z)), zif_pos trivial, zif_pos ⟨fun z => absurd z u, fun z => absurd z v⟩]
theorem seen_eq (hd y x : Int32) : (zif (zif (x = 0) 0 (zif (y &&& hd = 0) 0 1) = (0 : Int32)) (0 : Int32) x) = zseen hd y x := by
  unfold zseen
  by_cases a : x = 0
  · rw [zif_pos a, zif_pos rfl]
    by_cases b : y &&& hd = 0
    · rw [zif_pos b]
    · rw [zif_neg b, a]
  · rw [zif_neg a]
    by_cases b : y &&& hd = 0
    · rw [zif_pos b, zif_pos rfl, zif_pos b]
    · rw [zif_neg b, zif_neg one_ne0, zif_neg b]
theorem zif_app {α β : Type} (f : α → β) (c : Prop) (a b : α) : zif c (f a) (f b) = f (zif c a b) := by
  by_cases h : c
  · rw [zif_pos h, zif_pos h]
  · rw [zif_neg h, zif_neg h]
theorem pM_readOf {μ : zM} {F b hd : Nat} {T : Nat → Nat → Int32} {x : Int32} (h : FlM μ F T) (hT : FlT F T) (hh : HdM μ hd) (hx : x = nI b) (hb : b < 100) (h1 : isLb (μ.1 68 0 b)) (h2 : isLb (μ.1 70 0 b)) : tX11_readOf_0 x μ = some (some (.inl (zcode T F (zseen (nI hd) (μ.1 69 0 b) (μ.1 68 0 b)) (zseen (nI hd) (μ.1 71 0 b) (μ.1 70 0 b)))), μ) := by
  have q68 := qI_in (μ := μ) (zS_68 0) hx hb (by decide)
  have q69 := qI_in (μ := μ) (zS_69 0) hx hb (by decide)
  have q70 := qI_in (μ := μ) (zS_70 0) hx hb (by decide)
  have q71 := qI_in (μ := μ) (zS_71 0) hx hb (by decide)
  have k : ∀ a, isLb a → tX11_readOf_29 x a μ = some (some (.inl (zcode T F a (zseen (nI hd) (μ.1 71 0 b) (μ.1 70 0 b)))), μ) := by
    intro a ha
    rw [eX11_readOf_29, eX11_readOf_30, q70, Option.bind_some, q71, Option.bind_some, pM_isSeen hh, zI_some, q70, Option.bind_some, eX11_readOf_59, eX11_readOf_59, zif_app (fun z => tX11_readOf_60 a z μ), seen_eq, pM_read60 h hT ha (zseen_lb h2)]
  rw [eX11_readOf_0, q68, Option.bind_some, q69, Option.bind_some, pM_isSeen hh, zI_some, q68, Option.bind_some, zif_app (fun z => tX11_readOf_29 x z μ), seen_eq, k _ (zseen_lb h1)]
theorem pX9_code68 {μ : zM} {i j F : Nat} {T : Nat → Nat → Int32} (hj : μ.2.1 9 i 0 = j) (hj2 : j < 2) (h : FlX μ j F T) (a b : Int32) : tX9_codeSeen_68 i a b μ = some (some (.inl (zcode T F a b)), μ) := by
  have hF := h.1
  have hj' : μ.2.1 9 i 0 < 2 := by rw [hj]; exact hj2
  rw [eX9_codeSeen_68, zif_pos hj', hj, pX1_ofLabel h, zI_some]
  simp only [eX9_codeSeen_105, eX9_codeSeen_107, zif_pos hj', zif_pos hj2, hj, pX1_ofLabel h, zI_some, eX9_codeSeen_127, eX9_codeSeen_129, eX9_codeSeen_148, eX9_codeSeen_77]
  unfold zcode
  by_cases c1 : a = 0
  · rw [zif_pos c1, zif_pos c1]
  rw [zif_neg c1, zif_neg c1]
  by_cases c2 : a = b
  · rw [zif_pos c2, zif_pos c2]
  rw [zif_neg c2, zif_neg c2]
  by_cases c3 : b = 0
  · rw [zif_pos c3, zif_pos c3]
  rw [zif_neg c3, zif_neg c3]
  by_cases u : flOf T F a = none
  · rw [zif_pos ((fX_none hF).mpr u)]
    by_cases v : flOf T F b = none
    · rw [zif_pos ((fX_none hF).mpr v), zif_pos trivial, zif_pos ⟨fun _ => v, fun _ => u⟩]
    · rw [zif_neg (fun z => v ((fX_none hF).mp z)), zif_neg zo_ne, zif_pos trivial, zif_neg (fun z => v (z.mp u)), zif_pos u]
  · rw [zif_neg (fun z => u ((fX_none hF).mp z))]
    by_cases v : flOf T F b = none
    · rw [zif_pos ((fX_none hF).mpr v), zif_neg one_ne0, zif_neg one_ne0, zif_neg (fun z => u (z.mpr v)), zif_neg u]
    · rw [zif_neg (fun z => v ((fX_none hF).mp z)), zif_pos trivial, zif_pos ⟨fun z => absurd z u, fun z => absurd z v⟩]
theorem pX9_codeSeen {μ : zM} {i j F b : Nat} {T : Nat → Nat → Int32} {x : Int32} (hj : μ.2.1 9 i 0 = j) (hj2 : j < 2) (h : FlX μ j F T) (hx : x = nI b) (hb : b < 100) : tX9_codeSeen_0 i x μ = some (some (.inl (zcode T F (zseen (μ.1 9 i 3) (μ.1 22 i b) (μ.1 21 i b)) (zseen (μ.1 9 i 3) (μ.1 24 i b) (μ.1 23 i b)))), μ) := by
  have q21 := qI_in (μ := μ) (zS_21 i) hx hb (by decide)
  have q22 := qI_in (μ := μ) (zS_22 i) hx hb (by decide)
  have q23 := qI_in (μ := μ) (zS_23 i) hx hb (by decide)
  have q24 := qI_in (μ := μ) (zS_24 i) hx hb (by decide)
  have k : ∀ a, tX9_codeSeen_37 i x a μ = some (some (.inl (zcode T F a (zseen (μ.1 9 i 3) (μ.1 24 i b) (μ.1 23 i b)))), μ) := by
    intro a
    rw [eX9_codeSeen_37, q24, Option.bind_some, q23, Option.bind_some, eX9_codeSeen_67, eX9_codeSeen_67, zif_app (fun z => tX9_codeSeen_68 i a z μ), pX9_code68 hj hj2 h]
    rfl
  rw [eX9_codeSeen_0, zif_neg (by rw [hx]; exact nI_pos (by omega)), q22, Option.bind_some, q21, Option.bind_some, eX9_codeSeen_36, eX9_codeSeen_36, zif_app (fun z => tX9_codeSeen_37 i x z μ), k]
  rfl
