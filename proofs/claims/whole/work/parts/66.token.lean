/-! ===== tokens: where the next begins and ends, of what kind ===== -/
def isSp (v : Int32) : Prop := v = 32 ∨ v = 10
def isLt (v : Int32) : Prop := ¬ v < 97 ∧ ¬ (122 : Int32) < v
def isDg (v : Int32) : Prop := ¬ v < 48 ∧ ¬ (57 : Int32) < v
def VV (b : Nat → Int32) (s : Nat) : Nat → Int32
  | 0 => 0
  | m + 1 => VV b s m * 10 + (b (s + m) - 48)
noncomputable def WW (b : Nat → Int32) (s : Nat) : Nat → Int64
  | 0 => 0
  | m + 1 => if m < 8 then 32 * WW b s m + (b (s + m)).toInt64 - 96 else 0
theorem run_ex (P : Int32 → Prop) (b : Nat → Int32) (L : Nat) : ∀ d s, s + d = L → ∃ e, s ≤ e ∧ e ≤ L ∧ (∀ z, s ≤ z → z < e → P (b z)) ∧ (e = L ∨ ¬ P (b e)) := by
  intro d
  induction d with
  | zero => exact fun s h => ⟨s, Nat.le_refl _, by omega, fun z a b => absurd a (by omega), Or.inl (by omega)⟩
  | succ d ih =>
    intro s h
    by_cases hp : P (b s)
    · obtain ⟨e, a1, a2, a3, a4⟩ := ih (s + 1) (by omega)
      refine ⟨e, by omega, a2, fun z z1 z2 => ?_, a4⟩
      by_cases hz : z = s
      · rw [hz]; exact hp
      · exact a3 z (by omega) z2
    · exact ⟨s, Nat.le_refl _, by omega, fun z a b => absurd a (by omega), Or.inr hp⟩
def TK (b : Nat → Int32) (L s e κ : Nat) : Prop := s ≤ e ∧ e ≤ L ∧ ((κ = 0 ∧ s = L ∧ e = L) ∨ (κ = 1 ∧ s < e ∧ (∀ z, s ≤ z → z < e → isLt (b z)) ∧ (e = L ∨ ¬ isLt (b e))) ∨ ((κ = 2 ∨ κ = 4) ∧ s < e ∧ ¬ isLt (b s) ∧ (∀ z, s ≤ z → z < e → isDg (b z)) ∧ (e = L ∨ ¬ isDg (b e)) ∧ (κ = 2 ↔ e - s ≤ 5)) ∨ ((κ = 3 ∨ κ = 4) ∧ s < L ∧ e = s + 1 ∧ ¬ isLt (b s) ∧ ¬ isDg (b s) ∧ (κ = 3 ↔ b s = 59)))
theorem dg_lt {v : Int32} (h : isDg v) : ¬ isLt v := by
  intro g
  have h2 := h.2
  have g1 := g.1
  rw [Int32.lt_iff_toInt_lt] at h2 g1
  have e1 : (57 : Int32).toInt = 57 := by decide
  have e2 : (97 : Int32).toInt = 97 := by decide
  omega
theorem tok_ex (b : Nat → Int32) (L e0 : Nat) (h : e0 ≤ L) : ∃ s e κ, e0 ≤ s ∧ (∀ z, e0 ≤ z → z < s → isSp (b z)) ∧ (s = L ∨ ¬ isSp (b s)) ∧ TK b L s e κ := by
  obtain ⟨s, a1, a2, a3, a4⟩ := run_ex isSp b L (L - e0) e0 (by omega)
  by_cases hs : s = L
  · exact ⟨s, s, 0, a1, a3, a4, Nat.le_refl _, a2, Or.inl ⟨rfl, hs, hs⟩⟩
  by_cases hl : isLt (b s)
  · obtain ⟨e, c1, c2, c3, c4⟩ := run_ex isLt b L (L - s) s (by omega)
    have : e ≠ s := fun q => by
      rw [q] at c4
      exact c4.elim hs (fun y => y hl)
    exact ⟨s, e, 1, a1, a3, a4, c1, c2, Or.inr (Or.inl ⟨rfl, by omega, c3, c4⟩)⟩
  by_cases hg : isDg (b s)
  · obtain ⟨e, c1, c2, c3, c4⟩ := run_ex isDg b L (L - s) s (by omega)
    have : e ≠ s := fun q => by
      rw [q] at c4
      exact c4.elim hs (fun y => y hg)
    by_cases h5 : e - s ≤ 5
    · exact ⟨s, e, 2, a1, a3, a4, c1, c2, Or.inr (Or.inr (Or.inl ⟨Or.inl rfl, by omega, hl, c3, c4, fun _ => h5, fun _ => rfl⟩))⟩
    · exact ⟨s, e, 4, a1, a3, a4, c1, c2, Or.inr (Or.inr (Or.inl ⟨Or.inr rfl, by omega, hl, c3, c4, fun z => absurd z (by decide), fun z => absurd z h5⟩))⟩
  by_cases h9 : b s = 59
  · exact ⟨s, s + 1, 3, a1, a3, a4, by omega, by omega, Or.inr (Or.inr (Or.inr ⟨Or.inl rfl, by omega, rfl, hl, hg, fun _ => h9, fun _ => rfl⟩))⟩
  · exact ⟨s, s + 1, 4, a1, a3, a4, by omega, by omega, Or.inr (Or.inr (Or.inr ⟨Or.inr rfl, by omega, rfl, hl, hg, fun z => absurd z (by decide), fun z => absurd z h9⟩))⟩
/-! the class -/
theorem X_sp {b : Nat → Int32} {L s : Nat} {μ : zM} (hb : ∀ z, z < L → μ.1 55 0 z = b z) (hl : μ.1 7 0 1 = nI L) (hL : L ≤ 900) (hs : s ≤ L) (he : s = L ∨ ¬ isSp (b s)) : ∀ d m f, m + d = s → d < f → (∀ z, m ≤ z → z < s → isSp (b z)) → tX7_findToken_5 f (mS μ 7 0 2 (nI m)) = tX7_findToken_57 (mS μ 7 0 2 (nI s)) := by
  have e1 : ∀ m, (mS μ 7 0 2 (nI m)).1 7 0 1 = nI L := fun m => by rw [mS_n _ _ _ _ _ _ _ _ (by decide)]; exact hl
  have e2 : ∀ m p, p < L → qB (mS μ 7 0 2 (nI m)) (55, 0) (nI p) = some (b p) := fun m p hp => by rw [qB_in (zS_55 0) rfl (by omega) (by decide), mS_k _ _ _ _ _ _ _ _ (by decide), hb p hp]
  intro d
  induction d with
  | zero =>
    intro m f h1 h2 h3
    obtain ⟨f, rfl⟩ : ∃ f', f = f' + 1 := ⟨f - 1, by omega⟩
    have : m = s := by omega
    subst this
    rw [eX7_findToken_5, mS_same, e1]
    by_cases g : m < L
    · have hn := he.resolve_left (by omega)
      rw [zif_pos (nI_lt g (by omega)), e2 m m g, Option.bind_some, zif_neg (fun z => hn (Or.inl z)), Option.bind_some, zif_neg (fun z => hn (Or.inr z))]
    · rw [zif_neg (nI_nlt (by omega) (by omega))]
  | succ d ih =>
    intro m f h1 h2 h3
    obtain ⟨f, rfl⟩ : ∃ f', f = f' + 1 := ⟨f - 1, by omega⟩
    have e44 : tX7_findToken_44 f (mS μ 7 0 2 (nI m)) = tX7_findToken_57 (mS μ 7 0 2 (nI s)) := by
      rw [eX7_findToken_44, zlet_eq, mS_same, mS_mS, nI_1]
      exact ih (m + 1) f (by omega) (by omega) (fun z a c => h3 z (by omega) c)
    rw [eX7_findToken_5, mS_same, e1, zif_pos (nI_lt (show m < L by omega) (by omega)), e2 m m (by omega), Option.bind_some]
    by_cases g : b m = 32
    · rw [zif_pos g, e44]
    · rw [zif_neg g, Option.bind_some, zif_pos ((h3 m (Nat.le_refl _) (by omega)).resolve_left g), e44]
theorem X_lt {b : Nat → Int32} {L e : Nat} {μ : zM} (hb : ∀ z, z < L → μ.1 55 0 z = b z) (hl : μ.1 7 0 1 = nI L) (hL : L ≤ 900) (hs : e ≤ L) (he : e = L ∨ ¬ isLt (b e)) : ∀ d m f, m + d = e → d < f → (∀ z, m ≤ z → z < e → isLt (b z)) → tX7_findToken_65 f (mS μ 7 0 3 (nI m)) = tX7_findToken_117 (mS μ 7 0 3 (nI e)) := by
  have e1 : ∀ m, (mS μ 7 0 3 (nI m)).1 7 0 1 = nI L := fun m => by rw [mS_n _ _ _ _ _ _ _ _ (by decide)]; exact hl
  have e2 : ∀ m p, p < L → qB (mS μ 7 0 3 (nI m)) (55, 0) (nI p) = some (b p) := fun m p hp => by rw [qB_in (zS_55 0) rfl (by omega) (by decide), mS_k _ _ _ _ _ _ _ _ (by decide), hb p hp]
  intro d
  induction d with
  | zero =>
    intro m f h1 h2 h3
    obtain ⟨f, rfl⟩ : ∃ f', f = f' + 1 := ⟨f - 1, by omega⟩
    have : m = e := by omega
    subst this
    rw [eX7_findToken_65, mS_same, e1]
    by_cases g : m < L
    · have hn := he.resolve_left (by omega)
      rw [zif_pos (nI_lt g (by omega)), e2 m m g, Option.bind_some]
      by_cases q : b m < 97
      · rw [zif_pos q]
      · rw [zif_neg q, Option.bind_some, zif_pos (Decidable.not_not.mp (fun y => hn ⟨q, y⟩))]
    · rw [zif_neg (nI_nlt (by omega) (by omega))]
  | succ d ih =>
    intro m f h1 h2 h3
    obtain ⟨f, rfl⟩ : ∃ f', f = f' + 1 := ⟨f - 1, by omega⟩
    have hm := h3 m (Nat.le_refl _) (by omega)
    rw [eX7_findToken_65, mS_same, e1, zif_pos (nI_lt (show m < L by omega) (by omega)), e2 m m (by omega), Option.bind_some, zif_neg hm.1, Option.bind_some, zif_neg hm.2, zlet_eq, mS_mS, nI_1]
    exact ih (m + 1) f (by omega) (by omega) (fun z a c => h3 z (by omega) c)
theorem X_dg {b : Nat → Int32} {L s e : Nat} {μ : zM} (hb : ∀ z, z < L → μ.1 55 0 z = b z) (hl : μ.1 7 0 1 = nI L) (hL : L ≤ 900) (hs : e ≤ L) (he : e = L ∨ ¬ isDg (b e)) : ∀ d k f, s + k + d = e → d < f → (∀ z, s + k ≤ z → z < e → isDg (b z)) → tX7_findToken_136 f 0 (VV b s k) (mS μ 7 0 3 (nI (s + k))) = tX7_findToken_210 0 (VV b s (k + d)) (mS μ 7 0 3 (nI e)) := by
  have e1 : ∀ m, (mS μ 7 0 3 (nI m)).1 7 0 1 = nI L := fun m => by rw [mS_n _ _ _ _ _ _ _ _ (by decide)]; exact hl
  have e2 : ∀ m p, p < L → qB (mS μ 7 0 3 (nI m)) (55, 0) (nI p) = some (b p) := fun m p hp => by rw [qB_in (zS_55 0) rfl (by omega) (by decide), mS_k _ _ _ _ _ _ _ _ (by decide), hb p hp]
  intro d
  induction d with
  | zero =>
    intro k f h1 h2 h3
    obtain ⟨f, rfl⟩ : ∃ f', f = f' + 1 := ⟨f - 1, by omega⟩
    have : e = s + k := by omega
    subst this
    rw [eX7_findToken_136, zif_pos rfl, mS_same, e1]
    by_cases g : s + k < L
    · have hn := he.resolve_left (by omega)
      rw [zif_pos (nI_lt g (by omega)), e2 _ _ g, Option.bind_some]
      by_cases q : b (s + k) < 48
      · rw [zif_pos q]; rfl
      · rw [zif_neg q, Option.bind_some, zif_pos (Decidable.not_not.mp (fun y => hn ⟨q, y⟩))]; rfl
    · rw [zif_neg (nI_nlt (by omega) (by omega))]; rfl
  | succ d ih =>
    intro k f h1 h2 h3
    obtain ⟨f, rfl⟩ : ∃ f', f = f' + 1 := ⟨f - 1, by omega⟩
    have hm := h3 (s + k) (Nat.le_refl _) (by omega)
    rw [eX7_findToken_136, zif_pos rfl, mS_same, e1, zif_pos (nI_lt (show s + k < L by omega) (by omega)), e2 _ _ (by omega), Option.bind_some, zif_neg hm.1, Option.bind_some, zif_neg hm.2, Option.bind_some, eX7_findToken_197, zlet_eq, mS_same, mS_mS, nI_1]
    have := ih (k + 1) f (by omega) (by omega) (fun z a c => h3 z (by omega) c)
    rw [show s + (k + 1) = s + k + 1 by omega, show k + 1 + d = k + (d + 1) by omega] at this
    exact this
noncomputable def xvl (b : Nat → Int32) (s e κ : Nat) : Int32 := if κ = 2 then VV b s (e - s) else -1
def XT (μ μ' : zM) (b : Nat → Int32) (s e κ : Nat) : Prop := μ'.1 7 0 2 = nI s ∧ μ'.1 7 0 3 = nI e ∧ μ'.1 7 0 4 = xvl b s e κ ∧ μ'.2 = μ.2 ∧ ∀ k i z, ¬ (k = 7 ∧ i = 0 ∧ 2 ≤ z ∧ z ≤ 4) → μ'.1 k i z = μ.1 k i z
theorem XT.mk {μ : zM} {b : Nat → Int32} {s e κ : Nat} {v : Int32} (h : v = xvl b s e κ) : XT μ (mS (mS (mS μ 7 0 2 (nI s)) 7 0 3 (nI e)) 7 0 4 v) b s e κ := by
  refine ⟨by simp [mS_1], by simp [mS_1], by rw [mS_same]; exact h, rfl, fun k i z n => ?_⟩
  rw [mS_1, if_neg (by omega), mS_1, if_neg (by omega), mS_1, if_neg (by omega)]
theorem X_find {b : Nat → Int32} {L e0 s e κ : Nat} {μ : zM} (hb : ∀ z, z < L → μ.1 55 0 z = b z) (hl : μ.1 7 0 1 = nI L) (hL : L ≤ 900) (h0 : e0 ≤ s) (hsp : ∀ z, e0 ≤ z → z < s → isSp (b z)) (hs : s = L ∨ ¬ isSp (b s)) (tk : TK b L s e κ) {x : Int32} (hx : x = nI e0) : ∃ μ', tX7_findToken_0 x μ = some (none, μ') ∧ XT μ μ' b s e κ := by
  subst hx
  obtain ⟨t1, t2, t3⟩ := tk
  have hb2 : ∀ z, z < L → (mS μ 7 0 2 (nI s)).1 55 0 z = b z := fun z hz => by rw [mS_k _ _ _ _ _ _ _ _ (by decide)]; exact hb z hz
  have hl2 : (mS μ 7 0 2 (nI s)).1 7 0 1 = nI L := by rw [mS_n _ _ _ _ _ _ _ _ (by decide)]; exact hl
  have e0' : tX7_findToken_0 (nI e0) μ = tX7_findToken_65 zN (mS (mS μ 7 0 2 (nI s)) 7 0 3 (nI s)) := by
    rw [eX7_findToken_0, zlet_eq, zN_eq, X_sp hb hl hL (by omega) hs (s - e0) e0 100000 (by omega) (by omega) hsp, eX7_findToken_57, zlet_eq, mS_same, zN_eq]
  have eR : ∀ m v, nI s ≠ nI m → tX7_findToken_256 v (mS (mS μ 7 0 2 (nI s)) 7 0 3 (nI m)) = some (none, mS (mS (mS μ 7 0 2 (nI s)) 7 0 3 (nI m)) 7 0 4 v) := fun m v hm => by
    rw [eX7_findToken_256, zlet_eq, zif_neg (by simp [mS_1]; exact fun z => hm z.symm), eX7_findToken_291]
  have r1 : ∀ m, (mS (mS μ 7 0 2 (nI s)) 7 0 3 (nI m)).1 7 0 2 = nI s := fun m => by simp [mS_1]
  have r2 : ∀ m, (mS (mS μ 7 0 2 (nI s)) 7 0 3 (nI m)).1 7 0 3 = nI m := fun m => by simp [mS_1]
  have r3 : ∀ m, (mS (mS μ 7 0 2 (nI s)) 7 0 3 (nI m)).1 7 0 1 = nI L := fun m => by rw [mS_n _ _ _ _ _ _ _ _ (by decide)]; exact hl2
  have nlt : ¬ nI s < nI s := nI_nlt (Nat.le_refl _) (by omega)
  -- neither letters nor digits
  have eN : (s = L ∨ ¬ isLt (b s)) → (s = L ∨ ¬ isDg (b s)) → tX7_findToken_0 (nI e0) μ = tX7_findToken_256 (-1) (mS (mS μ 7 0 2 (nI s)) 7 0 3 (nI s)) := fun q1 q2 => by
    rw [e0', zN_eq, X_lt hb2 hl2 hL (by omega) q1 0 s 100000 rfl (by decide) (fun z a c => absurd a (by omega)), eX7_findToken_117, r1, r2, zif_neg nlt, eX7_findToken_133, eX7_findToken_134, zN_eq]
    have := X_dg (s := s) hb2 hl2 hL (by omega) q2 0 0 100000 rfl (by decide) (fun z a c => absurd a (by omega))
    rw [show s + 0 = s from rfl, show VV b s 0 = 0 from rfl] at this
    rw [this, eX7_findToken_210, zif_pos rfl, r1, r2, zif_neg nlt, eX7_findToken_242, eX7_findToken_243, eX7_findToken_245, zif_pos rfl]
  rcases t3 with ⟨k, hsL, heL⟩ | ⟨k, hse, hlt, hst⟩ | ⟨k, hse, hnl, hdg, hst, h5⟩ | ⟨k, hsL, he, hnl, hnd, h9⟩
  · refine ⟨_, ?_, XT.mk (show (-1 : Int32) = xvl b s e κ by unfold xvl; rw [if_neg (by omega)])⟩
    rw [eN (Or.inl hsL) (Or.inl hsL), eX7_findToken_256, zlet_eq, zif_pos (by simp [mS_1]), zif_neg (by simp [mS_1, hl, hsL]), eX7_findToken_291, show e = s by omega]
  · refine ⟨_, ?_, XT.mk (show (-1 : Int32) = xvl b s e κ by unfold xvl; rw [if_neg (by omega)])⟩
    rw [e0', zN_eq, X_lt hb2 hl2 hL t2 hst (e - s) s 100000 (by omega) (by omega) hlt, eX7_findToken_117, r1, r2, zif_pos (nI_lt hse (by omega)), eX7_findToken_133, eX7_findToken_134, zN_eq, show (100000 : Nat) = 99999 + 1 from rfl, eX7_findToken_136, zif_neg (by decide), eX7_findToken_210, zif_neg (by decide), eX7_findToken_242, eX7_findToken_243, eX7_findToken_245, zif_pos rfl, eR e _ (nI_ne (by omega) (by omega) (by omega))]
  · have hd := X_dg (s := s) hb2 hl2 hL t2 hst (e - s) 0 100000 (by omega) (by omega) hdg
    rw [show s + 0 = s from rfl, show VV b s 0 = 0 from rfl, Nat.zero_add] at hd
    have hq : tX7_findToken_0 (nI e0) μ = tX7_findToken_210 0 (VV b s (e - s)) (mS (mS μ 7 0 2 (nI s)) 7 0 3 (nI e)) := by
      rw [e0', zN_eq, X_lt hb2 hl2 hL (by omega) (Or.inr hnl) 0 s 100000 rfl (by decide) (fun z a c => absurd a (by omega)), eX7_findToken_117, r1, r2, zif_neg nlt, eX7_findToken_133, eX7_findToken_134, zN_eq, hd]
    by_cases g : e - s ≤ 5
    · refine ⟨_, ?_, XT.mk (show VV b s (e - s) = xvl b s e κ by unfold xvl; rw [if_pos (h5.mpr g)])⟩
      rw [hq, eX7_findToken_210, zif_pos rfl, r1, r2, zif_pos (nI_lt hse (by omega)), pk_sub (by omega), zif_neg (show ¬ (5 : Int32) < nI (e - s) from fun z => by
        have := (nI_ltI (a := 5) (by decide) (by omega)).mp z
        omega), eX7_findToken_243, eX7_findToken_245, zif_neg (by decide), eR e _ (nI_ne (by omega) (by omega) (by omega))]
    · refine ⟨_, ?_, XT.mk (show (-1 : Int32) = xvl b s e κ by unfold xvl; rw [if_neg (fun z => g (h5.mp z))])⟩
      rw [hq, eX7_findToken_210, zif_pos rfl, r1, r2, zif_pos (nI_lt hse (by omega)), pk_sub (by omega), zif_pos (show (5 : Int32) < nI (e - s) from nI_lt (a := 5) (by omega) (by omega)), eX7_findToken_242, eX7_findToken_243, eX7_findToken_245, zif_pos rfl, eR e _ (nI_ne (by omega) (by omega) (by omega))]
  · refine ⟨_, ?_, XT.mk (show (-1 : Int32) = xvl b s e κ by unfold xvl; rw [if_neg (by omega)])⟩
    rw [eN (Or.inr hnl) (Or.inr hnd), eX7_findToken_256, zlet_eq, zif_pos (by simp [mS_1]), zif_pos (by simp [mS_1, hl]; exact nI_lt hsL (by omega)), zlet_eq, eX7_findToken_291]
    have : ∀ v : Int32, mS (mS (mS (mS μ 7 0 2 (nI s)) 7 0 3 (nI s)) 7 0 4 (-1)) 7 0 3 v = mS (mS (mS μ 7 0 2 (nI s)) 7 0 3 v) 7 0 4 (-1) := fun v => by
      refine Prod.ext (funext fun k => funext fun i => funext fun z => ?_) rfl
      simp only [mS_1]
      by_cases a1 : k = 7 ∧ i = 0 ∧ z = 3
      · rw [if_pos a1, if_neg (by omega), if_pos a1]
      · rw [if_neg a1, if_neg a1, if_neg a1]
    rw [this, show (mS (mS (mS μ 7 0 2 (nI s)) 7 0 3 (nI s)) 7 0 4 (-1)).1 7 0 3 = nI s from by simp [mS_1], nI_1, he]
