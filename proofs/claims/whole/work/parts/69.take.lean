/-! ===== taking tokens, both sides ===== -/
def TOKP (μ ν : zM) : Prop := ∃ (b : Nat → Int32) (L s e κ : Nat), L ≤ 900 ∧ TK b L s e κ ∧ ((∀ z, z < L → μ.1 55 0 z = b z) ∧ μ.1 7 0 1 = nI L) ∧ ((∀ z, z < L → ν.1 62 0 z = b z) ∧ ν.1 11 0 1 = nI L) ∧ (μ.1 7 0 2 = nI s ∧ μ.1 7 0 3 = nI e ∧ μ.1 7 0 4 = xvl b s e κ) ∧ (ν.1 11 0 5 = nI e ∧ ν.1 11 0 6 = nI s ∧ ν.1 11 0 7 = nI κ ∧ (κ = 2 → ν.1 11 0 8 = VV b s (e - s)) ∧ (κ = 1 → ν.2.2 11 0 9 = WW b s (e - s))) ∧ ν.1 11 0 10 = 1 ∧ ν.1 11 0 2 = -2
def XF (μ μ' : zM) : Prop := μ'.2 = μ.2 ∧ ∀ k i z, ¬ (k = 7 ∧ i = 0 ∧ 2 ≤ z ∧ z ≤ 4) → μ'.1 k i z = μ.1 k i z
theorem XF.r (μ : zM) : XF μ μ := ⟨rfl, fun _ _ _ _ => rfl⟩
theorem XF.t {a b c : zM} (h : XF a b) (g : XF b c) : XF a c := ⟨g.1.trans h.1, fun k i z n => (g.2 k i z n).trans (h.2 k i z n)⟩
theorem MF.t {a b c : zM} (h : MF a b) (g : MF b c) : MF a c := ⟨g.1.trans h.1, fun k i z n => (g.2.1 k i z n).trans (h.2.1 k i z n), fun k i z n => (g.2.2 k i z n).trans (h.2.2 k i z n)⟩
def BAD (μ ν : zM) : Prop := ν.1 11 0 10 = 0 ∧ ν.1 11 0 2 = μ.1 7 0 2
/-- the reference's cells that reading may change -/
def MG (ν ν' : zM) : Prop := ν'.2.1 = ν.2.1 ∧ (∀ k i z, ¬ (k = 11 ∧ i = 0 ∧ (z = 2 ∨ (5 ≤ z ∧ z ≤ 10))) → ¬ (k = 64 ∧ i = 0) → ν'.1 k i z = ν.1 k i z) ∧ ∀ k i z, ¬ (k = 11 ∧ i = 0 ∧ z = 9) → ν'.2.2 k i z = ν.2.2 k i z
theorem MG.r (ν : zM) : MG ν ν := ⟨rfl, fun _ _ _ _ _ => rfl, fun _ _ _ _ => rfl⟩
theorem MG.t {a b c : zM} (h : MG a b) (g : MG b c) : MG a c := ⟨g.1.trans h.1, fun k i z n m => (g.2.1 k i z n m).trans (h.2.1 k i z n m), fun k i z n => (g.2.2 k i z n).trans (h.2.2 k i z n)⟩
theorem MF.g {a b : zM} (h : MF a b) : MG a b := ⟨h.1, fun k i z n _ => h.2.1 k i z (by omega), h.2.2⟩
/-- only the draft changed -/
def MD (ν ν' : zM) : Prop := ν'.2 = ν.2 ∧ ∀ k i z, ¬ (k = 64 ∧ i = 0) → ν'.1 k i z = ν.1 k i z
theorem MD.r (ν : zM) : MD ν ν := ⟨rfl, fun _ _ _ _ => rfl⟩
theorem MD.t {a b c : zM} (h : MD a b) (g : MD b c) : MD a c := ⟨g.1.trans h.1, fun k i z n => (g.2 k i z n).trans (h.2 k i z n)⟩
theorem MD.s {a b : zM} (h : MD a b) (z : Nat) (v : Int32) : MD a (mS b 64 0 z v) := ⟨h.1, fun k i y n => by rw [mS_1, if_neg (fun q => n ⟨q.1, q.2.1⟩)]; exact h.2 k i y n⟩
theorem MD.g {a b : zM} (h : MD a b) : MG a b := ⟨by rw [h.1], fun k i z _ n => h.2 k i z n, fun k i z _ => by rw [h.1]⟩
theorem BAD.d {μ ν ν' : zM} (h : BAD μ ν) (g : MD ν ν') : BAD μ ν' := ⟨by rw [g.2 _ _ _ (by omega)]; exact h.1, by rw [g.2 _ _ _ (by omega)]; exact h.2⟩
theorem TOKP.of {μ μ' ν ν' : zM} (h : TOKP μ ν) (a1 : ∀ z, μ'.1 7 0 z = μ.1 7 0 z) (a2 : ∀ z, μ'.1 55 0 z = μ.1 55 0 z) (a3 : ∀ z, ν'.1 11 0 z = ν.1 11 0 z) (a4 : ∀ z, ν'.1 62 0 z = ν.1 62 0 z) (a5 : ν'.2.2 = ν.2.2) : TOKP μ' ν' := by
  obtain ⟨b, L, s, e, κ, h1, h2, h3, h4, h5, h6, h7⟩ := h
  refine ⟨b, L, s, e, κ, h1, h2, ⟨fun z hz => by rw [a2]; exact h3.1 z hz, by rw [a1]; exact h3.2⟩, ⟨fun z hz => by rw [a4]; exact h4.1 z hz, by rw [a3]; exact h4.2⟩, by rw [a1, a1, a1]; exact h5, by rw [a3, a3, a3, a3, a5]; exact h6, by rw [a3, a3]; exact h7⟩
theorem P_next {μ ν : zM} (h : TOKP μ ν) : ∃ μ' ν', tX7_findToken_0 (μ.1 7 0 3) μ = some (none, μ') ∧ tX11_next_0 zN ν = some (none, ν') ∧ TOKP μ' ν' ∧ XF μ μ' ∧ MF ν ν' := by
  obtain ⟨b, L, s, e, κ, h1, h2, h3, h4, h5, h6, h7⟩ := h
  obtain ⟨s', e', κ', t1, t2, t3, t4⟩ := tok_ex b L e h2.2.1
  obtain ⟨μ', x1, x2, x3, x4, x5, x6⟩ := X_find h3.1 h3.2 h1 t1 t2 t3 t4 h5.2.1
  obtain ⟨ν', m1, m2, m3, m4, m5, m6, m7⟩ := M_next h4.1 h4.2 h1 t1 t2 t3 t4 h6.1
  exact ⟨μ', ν', x1, m1, ⟨b, L, s', e', κ', h1, t4, ⟨fun z hz => by rw [x6 _ _ _ (by omega)]; exact h3.1 z hz, by rw [x6 _ _ _ (by omega)]; exact h3.2⟩, ⟨fun z hz => by rw [m7.2.1 _ _ _ (by omega)]; exact h4.1 z hz, by rw [m7.2.1 _ _ _ (by omega)]; exact h4.2⟩, ⟨x2, x3, x4⟩, ⟨m2, m3, m4, m5, m6⟩, by rw [m7.2.1 _ _ _ (by omega), m7.2.1 _ _ _ (by omega)]; exact h7⟩, ⟨x5, x6⟩, m7⟩
theorem TOKP.fine {μ ν : zM} (h : TOKP μ ν) : ν.1 11 0 10 = 1 := by
  obtain ⟨b, L, s, e, κ, h1, h2, h3, h4, h5, h6, h7⟩ := h
  exact h7.1
theorem TOKP.err {μ ν : zM} (h : TOKP μ ν) : ν.1 11 0 2 = -2 := by
  obtain ⟨b, L, s, e, κ, h1, h2, h3, h4, h5, h6, h7⟩ := h
  exact h7.2
theorem P_takes {μ ν : zM} (h : TOKP μ ν) : ∃ μ' ν', tX7_findToken_0 (μ.1 7 0 3) μ = some (none, μ') ∧ tX11_takes_0 1 ν = some (none, ν') ∧ TOKP μ' ν' ∧ XF μ μ' ∧ MF ν ν' := by
  obtain ⟨μ', ν', a1, a2, a3⟩ := P_next h
  refine ⟨μ', ν', a1, ?_, a3⟩
  rw [eX11_takes_0, h.fine, zif_neg (by decide), zif_neg (by decide), eX11_takes_24, h.fine, zif_neg (by decide), a2, zU_some, eX11_takes_35]
theorem P_takesnot {μ ν : zM} (h : TOKP μ ν) : ∃ ν', tX11_takes_0 0 ν = some (none, ν') ∧ BAD μ ν' ∧ MG ν ν' := by
  refine ⟨mS (mS ν 11 0 10 0) 11 0 2 (ν.1 11 0 6), ?_, ⟨by simp [mS_1], ?_⟩, rfl, fun k i z n _ => ?_, fun _ _ _ _ => rfl⟩
  · rw [eX11_takes_0, h.fine, zif_neg (by decide), zif_pos rfl, qP_f (Or.inl rfl), Option.bind_some, zlet_eq, mS_n _ _ _ _ _ _ _ _ (by decide), eX11_takes_24, zif_pos (by simp [mS_1]), eX11_takes_35]
  · obtain ⟨b, L, s, e, κ, h1, h2, h3, h4, h5, h6, h7⟩ := h
    rw [mS_same, h6.2.1, h5.1]
  · rw [mS_1, if_neg (by omega), mS_1, if_neg (by omega)]
/-! the reference, once something was wrong -/
theorem D_takes {ν : zM} (h : ν.1 11 0 10 = 0) (x : Int32) : tX11_takes_0 x ν = some (none, ν) := by
  rw [eX11_takes_0, zif_pos h, eX11_takes_24, zif_pos h, eX11_takes_35]
theorem D_isWord {ν : zM} (h : ν.1 11 0 10 = 0) (x : Int64) : tX11_isWord_0 x ν = some (some (.inl 0), ν) := by
  rw [eX11_isWord_0, zif_pos h, eX11_isWord_28, eX11_isWord_29, zif_pos nar_0]
theorem D_number {ν : zM} (h : ν.1 11 0 10 = 0) (lo hi : Int32) : tX11_number_0 lo hi ν = some (some (.inl (ν.1 11 0 8)), ν) := by
  rw [eX11_number_0, eX11_number_5, eX11_number_30, eX11_number_31, D_takes h, zU_some, pM_in rfl rfl rfl, zI_some, eX11_number_30, eX11_number_31, eX11_number_31, D_takes h, D_takes h, zU_some]
  by_cases g : ν.1 11 0 7 = 2
  · rw [zif_pos g, zif_eq]
    split <;> rfl
  · rw [zif_neg g]
theorem D_behind {ν : zM} (h : ν.1 11 0 10 = 0) (c : Int64) (lo hi : Int32) : tX11_numberBehind_0 c lo hi ν = some (some (.inl (ν.1 11 0 8)), ν) := by
  rw [eX11_numberBehind_0, D_isWord h, zI_some, D_takes h, zU_some, D_number h, zI_some]
theorem D_uses {ν : zM} (h : ν.1 11 0 10 = 0) (a b c : Int32) : tX11_uses_0 a b c ν = some (none, ν) := by
  rw [eX11_uses_0, zif_pos h, eX11_uses_27]
theorem zS_64 (i : Nat) : zS 64 i = .inr (0, 400, (0, 0)) := rfl
theorem i0_64 : (0 : Int64) = Int32.toInt64 0 := by decide
theorem i59_64 : (59 : Int64) = Int32.toInt64 59 := by decide
theorem D_free {ν : zM} (h : ν.1 11 0 10 = 0) : tX11_freePosition_0 ν = some (some (.inl (ν.1 11 0 8)), ν) := by
  have e65 : ∀ x y, tX11_freePosition_65 x y ν = some (some (.inl x), ν) := fun x y => by rw [eX11_freePosition_65, D_takes h, zU_some]
  have e55 : ∀ (x : Int32) (p : Nat), p < 60 → tX11_freePosition_55 x 20 (nI p) ν = some (some (.inl x), ν) := fun x p hp => by
    rw [eX11_freePosition_55, show (20 : Int32) = nI 20 from rfl, nI_add, qI_in (zS_64 0) rfl (by omega) (by decide), Option.bind_some, e65, eX11_freePosition_64, e65, zif_eq]
    split <;> rfl
  rw [eX11_freePosition_0, eX11_freePosition_5, eX11_freePosition_64, e65, qI_in (x := 0) (p := 0) (zS_64 0) rfl (by decide) (by decide), Option.bind_some, pM_in rfl i0_64 rfl, zI_some, eX11_freePosition_64, e65, pM_in rfl i0_64 i59_64, zI_some]
  have hx : zif (zif (ν.1 11 0 8 < 0 ∨ 59 < ν.1 11 0 8) 0 1 = (0 : Int32)) (tX11_freePosition_55 (ν.1 11 0 8) 20 0 ν) (tX11_freePosition_55 (ν.1 11 0 8) 20 (ν.1 11 0 8) ν) = some (some (.inl (ν.1 11 0 8)), ν) := by
    by_cases q : ν.1 11 0 8 < 0 ∨ 59 < ν.1 11 0 8
    · rw [zif_pos q, zif_pos rfl]
      exact e55 _ 0 (by decide)
    · rw [zif_neg q, zif_neg (by decide)]
      obtain ⟨p, hp, e⟩ := nI_of (fun z => q (Or.inl z))
      rw [e]
      refine e55 _ p ?_
      have hq : ¬ 59 < p := fun z => q (Or.inr (e ▸ (nI_ltI (a := 59) (by decide) hp).mpr z))
      omega
  rw [hx, zif_eq, zif_eq]
  split
  · split <;> rfl
  · rfl
/-! a word, a semicolon, a number -/
theorem wd_cmp {x y : Int64} : lg_cmp x y = 0 ↔ x = y := by
  constructor
  · intro h
    by_cases e : x = y
    · exact e
    · exfalso
      unfold lg_cmp at h
      by_cases g : x > y
      · rw [if_pos g] at h
        exact absurd h (by decide)
      · rw [if_neg g, if_neg e] at h
        exact absurd h (by decide)
  · intro h
    subst h
    unfold lg_cmp
    rw [if_neg (show ¬ x > x from fun z => by
      have z' : x < x := z
      rw [Int64.lt_iff_toInt_lt] at z'
      omega), if_pos rfl]
theorem P_isWord {μ ν : zM} (h : TOKP μ ν) {i : Nat} {c : Int64} (hi : i < 17) (hc : c = Int64.ofNat (wCode i)) : (tX7_isAtWord_0 i μ = some (some (.inl 1), μ) ∧ tX11_isWord_0 c ν = some (some (.inl 1), ν)) ∨ (tX7_isAtWord_0 i μ = some (some (.inl 0), μ) ∧ tX11_isWord_0 c ν = some (some (.inl 0), ν)) := by
  obtain ⟨b, L, s, e, κ, h1, h2, h3, h4, h5, h6, h7⟩ := h
  have hk : κ < 5 := by
    obtain ⟨-, -, t3⟩ := h2
    omega
  rw [X_isAt h3.1 h3.2 h1 h5.1 h5.2.1 h2.1 h2.2.1 (by omega), eX11_isWord_0, h7.1, zif_neg (show ¬ (1 : Int32) = 0 by decide), h6.2.2.1, eX11_isWord_28, eX11_isWord_29, eX11_isWord_29, zif_pos nar_0, zif_pos nar_1, wd_cmp]
  by_cases g : xW b s e i
  · left
    obtain ⟨g1, g2⟩ := (word_iff hi h2).mp g
    rw [zif_pos g, zif_pos (show nI κ = 1 by rw [g1]; rfl), zif_pos (by rw [h6.2.2.2.2 g1, g2, hc])]
    exact ⟨rfl, rfl⟩
  · right
    rw [zif_neg g]
    refine ⟨rfl, ?_⟩
    by_cases g1 : κ = 1
    · rw [zif_pos (show nI κ = 1 by rw [g1]; rfl), zif_neg (fun z => g ((word_iff hi h2).mpr ⟨g1, by rw [← h6.2.2.2.2 g1, z, hc]⟩))]
    · rw [zif_neg (show ¬ nI κ = 1 from nI_ne (b := 1) (by omega) (by decide) g1)]
theorem X_take {μ μ' : zM} {i : Nat} (h : tX7_isAtWord_0 i μ = some (some (.inl 1), μ)) (g : tX7_findToken_0 (μ.1 7 0 3) μ = some (none, μ')) : tX7_takeWord_0 i μ = some (some (.inl 1), μ') := by
  rw [eX7_takeWord_0, h, zI_some, eX7_takeWord_6, zif_neg (by decide), g, zU_some, eX7_takeWord_18, zif_pos nar_1]
theorem X_takenot {μ : zM} {i : Nat} (h : tX7_isAtWord_0 i μ = some (some (.inl 0), μ)) : tX7_takeWord_0 i μ = some (some (.inl 0), μ) := by
  rw [eX7_takeWord_0, h, zI_some, eX7_takeWord_6, zif_pos rfl, eX7_takeWord_18, zif_pos nar_0]
theorem P_word {μ ν : zM} (h : TOKP μ ν) {i : Nat} {c : Int64} (hi : i < 17) (hc : c = Int64.ofNat (wCode i)) : (∃ μ' ν', tX7_takeWord_0 i μ = some (some (.inl 1), μ') ∧ tX11_isWord_0 c ν = some (some (.inl 1), ν) ∧ tX11_takes_0 1 ν = some (none, ν') ∧ TOKP μ' ν' ∧ XF μ μ' ∧ MF ν ν') ∨ (∃ ν', tX7_takeWord_0 i μ = some (some (.inl 0), μ) ∧ tX11_isWord_0 c ν = some (some (.inl 0), ν) ∧ tX11_takes_0 0 ν = some (none, ν') ∧ BAD μ ν' ∧ MG ν ν') := by
  rcases P_isWord h hi hc with ⟨a1, a2⟩ | ⟨a1, a2⟩
  · left
    obtain ⟨μ', ν', t1, t2, t3⟩ := P_takes h
    exact ⟨μ', ν', X_take a1 t1, a2, t2, t3⟩
  · right
    obtain ⟨ν', t1, t2⟩ := P_takesnot h
    exact ⟨ν', X_takenot a1, a2, t1, t2⟩
theorem P_semi {μ ν : zM} (h : TOKP μ ν) : (∃ μ' ν', tX7_takeWord_0 17 μ = some (some (.inl 1), μ') ∧ ν.1 11 0 7 = 3 ∧ tX11_takes_0 1 ν = some (none, ν') ∧ TOKP μ' ν' ∧ XF μ μ' ∧ MF ν ν') ∨ (∃ ν', tX7_takeWord_0 17 μ = some (some (.inl 0), μ) ∧ ¬ ν.1 11 0 7 = 3 ∧ tX11_takes_0 0 ν = some (none, ν') ∧ BAD μ ν' ∧ MG ν ν') := by
  have h' := h
  obtain ⟨b, L, s, e, κ, h1, h2, h3, h4, h5, h6, h7⟩ := h'
  have hk : κ < 5 := by
    obtain ⟨-, -, t3⟩ := h2
    omega
  have e1 := X_isAt h3.1 h3.2 h1 h5.1 h5.2.1 h2.1 h2.2.1 (i := 17) (by omega)
  rw [h6.2.2.1]
  by_cases g : xW b s e 17
  · left
    rw [zif_pos g] at e1
    obtain ⟨μ', ν', t1, t2, t3⟩ := P_takes h
    exact ⟨μ', ν', X_take e1 t1, by rw [(semi_iff h2).mp g]; rfl, t2, t3⟩
  · right
    rw [zif_neg g] at e1
    obtain ⟨ν', t1, t2⟩ := P_takesnot h
    exact ⟨ν', X_takenot e1, nI_ne (b := 3) (by omega) (by decide) (fun z => g ((semi_iff h2).mpr z)), t1, t2⟩
theorem P_val {μ ν : zM} (h : TOKP μ ν) {lo hi : Int32} (h0 : ¬ lo < 0) : (∃ v μ' ν', tX7_takeValue_0 lo hi μ = some (some (.inl v), μ') ∧ tX11_number_0 lo hi ν = some (some (.inl v), ν') ∧ (¬ v < lo ∧ ¬ hi < v) ∧ TOKP μ' ν' ∧ XF μ μ' ∧ MF ν ν') ∨ (∃ v ν', tX7_takeValue_0 lo hi μ = some (some (.inl (-1)), μ) ∧ tX11_number_0 lo hi ν = some (some (.inl v), ν') ∧ BAD μ ν' ∧ MG ν ν') := by
  have h' := h
  obtain ⟨b, L, s, e, κ, h1, h2, h3, h4, h5, h6, h7⟩ := h'
  have hk : κ < 5 := by
    obtain ⟨-, -, t3⟩ := h2
    omega
  obtain ⟨νn, n1, n2, n3⟩ := P_takesnot h
  rw [eX7_takeValue_0, eX7_takeValue_5, h5.2.2, eX11_number_0, eX11_number_5, h6.2.2.1, eX7_takeValue_15, eX11_number_30, eX11_number_31, n1, zU_some]
  by_cases g : κ = 2
  · have ex : xvl b s e κ = VV b s (e - s) := by unfold xvl; rw [if_pos g]
    rw [zif_pos (show nI κ = 2 by rw [g]; rfl), ex, h6.2.2.2.1 g, pM_in rfl rfl rfl, zI_some]
    by_cases q : VV b s (e - s) < lo ∨ hi < VV b s (e - s)
    · right
      refine ⟨VV b s (e - s), νn, ?_, ?_, n2, n3⟩
      · rcases q with q | q
        · rw [zif_pos q]
        · rw [zif_pos q, zif_eq]; split <;> rfl
      · rw [zif_pos q, zif_pos rfl, eX11_number_30, eX11_number_31, n1, zU_some]
    · left
      obtain ⟨μ', ν', t1, t2, t3⟩ := P_takes h
      refine ⟨VV b s (e - s), μ', ν', ?_, ?_, ⟨fun z => q (Or.inl z), fun z => q (Or.inr z)⟩, t3⟩
      · rw [zif_neg (fun z => q (Or.inl z)), zif_neg (fun z => q (Or.inr z)), t1, zU_some]
      · rw [zif_neg q, zif_neg (by decide), eX11_number_31, t2, zU_some]
  · right
    have ex : xvl b s e κ = -1 := by unfold xvl; rw [if_neg g]
    refine ⟨ν.1 11 0 8, νn, ?_, ?_, n2, n3⟩
    · rw [ex, zif_pos (show (-1 : Int32) < lo from by
        rw [Int32.lt_iff_toInt_lt] at *
        have e1 : (-1 : Int32).toInt = -1 := by decide
        have e2 : (0 : Int32).toInt = 0 := by decide
        omega)]
    · rw [zif_neg (show ¬ nI κ = 2 from nI_ne (b := 2) (by omega) (by decide) g)]
theorem BAD.x {μ μ' ν : zM} (h : BAD μ ν) (e : μ'.1 7 0 2 = μ.1 7 0 2) : BAD μ' ν := ⟨h.1, h.2.trans e.symm⟩
theorem P_named {μ ν : zM} (h : TOKP μ ν) {i : Nat} {c : Int64} {lo hi : Int32} (hi' : i < 17) (hc : c = Int64.ofNat (wCode i)) (h0 : ¬ lo < 0) : (∃ v μ' ν', tX7_takeNamed_0 i lo hi μ = some (some (.inl v), μ') ∧ tX11_numberBehind_0 c lo hi ν = some (some (.inl v), ν') ∧ (¬ v < lo ∧ ¬ hi < v) ∧ TOKP μ' ν' ∧ XF μ μ' ∧ MF ν ν') ∨ (∃ v μ' ν', tX7_takeNamed_0 i lo hi μ = some (some (.inl (-1)), μ') ∧ tX11_numberBehind_0 c lo hi ν = some (some (.inl v), ν') ∧ BAD μ' ν' ∧ XF μ μ' ∧ MG ν ν') := by
  rw [eX7_takeNamed_0, eX11_numberBehind_0]
  rcases P_isWord h hi' hc with ⟨a1, a2⟩ | ⟨a1, a2⟩
  · obtain ⟨μ1, ν1, t1, t2, t3, t4, t5⟩ := P_takes h
    rw [a1, zI_some, zif_neg (by decide), t1, zU_some, a2, zI_some, t2, zU_some]
    rcases P_val t3 h0 (hi := hi) with ⟨v, μ', ν', v1, v2, v3, v4, v5, v6⟩ | ⟨v, ν', v1, v2, v3, v4⟩
    · left
      exact ⟨v, μ', ν', by rw [v1, zI_some], by rw [v2, zI_some], v3, v4, t4.t v5, t5.t v6⟩
    · right
      exact ⟨v, μ1, ν', by rw [v1, zI_some], by rw [v2, zI_some], v3, t4, t5.g.t v4⟩
  · right
    obtain ⟨ν', t1, t2, t3⟩ := P_takesnot h
    exact ⟨ν'.1 11 0 8, μ, ν', by rw [a1, zI_some, zif_pos rfl], by rw [a2, zI_some, t1, zU_some, D_number t2.1, zI_some], t2, XF.r μ, t3⟩
