/-! the reference -/
theorem qP_w (m : zM) (x : Int64) : qP m (11, 0) 9 (.inr (.inl x)) = some (m.1, m.2.1, zupL m.2.2 (11, 0) 9 x) := by
  rw [qP_eq]
  rfl
theorem qP_f {m : zM} {x : Int32} (h : x = 0 ∨ x = 1) : qP m (11, 0) 10 (.inl x) = some (mS m 11 0 10 x) := by
  rw [qP_eq]
  show (if x = 0 ∨ x = 1 then _ else _) = _
  rw [if_pos h]
  rfl
theorem zupL_same (f : Nat → Nat → Nat → Int64) (k i n : Nat) (v : Int64) : zupL f (k, i) n v k i n = v := by
  unfold zupL
  exact if_pos ⟨rfl, rfl, rfl⟩
def MF (ν m : zM) : Prop := m.2.1 = ν.2.1 ∧ (∀ k i z, ¬ (k = 11 ∧ i = 0 ∧ 5 ≤ z ∧ z ≤ 9) → m.1 k i z = ν.1 k i z) ∧ ∀ k i z, ¬ (k = 11 ∧ i = 0 ∧ z = 9) → m.2.2 k i z = ν.2.2 k i z
theorem MF.r (ν : zM) : MF ν ν := ⟨rfl, fun _ _ _ _ => rfl, fun _ _ _ _ => rfl⟩
theorem MF.s {ν m : zM} (h : MF ν m) {z : Nat} {v : Int32} (hz : 5 ≤ z ∧ z ≤ 9) : MF ν (mS m 11 0 z v) := ⟨h.1, fun k i y n => by rw [mS_1, if_neg (by omega)]; exact h.2.1 k i y n, h.2.2⟩
theorem MF.w {ν m : zM} (h : MF ν m) {x : Int64} : MF ν (m.1, m.2.1, zupL m.2.2 (11, 0) 9 x) := ⟨h.1, h.2.1, fun k i y n => by
  show (if k = 11 ∧ i = 0 ∧ y = 9 then x else m.2.2 k i y) = _
  rw [if_neg n]
  exact h.2.2 k i y n⟩
theorem M_isAt {m : zM} {b : Nat → Int32} {L p : Nat} {lo hi : Int32} (hb : ∀ z, z < L → m.1 62 0 z = b z) (hl : m.1 11 0 1 = nI L) (hL : L ≤ 900) (hp : m.1 11 0 5 = nI p) (hpL : p ≤ L) (P : Prop) [Decidable P] (hP : P ↔ (p < L ∧ ¬ b p < lo ∧ ¬ hi < b p)) : tX11_isAt_0 lo hi m = some (some (.inl (zb P)), m) := by
  rw [eX11_isAt_0, hp, hl, eX11_isAt_41, eX11_isAt_42, eX11_isAt_42, zif_pos nar_0, zif_pos nar_1]
  by_cases g : p < L
  · rw [zif_pos (nI_lt g (by omega)), qB_in (zS_62 0) rfl (by omega) (by decide), hb p g, Option.bind_some]
    by_cases g1 : b p < lo
    · rw [zif_pos g1, zb_f (fun z => (hP.mp z).2.1 g1)]
    · rw [zif_neg g1, Option.bind_some]
      by_cases g2 : hi < b p
      · rw [zif_pos g2, zb_f (fun z => (hP.mp z).2.2 g2)]
      · rw [zif_neg g2, zb_t (hP.mpr ⟨g, g1, g2⟩)]
  · rw [zif_neg (nI_nlt (by omega) (by omega)), zb_f (fun z => g (hP.mp z).1)]
theorem M_sp {b : Nat → Int32} {L s : Nat} {μ : zM} (hb : ∀ z, z < L → μ.1 62 0 z = b z) (hl : μ.1 11 0 1 = nI L) (hL : L ≤ 900) (hs : s ≤ L) (he : s = L ∨ ¬ isSp (b s)) : ∀ d m f, m + d = s → d < f → (∀ z, m ≤ z → z < s → isSp (b z)) → tX11_next_0 f (mS μ 11 0 5 (nI m)) = tX11_next_52 (mS μ 11 0 5 (nI s)) := by
  have e1 : ∀ m, (mS μ 11 0 5 (nI m)).1 11 0 1 = nI L := fun m => by rw [mS_n _ _ _ _ _ _ _ _ (by decide)]; exact hl
  have e2 : ∀ m p, p < L → qB (mS μ 11 0 5 (nI m)) (62, 0) (nI p) = some (b p) := fun m p hp => by rw [qB_in (zS_62 0) rfl (by omega) (by decide), mS_k _ _ _ _ _ _ _ _ (by decide), hb p hp]
  intro d
  induction d with
  | zero =>
    intro m f h1 h2 h3
    obtain ⟨f, rfl⟩ : ∃ f', f = f' + 1 := ⟨f - 1, by omega⟩
    have : m = s := by omega
    subst this
    rw [eX11_next_0, mS_same, e1]
    by_cases g : m < L
    · have hn := he.resolve_left (by omega)
      rw [zif_pos (nI_lt g (by omega)), e2 m m g, Option.bind_some, zif_neg (fun z => hn (Or.inl z)), Option.bind_some, zif_neg (fun z => hn (Or.inr z))]
    · rw [zif_neg (nI_nlt (by omega) (by omega))]
  | succ d ih =>
    intro m f h1 h2 h3
    obtain ⟨f, rfl⟩ : ∃ f', f = f' + 1 := ⟨f - 1, by omega⟩
    have e44 : tX11_next_39 f (mS μ 11 0 5 (nI m)) = tX11_next_52 (mS μ 11 0 5 (nI s)) := by
      rw [eX11_next_39, zlet_eq, mS_same, mS_mS, nI_1]
      exact ih (m + 1) f (by omega) (by omega) (fun z a c => h3 z (by omega) c)
    rw [eX11_next_0, mS_same, e1, zif_pos (nI_lt (show m < L by omega) (by omega)), e2 m m (by omega), Option.bind_some]
    by_cases g : b m = 32
    · rw [zif_pos g, e44]
    · rw [zif_neg g, Option.bind_some, zif_pos ((h3 m (Nat.le_refl _) (by omega)).resolve_left g), e44]
def MT (ν ν' : zM) (b : Nat → Int32) (s e κ : Nat) : Prop := ν'.1 11 0 5 = nI e ∧ ν'.1 11 0 6 = nI s ∧ ν'.1 11 0 7 = nI κ ∧ (κ = 2 → ν'.1 11 0 8 = VV b s (e - s)) ∧ (κ = 1 → ν'.2.2 11 0 9 = WW b s (e - s)) ∧ MF ν ν'
theorem M_lt {ν : zM} {b : Nat → Int32} {L s e : Nat} (hb : ∀ z, z < L → ν.1 62 0 z = b z) (hl : ν.1 11 0 1 = nI L) (hL : L ≤ 900) (hs : e ≤ L) (he : e = L ∨ ¬ isLt (b e)) : ∀ d k f m, s + k + d = e → d < f → (∀ z, s + k ≤ z → z < e → isLt (b z)) → m.1 11 0 5 = nI (s + k) → m.1 11 0 6 = nI s → m.2.2 11 0 9 = WW b s k → MF ν m → ∃ ν', tX11_next_100 f m = some (none, ν') ∧ MT ν ν' b s e 1 := by
  have hbm : ∀ m, MF ν m → ∀ z, z < L → m.1 62 0 z = b z := fun m q z hz => by rw [q.2.1 _ _ _ (by omega)]; exact hb z hz
  have hlm : ∀ m, MF ν m → m.1 11 0 1 = nI L := fun m q => by rw [q.2.1 _ _ _ (by omega)]; exact hl
  intro d
  induction d with
  | zero =>
    intro k f m h1 h2 h3 m5 m6 m9 mf
    obtain ⟨f, rfl⟩ : ∃ f', f = f' + 1 := ⟨f - 1, by omega⟩
    have : e = s + k := by omega
    subst this
    refine ⟨mS m 11 0 7 1, ?_, by simp [mS_1, m5], by simp [mS_1, m6], mS_same _ _ _ _ _, fun z => absurd z (by decide), fun _ => ?_, mf.s (by omega)⟩
    · rw [eX11_next_100, M_isAt (hbm m mf) (hlm m mf) hL m5 (by omega) False (by refine ⟨fun z => z.elim, fun z => he.elim (fun y => by omega) (fun y => y z.2)⟩), zI_some, zif_pos (show zb False = 0 from by decide), zlet_eq, eX11_next_314]
    · show m.2.2 11 0 9 = _
      rw [m9, show s + k - s = k by omega]
  | succ d ih =>
    intro k f m h1 h2 h3 m5 m6 m9 mf
    obtain ⟨f, rfl⟩ : ∃ f', f = f' + 1 := ⟨f - 1, by omega⟩
    have hm := h3 (s + k) (Nat.le_refl _) (by omega)
    have go : ∀ x, x = WW b s (k + 1) → ∃ ν', tX11_next_153 f x m = some (none, ν') ∧ MT ν ν' b s e 1 := fun x hx => by
      rw [eX11_next_153, qP_w, Option.bind_some, zlet_eq]
      refine ih (k + 1) f _ (by omega) (by omega) (fun z a c => h3 z (by omega) c) ?_ ?_ ?_ ((mf.w).s (by omega))
      · rw [mS_same, m5, nI_1]; rfl
      · rw [mS_n _ _ _ _ _ _ _ _ (by decide)]; exact m6
      · rw [mS_2]
        show zupL m.2.2 (11, 0) 9 x 11 0 9 = _
        rw [zupL_same]
        exact hx
    rw [eX11_next_100, M_isAt (hbm m mf) (hlm m mf) hL m5 (by omega) True (by refine ⟨fun _ => ⟨by omega, hm⟩, fun _ => trivial⟩), zI_some, zif_neg (by decide), m5, m6, pk_sub (by omega), show s + k - s = k by omega]
    by_cases g : k < 8
    · rw [zif_pos (show nI k < 8 from nI_lt g (by decide)), qB_in (zS_62 0) rfl (by omega) (by decide), Option.bind_some, hbm m mf _ (by omega), m9]
      exact go _ (by show _ = if k < 8 then _ else _; rw [if_pos g])
    · rw [zif_neg (show ¬ nI k < 8 from nI_nlt (b := 8) (by omega) (by omega))]
      exact go _ (by show _ = if k < 8 then _ else _; rw [if_neg g])
theorem M_dg {ν : zM} {b : Nat → Int32} {L s e κ : Nat} (hb : ∀ z, z < L → ν.1 62 0 z = b z) (hl : ν.1 11 0 1 = nI L) (hL : L ≤ 900) (hs : e ≤ L) (he : e = L ∨ ¬ isDg (b e)) (hκ : (κ = 2 ∨ κ = 4) ∧ (κ = 2 ↔ e - s ≤ 5)) : ∀ d k f m, s + k + d = e → d < f → (∀ z, s + k ≤ z → z < e → isDg (b z)) → m.1 11 0 5 = nI (s + k) → m.1 11 0 6 = nI s → (k ≤ 5 → m.1 11 0 8 = VV b s k) → MF ν m → ∃ ν', tX11_next_188 f m = some (none, ν') ∧ MT ν ν' b s e κ := by
  have hbm : ∀ m, MF ν m → ∀ z, z < L → m.1 62 0 z = b z := fun m q z hz => by rw [q.2.1 _ _ _ (by omega)]; exact hb z hz
  have hlm : ∀ m, MF ν m → m.1 11 0 1 = nI L := fun m q => by rw [q.2.1 _ _ _ (by omega)]; exact hl
  intro d
  induction d with
  | zero =>
    intro k f m h1 h2 h3 m5 m6 m8 mf
    obtain ⟨f, rfl⟩ : ∃ f', f = f' + 1 := ⟨f - 1, by omega⟩
    have : e = s + k := by omega
    subst this
    refine ⟨mS m 11 0 7 (nI κ), ?_, by simp [mS_1, m5], by simp [mS_1, m6], mS_same _ _ _ _ _, fun z => ?_, fun z => absurd z (by omega), mf.s (by omega)⟩
    · rw [eX11_next_188, M_isAt (hbm m mf) (hlm m mf) hL m5 (by omega) False (by refine ⟨fun z => z.elim, fun z => he.elim (fun y => by omega) (fun y => y z.2)⟩), zI_some, zif_pos (show zb False = 0 from by decide), m5, m6, pk_sub (by omega), show s + k - s = k by omega]
      by_cases g : k ≤ 5
      · have : κ = 2 := hκ.2.mpr (by omega)
        rw [zif_neg (show ¬ (5 : Int32) < nI k from nI_nlt (b := k) (a := 5) (by omega) (by omega)), eX11_next_275, zlet_eq, eX11_next_314, this]
        rfl
      · have : κ = 4 := hκ.1.resolve_left (fun z => by have := hκ.2.mp z; omega)
        rw [zif_pos (show (5 : Int32) < nI k from nI_lt (a := 5) (by omega) (by omega)), eX11_next_275, zlet_eq, eX11_next_314, this]
        rfl
    · have := hκ.2.mp z
      rw [mS_n _ _ _ _ _ _ _ _ (by decide), m8 (by omega), show s + k - s = k by omega]
  | succ d ih =>
    intro k f m h1 h2 h3 m5 m6 m8 mf
    obtain ⟨f, rfl⟩ : ∃ f', f = f' + 1 := ⟨f - 1, by omega⟩
    have hm := h3 (s + k) (Nat.le_refl _) (by omega)
    have go : ∀ x, (k + 1 ≤ 5 → x = VV b s (k + 1)) → ∃ ν', tX11_next_240 f x m = some (none, ν') ∧ MT ν ν' b s e κ := fun x hx => by
      rw [eX11_next_240, zlet_eq, zlet_eq]
      refine ih (k + 1) f _ (by omega) (by omega) (fun z a c => h3 z (by omega) c) ?_ ?_ (fun z => ?_) ((mf.s (by omega)).s (by omega))
      · rw [mS_same, mS_n _ _ _ _ _ _ _ _ (by decide), m5, nI_1]; rfl
      · simp [mS_1, m6]
      · rw [← hx z]; simp [mS_1]
    rw [eX11_next_188, M_isAt (hbm m mf) (hlm m mf) hL m5 (by omega) True (by refine ⟨fun _ => ⟨by omega, hm⟩, fun _ => trivial⟩), zI_some, zif_neg (by decide), m5, m6, pk_sub (by omega), show s + k - s = k by omega]
    by_cases g : k < 5
    · rw [zif_pos (show nI k < 5 from nI_lt g (by decide)), qB_in (zS_62 0) rfl (by omega) (by decide), Option.bind_some, hbm m mf _ (by omega), m8 (by omega)]
      refine go _ (fun _ => ?_)
      show _ = VV b s k * 10 + (b (s + k) - 48)
      rw [Int32.mul_comm, Int32.sub_eq_add_neg, Int32.sub_eq_add_neg, Int32.add_assoc]
    · rw [zif_neg (show ¬ nI k < 5 from nI_nlt (b := 5) (by omega) (by omega))]
      exact go _ (fun z => absurd z (by omega))
theorem M_next {b : Nat → Int32} {L e0 s e κ : Nat} {ν : zM} (hb : ∀ z, z < L → ν.1 62 0 z = b z) (hl : ν.1 11 0 1 = nI L) (hL : L ≤ 900) (h0 : e0 ≤ s) (hsp : ∀ z, e0 ≤ z → z < s → isSp (b z)) (hs : s = L ∨ ¬ isSp (b s)) (tk : TK b L s e κ) (hx : ν.1 11 0 5 = nI e0) : ∃ ν', tX11_next_0 zN ν = some (none, ν') ∧ MT ν ν' b s e κ := by
  obtain ⟨t1, t2, t3⟩ := tk
  have e1 : ν = mS ν 11 0 5 (nI e0) := by
    refine Prod.ext (funext fun k => funext fun i => funext fun z => ?_) rfl
    rw [mS_1]
    by_cases a : k = 11 ∧ i = 0 ∧ z = 5
    · rw [if_pos a, a.1, a.2.1, a.2.2]; exact hx
    · rw [if_neg a]
  have e2 : tX11_next_0 zN ν = tX11_next_52 (mS ν 11 0 5 (nI s)) := by
    rw [zN_eq]
    conv => lhs; rw [e1]
    exact M_sp hb hl hL (by omega) hs (s - e0) e0 100000 (by omega) (by omega) hsp
  generalize hm0 : (mS (mS (mS ν 11 0 5 (nI s)) 11 0 6 (nI s)) 11 0 8 0) = m0
  have f0 : MF ν m0 := by
    rw [← hm0]
    exact (((MF.r ν).s (by omega)).s (by omega)).s (by omega)
  generalize hm1 : ((m0.1, m0.2.1, zupL m0.2.2 (11, 0) 9 0) : zM) = m1
  have f1 : MF ν m1 := by
    rw [← hm1]
    exact f0.w
  have m5 : m1.1 11 0 5 = nI s := by rw [← hm1, ← hm0]; simp [mS_1]
  have m6 : m1.1 11 0 6 = nI s := by rw [← hm1, ← hm0]; simp [mS_1]
  have m8 : m1.1 11 0 8 = 0 := by rw [← hm1, ← hm0]; simp [mS_1]
  have m9 : m1.2.2 11 0 9 = 0 := by
    rw [← hm1]
    show zupL m0.2.2 (11, 0) 9 0 11 0 9 = 0
    rw [zupL_same]
  have bm : ∀ z, z < L → m1.1 62 0 z = b z := fun z hz => by rw [f1.2.1 _ _ _ (by omega)]; exact hb z hz
  have lm : m1.1 11 0 1 = nI L := by rw [f1.2.1 _ _ _ (by omega)]; exact hl
  rw [e2, eX11_next_52, zlet_eq, zlet_eq, mS_same, hm0, qP_w, Option.bind_some, hm1, m5, lm]
  rcases t3 with ⟨k, hsL, heL⟩ | ⟨k, hse, hlt, hst⟩ | ⟨k, hse, hnl, hdg, hst, h5⟩ | ⟨k, hsL, he, hnl, hnd, h9⟩
  · refine ⟨mS m1 11 0 7 0, ?_, ?_, ?_, ?_, fun z => absurd z (by omega), fun z => absurd z (by omega), f1.s (by omega)⟩
    · rw [zif_pos (by rw [hsL]), zlet_eq, eX11_next_314]
    · rw [mS_n _ _ _ _ _ _ _ _ (by decide), m5, show s = e by omega]
    · rw [mS_n _ _ _ _ _ _ _ _ (by decide), m6]
    · rw [mS_same, k]; rfl
  · rw [zif_neg (nI_ne (by omega) (by omega) (by omega)), M_isAt bm lm hL m5 (by omega) True (by refine ⟨fun _ => ⟨by omega, hlt s (Nat.le_refl _) hse⟩, fun _ => trivial⟩), zI_some, zif_neg (by decide), k, zN_eq]
    exact M_lt hb hl hL t2 hst (e - s) 0 100000 m1 (by omega) (by omega) hlt m5 m6 m9 f1
  · rw [zif_neg (nI_ne (by omega) (by omega) (by omega)), M_isAt bm lm hL m5 (by omega) False (by refine ⟨fun z => z.elim, fun z => hnl z.2⟩), zI_some, zif_pos (show zb False = 0 from by decide), M_isAt bm lm hL m5 (by omega) True (by refine ⟨fun _ => ⟨by omega, hdg s (Nat.le_refl _) hse⟩, fun _ => trivial⟩), zI_some, zif_neg (by decide), zN_eq]
    exact M_dg hb hl hL t2 hst ⟨k, h5⟩ (e - s) 0 100000 m1 (by omega) (by omega) hdg m5 m6 (fun _ => m8) f1
  · have go : ∃ ν', tX11_next_301 (nI κ) m1 = some (none, ν') ∧ MT ν ν' b s e κ := by
      refine ⟨mS (mS m1 11 0 7 (nI κ)) 11 0 5 (nI e), ?_, mS_same _ _ _ _ _, ?_, ?_, fun z => absurd z (by omega), fun z => absurd z (by omega), (f1.s (by omega)).s (by omega)⟩
      · rw [eX11_next_301, zlet_eq, zlet_eq, mS_n _ _ _ _ _ _ _ _ (by decide), m5, nI_1, eX11_next_314, he]
      · simp [mS_1, m6]
      · simp [mS_1]
    rw [zif_neg (nI_ne (by omega) (by omega) (by omega)), M_isAt bm lm hL m5 (by omega) False (by refine ⟨fun z => z.elim, fun z => hnl z.2⟩), zI_some, zif_pos (show zb False = 0 from by decide), M_isAt bm lm hL m5 (by omega) False (by refine ⟨fun z => z.elim, fun z => hnd z.2⟩), zI_some, zif_pos (show zb False = 0 from by decide), m5, qB_in (zS_62 0) rfl (by omega) (by decide), Option.bind_some, bm s hsL]
    by_cases g : b s = 59
    · rw [zif_pos g]
      rw [h9.mpr g] at go ⊢
      exact go
    · rw [zif_neg g]
      have : κ = 4 := k.resolve_left (fun z => g (h9.mp z))
      rw [this] at go ⊢
      exact go
