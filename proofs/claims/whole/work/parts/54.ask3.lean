/-! ===== questions that count ===== -/
noncomputable def cntA (P : Nat → Prop) (a : Nat) : Nat → Nat
  | 0 => 0
  | m + 1 => cntA P a m + zif (P (a + m)) 1 0
theorem cntA_succ (P : Nat → Prop) (a m : Nat) : cntA P a (m + 1) = cntA P a m + zif (P (a + m)) 1 0 := rfl
theorem cntP_F (P : Nat → Prop) : ∀ k, cntP P k = cntA P 0 k
  | 0 => rfl
  | k + 1 => by rw [cntP_succ, cntA_succ, cntP_F P k, Nat.zero_add]
theorem cntA_add (P : Nat → Prop) (a m : Nat) : ∀ m', cntA P a (m + m') = cntA P a m + cntA P (a + m) m'
  | 0 => rfl
  | m' + 1 => by rw [← Nat.add_assoc, cntA_succ, cntA_succ, cntA_add P a m m', Nat.add_assoc, Nat.add_assoc a m m']
theorem cntA_congr {P P' : Nat → Prop} {a a' : Nat} : ∀ m, (∀ k, k < m → (P (a + k) ↔ P' (a' + k))) → cntA P a m = cntA P' a' m
  | 0, _ => rfl
  | m + 1, h => by rw [cntA_succ, cntA_succ, cntA_congr m (fun k hk => h k (by omega)), propext (h m (by omega))]
theorem cntP_congr {P P' : Nat → Prop} {n : Nat} (h : ∀ k, k < n → (P k ↔ P' k)) : cntP P n = cntP P' n := by
  rw [cntP_F, cntP_F]
  exact cntA_congr n (fun k hk => by rw [Nat.zero_add]; exact h k hk)
theorem zslot_lo {n t p : Nat} (ht : t < n) (hp : p < t) : zslot n t p = p + (n - t) := by
  unfold zslot
  rw [Nat.mod_eq_of_lt (by omega)]
  omega
theorem zslot_hi {n t k : Nat} (ht : t < n) (hk : k < n - t) : zslot n t (t + k) = k := by
  unfold zslot
  rw [show t + k + n - t = k + n by omega, Nat.add_mod_right, Nat.mod_eq_of_lt (by omega)]
/-- counted by slots, or by positions -/
theorem cntP_rot {P P' : Nat → Prop} {n t : Nat} (ht : t < n) (h : ∀ p, p < n → (P (zslot n t p) ↔ P' p)) : cntP P n = cntP P' n := by
  have e1 : cntP P n = cntA P 0 (n - t) + cntA P (n - t) t := by
    rw [cntP_F]
    have := cntA_add P 0 (n - t) t
    rw [show n - t + t = n by omega, Nat.zero_add] at this
    exact this
  have e2 : cntP P' n = cntA P' 0 t + cntA P' t (n - t) := by
    rw [cntP_F]
    have := cntA_add P' 0 t (n - t)
    rw [show t + (n - t) = n by omega, Nat.zero_add] at this
    exact this
  have e3 : cntA P 0 (n - t) = cntA P' t (n - t) := cntA_congr _ (fun k hk => by
    have := h (t + k) (by omega)
    rw [zslot_hi ht hk] at this
    rw [Nat.zero_add]
    exact this)
  have e4 : cntA P (n - t) t = cntA P' 0 t := cntA_congr _ (fun k hk => by
    have := h k (by omega)
    rw [zslot_lo ht hk] at this
    rw [Nat.zero_add, Nat.add_comm]
    exact this)
  rw [e1, e2, e3, e4, Nat.add_comm]
theorem cntP_or {P P1 P2 : Nat → Prop} {n : Nat} (h : ∀ k, k < n → (P k ↔ P1 k ∨ P2 k) ∧ ¬ (P1 k ∧ P2 k)) : cntP P1 n + cntP P2 n = cntP P n := by
  induction n with
  | zero => rfl
  | succ n ih =>
    have ih := ih (fun k hk => h k (by omega))
    obtain ⟨h1, h2⟩ := h n (by omega)
    rw [cntP_succ, cntP_succ, cntP_succ]
    by_cases a : P1 n
    · rw [zif_pos a, zif_neg (fun b => h2 ⟨a, b⟩), zif_pos (h1.mpr (Or.inl a))]
      omega
    · rw [zif_neg a]
      by_cases b : P2 n
      · rw [zif_pos b, zif_pos (h1.mpr (Or.inr b))]
        omega
      · rw [zif_neg b, zif_neg (fun z => (h1.mp z).elim a b)]
        omega
def rdX (μ : zM) (i : Nat) (r : Bool) (s : Nat) : Prop := ¬ μ.1 58 i s < 0 ∧ (μ.1 40 (2 * i) s = -2 ↔ r = false)
theorem pX9_riders_loop {μ : zM} {i j n : Nat} {r : Bool} (hj : μ.2.1 9 i 0 = j) (hj2 : j < 2) (hn : μ.1 5 j 0 = nI n) (hn6 : n ≤ 60) : ∀ (m s f : Nat), s + m = n → m < f → tX9_ridersWith_4 f i (wI1 r) (nI (cntP (rdX μ i r) s)) (nI s) μ = some (some (.inl (nI (cntP (rdX μ i r) n))), μ)
  | 0, s, f, hs, hf => by
    obtain ⟨f, rfl⟩ : ∃ q, f = q + 1 := ⟨f - 1, by omega⟩
    rw [eX9_ridersWith_4, hj, zif_pos hj2, hn, zif_neg (nI_nlt (by omega) (by omega)), show s = n by omega]
  | m + 1, s, f, hs, hf => by
    obtain ⟨f, rfl⟩ : ∃ q, f = q + 1 := ⟨f - 1, by omega⟩
    have ih := pX9_riders_loop (r := r) hj hj2 hn hn6 m (s + 1) f (by omega) (by omega)
    rw [cntP_succ] at ih
    have e39 : ∀ a, tX9_ridersWith_39 f i (wI1 r) a (nI s) μ = tX9_ridersWith_4 f i (wI1 r) a (nI (s + 1)) μ := fun a => by rw [eX9_ridersWith_39, eX9_ridersWith_42, nI_1]
    rw [eX9_ridersWith_4, hj, zif_pos hj2, hn, zif_pos (nI_lt (by omega) (by omega)), qI_in (zS_58 i) rfl (show s < 60 by omega) (by decide), Option.bind_some, pX4_has rfl (show s < 60 by omega), zI_some, e39, e39, nI_1]
    by_cases a : μ.1 58 i s < 0
    · rw [zif_neg (fun z => z.1 a), Nat.add_zero] at ih
      rw [zif_pos a, ih]
    · rw [zif_neg a]
      by_cases b : zif (μ.1 40 (2 * i) s = -2) (0 : Int32) 1 = wI1 r
      · have hb : μ.1 40 (2 * i) s = -2 ↔ r = false := by
          by_cases q : μ.1 40 (2 * i) s = -2
          · rw [zif_pos q] at b
            exact ⟨fun _ => (wI1_ne r).2.mp b.symm, fun _ => q⟩
          · rw [zif_neg q] at b
            have := (wI1_ne r).1.mp b.symm
            exact ⟨fun z => absurd z q, fun z => by rw [this] at z; cases z⟩
        rw [zif_pos (show rdX μ i r s from ⟨a, hb⟩)] at ih
        rw [zif_pos b, ih]
      · have hb : ¬ (μ.1 40 (2 * i) s = -2 ↔ r = false) := fun q => b (by
          by_cases y : μ.1 40 (2 * i) s = -2
          · rw [zif_pos y, (wI1_ne r).2.mpr (q.mp y)]
          · rw [zif_neg y]
            cases r with
            | true => rfl
            | false => exact absurd (q.mpr rfl) y)
        rw [zif_neg (show ¬ rdX μ i r s from fun z => hb z.2), Nat.add_zero] at ih
        rw [zif_neg b, ih]
theorem pX9_riders {μ : zM} {i j n : Nat} (r : Bool) (hj : μ.2.1 9 i 0 = j) (hj2 : j < 2) (hn : μ.1 5 j 0 = nI n) (hn6 : n ≤ 60) : tX9_ridersWith_0 i (wI1 r) μ = some (some (.inl (nI (cntP (rdX μ i r) n))), μ) := by
  rw [eX9_ridersWith_0, eX9_ridersWith_2]
  exact pX9_riders_loop hj hj2 hn hn6 n 0 zN (by omega) (by rw [zN_eq]; omega)
section ASK
variable {μ : zM} {c : Nat}
theorem pM_onRing_loop {n : Nat} (hn : μ.1 63 0 0 = nI n) (hn6 : n ≤ 60) : ∀ (m s f : Nat), s + m = n → m < f → tX11_onRing_4 f (nI (cntP (fun p => ¬ μ.1 65 0 (90 + p) < 0) s)) (nI s) μ = some (some (.inl (nI (cntP (fun p => ¬ μ.1 65 0 (90 + p) < 0) n))), μ)
  | 0, s, f, hs, hf => by
    obtain ⟨f, rfl⟩ : ∃ q, f = q + 1 := ⟨f - 1, by omega⟩
    rw [eX11_onRing_4, qI_in (x := 0) (p := 0) (zS_63 0) rfl (by decide) (by decide), Option.bind_some, hn, zif_neg (nI_nlt (by omega) (by omega)), show s = n by omega]
  | m + 1, s, f, hs, hf => by
    obtain ⟨f, rfl⟩ : ∃ q, f = q + 1 := ⟨f - 1, by omega⟩
    have ih := pM_onRing_loop hn hn6 m (s + 1) f (by omega) (by omega)
    rw [cntP_succ] at ih
    rw [eX11_onRing_4, qI_in (x := 0) (p := 0) (zS_63 0) rfl (by decide) (by decide), Option.bind_some, hn, zif_pos (nI_lt (by omega) (by omega)), qI_in (zS_65 0) (a90 rfl) (by omega) (by decide), Option.bind_some, eX11_onRing_32, eX11_onRing_32, eX11_onRing_34, eX11_onRing_34, eX11_onRing_37, eX11_onRing_37, nI_1, nI_1, show nI (cntP (fun p => ¬ μ.1 65 0 (90 + p) < 0) s) + 0 = nI (cntP (fun p => ¬ μ.1 65 0 (90 + p) < 0) s) from nI_add _ 0]
    by_cases a : μ.1 65 0 (90 + s) < 0
    · rw [zif_neg (fun z => z a), Nat.add_zero] at ih
      rw [zif_pos a, ih]
    · rw [zif_pos a] at ih
      rw [zif_neg a, ih]
theorem pM_untr_loop {n : Nat} (hn : μ.1 63 0 0 = nI n) (hn6 : n ≤ 60) : ∀ (m s f : Nat), s + m = n → m < f → tX11_untracked_4 f (nI (cntP (fun p => ¬ μ.1 65 0 (90 + p) < 0 ∧ μ.1 65 0 (150 + p) = 0) s)) (nI s) μ = some (some (.inl (nI (cntP (fun p => ¬ μ.1 65 0 (90 + p) < 0 ∧ μ.1 65 0 (150 + p) = 0) n))), μ)
  | 0, s, f, hs, hf => by
    obtain ⟨f, rfl⟩ : ∃ q, f = q + 1 := ⟨f - 1, by omega⟩
    rw [eX11_untracked_4, qI_in (x := 0) (p := 0) (zS_63 0) rfl (by decide) (by decide), Option.bind_some, hn, zif_neg (nI_nlt (by omega) (by omega)), show s = n by omega]
  | m + 1, s, f, hs, hf => by
    obtain ⟨f, rfl⟩ : ∃ q, f = q + 1 := ⟨f - 1, by omega⟩
    have ih := pM_untr_loop hn hn6 m (s + 1) f (by omega) (by omega)
    rw [cntP_succ] at ih
    have e44 : ∀ a, tX11_untracked_44 f (nI s) (nI a) μ = tX11_untracked_4 f (nI a) (nI (s + 1)) μ := fun a => by rw [eX11_untracked_44, eX11_untracked_45, eX11_untracked_47, eX11_untracked_50, nI_1, show nI a + 0 = nI a from nI_add _ 0]
    rw [eX11_untracked_4, qI_in (x := 0) (p := 0) (zS_63 0) rfl (by decide) (by decide), Option.bind_some, hn, zif_pos (nI_lt (by omega) (by omega)), qI_in (zS_65 0) (a90 rfl) (by omega) (by decide), Option.bind_some, qI_in (zS_65 0) (a150 rfl) (by omega) (by decide), Option.bind_some, e44, eX11_untracked_45, eX11_untracked_47, eX11_untracked_50, nI_1, nI_1]
    by_cases a : μ.1 65 0 (90 + s) < 0
    · rw [zif_neg (fun z => z.1 a), Nat.add_zero] at ih
      rw [zif_pos a, ih]
    · rw [zif_neg a]
      by_cases b : μ.1 65 0 (150 + s) = 0
      · rw [zif_pos ⟨a, b⟩] at ih
        rw [zif_pos b, ih]
      · rw [zif_neg (fun z => b z.2), Nat.add_zero] at ih
        rw [zif_neg b, ih]
theorem rd_pos {j : Nat} {S : zSt} {B t hd C now O : Nat} {st : Nat → Nat} {Q : Nat → List Nat} (hR : RW μ μ 0 j S (μ.1 65 0) B t hd C now O st Q) (r : Bool) : ∀ p, p < sn S → (rdX μ 0 r (zslot (sn S) t p) ↔ ¬ μ.1 65 0 (90 + p) < 0 ∧ (μ.1 65 0 (150 + p) = 0 ↔ r = false)) := by
  intro p hp
  obtain ⟨h1, h2⟩ := hR.2.1 p hp
  unfold rdX
  rw [rd_cases h1, (rc_cases h2).1]
theorem a_untracked (h : REL μ c) : CALL tX10_untracked_0 tX11_untracked_0 μ (c + 1) := by
  obtain ⟨j, S, D, lim, t, hd, C, now, O, st, Q, ⟨hj, hj2⟩, hE, hR⟩ := h.un
  have hn6 := hE.1.2.1
  refine CALL.ask h (v := nI (cntP (fun p => ¬ μ.1 65 0 (90 + p) < 0 ∧ μ.1 65 0 (150 + p) = 0) (sn S))) ?_ ?_
  · have e := pX9_riders false hR.1.1 hj2 hE.2.2.1.2.1 hn6
    change tX9_ridersWith_0 0 0 μ = _ at e
    rw [eX10_untracked_0, e, zI_some, cntP_rot hR.1.2.1 (rd_pos hR false)]
    simp only [iff_true]
  · rw [eX11_untracked_0, eX11_untracked_2]
    exact pM_untr_loop hE.2.2.2.2.1.1 hn6 (sn S) 0 zN (by omega) (by rw [zN_eq]; omega)
theorem a_onRing (h : REL μ c) : CALL tX10_onRing_0 tX11_onRing_0 μ (c + 1) := by
  obtain ⟨j, S, D, lim, t, hd, C, now, O, st, Q, ⟨hj, hj2⟩, hE, hR⟩ := h.un
  have hn6 := hE.1.2.1
  refine CALL.ask h (v := nI (cntP (fun p => ¬ μ.1 65 0 (90 + p) < 0) (sn S))) ?_ ?_
  · have e := pX9_riders false hR.1.1 hj2 hE.2.2.1.2.1 hn6
    change tX9_ridersWith_0 0 0 μ = _ at e
    have e' := pX9_riders true hR.1.1 hj2 hE.2.2.1.2.1 hn6
    change tX9_ridersWith_0 0 1 μ = _ at e'
    rw [eX10_onRing_0, e', zI_some, e, zI_some, nI_add, cntP_rot hR.1.2.1 (rd_pos hR false), cntP_rot hR.1.2.1 (rd_pos hR true), cntP_or (P := fun p => ¬ μ.1 65 0 (90 + p) < 0)]
    intro k hk
    constructor
    · constructor
      · intro z
        by_cases y : μ.1 65 0 (150 + k) = 0
        · exact Or.inr ⟨z, fun _ => rfl, fun _ => y⟩
        · exact Or.inl ⟨z, fun q => absurd q y, fun q => by cases q⟩
      · intro z
        exact z.elim (fun y => y.1) (fun y => y.1)
    · intro z
      have := z.1.2.mp (z.2.2.mpr rfl)
      cases this
  · rw [eX11_onRing_0, eX11_onRing_2]
    exact pM_onRing_loop hE.2.2.2.2.1.1 hn6 (sn S) 0 zN (by omega) (by rw [zN_eq]; omega)
/-! misrouted, delivered -/
def forF (T : Nat → Nat → Int32) (F : Nat) (y x : Int32) : Prop := ∃ f, flOf T F y = some f ∧ T 1 f = x
theorem pM_isFor {T : Nat → Nat → Int32} {F : Nat} {y x : Int32} (h : FlM μ F T) (hT : FlT F T) (hy : isLb y) : tX11_isFor_0 y x μ = some (some (.inl (zif (forF T F y x) 1 0)), μ) := by
  have hF := h.1
  rw [eX11_isFor_0, pM_flightBy h hT hy, zI_some, eX11_isFor_6, eX11_isFor_24, eX11_isFor_25, zif_pos nar_0]
  cases e : flOf T F y with
  | none =>
    rw [zif_pos (show fMo none < 0 from m2_lt), zif_neg (fun z => by obtain ⟨f, z1, -⟩ := z; rw [e] at z1; cases z1)]
  | some f =>
    have hf := flOf_lt e
    rw [zif_neg (show ¬ fMo (some f) < 0 from nI_pos (by omega)), show fMo (some f) = nI f from rfl, pM_ofFlight (x := nI f) (y := 1) h hf (show 1 < 4 by decide) rfl rfl, zI_some, eX11_isFor_24, eX11_isFor_25, eX11_isFor_25, zif_pos nar_0, zif_pos nar_1]
    by_cases q : T 1 f = x
    · rw [zif_pos q, zif_pos ⟨f, e, q⟩]
    · rw [zif_neg q, zif_neg (fun z => by obtain ⟨g, z1, z2⟩ := z; rw [e] at z1; cases z1; exact q z2)]
theorem pX9_isStray {i j F b : Nat} {T : Nat → Nat → Int32} {x : Int32} (hj : μ.2.1 9 i 0 = j) (hj2 : j < 2) (h : FlX μ j F T) (hb : b < 100) : tX9_isStray_0 i (nI b) x μ = some (some (.inl (zif (forF T F (μ.1 21 i b) x ∨ forF T F (μ.1 23 i b) x) 0 1)), μ) := by
  have hF := h.1
  have e43 : tX9_isStray_43 i (nI b) x μ = some (some (.inl (zif (forF T F (μ.1 23 i b) x) 0 1)), μ) := by
    rw [eX9_isStray_43, hj, zif_pos hj2, qI_in (zS_23 i) rfl hb (by decide), Option.bind_some, pX1_ofLabel h, zI_some, eX9_isStray_64, eX9_isStray_87, eX9_isStray_92, eX9_isStray_92, zif_pos nar_0, zif_pos nar_1]
    cases e : flOf T F (μ.1 23 i b) with
    | none =>
      rw [zif_pos (show fX none = -1 from rfl), zif_neg (fun z => by obtain ⟨f, z1, -⟩ := z; rw [e] at z1; cases z1)]
    | some f =>
      have hf := flOf_lt e
      rw [zif_neg (show ¬ fX (some f) = -1 from fX_neg (by omega)), show fX (some f) = nI f from rfl, hj, zif_pos hj2, qI_in (zS_32 j) rfl (show f < 10 by omega) (by decide), Option.bind_some, show μ.1 32 j f = T 1 f from h.2.2 1 f (by decide) hf]
      by_cases q : T 1 f = x
      · rw [zif_pos q, zif_pos ⟨f, e, q⟩]
      · rw [zif_neg q, zif_neg (fun z => by obtain ⟨g, z1, z2⟩ := z; rw [e] at z1; cases z1; exact q z2)]
  rw [eX9_isStray_0, hj, zif_pos hj2, qI_in (zS_21 i) rfl hb (by decide), Option.bind_some, pX1_ofLabel h, zI_some, eX9_isStray_20, e43]
  have hor : ¬ forF T F (μ.1 21 i b) x → (zif (forF T F (μ.1 23 i b) x) (0 : Int32) 1) = zif (forF T F (μ.1 21 i b) x ∨ forF T F (μ.1 23 i b) x) 0 1 := fun n => by
    by_cases q : forF T F (μ.1 23 i b) x
    · rw [zif_pos q, zif_pos (Or.inr q)]
    · rw [zif_neg q, zif_neg (fun z => z.elim n q)]
  cases e : flOf T F (μ.1 21 i b) with
  | none =>
    rw [zif_pos (show fX none = -1 from rfl), hor (fun z => by obtain ⟨f, z1, -⟩ := z; rw [e] at z1; cases z1)]
  | some f =>
    have hf := flOf_lt e
    rw [zif_neg (show ¬ fX (some f) = -1 from fX_neg (by omega)), show fX (some f) = nI f from rfl, hj, zif_pos hj2, qI_in (zS_32 j) rfl (show f < 10 by omega) (by decide), Option.bind_some, show μ.1 32 j f = T 1 f from h.2.2 1 f (by decide) hf, zif_pos nar_0]
    by_cases q : T 1 f = x
    · rw [zif_pos q, zif_pos (Or.inl ⟨f, e, q⟩)]
    · rw [zif_neg q, hor (fun z => by obtain ⟨g, z1, z2⟩ := z; rw [e] at z1; cases z1; exact q z2)]
theorem a_misrouted (h : REL μ c) (x : Int32) : CALL (tX10_misrouted_0 x) (tX11_misrouted_0 x) μ (c + 1) := by
  obtain ⟨j, S, D, lim, t, hd, C, now, O, st, Q, ⟨hj, hj2⟩, hE, hR⟩ := h.un
  have hn6 := hE.1.2.1
  have hC := hR.1.2.2.2.2.2.2.2.2.2.2.1
  have hC1 := hR.1.2.2.2.2.2.2.2.2.2.2.2.1
  have hC2 := hR.1.2.2.2.2.2.2.2.2.2.2.2.2
  obtain ⟨a1, a2, a3⟩ := cnt_X hE (s := 3) (by decide) (by decide)
  have hFX := hE.2.2.1.2.2.2.2.1
  have hFM := hE.2.2.2.2.2
  have hT := hE.1.2.2.2.2.1
  rcases ix_of x (n := scnt S 3) (by omega) with ⟨k, hk, rfl⟩ | hx
  · obtain ⟨p1, -, -⟩ := hE.1.2.2.2.2.2.2.2.2.1 3 k (by decide) (by decide) hk
    let P : Nat → Prop := fun b => (st b = 2 ∨ st b = 3) ∧ μ.1 27 0 b = nI k ∧ ¬ (forF (sT S) (sF S) (μ.1 21 0 b) (nI k) ∨ forF (sT S) (sF S) (μ.1 23 0 b) (nI k))
    have eX : ∀ (m b f : Nat), b + m = C → m < f → tX10_misrouted_19 f (nI k) (nI (cntP P b)) (nI b) μ = some (some (.inl (nI (cntP P C))), μ) := by
      intro m
      induction m with
      | zero =>
        intro b f hb hf
        obtain ⟨f, rfl⟩ : ∃ q, f = q + 1 := ⟨f - 1, by omega⟩
        rw [eX10_misrouted_19, hC1, zif_neg (nI_nlt (by omega) (by omega)), show b = C by omega]
      | succ m ih =>
        intro b f hb hf
        obtain ⟨f, rfl⟩ : ∃ q, f = q + 1 := ⟨f - 1, by omega⟩
        have ih := ih (b + 1) f (by omega) (by omega)
        rw [cntP_succ] at ih
        obtain ⟨g0, g1, g2, -⟩ := hR.2.2.2.1 b (by omega)
        have e78 : ∀ a, tX10_misrouted_78 f (nI k) a (nI b) μ = tX10_misrouted_19 f (nI k) a (nI (b + 1)) μ := fun a => by rw [eX10_misrouted_78, eX10_misrouted_81, nI_1]
        rw [eX10_misrouted_19, hC1, zif_pos (nI_lt (by omega) (by omega)), pX0_deliv (by omega) g1 g0, zI_some, qI_in (zS_27 0) rfl (show b < 100 by omega) (by decide), Option.bind_some, pX9_isStray hR.1.1 hj2 hFX (by omega), zI_some, e78, e78, nI_1]
        by_cases q1 : st b = 2 ∨ st b = 3
        · rw [zif_pos q1, zif_neg one_ne0]
          by_cases q2 : μ.1 27 0 b = nI k
          · rw [zif_pos q2]
            by_cases q3 : forF (sT S) (sF S) (μ.1 21 0 b) (nI k) ∨ forF (sT S) (sF S) (μ.1 23 0 b) (nI k)
            · rw [zif_neg (show ¬ P b from fun z => z.2.2 q3), Nat.add_zero] at ih
              rw [zif_pos q3, zif_pos rfl, ih]
            · rw [zif_pos (show P b from ⟨q1, q2, q3⟩)] at ih
              rw [zif_neg q3, zif_neg one_ne0, ih]
          · rw [zif_neg (show ¬ P b from fun z => q2 z.2.1), Nat.add_zero] at ih
            rw [zif_neg q2, ih]
        · rw [zif_neg (show ¬ P b from fun z => q1 z.1), Nat.add_zero] at ih
          rw [zif_neg q1, zif_pos rfl, ih]
    have eM : ∀ (m b f : Nat), b + m = C → m < f → tX11_misrouted_15 f (nI k) (nI (cntP P b)) (nI b) μ = some (some (.inl (nI (cntP P C))), μ) := by
      intro m
      induction m with
      | zero =>
        intro b f hb hf
        obtain ⟨f, rfl⟩ : ∃ q, f = q + 1 := ⟨f - 1, by omega⟩
        rw [eX11_misrouted_15, qI_in (x := 1) (p := 1) (zS_65 0) rfl (by decide) (by decide), Option.bind_some, hC2, zif_neg (nI_nlt (by omega) (by omega)), show b = C by omega]
      | succ m ih =>
        intro b f hb hf
        obtain ⟨f, rfl⟩ : ∃ q, f = q + 1 := ⟨f - 1, by omega⟩
        have ih := ih (b + 1) f (by omega) (by omega)
        rw [cntP_succ] at ih
        obtain ⟨g0, g1, g2, g3, g4, g5, -⟩ := hR.2.2.2.1 b (by omega)
        obtain ⟨l0, la, lc⟩ := hR.2.2.2.2.1 b (by omega)
        have l1 : μ.1 21 0 b = μ.1 68 0 b := l0 0 (by decide)
        have l3 : μ.1 23 0 b = μ.1 70 0 b := l0 2 (by decide)
        have e76 : ∀ a, tX11_misrouted_76 f (nI k) (nI b) (nI a) μ = tX11_misrouted_15 f (nI k) (nI a) (nI (b + 1)) μ := fun a => by rw [eX11_misrouted_76, eX11_misrouted_77, eX11_misrouted_79, eX11_misrouted_82, nI_1, show nI a + 0 = nI a from nI_add _ 0]
        rw [eX11_misrouted_15, qI_in (x := 1) (p := 1) (zS_65 0) rfl (by decide) (by decide), Option.bind_some, hC2, zif_pos (nI_lt (by omega) (by omega)), pM_isIn (by omega) g2 g0, zI_some, pM_ofBag (y := 1) (c := 1) rfl (show b < 100 by omega) rfl (by decide), zI_some, qI_in (zS_68 0) rfl (show b < 100 by omega) (by decide), Option.bind_some, ← l1, pM_isFor hFM hT la, zI_some, qI_in (zS_70 0) rfl (show b < 100 by omega) (by decide), Option.bind_some, ← l3, pM_isFor hFM hT lc, zI_some, e76, eX11_misrouted_77, eX11_misrouted_79, eX11_misrouted_82, nI_1, nI_1]
        by_cases q1 : st b = 2 ∨ st b = 3
        · rw [zif_pos q1, zif_neg one_ne0, (g5 (by omega) (by omega) (by omega)).1]
          by_cases q2 : μ.1 27 0 b = nI k
          · rw [zif_pos q2]
            by_cases q3 : forF (sT S) (sF S) (μ.1 21 0 b) (nI k)
            · rw [zif_neg (show ¬ P b from fun z => z.2.2 (Or.inl q3)), Nat.add_zero] at ih
              rw [zif_pos q3, zif_neg one_ne0, ih]
            · rw [zif_neg q3, zif_pos rfl]
              by_cases q4 : forF (sT S) (sF S) (μ.1 23 0 b) (nI k)
              · rw [zif_neg (show ¬ P b from fun z => z.2.2 (Or.inr q4)), Nat.add_zero] at ih
                rw [zif_pos q4, zif_neg one_ne0, ih]
              · rw [zif_pos (show P b from ⟨q1, q2, fun z => z.elim q3 q4⟩)] at ih
                rw [zif_neg q4, zif_pos rfl, ih]
          · rw [zif_neg (show ¬ P b from fun z => q2 z.2.1), Nat.add_zero] at ih
            rw [zif_neg q2, ih]
        · rw [zif_neg (show ¬ P b from fun z => q1 z.1), Nat.add_zero] at ih
          rw [zif_neg q1, zif_pos rfl, ih]
    refine CALL.ask h (v := nI (cntP P C)) ?_ ?_
    · rw [eX10_misrouted_0, hj, zif_pos hj2, pX5_place_yes (y := 3) hE rfl (by decide) (by decide) rfl hk, zI_some, zif_neg (show ¬ nI (spos S 3 k) = -1 from fX_neg (by omega)), eX10_misrouted_17]
      exact eX C 0 zN (by omega) (by rw [zN_eq]; omega)
    · rw [eX11_misrouted_0, pM_isDevice (y := 3) rfl (by decide) a2 (by omega), zI_some, ok_yes hk (by omega), zif_neg one_ne0, eX11_misrouted_13]
      exact eM C 0 zN (by omega) (by rw [zN_eq]; omega)
  · refine CALL.ask h (v := -1) ?_ ?_
    · rw [eX10_misrouted_0, hj, zif_pos hj2, pX5_place_no (y := 3) hE rfl (by decide) (by decide) hx, zI_some, zif_pos rfl]
    · rw [eX11_misrouted_0, pM_isDevice (y := 3) rfl (by decide) a2 (by omega), zI_some, ok_no hx, zif_pos rfl]
theorem a_delivered (h : REL μ c) (x : Int32) : CALL (tX10_delivered_0 x) (tX11_delivered_0 x) μ (c + 1) := by
  obtain ⟨j, S, D, lim, t, hd, C, now, O, st, Q, ⟨hj, hj2⟩, hE, hR⟩ := h.un
  have hC := hR.1.2.2.2.2.2.2.2.2.2.2.1
  have hC1 := hR.1.2.2.2.2.2.2.2.2.2.2.2.1
  have hC2 := hR.1.2.2.2.2.2.2.2.2.2.2.2.2
  have hF := hE.1.2.2.2.1
  have hFX := hE.2.2.1.2.2.2.2.1
  have hFM := hE.2.2.2.2.2
  rcases ix_of x (n := sF S) (by omega) with ⟨k, hk, rfl⟩ | hx
  · let P : Nat → Prop := fun b => (st b = 2 ∨ st b = 3) ∧ μ.1 29 0 b = nI k
    have eX : ∀ (m b f : Nat), b + m = C → m < f → tX10_delivered_20 f (nI k) (nI (cntP P b)) (nI b) μ = some (some (.inl (nI (cntP P C))), μ) := by
      intro m
      induction m with
      | zero =>
        intro b f hb hf
        obtain ⟨f, rfl⟩ : ∃ q, f = q + 1 := ⟨f - 1, by omega⟩
        rw [eX10_delivered_20, hC1, zif_neg (nI_nlt (by omega) (by omega)), show b = C by omega]
      | succ m ih =>
        intro b f hb hf
        obtain ⟨f, rfl⟩ : ∃ q, f = q + 1 := ⟨f - 1, by omega⟩
        have ih := ih (b + 1) f (by omega) (by omega)
        rw [cntP_succ] at ih
        obtain ⟨g0, g1, g2, -⟩ := hR.2.2.2.1 b (by omega)
        have e78 : ∀ a, tX10_delivered_67 f (nI k) a (nI b) μ = tX10_delivered_20 f (nI k) a (nI (b + 1)) μ := fun a => by rw [eX10_delivered_67, eX10_delivered_70, nI_1]
        rw [eX10_delivered_20, hC1, zif_pos (nI_lt (by omega) (by omega)), pX0_deliv (by omega) g1 g0, zI_some, qI_in (zS_29 0) rfl (show b < 100 by omega) (by decide), Option.bind_some, e78, e78, nI_1]
        by_cases q1 : st b = 2 ∨ st b = 3
        · rw [zif_pos q1, zif_neg one_ne0]
          by_cases q2 : μ.1 29 0 b = nI k
          · rw [zif_pos (show P b from ⟨q1, q2⟩)] at ih
            rw [zif_pos q2, ih]
          · rw [zif_neg (show ¬ P b from fun z => q2 z.2), Nat.add_zero] at ih
            rw [zif_neg q2, ih]
        · rw [zif_neg (show ¬ P b from fun z => q1 z.1), Nat.add_zero] at ih
          rw [zif_neg q1, zif_pos rfl, ih]
    have eM : ∀ (m b f : Nat), b + m = C → m < f → tX11_delivered_14 f (nI k) (nI (cntP P b)) (nI b) μ = some (some (.inl (nI (cntP P C))), μ) := by
      intro m
      induction m with
      | zero =>
        intro b f hb hf
        obtain ⟨f, rfl⟩ : ∃ q, f = q + 1 := ⟨f - 1, by omega⟩
        rw [eX11_delivered_14, qI_in (x := 1) (p := 1) (zS_65 0) rfl (by decide) (by decide), Option.bind_some, hC2, zif_neg (nI_nlt (by omega) (by omega)), show b = C by omega]
      | succ m ih =>
        intro b f hb hf
        obtain ⟨f, rfl⟩ : ∃ q, f = q + 1 := ⟨f - 1, by omega⟩
        have ih := ih (b + 1) f (by omega) (by omega)
        rw [cntP_succ] at ih
        obtain ⟨g0, g1, g2, g3, g4, g5, g6, g7, g8⟩ := hR.2.2.2.1 b (by omega)
        have e76 : ∀ a, tX11_delivered_48 f (nI k) (nI b) (nI a) μ = tX11_delivered_14 f (nI k) (nI a) (nI (b + 1)) μ := fun a => by rw [eX11_delivered_48, eX11_delivered_49, eX11_delivered_51, eX11_delivered_54, nI_1, show nI a + 0 = nI a from nI_add _ 0]
        rw [eX11_delivered_14, qI_in (x := 1) (p := 1) (zS_65 0) rfl (by decide) (by decide), Option.bind_some, hC2, zif_pos (nI_lt (by omega) (by omega)), pM_isIn (by omega) g2 g0, zI_some, pM_ofBag (y := 7) (c := 7) rfl (show b < 100 by omega) rfl (by decide), zI_some, e76, eX11_delivered_49, eX11_delivered_51, eX11_delivered_54, nI_1, nI_1]
        by_cases q1 : st b = 2 ∨ st b = 3
        · rw [zif_pos q1, zif_neg one_ne0]
          have heq : μ.1 65 0 (400 + 8 * b + 7) = nI k ↔ μ.1 29 0 b = nI k := by
            rcases (g8 q1).2 with ⟨y1, y2⟩ | ⟨f', y1, y2, y3⟩
            · rw [y1, y2]
              refine ⟨fun z => ?_, fun z => ?_⟩
              · have := nI_pos (n := k) (by omega); rw [← z] at this; exact absurd m2_lt this
              · have := nI_pos (n := k) (by omega); rw [← z] at this; exact absurd m1_lt this
            · rw [y2, y3]
          by_cases q2 : μ.1 29 0 b = nI k
          · rw [zif_pos (show P b from ⟨q1, q2⟩)] at ih
            rw [zif_pos (heq.mpr q2), ih]
          · rw [zif_neg (show ¬ P b from fun z => q2 z.2), Nat.add_zero] at ih
            rw [zif_neg (fun z => q2 (heq.mp z)), ih]
        · rw [zif_neg (show ¬ P b from fun z => q1 z.1), Nat.add_zero] at ih
          rw [zif_neg q1, zif_pos rfl, ih]
    refine CALL.ask h (v := nI (cntP P C)) ?_ ?_
    · rw [eX10_delivered_0, hj, zif_pos hj2, pX1_has hFX.2.1, zI_some, ok_yes hk (by omega), zif_neg one_ne0, eX10_delivered_18]
      exact eX C 0 zN (by omega) (by rw [zN_eq]; omega)
    · rw [eX11_delivered_0, pM_isFlight hFM.2.1 (by omega), zI_some, ok_yes hk (by omega), zif_neg one_ne0, eX11_delivered_12]
      exact eM C 0 zN (by omega) (by rw [zN_eq]; omega)
  · refine CALL.ask h (v := -1) ?_ ?_
    · rw [eX10_delivered_0, hj, zif_pos hj2, pX1_has hFX.2.1, zI_some, ok_no hx, zif_pos rfl]
    · rw [eX11_delivered_0, pM_isFlight hFM.2.1 (by omega), zI_some, ok_no hx, zif_pos rfl]
end ASK
