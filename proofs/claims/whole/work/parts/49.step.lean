/-! ===== a tick: both sides ===== -/
theorem pX10_isWithin {μ : zM} (a b c : Int32) : tX10_isWithin_0 a b c μ = some (some (.inl (zif (a < b ∨ c < a) 0 1)), μ) := by
  rw [eX10_isWithin_0, eX10_isWithin_14, eX10_isWithin_15, eX10_isWithin_15, zif_pos nar_0, zif_pos nar_1]
  by_cases h1 : a < b
  · rw [zif_pos h1, zif_pos (Or.inl h1)]
  · rw [zif_neg h1]
    by_cases h2 : c < a
    · rw [zif_pos h2, zif_pos (Or.inr h2)]
    · rw [zif_neg h2, zif_neg (fun z => z.elim h1 h2)]
theorem zif01_nar {c : Prop} : vp_nar .boolean (zif c (0 : Int32) 1) = zif c (0 : Int32) 1 := by
  by_cases h : c
  · rw [zif_pos h]; exact nar_0
  · rw [zif_neg h]; exact nar_1
theorem zif10_nar {c : Prop} : vp_nar .boolean (zif c (1 : Int32) 0) = zif c (1 : Int32) 0 := by
  by_cases h : c
  · rw [zif_pos h]; exact nar_1
  · rw [zif_neg h]; exact nar_0
theorem pX10_isOutlet {μ : zM} {s : Nat} (hs : s ≤ 7) : tX10_isOutlet_0 (nI s) μ = some (some (.inl (zif (3 ≤ s ∧ s ≤ 6) 1 0)), μ) := by
  rw [eX10_isOutlet_0, pX10_isWithin, zI_some, zif_pos zif01_nar]
  have e : (nI s < 3 ∨ (6 : Int32) < nI s) ↔ ¬ (3 ≤ s ∧ s ≤ 6) := by
    rw [show (3 : Int32) = nI 3 from rfl, show (6 : Int32) = nI 6 from rfl, nI_ltI (by omega) (by decide), nI_ltI (by decide) (by omega)]
    omega
  by_cases h : 3 ≤ s ∧ s ≤ 6
  · rw [zif_neg (fun z => e.mp z h), zif_pos h]
  · rw [zif_pos (e.mpr h), zif_neg h]
def bz (S : zSt) (p : Nat) : Nat := ((List.range p).filter (fun p => decide (ssrt S p ≠ 0))).length
theorem bz_succ1 {S : zSt} {p : Nat} (h : ssrt S p ≠ 0) : bz S (p + 1) = bz S p + 1 := by
  unfold bz
  rw [List.range_succ, List.filter_append, List.length_append]
  simp [h]
theorem bz_succ0 {S : zSt} {p : Nat} (h : ssrt S p = 0) : bz S (p + 1) = bz S p := by
  unfold bz
  rw [List.range_succ, List.filter_append, List.length_append]
  simp [h]
theorem bz_le (S : zSt) (p : Nat) : bz S p ≤ p := by
  unfold bz
  have := List.length_filter_le (fun p => decide (ssrt S p ≠ 0)) (List.range p)
  rwa [List.length_range] at this
theorem bz_get {S : zSt} {p : Nat} (hp : p < sn S) (h : ssrt S p ≠ 0) : (busyL S)[bz S p]? = some p := by
  obtain ⟨k, hk⟩ : ∃ k, sn S = (p + 1) + k := ⟨sn S - (p + 1), by omega⟩
  have e : ([p].filter (fun p => decide (ssrt S p ≠ 0))) = [p] := by simp [h]
  unfold busyL bz
  rw [hk, List.range_add, List.filter_append, List.range_succ, List.filter_append, e, List.append_assoc, List.getElem?_append_right (Nat.le_refl _), Nat.sub_self]
  rfl
theorem bz_lt {S : zSt} {p : Nat} (hp : p < sn S) (h : ssrt S p ≠ 0) : bz S p < (busyL S).length := (List.getElem?_eq_some_iff.mp (bz_get hp h)).1
theorem nI_ne {a b : Nat} (ha : a < 2 ^ 31) (hb : b < 2 ^ 31) (h : a ≠ b) : ¬ nI a = nI b := fun z => h ((nI_eq ha hb).mp z)
set_option maxHeartbeats 1000000 in
theorem treat_pair {μ ν : zM} {i j : Nat} {S : zSt} {D : zDv} {lim : Int32} {w : Nat → Int32} {B t hd C now p f : Nat} {a : Int32} (hE : ENV μ ν j S D lim) {G : Nat → Prop} (h : RQ μ ν i j S w B t hd C now G) (hB : B < 1000000000) (hp : p < sn S) (h0 : ssrt S p ≠ 0) :
    ∃ μ' w', tX9_step_174 f i a (nI p) (nI (zslot (sn S) t p)) (nI (ssrt S p)) μ = tX9_step_136 f i (a + 1) μ' ∧ tX11_treats_10 (nI p) (nI (ssrt S p)) (mW ν w) = some (none, mW ν w') ∧ FrW i μ μ' ∧ RQ μ' ν i j S w' (B + 1) t hd C now G := by
  have hS := hE.1
  have h7 := hS.2.2.2.2.2.1 p
  have e211 : ∀ m, tX9_step_211 f i a m = tX9_step_136 f i (a + 1) m := fun m => by rw [eX9_step_211, eX9_step_214]
  rw [eX9_step_174, eX11_treats_10]
  by_cases h2 : ssrt S p = 2
  · obtain ⟨μ', w', e1, e2, e3, e4⟩ := scan_pair hE h hp
    refine ⟨μ', w', ?_, ?_, e3, e4⟩
    · rw [zif_pos (show nI (ssrt S p) = 2 by rw [h2]; rfl), e1, zU_some, e211]
    · rw [h2, zif_neg (show ¬ nI 2 = 1 by decide), zif_neg (show ¬ nI 2 = 7 by decide), zif_pos (show nI 2 = 2 from rfl), e2, zU_some, eX11_treats_60]
  · have n2 : ¬ nI (ssrt S p) = 2 := nI_ne (b := 2) (by omega) (by decide) h2
    rw [zif_neg n2, pX10_isOutlet h7, zI_some]
    by_cases ho : 3 ≤ ssrt S p ∧ ssrt S p ≤ 6
    · obtain ⟨μ', w', e1, e2, e3, e4⟩ := divert_pair hE h hB hp ho.1 ho.2
      refine ⟨μ', w', ?_, ?_, e3, e4⟩
      · rw [zif_pos ho, zif_neg one_ne0, e1, zU_some, e211]
      · rw [zif_neg (show ¬ nI (ssrt S p) = 1 from nI_ne (b := 1) (by omega) (by decide) (by omega)), zif_neg (show ¬ nI (ssrt S p) = 7 from nI_ne (b := 7) (by omega) (by decide) (by omega)), zif_neg n2, zif_neg (show ¬ nI (ssrt S p) = 0 from nI_ne (b := 0) (by omega) (by decide) (by omega)), e2, zU_some, eX11_treats_60]
    · obtain ⟨μ', w', e1, e2, e3, e4⟩ := enter_pair hE h hp (by omega)
      refine ⟨μ', w', ?_, ?_, e3, e4.elim (fun O z => z.elim fun st z => z.elim fun Q z => z.1.rq (Nat.le_refl _) z.2)⟩
      · rw [zif_neg ho, zif_pos rfl, e1, zU_some, e211]
      · by_cases h1 : ssrt S p = 1
        · have e2' : tX11_inletWorks_0 (nI p) (mW ν w) = some (none, mW ν w') := (if_pos h1).symm.trans e2
          rw [zif_pos (show nI (ssrt S p) = 1 by rw [h1]; rfl), e2', zU_some, eX11_treats_60]
        · have e2' : tX11_exitWorks_0 (nI p) (mW ν w) = some (none, mW ν w') := (if_neg h1).symm.trans e2
          rw [zif_neg (show ¬ nI (ssrt S p) = 1 from nI_ne (b := 1) (by omega) (by decide) h1), zif_pos (show nI (ssrt S p) = 7 by rw [show ssrt S p = 7 by omega]; rfl), e2', zU_some, eX11_treats_60]
theorem zS_52 (i : Nat) : zS 52 i = .inr (0, 60, (0, 0)) := rfl
theorem zS_49 (i : Nat) : zS 49 i = .inr (0, 7, (0, 0)) := rfl
theorem zS_54 (i : Nat) : zS 54 i = .inr (0, 6, (0, 0)) := rfl
theorem RQ.up {μ ν : zM} {i j : Nat} {S : zSt} {w : Nat → Int32} {B B' t hd C now : Nat} {G : Nat → Prop} (h : RQ μ ν i j S w B t hd C now G) (hB : B ≤ B') : RQ μ ν i j S w B' t hd C now G := h.elim fun _ z => z.elim fun _ z => z.elim fun _ z => z.1.rq hB z.2
theorem ring_loop {ν : zM} {i j : Nat} {S : zSt} {D : zDv} {lim : Int32} {t hd C now : Nat} {G : Nat → Prop} : ∀ (m p f g : Nat) (μ : zM) (w : Nat → Int32) (B : Nat), p + m = sn S → m < f → m < g → ENV μ ν j S D lim → RQ μ ν i j S w B t hd C now G → B + m < 1000000000 →
    ∃ μ' w', tX9_step_136 f i (nI (bz S p)) μ = some (none, μ') ∧ tX11_ticks_83 g (nI p) (mW ν w) = some (none, mW ν w') ∧ FrW i μ μ' ∧ RQ μ' ν i j S w' (B + m) t hd C now G
  | 0, p, f, g, μ, w, B, hp, hf, hg, hE, h, hB => by
    obtain ⟨f, rfl⟩ : ∃ k, f = k + 1 := ⟨f - 1, by omega⟩
    obtain ⟨g, rfl⟩ : ∃ k, g = k + 1 := ⟨g - 1, by omega⟩
    obtain ⟨O, st, Q, hR, hG⟩ := h
    have hS := hE.1
    have hn6 := hS.2.1
    have hj := hR.1.1
    have hj2 := hE.2.2.1.1
    have hbz := bz_le S p
    have hlen : (busyL S).length = bz S p := by rw [show p = sn S by omega]; rfl
    refine ⟨μ, w, ?_, ?_, FrW.rf, hR.rq (by omega) hG⟩
    · rw [eX9_step_136, hj, zif_pos hj2, hE.2.2.2.1.1, hlen, zif_neg (nI_nlt (Nat.le_refl _) (by omega))]
    · rw [eX11_ticks_83, qU (x := 0) (p := 0) rfl (by decide), Option.bind_some, hE.2.2.2.2.1.1, zif_neg (nI_nlt (by omega) (by omega))]
  | m + 1, p, f, g, μ, w, B, hp, hf, hg, hE, h, hB => by
    obtain ⟨f, rfl⟩ : ∃ k, f = k + 1 := ⟨f - 1, by omega⟩
    obtain ⟨g, rfl⟩ : ∃ k, g = k + 1 := ⟨g - 1, by omega⟩
    have hS := hE.1
    have hn6 := hS.2.1
    obtain ⟨hj, ht, ht3⟩ : μ.2.1 9 i 0 = j ∧ t < sn S ∧ μ.1 9 i 2 = nI t := h.elim fun _ z => z.elim fun _ z => z.elim fun _ z => ⟨z.1.1.1, z.1.1.2.1, z.1.1.2.2.1⟩
    have hj2 := hE.2.2.1.1
    have hbz := bz_le S p
    obtain ⟨s1, s2⟩ := dev_srt hE (q := p) (by omega)
    have hMs : tX11_ticks_83 (g + 1) (nI p) (mW ν w) = zU (tX11_treats_10 (nI p) (nI (ssrt S p)) (mW ν w)) fun μ2 => tX11_ticks_83 g (nI (p + 1)) μ2 := by
      rw [eX11_ticks_83, qU (x := 0) (p := 0) rfl (by decide), Option.bind_some, hE.2.2.2.2.1.1, zif_pos (nI_lt (by omega) (by omega)), eX11_treats_0, qU (a20 rfl) (by omega), Option.bind_some, s2]
      simp only [eX11_ticks_101, nI_1]
    by_cases h0 : ssrt S p = 0
    · obtain ⟨μ', w', e1, e2, e3, e4⟩ := ring_loop m (p + 1) (f + 1) g μ w B (by omega) (by omega) (by omega) hE h (by omega)
      rw [bz_succ0 h0] at e1
      refine ⟨μ', w', e1, ?_, e3, e4.up (by omega)⟩
      rw [hMs, h0, eX11_treats_10, zif_neg (show ¬ nI 0 = 1 by decide), zif_neg (show ¬ nI 0 = 7 by decide), zif_neg (show ¬ nI 0 = 2 by decide), zif_pos (show nI 0 = 0 from rfl), eX11_treats_60, zU_some, e2]
    · obtain ⟨μ1, w1, a1, a2, a3, a4⟩ := treat_pair (f := f) (a := nI (bz S p)) hE h (by omega) (show p < sn S by omega) h0
      obtain ⟨μ', w', e1, e2, e3, e4⟩ := ring_loop m (p + 1) f g μ1 w1 (B + 1) (by omega) (by omega) (by omega) (hE.fr a3) a4 (by omega)
      rw [bz_succ1 h0] at e1
      refine ⟨μ', w', ?_, ?_, a3.tr e3, e4.up (by omega)⟩
      · have hb := bz_lt (show p < sn S by omega) h0
        have hbl : (busyL S).length ≤ 60 := Nat.le_trans (bz_le S (sn S)) hn6
        rw [eX9_step_136, hj, zif_pos hj2, hE.2.2.2.1.1, zif_pos (nI_lt hb (by omega)), zif_pos hj2, qI_in (zS_52 j) rfl (show bz S p < 60 by omega) (by decide), Option.bind_some, hE.2.2.2.1.2 _ _ (bz_get (by omega) h0), eX9_step_157, pX9_slotAt (n := sn S) (t := t) (p := p) (by rw [hj]; exact hj2) (by rw [hj]; exact hE.2.2.1.2.1) hn6 ht3 ht rfl (by omega), zI_some, eX9_step_163, hj, zif_pos hj2, qI_in (zS_43 j) rfl (show p < 60 by omega) (by decide), Option.bind_some, s1, a1, nI_1, e1]
      · rw [hMs, a2, zU_some, e2]
/-- the loops over stations, screens and stores -/
theorem works_loop {ν : zM} {i j : Nat} {S : zSt} {D : zDv} {lim : Int32} {t hd C now s : Nat} {G : Nat → Prop} {X : Nat → Nat → zM → Option (Option zV × zM)} {M : Nat → Nat → zM → Option (Option zV × zM)} {KX KM : zM → Option (Option zV × zM)} {WX WM : Nat → zM → Option (Option zV × zM)}
    (hX0 : ∀ f k μ, ENV μ ν j S D lim → μ.2.1 9 i 0 = j → k < scnt S s → X (f + 1) k μ = zU (WX k μ) fun m => X f (k + 1) m) (hX1 : ∀ f k μ, ENV μ ν j S D lim → μ.2.1 9 i 0 = j → k = scnt S s → X (f + 1) k μ = KX μ)
    (hM0 : ∀ f k w, k < scnt S s → M (f + 1) k (mW ν w) = zU (WM k (mW ν w)) fun m => M f (k + 1) m) (hM1 : ∀ f k w, k = scnt S s → M (f + 1) k (mW ν w) = KM (mW ν w))
    (hW : ∀ k μ w B, k < scnt S s → ENV μ ν j S D lim → RQ μ ν i j S w B t hd C now G → B < 1000000000 → Pair (WX k) (WM k) μ ν i j S w (B + 1) t hd C now G) :
    ∀ (m k f g : Nat) (μ : zM) (w : Nat → Int32) (B : Nat), k + m = scnt S s → m < f → m < g → ENV μ ν j S D lim → RQ μ ν i j S w B t hd C now G → B + m < 1000000000 →
    ∃ μ' w', X f k μ = KX μ' ∧ M g k (mW ν w) = KM (mW ν w') ∧ FrW i μ μ' ∧ RQ μ' ν i j S w' (B + m) t hd C now G
  | 0, k, f, g, μ, w, B, hp, hf, hg, hE, h, hB => by
    obtain ⟨f, rfl⟩ : ∃ k, f = k + 1 := ⟨f - 1, by omega⟩
    obtain ⟨g, rfl⟩ : ∃ k, g = k + 1 := ⟨g - 1, by omega⟩
    have hj : μ.2.1 9 i 0 = j := h.elim fun _ z => z.elim fun _ z => z.elim fun _ z => z.1.1.1
    exact ⟨μ, w, hX1 f k μ hE hj (by omega), hM1 g k w (by omega), FrW.rf, h.up (by omega)⟩
  | m + 1, k, f, g, μ, w, B, hp, hf, hg, hE, h, hB => by
    obtain ⟨f, rfl⟩ : ∃ k, f = k + 1 := ⟨f - 1, by omega⟩
    obtain ⟨g, rfl⟩ : ∃ k, g = k + 1 := ⟨g - 1, by omega⟩
    have hj : μ.2.1 9 i 0 = j := h.elim fun _ z => z.elim fun _ z => z.elim fun _ z => z.1.1.1
    obtain ⟨μ1, w1, a1, a2, a3, a4⟩ := hW k μ w B (by omega) hE h (by omega)
    obtain ⟨μ', w', e1, e2, e3, e4⟩ := works_loop hX0 hX1 hM0 hM1 hW m (k + 1) f g μ1 w1 (B + 1) (by omega) (by omega) (by omega) (hE.fr a3) a4 (by omega)
    exact ⟨μ', w', by rw [hX0 f k μ hE hj (by omega), a1, zU_some, e1], by rw [hM0 g k w (by omega), a2, zU_some, e2], a3.tr e3, e4.up (by omega)⟩
theorem pM_many {ν : zM} {w : Nat → Int32} {s c : Nat} {x : Int32} (hx : x = nI s) (hs : s ≤ 6) (h : ν.1 63 0 (10 + s) = nI c) : tX11_many_0 x (mW ν w) = some (some (.inl (nI c)), mW ν w) := by
  rw [eX11_many_0, qU (a10 hx) (by omega), Option.bind_some, h]
theorem cnt_X {μ ν : zM} {j : Nat} {S : zSt} {D : zDv} {lim : Int32} (hE : ENV μ ν j S D lim) {s : Nat} (h1 : 1 ≤ s) (h6 : s ≤ 6) : μ.1 49 j s = nI (scnt S s) ∧ ν.1 63 0 (10 + s) = nI (scnt S s) ∧ scnt S s ≤ 6 := ⟨hE.2.2.1.2.2.2.2.2.2.1 s h1 h6, hE.2.2.2.2.1.2.2.2.2.1 s h1 h6, hE.1.2.2.2.2.2.2.2.1 s⟩
theorem pos_X {μ ν : zM} {j : Nat} {S : zSt} {D : zDv} {lim : Int32} (hE : ENV μ ν j S D lim) {s k : Nat} (h1 : 1 ≤ s) (h6 : s ≤ 6) (hk : k < scnt S s) : μ.1 54 (7 * j + s) k = nI (spos S s k) := (hE.2.2.1.2.2.2.2.2.2.2.1 s k h1 h6 hk).1
set_option maxHeartbeats 2000000 in
theorem step_pair {μ ν : zM} {i j : Nat} {S : zSt} {D : zDv} {lim : Int32} {w : Nat → Int32} {B t hd C now : Nat} (hE : ENV μ ν j S D lim) {G : Nat → Prop} (h : RQ μ ν i j S w B t hd C now G) (hB : B + 70 < 1000000000) (hnow : now < 101000) :
    ∃ μ' w', tX9_step_0 i μ = some (none, μ') ∧ tX11_ticks_0 (mW ν w) = some (none, mW ν w') ∧ FrW i μ μ' ∧ RQ μ' ν i j S w' (B + 70) ((t + 1) % sn S) hd C (now + 1) G := by
  obtain ⟨O, st, Q, h, hG⟩ := h
  have hS := hE.1
  have hn6 := hS.2.1
  have hn3 := hS.1
  have hj := h.1.1
  have hj2 := hE.2.2.1.1
  have ht := h.1.2.1
  have hA := turn_RW hS h hnow
  have hX : tX9_step_0 i μ = tX9_step_26 zN i 0 (mS (mS μ 9 i 1 (nI (now + 1))) 9 i 2 (nI ((t + 1) % sn S))) := by
    have e := wrap_add (n := sn S) (t := 1) (p := t) hn6 (by omega) ht
    rw [eX9_step_0, zlet_eq, pX9_wrapped _ _ _ (show (mS μ 9 i 1 (μ.1 9 i 1 + 1)).2.1 9 i 0 < 2 by rw [mS_2, hj]; exact hj2), zI_some, zlet_eq, mS_2, hj, mS_k _ _ _ _ _ 5 _ _ (by decide), hE.2.2.1.2.1, mS_n _ _ _ _ _ _ _ _ (show 2 ≠ 1 by decide), h.1.2.2.1, h.1.2.2.2.2.1, nI_1, show (1 : Int32) = nI 1 from rfl, e]
  have hM : tX11_ticks_0 (mW ν w) = tX11_ticks_16 zN 0 (mW ν (mvF (rot5 (upd w 0 (nI (now + 1))) (sn S)) (sn S))) := by
    rw [eX11_ticks_0, qW (x := 0) (p := 0) rfl (by decide), Option.bind_some, wW (x := 0) (p := 0) rfl (by decide), Option.bind_some, h.1.2.2.2.2.2.1, nI_1, pM_moves hn3 hn6 hE.2.2.2.2.1.1 (fun p hp => ?_), zU_some]
    rw [upd_ne _ _ (by omega)]
    rcases (h.2.1 p hp).1 with ⟨-, a2⟩ | ⟨r, a1, -, a3⟩
    · exact Or.inl a2
    · exact Or.inr ⟨r, a1, a3⟩
  have fr0 : FrW i μ (mS (mS μ 9 i 1 (nI (now + 1))) 9 i 2 (nI ((t + 1) % sn S))) := by
    refine FrW.mS (FrW.mS FrW.rf ?_) ?_ <;> unfold isW <;> omega
  rw [hX, hM]
  generalize mS (mS μ 9 i 1 (nI (now + 1))) 9 i 2 (nI ((t + 1) % sn S)) = μ0 at hA fr0 ⊢
  generalize mvF (rot5 (upd w 0 (nI (now + 1))) (sn S)) (sn S) = w0 at hA ⊢
  have hE0 := hE.fr fr0
  obtain ⟨c4, c5, c6⟩ := cnt_two hS
  have eX6 : ∀ f k μ, ENV μ ν j S D lim → μ.2.1 9 i 0 = j → k < scnt S 6 → tX9_step_26 (f + 1) i (nI k) μ = zU (tX9_workStation_0 i (nI (spos S 6 k)) μ) fun m => tX9_step_26 f i (nI (k + 1)) m := fun f k μ hE hj hk => by
    rw [eX9_step_26, hj, zif_pos hj2, qI_in (x := 6) (p := 6) (zS_49 j) rfl (by decide) (by decide), Option.bind_some, (cnt_X hE (s := 6) (by decide) (by decide)).1, zif_pos (nI_lt hk (by omega)), zif_pos hj2, qX_in (N := 7) (x := 6) (p := 6) rfl (by decide) (by decide), Option.bind_some, qI_in (zS_54 _) rfl (show k < 6 by omega) (by decide), Option.bind_some, pos_X hE (s := 6) (by decide) (by decide) hk]
    simp only [eX9_step_59, nI_1]
  have eX4 : ∀ f k μ, ENV μ ν j S D lim → μ.2.1 9 i 0 = j → k < scnt S 4 → tX9_step_64 (f + 1) i (nI k) μ = zU (tX9_workScreen_0 i (nI (spos S 4 k)) μ) fun m => tX9_step_64 f i (nI (k + 1)) m := fun f k μ hE hj hk => by
    rw [eX9_step_64, hj, zif_pos hj2, qI_in (x := 4) (p := 4) (zS_49 j) rfl (by decide) (by decide), Option.bind_some, (cnt_X hE (s := 4) (by decide) (by decide)).1, zif_pos (nI_lt hk (by omega)), zif_pos hj2, qX_in (N := 7) (x := 4) (p := 4) rfl (by decide) (by decide), Option.bind_some, qI_in (zS_54 _) rfl (show k < 6 by omega) (by decide), Option.bind_some, pos_X hE (s := 4) (by decide) (by decide) hk]
    simp only [eX9_step_95, nI_1]
  have eX5 : ∀ f k μ, ENV μ ν j S D lim → μ.2.1 9 i 0 = j → k < scnt S 5 → tX9_step_100 (f + 1) i (nI k) μ = zU (tX9_workStore_0 i (nI (spos S 5 k)) μ) fun m => tX9_step_100 f i (nI (k + 1)) m := fun f k μ hE hj hk => by
    rw [eX9_step_100, hj, zif_pos hj2, qI_in (x := 5) (p := 5) (zS_49 j) rfl (by decide) (by decide), Option.bind_some, (cnt_X hE (s := 5) (by decide) (by decide)).1, zif_pos (nI_lt hk (by omega)), zif_pos hj2, qX_in (N := 7) (x := 5) (p := 5) rfl (by decide) (by decide), Option.bind_some, qI_in (zS_54 _) rfl (show k < 6 by omega) (by decide), Option.bind_some, pos_X hE (s := 5) (by decide) (by decide) hk]
    simp only [eX9_step_131, nI_1]
  have fX6 : ∀ f k μ, ENV μ ν j S D lim → μ.2.1 9 i 0 = j → k = scnt S 6 → tX9_step_26 (f + 1) i (nI k) μ = tX9_step_64 zN i 0 μ := fun f k μ hE hj hk => by
    rw [eX9_step_26, hj, zif_pos hj2, qI_in (x := 6) (p := 6) (zS_49 j) rfl (by decide) (by decide), Option.bind_some, (cnt_X hE (s := 6) (by decide) (by decide)).1, zif_neg (nI_nlt (by omega) (by omega))]
  have fX4 : ∀ f k μ, ENV μ ν j S D lim → μ.2.1 9 i 0 = j → k = scnt S 4 → tX9_step_64 (f + 1) i (nI k) μ = tX9_step_100 zN i 0 μ := fun f k μ hE hj hk => by
    rw [eX9_step_64, hj, zif_pos hj2, qI_in (x := 4) (p := 4) (zS_49 j) rfl (by decide) (by decide), Option.bind_some, (cnt_X hE (s := 4) (by decide) (by decide)).1, zif_neg (nI_nlt (by omega) (by omega))]
  have fX5 : ∀ f k μ, ENV μ ν j S D lim → μ.2.1 9 i 0 = j → k = scnt S 5 → tX9_step_100 (f + 1) i (nI k) μ = tX9_step_136 zN i 0 μ := fun f k μ hE hj hk => by
    rw [eX9_step_100, hj, zif_pos hj2, qI_in (x := 5) (p := 5) (zS_49 j) rfl (by decide) (by decide), Option.bind_some, (cnt_X hE (s := 5) (by decide) (by decide)).1, zif_neg (nI_nlt (by omega) (by omega))]
  have q6 := (cnt_X hE (s := 6) (by decide) (by decide)).2.1
  have q4 := (cnt_X hE (s := 4) (by decide) (by decide)).2.1
  have q5 := (cnt_X hE (s := 5) (by decide) (by decide)).2.1
  have eM6 : ∀ f k w, k < scnt S 6 → tX11_ticks_16 (f + 1) (nI k) (mW ν w) = zU (tX11_stationWorks_0 (nI k) (mW ν w)) fun m => tX11_ticks_16 f (nI (k + 1)) m := fun f k w hk => by
    rw [eX11_ticks_16, pM_many (x := 6) rfl (by decide) q6, zI_some, zif_pos (nI_lt hk (by omega))]
    simp only [eX11_ticks_34, nI_1]
  have eM4 : ∀ f k w, k < scnt S 4 → tX11_ticks_39 (f + 1) (nI k) (mW ν w) = zU (tX11_screenWorks_0 (nI k) (mW ν w)) fun m => tX11_ticks_39 f (nI (k + 1)) m := fun f k w hk => by
    rw [eX11_ticks_39, pM_many (x := 4) rfl (by decide) q4, zI_some, zif_pos (nI_lt hk (by omega))]
    simp only [eX11_ticks_56, nI_1]
  have eM5 : ∀ f k w, k < scnt S 5 → tX11_ticks_61 (f + 1) (nI k) (mW ν w) = zU (tX11_storeWorks_0 (nI k) (mW ν w)) fun m => tX11_ticks_61 f (nI (k + 1)) m := fun f k w hk => by
    rw [eX11_ticks_61, pM_many (x := 5) rfl (by decide) q5, zI_some, zif_pos (nI_lt hk (by omega))]
    simp only [eX11_ticks_78, nI_1]
  have fM6 : ∀ f k w, k = scnt S 6 → tX11_ticks_16 (f + 1) (nI k) (mW ν w) = tX11_ticks_39 zN 0 (mW ν w) := fun f k w hk => by
    rw [eX11_ticks_16, pM_many (x := 6) rfl (by decide) q6, zI_some, zif_neg (nI_nlt (by omega) (by omega))]
  have fM4 : ∀ f k w, k = scnt S 4 → tX11_ticks_39 (f + 1) (nI k) (mW ν w) = tX11_ticks_61 zN 0 (mW ν w) := fun f k w hk => by
    rw [eX11_ticks_39, pM_many (x := 4) rfl (by decide) q4, zI_some, zif_neg (nI_nlt (by omega) (by omega))]
  have fM5 : ∀ f k w, k = scnt S 5 → tX11_ticks_61 (f + 1) (nI k) (mW ν w) = tX11_ticks_83 zN 0 (mW ν w) := fun f k w hk => by
    rw [eX11_ticks_61, pM_many (x := 5) rfl (by decide) q5, zI_some, zif_neg (nI_nlt (by omega) (by omega))]
  obtain ⟨μ1, w1, a1, a2, a3, a4⟩ := works_loop (s := 6) (X := fun f k μ => tX9_step_26 f i (nI k) μ) (M := fun f k m => tX11_ticks_16 f (nI k) m) eX6 fX6 eM6 fM6 (fun k μ w B hk hE h hB => station_pair hE h hB hk) (scnt S 6) 0 zN zN μ0 w0 B (by omega) (by rw [zN_eq]; omega) (by rw [zN_eq]; omega) hE0 (hA.rq (Nat.le_refl _) hG) (by omega)
  obtain ⟨μ2, w2, b1, b2, b3, b4⟩ := works_loop (s := 4) (X := fun f k μ => tX9_step_64 f i (nI k) μ) (M := fun f k m => tX11_ticks_39 f (nI k) m) eX4 fX4 eM4 fM4 (fun k μ w B hk hE h hB => screen_pair hE h hB hk) (scnt S 4) 0 zN zN μ1 w1 (B + scnt S 6) (by omega) (by rw [zN_eq]; omega) (by rw [zN_eq]; omega) (hE0.fr a3) a4 (by omega)
  obtain ⟨μ3, w3, d1, d2, d3, d4⟩ := works_loop (s := 5) (X := fun f k μ => tX9_step_100 f i (nI k) μ) (M := fun f k m => tX11_ticks_61 f (nI k) m) eX5 fX5 eM5 fM5 (fun k μ w B hk hE h hB => store_pair hE h hB hk) (scnt S 5) 0 zN zN μ2 w2 (B + scnt S 6 + scnt S 4) (by omega) (by rw [zN_eq]; omega) (by rw [zN_eq]; omega) ((hE0.fr a3).fr b3) b4 (by omega)
  obtain ⟨μ4, w4, g1, g2, g3, g4⟩ := ring_loop (sn S) 0 zN zN μ3 w3 (B + scnt S 6 + scnt S 4 + scnt S 5) (by omega) (by rw [zN_eq]; omega) (by rw [zN_eq]; omega) (((hE0.fr a3).fr b3).fr d3) d4 (by omega)
  refine ⟨μ4, w4, ?_, ?_, fr0.tr (a3.tr (b3.tr (d3.tr g3))), g4.up (by omega)⟩
  · exact (a1.trans (b1.trans d1)).trans g1
  · exact (a2.trans (b2.trans d2)).trans g2
