/-! ===== forecasts ===== -/
/-- behind a forecast: only the copy, the reference's row that it laid aside and labels of bags that are not there have changed -/
theorem REL.fore {μ μ3 : zM} {c C0 : Nat} (h : REL μ c) (hC0 : ∀ j S D lim t hd C now, ENV μ μ j S D lim → RQ μ μ 0 j S (μ.1 65 0) (30000 * c) t hd C now noG → C ≤ C0) (e1 : ∀ k x s, ¬ isW 1 k x → k ≠ 65 → k ≠ 66 → ¬ (68 ≤ k ∧ k ≤ 72 ∧ C0 ≤ s) → μ3.1 k x s = μ.1 k x s) (e2 : ∀ z, z < 1200 → μ3.1 65 0 z = μ.1 65 0 z) (e3 : ∀ k x n, ¬ (k = 9 ∧ x = 1 ∧ n = 0) → μ3.2.1 k x n = μ.2.1 k x n) : REL μ3 c := by
  obtain ⟨j, S, D, lim, t, hd, C, now, nx, cn, Cf, h1, h2, h3, h4, h5, h6, h7, h8⟩ := h.all
  have hCC := hC0 j S D lim t hd C now h3 h4
  have hS := h3.1
  refine ⟨j, S, D, lim, t, hd, C, now, nx, cn, Cf, ⟨by rw [e3 _ _ _ (by omega)]; exact h1.1, h1.2.1, by rw [e3 _ _ _ (by omega)]; exact h1.2.2⟩, h2, h3.of (fun k a s hk => e1 _ _ _ (by unfold isS at hk; unfold isW; omega) (by unfold isS at hk; omega) (by unfold isS at hk; omega) (by unfold isS at hk; omega)) (fun z => e1 _ _ _ (by unfold isW; omega) (by omega) (by omega) (by omega)), ?_, h5.of hS (fun i k x z hi hw => ?_) (fun i hi => e3 _ _ _ (by omega)) (fun z => e1 _ _ _ (by unfold isW; omega) (by omega) (by omega) (by omega)) (e1 _ _ _ (by unfold isW; omega) (by omega) (by omega) (by omega)) (fun z => e1 _ _ _ (by unfold isW; omega) (by omega) (by omega) (by omega)) (fun k z k1 k2 hz => e1 _ _ _ (by unfold isW; omega) (by omega) (by omega) (by omega)), h6.of (fun k z hk => e1 _ _ _ (by unfold isW; omega) (by omega) (by omega) (by omega)) (e1 _ _ _ (by unfold isW; omega) (by omega) (by omega) (by omega)), h7.of (fun k z hk => e1 _ _ _ (by unfold isW; omega) (by omega) (by omega) (by omega)), by rw [e1 _ _ _ (by unfold isW; omega) (by omega) (by omega) (by omega), e1 _ _ _ (by unfold isW; omega) (by omega) (by omega) (by omega)]; exact h8⟩
  · refine RQ.wc hS ((h4.nu (fun k z k1 k2 hz => e1 _ _ _ (by unfold isW; omega) (by omega) (by omega) (by omega))).mu hS (fun k x z hw => ?_) (e3 _ _ _ (by omega))) e2
    have := isW_lt hw
    exact e1 _ _ _ (isW_ne hw (by omega)) (by omega) (by omega) (by omega)
  · have := isW_lt hw
    exact e1 _ _ _ (isW_ne hw (by omega)) (by omega) (by omega) (by omega)
theorem RQ.st {μ ν : zM} {i j : Nat} {S : zSt} {w : Nat → Int32} {B t hd C now b : Nat} {G : Nat → Prop} (h : RQ μ ν i j S w B t hd C now G) (hb : b < C) : ∃ s, s ≤ 9 ∧ μ.1 26 i b = nI s ∧ w (400 + 8 * b) = nI s ∧ (G b → s = 8 ∨ s = 9) ∧ (s = 8 ∨ s = 9 → RQ μ ν i j S w B t hd C now (fun x => x = b)) ∧ (s = 2 ∨ s = 3 → w (400 + 8 * b + 1) = μ.1 27 i b) ∧ C ≤ 100 := by
  obtain ⟨O, st, Q, hR, hG⟩ := h
  obtain ⟨g0, g1, g2, g3, g4, g5, -⟩ := hR.2.2.2.1 b hb
  exact ⟨st b, g0, g1, g2, hG b, fun z => ⟨O, st, Q, hR, fun x hx => by rw [hx]; exact z⟩, fun z => (g5 (by omega) (by omega) (by omega)).1, hR.1.2.2.2.2.2.2.2.2.2.2.1⟩
theorem pM_isInW {ν : zM} {w : Nat → Int32} {b s : Nat} (hb : b < 100) (h : w (400 + 8 * b) = nI s) (hs : s ≤ 9) : tX11_isIn_0 (nI b) (mW ν w) = some (some (.inl (zif (s = 2 ∨ s = 3) 1 0)), mW ν w) := pM_isIn hb (by rw [mW_65]; exact h) hs
/-- who is gone is never delivered -/
theorem goneM {ν : zM} {i j : Nat} {S : zSt} {D : zDv} {lim : Int32} {hd C b L : Nat} (hb : b < C) (hL : L < 2 ^ 31) : ∀ (m s g : Nat) (μ : zM) (w : Nat → Int32) (B t now : Nat), s + m = L → m < g → ENV μ ν j S D lim → RQ μ ν i j S w B t hd C now (fun x => x = b) → B + 70 * m < 1000000000 → now + m ≤ 101000 → ∃ w', tX11_ticksFor_2 g (nI b) (nI L) (nI s) (mW ν w) = some (some (.inl (-2)), mW ν w')
  | 0, s, g, μ, w, B, t, now, hs, hg, hE, h, hB, hn => by
    obtain ⟨g, rfl⟩ : ∃ q, g = q + 1 := ⟨g - 1, by omega⟩
    obtain ⟨x, x1, x2, x3, x4, -, -, x7⟩ := h.st hb
    have := x4 rfl
    refine ⟨w, ?_⟩
    rw [eX11_ticksFor_2, zif_neg (nI_nlt (by omega) (by omega)), eX11_ticksFor_25, pM_isInW (by omega) x3 x1, zI_some, zif_neg (show ¬ (x = 2 ∨ x = 3) by omega), zif_pos rfl, eX11_ticksFor_39]
  | m + 1, s, g, μ, w, B, t, now, hs, hg, hE, h, hB, hn => by
    obtain ⟨g, rfl⟩ : ∃ q, g = q + 1 := ⟨g - 1, by omega⟩
    obtain ⟨x, x1, x2, x3, x4, -, -, x7⟩ := h.st hb
    have := x4 rfl
    obtain ⟨μ1, w1, a1, a2, a3, a4⟩ := step_pair hE h (by omega) (by omega)
    obtain ⟨w', e⟩ := goneM hb hL m (s + 1) g μ1 w1 (B + 70) _ (now + 1) (by omega) (by omega) (hE.fr a3) a4 (by omega) (by omega)
    refine ⟨w', ?_⟩
    rw [eX11_ticksFor_2, zif_pos (nI_lt (by omega) hL), pM_isInW (by omega) x3 x1, zI_some, zif_neg (show ¬ (x = 2 ∨ x = 3) by omega), zif_pos rfl, a2, zU_some, eX11_ticksFor_22, nI_1, e]
/-- the reference alone -/
theorem untilM {ν : zM} {i j : Nat} {S : zSt} {D : zDv} {lim : Int32} {hd C b L : Nat} {G : Nat → Prop} (hb : b < C) (hL : L < 2 ^ 31) : ∀ (m s g : Nat) (μ : zM) (w : Nat → Int32) (B t now : Nat), s + m = L → m < g → ENV μ ν j S D lim → RQ μ ν i j S w B t hd C now G → B + 70 * m < 1000000000 → now + m ≤ 101000 → ∃ (o : Option Nat) (w' : Nat → Int32), tX11_ticksFor_2 g (nI b) (nI L) (nI s) (mW ν w) = some (some (.inl (oN (-2) id o)), mW ν w') ∧ ∀ n, o = some n → s ≤ n ∧ n ≤ L ∧ (¬ (w (400 + 8 * b) = 2 ∨ w (400 + 8 * b) = 3) → s < n) ∧ w' 0 = nI (now + (n - s))
  | 0, s, g, μ, w, B, t, now, hs, hg, hE, h, hB, hn => by
    obtain ⟨g, rfl⟩ : ∃ q, g = q + 1 := ⟨g - 1, by omega⟩
    obtain ⟨x, x1, x2, x3, -, -, -, x7⟩ := h.st hb
    have hw0 : w 0 = nI now := h.elim fun _ z => z.elim fun _ z => z.elim fun _ z => z.1.1.2.2.2.2.2.1
    by_cases q : x = 2 ∨ x = 3
    · refine ⟨some s, w, ?_, fun n hn => ?_⟩
      · rw [eX11_ticksFor_2, zif_neg (nI_nlt (by omega) (by omega)), eX11_ticksFor_25, pM_isInW (by omega) x3 x1, zI_some, zif_pos q, zif_neg one_ne0, eX11_ticksFor_39]; rfl
      · cases hn
        refine ⟨Nat.le_refl _, by omega, fun z => absurd (by rw [x3]; rcases q with q | q <;> rw [q]; exact Or.inl rfl; exact Or.inr rfl) z, by rw [hw0, Nat.sub_self, Nat.add_zero]⟩
    · refine ⟨none, w, ?_, fun n hn => by cases hn⟩
      rw [eX11_ticksFor_2, zif_neg (nI_nlt (by omega) (by omega)), eX11_ticksFor_25, pM_isInW (by omega) x3 x1, zI_some, zif_neg q, zif_pos rfl, eX11_ticksFor_39]; rfl
  | m + 1, s, g, μ, w, B, t, now, hs, hg, hE, h, hB, hn => by
    obtain ⟨g, rfl⟩ : ∃ q, g = q + 1 := ⟨g - 1, by omega⟩
    obtain ⟨x, x1, x2, x3, -, -, -, x7⟩ := h.st hb
    have hw0 : w 0 = nI now := h.elim fun _ z => z.elim fun _ z => z.elim fun _ z => z.1.1.2.2.2.2.2.1
    by_cases q : x = 2 ∨ x = 3
    · refine ⟨some s, w, ?_, fun n hn => ?_⟩
      · rw [eX11_ticksFor_2, zif_pos (nI_lt (by omega) hL), pM_isInW (by omega) x3 x1, zI_some, zif_pos q, zif_neg one_ne0, eX11_ticksFor_25, pM_isInW (by omega) x3 x1, zI_some, zif_pos q, zif_neg one_ne0, eX11_ticksFor_39]; rfl
      · cases hn
        refine ⟨Nat.le_refl _, by omega, fun z => absurd (by rw [x3]; rcases q with q | q <;> rw [q]; exact Or.inl rfl; exact Or.inr rfl) z, by rw [hw0, Nat.sub_self, Nat.add_zero]⟩
    · obtain ⟨μ1, w1, a1, a2, a3, a4⟩ := step_pair hE h (by omega) (by omega)
      obtain ⟨o, w', e1, e2⟩ := untilM hb hL m (s + 1) g μ1 w1 (B + 70) _ (now + 1) (by omega) (by omega) (hE.fr a3) a4 (by omega) (by omega)
      refine ⟨o, w', ?_, fun n hn => ?_⟩
      · rw [eX11_ticksFor_2, zif_pos (nI_lt (by omega) hL), pM_isInW (by omega) x3 x1, zI_some, zif_neg q, zif_pos rfl, a2, zU_some, eX11_ticksFor_22, nI_1, e1]
      · obtain ⟨f1, f2, f3, f4⟩ := e2 n hn
        exact ⟨by omega, f2, fun _ => by omega, by rw [f4]; congr 1; omega⟩
/-- what the class answers with its own limit -/
def capI (o : Option Nat) (L : Nat) : Int32 := match o with
  | none => -2
  | some n => if n ≤ L then nI n else -2
set_option maxHeartbeats 1000000 in
theorem until2 {ν : zM} {i j : Nat} {S : zSt} {D : zDv} {lim : Int32} {hd C b L LX : Nat} {G : Nat → Prop} (hb : b < C) (hL : L < 2 ^ 31) (hLX : LX ≤ L) : ∀ (m s f g : Nat) (μ : zM) (w : Nat → Int32) (B t now : Nat), s + m = L → m < f → m < g → s ≤ LX → ENV μ ν j S D lim → RQ μ ν i j S w B t hd C now G → B + 70 * m < 1000000000 → now + m ≤ 101000 → ∃ (o : Option Nat) (μ' : zM) (w' : Nat → Int32), tX9_ticksUntilDelivered_16 f i (nI b) (nI LX) (nI s) μ = some (some (.inl (capI o LX)), μ') ∧ tX11_ticksFor_2 g (nI b) (nI L) (nI s) (mW ν w) = some (some (.inl (oN (-2) id o)), mW ν w') ∧ FrW i μ μ' ∧ ∀ n, o = some n → s ≤ n ∧ n ≤ L ∧ (¬ (w (400 + 8 * b) = 2 ∨ w (400 + 8 * b) = 3) → s < n) ∧ w' 0 = nI (now + (n - s)) ∧ (n ≤ LX → w' (400 + 8 * b + 1) = μ'.1 27 i b)
  | 0, s, f, g, μ, w, B, t, now, hs, hf, hg, hsL, hE, h, hB, hn => by
    obtain ⟨f, rfl⟩ : ∃ q, f = q + 1 := ⟨f - 1, by omega⟩
    obtain ⟨g, rfl⟩ : ∃ q, g = q + 1 := ⟨g - 1, by omega⟩
    obtain ⟨x, x1, x2, x3, -, -, x6, x7⟩ := h.st hb
    have hw0 : w 0 = nI now := h.elim fun _ z => z.elim fun _ z => z.elim fun _ z => z.1.1.2.2.2.2.2.1
    by_cases q : x = 2 ∨ x = 3
    · refine ⟨some s, μ, w, ?_, ?_, FrW.rf, fun n hn => ?_⟩
      · rw [eX9_ticksUntilDelivered_16, zif_neg (nI_nlt (by omega) (by omega)), eX9_ticksUntilDelivered_53, pX0_deliv (by omega) x2 x1, zI_some, zif_pos q, zif_neg one_ne0, eX9_ticksUntilDelivered_70, show capI (some s) LX = nI s from if_pos hsL]
      · rw [eX11_ticksFor_2, zif_neg (nI_nlt (by omega) (by omega)), eX11_ticksFor_25, pM_isInW (by omega) x3 x1, zI_some, zif_pos q, zif_neg one_ne0, eX11_ticksFor_39]; rfl
      · cases hn
        refine ⟨Nat.le_refl _, by omega, fun z => absurd (by rw [x3]; rcases q with q | q <;> rw [q]; exact Or.inl rfl; exact Or.inr rfl) z, by rw [hw0, Nat.sub_self, Nat.add_zero], fun _ => x6 q⟩
    · refine ⟨none, μ, w, ?_, ?_, FrW.rf, fun n hn => by cases hn⟩
      · rw [eX9_ticksUntilDelivered_16, zif_neg (nI_nlt (by omega) (by omega)), eX9_ticksUntilDelivered_53, pX0_deliv (by omega) x2 x1, zI_some, zif_neg q, zif_pos rfl, eX9_ticksUntilDelivered_70]; rfl
      · rw [eX11_ticksFor_2, zif_neg (nI_nlt (by omega) (by omega)), eX11_ticksFor_25, pM_isInW (by omega) x3 x1, zI_some, zif_neg q, zif_pos rfl, eX11_ticksFor_39]; rfl
  | m + 1, s, f, g, μ, w, B, t, now, hs, hf, hg, hsL, hE, h, hB, hn => by
    obtain ⟨f, rfl⟩ : ∃ q, f = q + 1 := ⟨f - 1, by omega⟩
    obtain ⟨g, rfl⟩ : ∃ q, g = q + 1 := ⟨g - 1, by omega⟩
    obtain ⟨x, x1, x2, x3, -, x5, x6, x7⟩ := h.st hb
    have hw0 : w 0 = nI now := h.elim fun _ z => z.elim fun _ z => z.elim fun _ z => z.1.1.2.2.2.2.2.1
    have e53 : tX9_ticksUntilDelivered_53 i (nI b) (nI s) μ = some (some (.inl (zif (x = 2 ∨ x = 3) (nI s) (-2))), μ) := by
      rw [eX9_ticksUntilDelivered_53, pX0_deliv (by omega) x2 x1, zI_some, eX9_ticksUntilDelivered_70, eX9_ticksUntilDelivered_70]
      by_cases q : x = 2 ∨ x = 3
      · rw [zif_pos q, zif_neg one_ne0, zif_pos q]
      · rw [zif_neg q, zif_pos rfl, zif_neg q]
    by_cases q : x = 2 ∨ x = 3
    · refine ⟨some s, μ, w, ?_, ?_, FrW.rf, fun n hn => ?_⟩
      · rw [eX9_ticksUntilDelivered_16, pX0_deliv (by omega) x2 x1, zI_some, zif_pos q, zif_neg one_ne0, e53, zif_pos q, show capI (some s) LX = nI s from if_pos hsL]
        by_cases y : nI s < nI LX
        · rw [zif_pos y]
        · rw [zif_neg y]
      · rw [eX11_ticksFor_2, zif_pos (nI_lt (by omega) hL), pM_isInW (by omega) x3 x1, zI_some, zif_pos q, zif_neg one_ne0, eX11_ticksFor_25, pM_isInW (by omega) x3 x1, zI_some, zif_pos q, zif_neg one_ne0, eX11_ticksFor_39]; rfl
      · cases hn
        refine ⟨Nat.le_refl _, by omega, fun z => absurd (by rw [x3]; rcases q with q | q <;> rw [q]; exact Or.inl rfl; exact Or.inr rfl) z, by rw [hw0, Nat.sub_self, Nat.add_zero], fun _ => x6 q⟩
    · rw [zif_neg q] at e53
      have hMs : ∀ μ1, tX11_ticks_0 (mW ν w) = some (none, μ1) → tX11_ticksFor_2 (g + 1) (nI b) (nI L) (nI s) (mW ν w) = tX11_ticksFor_2 g (nI b) (nI L) (nI (s + 1)) μ1 := fun μ1 e => by
        rw [eX11_ticksFor_2, zif_pos (nI_lt (by omega) hL), pM_isInW (by omega) x3 x1, zI_some, zif_neg q, zif_pos rfl, e, zU_some, eX11_ticksFor_22, nI_1]
      have hXs : tX9_ticksUntilDelivered_16 (f + 1) i (nI b) (nI LX) (nI s) μ = zif (nI s < nI LX) (zif (x = 8 ∨ x = 9) (some (some (.inl (-2)), μ)) (zU (tX9_step_0 i μ) fun μ5 => tX9_ticksUntilDelivered_16 f i (nI b) (nI LX) (nI (s + 1)) μ5)) (some (some (.inl (-2)), μ)) := by
        rw [eX9_ticksUntilDelivered_16, pX0_deliv (by omega) x2 x1, zI_some, zif_neg q, zif_pos rfl, pX0_gone (by omega) x2 x1, zI_some, e53]
        simp only [eX9_ticksUntilDelivered_50, nI_1]
        by_cases y : x = 8 ∨ x = 9
        · rw [zif_pos y, zif_neg one_ne0, zif_pos y]
        · rw [zif_neg y, zif_pos rfl, zif_neg y]
      obtain ⟨μ1, w1, a1, a2, a3, a4⟩ := step_pair hE h (by omega) (by omega)
      by_cases y : nI s < nI LX
      · have hsX := (nI_ltI (by omega) (by omega)).mp y
        by_cases yg : x = 8 ∨ x = 9
        · obtain ⟨w', e⟩ := goneM hb hL (m + 1) s (g + 1) μ w B t now (by omega) (by omega) hE (x5 yg) hB hn
          exact ⟨none, μ, w', by rw [hXs, zif_pos y, zif_pos yg]; rfl, e, FrW.rf, fun n hn => by cases hn⟩
        · obtain ⟨o, μ', w', e1, e2, e3, e4⟩ := until2 hb hL hLX m (s + 1) f g μ1 w1 (B + 70) _ (now + 1) (by omega) (by omega) (by omega) (by omega) (hE.fr a3) a4 (by omega) (by omega)
          refine ⟨o, μ', w', by rw [hXs, zif_pos y, zif_neg yg, a1, zU_some, e1], by rw [hMs _ a2, e2], a3.tr e3, fun n hn => ?_⟩
          obtain ⟨f1, f2, f3, f4, f5⟩ := e4 n hn
          exact ⟨by omega, f2, fun _ => by omega, by rw [f4]; congr 1; omega, f5⟩
      · have hsX : LX ≤ s := Classical.byContradiction (fun z => y (nI_lt (by omega) (by omega)))
        obtain ⟨o, w', e1, e2⟩ := untilM hb hL m (s + 1) g μ1 w1 (B + 70) _ (now + 1) (by omega) (by omega) (hE.fr a3) a4 (by omega) (by omega)
        refine ⟨o, μ, w', ?_, by rw [hMs _ a2, e1], FrW.rf, fun n hn => ?_⟩
        · rw [hXs, zif_neg y]
          cases o with
          | none => rfl
          | some n =>
            have := (e2 n rfl).1
            rw [show capI (some n) LX = -2 from if_neg (by omega)]
        · obtain ⟨f1, f2, f3, f4⟩ := e2 n hn
          exact ⟨by omega, f2, fun _ => by omega, by rw [f4]; congr 1; omega, fun z => by omega⟩
