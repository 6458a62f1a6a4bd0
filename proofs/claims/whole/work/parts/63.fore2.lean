/-! ===== forecasts: the calls ===== -/
theorem RQ.C_eq {μ ν ν' μ' : zM} {i i' j j' : Nat} {S S' : zSt} {w : Nat → Int32} {B B' t t' hd hd' C C' now now' : Nat} {G G' : Nat → Prop} (h : RQ μ ν i j S w B t hd C now G) (h' : RQ μ' ν' i' j' S' w B' t' hd' C' now' G') : C = C' := by
  have e1 : C ≤ 100 ∧ w 1 = nI C := h.elim fun _ z => z.elim fun _ z => z.elim fun _ z => ⟨z.1.1.2.2.2.2.2.2.2.2.2.2.1, z.1.1.2.2.2.2.2.2.2.2.2.2.2.2⟩
  have e2 : C' ≤ 100 ∧ w 1 = nI C' := h'.elim fun _ z => z.elim fun _ z => z.elim fun _ z => ⟨z.1.1.2.2.2.2.2.2.2.2.2.2.1, z.1.1.2.2.2.2.2.2.2.2.2.2.2.2⟩
  exact (nI_eq (by omega) (by omega)).mp (e1.2.symm.trans e2.2)
/-- the copy that runs ahead -/
theorem ahead {μ ν : zM} {j : Nat} {S : zSt} {D : zDv} {lim : Int32} {w : Nat → Int32} {B t hd C now : Nat} {G : Nat → Prop} (hE : ENV μ ν j S D lim) (h : RQ μ ν 0 j S w B t hd C now G) : ∃ μ1, tX9_copyFrom_0 1 0 μ = some (none, μ1) ∧ FrC 1 μ μ1 ∧ ENV μ1 ν j S D lim ∧ RQ μ1 ν 1 j S w B t hd C now G ∧ RQ μ1 ν 0 j S w B t hd C now G := by
  have hj9 : μ.2.1 9 0 0 = j := h.elim fun _ z => z.elim fun _ z => z.elim fun _ z => z.1.1.1
  obtain ⟨μ1, e1, fr, cp⟩ := pX9_copyFrom (μ := μ) (a := 1) (b := 0) (j := j) (by decide) hj9 hE.2.2.1.1
  exact ⟨μ1, e1, fr, hE.of (fun k a s hk => fr.2.2 _ _ _ (by unfold isS at hk; unfold isW; omega)) (fun _ => rfl), h.cp hE.1 cp, h.mu hE.1 (fun k x z hw => fr.2.2 _ _ _ (isW_ne hw (by decide))) (fr.1 _ _ _ (by omega))⟩
/-- only the copy changed -/
def FrA (μ μ' : zM) : Prop := (∀ k x n, ¬ (k = 9 ∧ x = 1 ∧ n = 0) → μ'.2.1 k x n = μ.2.1 k x n) ∧ ∀ k x s, ¬ isW 1 k x → μ'.1 k x s = μ.1 k x s
theorem FrA.rf {μ : zM} : FrA μ μ := ⟨fun _ _ _ _ => rfl, fun _ _ _ _ => rfl⟩
theorem FrA.tr {μ μ1 μ2 : zM} (h1 : FrA μ μ1) (h2 : FrA μ1 μ2) : FrA μ μ2 := ⟨fun k x n hn => (h2.1 k x n hn).trans (h1.1 k x n hn), fun k x s hn => (h2.2 k x s hn).trans (h1.2 k x s hn)⟩
theorem FrC.fa {μ μ' : zM} (h : FrC 1 μ μ') : FrA μ μ' := ⟨h.1, h.2.2⟩
theorem FrW.fa {μ μ' : zM} (h : FrW 1 μ μ') : FrA μ μ' := ⟨fun k x n _ => by rw [h.1], h.2⟩
/-- the reference behind a forecast -/
def FrN (C : Nat) (ν ν' : zM) : Prop := ν'.2 = ν.2 ∧ (∀ z, z < 1200 → ν'.1 65 0 z = ν.1 65 0 z) ∧ ∀ k i z, ¬ (68 ≤ k ∧ k ≤ 72 ∧ C ≤ z) → ¬ ((k = 65 ∨ k = 66) ∧ i = 0) → ν'.1 k i z = ν.1 k i z
theorem FrN.rf {C : Nat} {ν : zM} : FrN C ν ν := ⟨rfl, fun _ _ => rfl, fun _ _ _ _ _ => rfl⟩
theorem FrN.tr {C : Nat} {ν ν1 ν2 : zM} (h1 : FrN C ν ν1) (h2 : FrN C ν1 ν2) : FrN C ν ν2 := ⟨h2.1.trans h1.1, fun z hz => (h2.2.1 z hz).trans (h1.2.1 z hz), fun k i z n1 n2 => (h2.2.2 k i z n1 n2).trans (h1.2.2 k i z n1 n2)⟩
/-- aside, forward and back again -/
theorem aside_back {ν ν2 : zM} {C : Nat} {w' : Nat → Int32} (h1 : ν2.2 = ν.2) (h2 : ∀ k i z, ¬ (68 ≤ k ∧ k ≤ 72 ∧ C ≤ z) → ν2.1 k i z = (mR ν 66 0 (cpF (ν.1 65 0) (ν.1 66 0) 0 1200)).1 k i z) : ∃ ν3, tX11_comesBack_0 (mW ν2 w') = some (none, ν3) ∧ FrN C ν ν3 := by
  refine ⟨_, pM_comesBack _, h1, fun z hz => ?_, fun k i z n1 n2 => ?_⟩
  · rw [mR_at]
    unfold cpF
    rw [if_pos (by omega), Nat.sub_zero, mW_k _ _ _ _ _ (by decide), h2 _ _ _ (by omega), mR_at]
    unfold cpF
    rw [if_pos (by omega), Nat.sub_zero]
  · rw [mR_ne _ _ _ _ _ _ _ (fun q => n2 ⟨Or.inl q.1, q.2⟩)]
    show (if k = 65 ∧ i = 0 then w' z else ν2.1 k i z) = _
    rw [if_neg (fun q => n2 ⟨Or.inl q.1, q.2⟩), h2 k i z n1, mR_ne _ _ _ _ _ _ _ (fun q => n2 ⟨Or.inr q.1, q.2⟩)]
theorem fore_call {μ : zM} {c : Nat} {X M : zM → Option (Option zV × zM)} (h : REL μ c) {C : Nat} (hC : μ.1 65 0 1 = nI C) (hC1 : C ≤ 100)
    (hP : ∀ ν, (∀ k i z, k = 11 ∨ (62 ≤ k ∧ k ≤ 73) → ν.1 k i z = μ.1 k i z) → ∃ v μ2 ν2, X μ = some (some (.inl v), μ2) ∧ FrA μ μ2 ∧ M ν = some (some (.inl v), ν2) ∧ FrN C ν ν2) : CALL X M μ (c + 1) := by
  obtain ⟨v, μ2, -, f1, f2, -, -⟩ := hP μ (fun _ _ _ _ => rfl)
  obtain ⟨v', μ2', ν2, g1, g2, g3, g4⟩ := hP μ2 (fun k i z hk => f2.2 _ _ _ (by unfold isW; omega))
  rw [f1] at g1
  cases g1
  refine ⟨v, μ2, ν2, f1, g3, REL.up (REL.fore (C0 := C) h (fun j S D lim t hd C' now q1 q2 => ?_) (fun k x s n1 n2 n3 n4 => ?_) (fun z hz => ?_) (fun k x n hn => ?_)) (by omega)⟩
  · have e2 : C' ≤ 100 ∧ μ.1 65 0 1 = nI C' := q2.elim fun _ z => z.elim fun _ z => z.elim fun _ z => ⟨z.1.1.2.2.2.2.2.2.2.2.2.2.1, z.1.1.2.2.2.2.2.2.2.2.2.2.2.2⟩
    exact Nat.le_of_eq ((nI_eq (by omega) (by omega)).mp (e2.2.symm.trans hC))
  · rw [g4.2.2 k x s n4 (fun q => q.1.elim n2 n3), f2.2 k x s n1]
  · rw [g4.2.1 z hz, f2.2 _ _ _ (by unfold isW; omega)]
  · rw [g4.1, f2.1 k x n hn]
section FORE
variable {μ : zM} {c : Nat}
theorem nu_ENV {μ1 ν : zM} {j : Nat} {S : zSt} {D : zDv} {lim : Int32} (h : ENV μ1 μ j S D lim) (e : ∀ k i z, k = 11 ∨ (62 ≤ k ∧ k ≤ 73) → ν.1 k i z = μ.1 k i z) : ENV μ1 ν j S D lim := h.of (fun _ _ _ _ => rfl) (fun z => e _ _ _ (by omega))
theorem nu_RQ {μ1 ν : zM} {i j : Nat} {S : zSt} {w : Nat → Int32} {B t hd C now : Nat} {G : Nat → Prop} (h : RQ μ1 μ i j S w B t hd C now G) (e : ∀ k i z, k = 11 ∨ (62 ≤ k ∧ k ≤ 73) → ν.1 k i z = μ.1 k i z) : RQ μ1 ν i j S w B t hd C now G := h.nu (fun k z k1 k2 _ => e _ _ _ (by omega))
/-- the reference with its world laid aside -/
theorem lays_at {ν : zM} : tX11_laysAside_0 ν = some (none, mW (mR ν 66 0 (cpF (ν.1 65 0) (ν.1 66 0) 0 1200)) (ν.1 65 0)) := by
  rw [pM_laysAside]
  have : mW (mR ν 66 0 (cpF (ν.1 65 0) (ν.1 66 0) 0 1200)) (ν.1 65 0) = mR ν 66 0 (cpF (ν.1 65 0) (ν.1 66 0) 0 1200) := by
    have e := mW_self (mR ν 66 0 (cpF (ν.1 65 0) (ν.1 66 0) 0 1200))
    have e2 : (mR ν 66 0 (cpF (ν.1 65 0) (ν.1 66 0) 0 1200)).1 65 0 = ν.1 65 0 := funext (fun z => mR_ne _ _ _ _ _ _ _ (by omega))
    rw [e2] at e
    exact e
  rw [this]
theorem pM_fd_loop {ν : zM} {k : Nat} {w' : Nat → Int32} (hk : k < 2 ^ 31) : ∀ (m s f : Nat) (μ : zM), s + m = k → m < f → tkN m μ (mW ν w') → tX11_forecastDelivered_20 f (nI k) (nI s) μ = tX11_forecastDelivered_51 (w' 10 - ν.1 66 0 10) (mW ν w')
  | 0, s, f, μ, hs, hf, h => by
    obtain ⟨f, rfl⟩ : ∃ q, f = q + 1 := ⟨f - 1, by omega⟩
    have h : mW ν w' = μ := h
    subst h
    rw [eX11_forecastDelivered_20, zif_neg (nI_nlt (by omega) (by omega)), qW (x := 10) (p := 10) rfl (by decide), Option.bind_some, qI_in (x := 10) (p := 10) (zS_66 0) rfl (by decide) (by decide), Option.bind_some, mW_k _ _ _ _ _ (by decide)]
  | m + 1, s, f, μ, hs, hf, h => by
    obtain ⟨f, rfl⟩ : ∃ q, f = q + 1 := ⟨f - 1, by omega⟩
    obtain ⟨μ1, h1, h2⟩ := h
    rw [eX11_forecastDelivered_20, zif_pos (nI_lt (by omega) hk), h1, zU_some, eX11_forecastDelivered_32, nI_1]
    exact pM_fd_loop hk m (s + 1) f μ1 (by omega) (by omega) h2
theorem pM_fs_loop {ν : zM} {k b : Nat} {w' : Nat → Int32} (hk : k < 2 ^ 31) (hb : b < 100) : ∀ (m s f : Nat) (μ : zM), s + m = k → m < f → tkN m μ (mW ν w') → tX11_forecastState_28 f (nI b) (nI k) (nI s) μ = tX11_forecastState_50 (w' (400 + 8 * b)) (mW ν w')
  | 0, s, f, μ, hs, hf, h => by
    obtain ⟨f, rfl⟩ : ∃ q, f = q + 1 := ⟨f - 1, by omega⟩
    have h : mW ν w' = μ := h
    subst h
    rw [eX11_forecastState_28, zif_neg (nI_nlt (by omega) (by omega)), pM_ofBagW (y := 0) (c := 0) rfl hb rfl (by decide), zI_some, Nat.add_zero]
  | m + 1, s, f, μ, hs, hf, h => by
    obtain ⟨f, rfl⟩ : ∃ q, f = q + 1 := ⟨f - 1, by omega⟩
    obtain ⟨μ1, h1, h2⟩ := h
    rw [eX11_forecastState_28, zif_pos (nI_lt (by omega) hk), h1, zU_some, eX11_forecastState_40, nI_1]
    exact pM_fs_loop hk hb m (s + 1) f μ1 (by omega) (by omega) h2
theorem a_forecastDelivered (h : REL μ c) (hc : c ≤ 600) (x : Int32) : CALL (tX10_forecastDelivered_0 x) (tX11_forecastDelivered_0 x) μ (c + 1) := by
  obtain ⟨j, S, D, lim, t, hd, C, now, nx, cn, Cf, h1, h2, h3, h4, h5, h6, h7, h8⟩ := h.all
  have h4' := h4
  obtain ⟨O, st, Q, hR, -⟩ := h4'
  have hC := hR.1.2.2.2.2.2.2.2.2.2.2.1
  have hC2 := hR.1.2.2.2.2.2.2.2.2.2.2.2.2
  by_cases hx : x < 1 ∨ (300 : Int32) < x
  · refine CALL.ask h (v := -1) ?_ ?_
    · rw [eX10_forecastDelivered_0, pX10_isWithin, zI_some, zif_pos hx, zif_pos rfl]
    · rw [eX11_forecastDelivered_0, pM_in (a := x) (lo := 1) (hi := 300) rfl (by decide) (by decide), zI_some, zif_pos hx, zif_pos rfl]
  · obtain ⟨k, k1, k2, rfl⟩ := rng_of (a := 1) (b := 300) rfl rfl (by decide) (by decide) hx
    refine fore_call h hC2 hC (fun ν hν => ?_)
    obtain ⟨μ1, e1, fr1, hE1, hR1, -⟩ := ahead (nu_ENV h3 hν) (nu_RQ h4 hν)
    have e65 : ν.1 65 0 = μ.1 65 0 := funext (fun z => hν _ _ _ (by omega))
    rw [← e65] at hR1
    generalize hν1 : mR ν 66 0 (cpF (ν.1 65 0) (ν.1 66 0) 0 1200) = ν1
    have hn1 : ∀ k i z, k ≠ 66 → ν1.1 k i z = ν.1 k i z := fun k i z hk => by rw [← hν1, mR_ne _ _ _ _ _ _ _ (fun q => hk q.1)]
    have hE2 : ENV μ1 ν1 j S D lim := hE1.of (fun _ _ _ _ => rfl) (fun z => hn1 _ _ _ (by decide))
    have hR2 : RQ μ1 ν1 1 j S (ν.1 65 0) (30000 * c) t hd C now noG := hR1.nu (fun k z q1 q2 _ => hn1 _ _ _ (by omega))
    obtain ⟨μ', w', t', b1, b2, b3, b4⟩ := steps k μ1 (ν.1 65 0) (30000 * c) t now hE2 hR2 (by omega) (by omega)
    have hcX : ∀ m w B t now, RQ m ν1 1 j S w B t hd C now noG → w 10 = m.1 57 1 7 := fun m w B t now z => z.elim fun _ z => z.elim fun _ z => z.elim fun _ z => z.1.1.2.2.2.2.2.2.2.2.2.1 7 (by decide)
    have h66 : ν1.1 66 0 10 = ν.1 65 0 10 := by
      rw [← hν1, mR_at]
      unfold cpF
      rw [if_pos (by omega)]
    obtain ⟨ν3, g1, g2⟩ := aside_back (ν := ν) (ν2 := ν1) (C := C) (w' := w') (by rw [← hν1]; rfl) (fun k i z _ => by rw [hν1])
    refine ⟨μ'.1 57 1 7 - μ1.1 57 1 7, μ', ν3, ?_, fr1.fa.tr b3.fa, ?_, g2⟩
    · rw [eX10_forecastDelivered_0, pX10_isWithin, zI_some, zif_neg hx, zif_neg one_ne0, e1, zU_some, pX9_deliv (by omega) b1, zI_some]
    · rw [eX11_forecastDelivered_0, pM_in (a := nI k) (lo := 1) (hi := 300) rfl (by decide) (by decide), zI_some, zif_neg hx, zif_neg one_ne0, lays_at, zU_some, hν1]
      have e := pM_fd_loop (ν := ν1) (w' := w') (show k < 2 ^ 31 by omega) k 0 zN (mW ν1 (ν.1 65 0)) (by omega) (by rw [zN_eq]; omega) b2
      refine Eq.trans e ?_
      rw [eX11_forecastDelivered_51, g1, zU_some, h66, hcX _ _ _ _ _ hR2, hcX _ _ _ _ _ b4]
theorem a_forecastState (h : REL μ c) (hc : c ≤ 600) (y x : Int32) : CALL (tX10_forecastState_0 y x) (tX11_forecastState_0 y x) μ (c + 1) := by
  obtain ⟨j, S, D, lim, t, hd, C, now, nx, cn, Cf, h1, h2, h3, h4, h5, h6, h7, h8⟩ := h.all
  have h4' := h4
  obtain ⟨O, st, Q, hR, -⟩ := h4'
  have hC := hR.1.2.2.2.2.2.2.2.2.2.2.1
  have hC1 := hR.1.2.2.2.2.2.2.2.2.2.2.2.1
  have hC2 := hR.1.2.2.2.2.2.2.2.2.2.2.2.2
  rcases ix_of y (n := C) (by omega) with ⟨b, hb, rfl⟩ | hy
  · by_cases hx : x < 1 ∨ (300 : Int32) < x
    · refine CALL.ask h (v := -1) ?_ ?_
      · rw [eX10_forecastState_0, pX0_has hC1, zI_some, ok_yes hb (by omega), zif_neg one_ne0, pX10_isWithin, zI_some, zif_pos hx, zif_pos rfl, eX10_forecastState_25]
      · rw [eX11_forecastState_0, pM_isBag hC2 (by omega), zI_some, ok_yes hb (by omega), zif_neg one_ne0, pM_in (a := x) (lo := 1) (hi := 300) rfl (by decide) (by decide), zI_some, zif_pos hx, zif_pos rfl, eX11_forecastState_20]
    · obtain ⟨k, k1, k2, rfl⟩ := rng_of (a := 1) (b := 300) rfl rfl (by decide) (by decide) hx
      refine fore_call h hC2 hC (fun ν hν => ?_)
      obtain ⟨μ1, e1, fr1, hE1, hR1, -⟩ := ahead (nu_ENV h3 hν) (nu_RQ h4 hν)
      have e65 : ν.1 65 0 = μ.1 65 0 := funext (fun z => hν _ _ _ (by omega))
      rw [← e65] at hR1
      generalize hν1 : mR ν 66 0 (cpF (ν.1 65 0) (ν.1 66 0) 0 1200) = ν1
      have hn1 : ∀ k i z, k ≠ 66 → ν1.1 k i z = ν.1 k i z := fun k i z hk => by rw [← hν1, mR_ne _ _ _ _ _ _ _ (fun q => hk q.1)]
      have hE2 : ENV μ1 ν1 j S D lim := hE1.of (fun _ _ _ _ => rfl) (fun z => hn1 _ _ _ (by decide))
      have hR2 : RQ μ1 ν1 1 j S (ν.1 65 0) (30000 * c) t hd C now noG := hR1.nu (fun k z q1 q2 _ => hn1 _ _ _ (by omega))
      obtain ⟨μ', w', t', b1, b2, b3, b4⟩ := steps k μ1 (ν.1 65 0) (30000 * c) t now hE2 hR2 (by omega) (by omega)
      obtain ⟨s, s1, s2, s3, -⟩ := b4.st hb
      obtain ⟨ν3, g1, g2⟩ := aside_back (ν := ν) (ν2 := ν1) (C := C) (w' := w') (by rw [← hν1]; rfl) (fun k i z _ => by rw [hν1])
      refine ⟨nI s, μ', ν3, ?_, fr1.fa.tr b3.fa, ?_, g2⟩
      · rw [eX10_forecastState_0, pX0_has hC1, zI_some, ok_yes hb (by omega), zif_neg one_ne0, pX10_isWithin, zI_some, zif_neg hx, zif_neg one_ne0, e1, zU_some, pX9_deliv (by omega) b1, zI_some, qI_in (zS_26 1) rfl (show b < 100 by omega) (by decide), Option.bind_some, s2]
      · rw [eX11_forecastState_0, pM_isBag (n := C) (by rw [e65]; exact hC2) (by omega), zI_some, ok_yes hb (by omega), zif_neg one_ne0, pM_in (a := nI k) (lo := 1) (hi := 300) rfl (by decide) (by decide), zI_some, zif_neg hx, zif_neg one_ne0, lays_at, zU_some, hν1]
        have e := pM_fs_loop (ν := ν1) (w' := w') (b := b) (show k < 2 ^ 31 by omega) (by omega) k 0 zN (mW ν1 (ν.1 65 0)) (by omega) (by rw [zN_eq]; omega) b2
        refine Eq.trans e ?_
        rw [eX11_forecastState_50, g1, zU_some, s3]
  · refine CALL.ask h (v := -1) ?_ ?_
    · rw [eX10_forecastState_0, pX0_has hC1, zI_some, ok_no hy, zif_pos rfl, eX10_forecastState_25]
    · rw [eX11_forecastState_0, pM_isBag hC2 (by omega), zI_some, ok_no hy, zif_pos rfl, eX11_forecastState_20]
theorem a_ticksToChute (h : REL μ c) (hc : c ≤ 600) (y x : Int32) : CALL (tX10_ticksToChute_0 y x) (tX11_ticksToChute_0 y x) μ (c + 1) := by
  obtain ⟨j, S, D, lim, t, hd, C, now, nx, cn, Cf, h1, h2, h3, h4, h5, h6, h7, h8⟩ := h.all
  have h4' := h4
  obtain ⟨O, st, Q, hR, -⟩ := h4'
  have hC := hR.1.2.2.2.2.2.2.2.2.2.2.1
  have hC1 := hR.1.2.2.2.2.2.2.2.2.2.2.2.1
  have hC2 := hR.1.2.2.2.2.2.2.2.2.2.2.2.2
  rcases ix_of y (n := C) (by omega) with ⟨b, hb, rfl⟩ | hy
  · by_cases hx : x < 1 ∨ (300 : Int32) < x
    · refine CALL.ask h (v := -1) ?_ ?_
      · rw [eX10_ticksToChute_0, pX0_has hC1, zI_some, ok_yes hb (by omega), zif_neg one_ne0, pX10_isWithin, zI_some, zif_pos hx, zif_pos rfl, eX10_ticksToChute_25]
      · rw [eX11_ticksToChute_0, pM_isBag hC2 (by omega), zI_some, ok_yes hb (by omega), zif_neg one_ne0, pM_in (a := x) (lo := 1) (hi := 300) rfl (by decide) (by decide), zI_some, zif_pos hx, zif_pos rfl, eX11_ticksToChute_20]
    · obtain ⟨k, k1, k2, rfl⟩ := rng_of (a := 1) (b := 300) rfl rfl (by decide) (by decide) hx
      refine fore_call h hC2 hC (fun ν hν => ?_)
      obtain ⟨μ1, e1, fr1, hE1, hR1, -⟩ := ahead (nu_ENV h3 hν) (nu_RQ h4 hν)
      have e65 : ν.1 65 0 = μ.1 65 0 := funext (fun z => hν _ _ _ (by omega))
      rw [← e65] at hR1
      generalize hν1 : mR ν 66 0 (cpF (ν.1 65 0) (ν.1 66 0) 0 1200) = ν1
      have hn1 : ∀ k i z, k ≠ 66 → ν1.1 k i z = ν.1 k i z := fun k i z hk => by rw [← hν1, mR_ne _ _ _ _ _ _ _ (fun q => hk q.1)]
      have hE2 : ENV μ1 ν1 j S D lim := hE1.of (fun _ _ _ _ => rfl) (fun z => hn1 _ _ _ (by decide))
      have hR2 : RQ μ1 ν1 1 j S (ν.1 65 0) (30000 * c) t hd C now noG := hR1.nu (fun k z q1 q2 _ => hn1 _ _ _ (by omega))
      have hcnt : μ1.1 0 1 0 = nI C := hR2.elim fun _ z => z.elim fun _ z => z.elim fun _ z => z.1.1.2.2.2.2.2.2.2.2.2.2.2.1
      obtain ⟨o, μ', w', b1, b2, b3, b4⟩ := until2 (L := k) (LX := k) hb (by omega) (Nat.le_refl _) k 0 zN zN μ1 (ν.1 65 0) (30000 * c) t now (by omega) (by rw [zN_eq]; omega) (by rw [zN_eq]; omega) (by omega) hE2 hR2 (by omega) (by omega)
      obtain ⟨ν3, g1, g2⟩ := aside_back (ν := ν) (ν2 := ν1) (C := C) (w' := w') (by rw [← hν1]; rfl) (fun k i z _ => by rw [hν1])
      have ecap : capI o k = oN (-2) id o := by
        cases o with
        | none => rfl
        | some n => exact if_pos (b4 n rfl).2.1
      have b1' : tX9_ticksUntilDelivered_16 zN 1 (nI b) (nI k) 0 μ1 = some (some (.inl (capI o k)), μ') := b1
      refine ⟨oN (-2) id o, μ', ν3, ?_, fr1.fa.tr b3.fa, ?_, g2⟩
      · rw [eX10_ticksToChute_0, pX0_has hC1, zI_some, ok_yes hb (by omega), zif_neg one_ne0, pX10_isWithin, zI_some, zif_neg hx, zif_neg one_ne0, e1, zU_some, eX9_ticksUntilDelivered_0, pX0_has hcnt, zI_some, ok_yes hb (by omega), zif_neg one_ne0, b1', zI_some, ecap]
      · rw [eX11_ticksToChute_0, pM_isBag (n := C) (by rw [e65]; exact hC2) (by omega), zI_some, ok_yes hb (by omega), zif_neg one_ne0, pM_in (a := nI k) (lo := 1) (hi := 300) rfl (by decide) (by decide), zI_some, zif_neg hx, zif_neg one_ne0, lays_at, zU_some, hν1, eX11_ticksFor_0]
        have b2' : tX11_ticksFor_2 zN (nI b) (nI k) 0 (mW ν1 (ν.1 65 0)) = some (some (.inl (oN (-2) id o)), mW ν1 w') := b2
        rw [b2', zI_some, eX11_ticksToChute_33, g1, zU_some]
  · refine CALL.ask h (v := -1) ?_ ?_
    · rw [eX10_ticksToChute_0, pX0_has hC1, zI_some, ok_no hy, zif_pos rfl, eX10_ticksToChute_25]
    · rw [eX11_ticksToChute_0, pM_isBag hC2 (by omega), zI_some, ok_no hy, zif_pos rfl, eX11_ticksToChute_20]
end FORE
