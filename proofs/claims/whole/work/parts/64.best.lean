/-! ===== bestInlet, latestDelay ===== -/
/-- in time -/
noncomputable def inT (o : Option Nat) (p : Prop) (f : Nat → Prop) : Int32 := match o with
  | none => 0
  | some n => zif p (zif (f n) 1 0) 0
set_option maxHeartbeats 1000000 in
theorem trial_pair {μ1 ν1 : zM} {j : Nat} {S : zSt} {D : zDv} {lim : Int32} {w : Nat → Int32} {B t hd C now f k L LX : Nat} (hE : ENV μ1 ν1 j S D lim) (h : RQ μ1 ν1 1 j S w B t hd C now noG) (hj : μ1.2.1 10 0 6 = j) (hC1 : C < 100) (hf : f < sF S) (hk : k < scnt S 1) (hL : L ≤ 300) (hLX : LX ≤ L) (hB : B + 30000 < 1000000000) (hn : now + 300 ≤ 101000) :
    ∃ (o : Option Nat) (μ2 μ3 ν2 : zM) (w2 w3 : Nat → Int32), tX10_addTrialBag_0 (nI f) (nI k) μ1 = some (some (.inl (nI C)), μ2) ∧ tX9_ticksUntilDelivered_0 1 (nI C) (nI LX) μ2 = some (some (.inl (capI o LX)), μ3) ∧ tX11_additional_0 (nI f) (nI k) (mW ν1 w) = some (some (.inl (nI C)), mW ν2 w2) ∧ tX11_ticksFor_0 (nI C) (nI L) (mW ν2 w2) = some (some (.inl (oN (-2) id o)), mW ν2 w3) ∧ FrW 1 μ1 μ3 ∧ ν2.2 = ν1.2 ∧ (∀ k i z, ¬ (68 ≤ k ∧ k ≤ 72 ∧ C ≤ z) → ν2.1 k i z = ν1.1 k i z) ∧ ∀ n, o = some n → 1 ≤ n ∧ n ≤ L ∧ w3 0 = nI (now + n) ∧ (n ≤ LX → w3 (400 + 8 * C + 1) = μ3.1 27 1 C) := by
  have hS := hE.1
  have hF := hS.2.2.2.1
  have hj2 := hE.2.2.1.1
  obtain ⟨⟨q, q1, q2, q3⟩, -⟩ := hS.2.2.2.2.1 f hf
  have hlb : isLb (nI (1000 * q)) := Or.inr (Or.inr ⟨1000 * q, by omega, by omega, rfl⟩)
  obtain ⟨μa, μ2, e1, e2, e3, f1, f2, f3⟩ := arrive_pair (x1 := nI (1000 * q)) (x2 := 15) (x3 := 0) (x4 := 0) (x5 := 0) hE h (fun _ z => z.elim) (by omega) hC1 hk hlb (Or.inl rfl)
  have hFX := (hE.fr f1).2.2.1.2.2.2.2.1
  have h31 : μa.1 31 j f = nI q := (hFX.2.2 0 f (by decide) hf).trans q3
  have hcnt : μ2.1 0 1 0 = nI (C + 1) := f3.elim fun _ z => z.elim fun _ z => z.elim fun _ z => z.1.1.2.2.2.2.2.2.2.2.2.2.2.1
  have hEl : ENV μ2 (lbN ν1 C (nI (1000 * q)) 15 0 0 0) j S D lim := (hE.fr f2).of (fun _ _ _ _ => rfl) (fun z => by
    unfold lbN
    rw [mS_k _ _ _ _ _ _ _ _ (by decide), mS_k _ _ _ _ _ _ _ _ (by decide), mS_k _ _ _ _ _ _ _ _ (by decide), mS_k _ _ _ _ _ _ _ _ (by decide), mS_k _ _ _ _ _ _ _ _ (by decide)])
  obtain ⟨o, μ3, w3, g1, g2, g3, g4⟩ := until2 (b := C) (L := L) (LX := LX) (show C < C + 1 by omega) (by omega) hLX L 0 zN zN μ2 (arF w C k) (B + 1) t now (by omega) (by rw [zN_eq]; omega) (by rw [zN_eq]; omega) (by omega) hEl f3 (by omega) (by omega)
  have g1' : tX9_ticksUntilDelivered_16 zN 1 (nI C) (nI LX) 0 μ2 = some (some (.inl (capI o LX)), μ3) := g1
  have g2' : tX11_ticksFor_2 zN (nI C) (nI L) 0 (mW (lbN ν1 C (nI (1000 * q)) 15 0 0 0) (arF w C k)) = some (some (.inl (oN (-2) id o)), mW (lbN ν1 C (nI (1000 * q)) 15 0 0 0) w3) := g2
  have w0 : arF w C k (400 + 8 * C) = 0 := by
    unfold arF goesF
    rw [upd_ne _ _ (by omega), upd_ne _ _ (by omega), upd_ne _ _ (by omega), upd_at]
  refine ⟨o, μ2, μ3, lbN ν1 C (nI (1000 * q)) 15 0 0 0, arF w C k, w3, ?_, ?_, ?_, ?_, f2.tr g3, rfl, fun k i z hn => ?_, fun n hn => ?_⟩
  · rw [eX10_addTrialBag_0, hj, zif_pos hj2, pX5_place_yes (y := 1) hE rfl (by decide) (by decide) rfl hk, zI_some, e1, zI_some, eX10_addTrialBag_17, f1.1, hj, zif_pos hj2, qI_in (zS_31 j) rfl (show f < 10 by omega) (by decide), Option.bind_some, h31, show nI q * 1000 = nI (1000 * q) by rw [show (1000 : Int32) = nI 1000 from rfl, pk_mul, Nat.mul_comm], eX10_addTrialBag_35, e2, zU_some]
  · rw [eX9_ticksUntilDelivered_0, pX0_has hcnt, zI_some, ok_yes (show C < C + 1 by omega) (by omega), zif_neg one_ne0, g1']
  · rw [eX11_additional_0, pM_ofFlight (x := nI f) (y := 0) hE.2.2.2.2.2.mW hf (show 0 < 4 by decide) rfl rfl, zI_some, q3, show 1000 * nI q = nI (1000 * q) by rw [show (1000 : Int32) = nI 1000 from rfl, pk_mul], e3, zI_some]
  · rw [eX11_ticksFor_0, g2']
  · unfold lbN
    rw [mS_1, if_neg (by omega), mS_1, if_neg (by omega), mS_1, if_neg (by omega), mS_1, if_neg (by omega), mS_1, if_neg (by omega)]
  · obtain ⟨y1, y2, y3, y4, y5⟩ := g4 n hn
    refine ⟨?_, y2, by rw [y4, Nat.sub_zero], y5⟩
    have := y3 (by rw [w0]; decide)
    omega
theorem mem_next {μ μ' ν ν' : zM} {j : Nat} {S : zSt} {D : zDv} {lim : Int32} {B t hd C now : Nat} (hE : ENV μ ν j S D lim) (h : RQ μ ν 0 j S (ν.1 65 0) B t hd C now noG) (f1 : FrA μ μ') (f2 : FrN C ν ν') : ENV μ' ν' j S D lim ∧ RQ μ' ν' 0 j S (ν'.1 65 0) B t hd C now noG := by
  refine ⟨hE.of (fun k a s hk => f1.2 _ _ _ (by unfold isS at hk; unfold isW; omega)) (fun z => f2.2.2 _ _ _ (by omega) (by omega)), RQ.wc hE.1 ((h.nu (fun k z k1 k2 hz => f2.2.2 _ _ _ (by omega) (by omega))).mu hE.1 (fun k x z hw => f1.2 _ _ _ (isW_ne hw (by decide))) (f1.1 _ _ _ (by omega))) f2.2.1⟩
set_option maxHeartbeats 1000000 in
theorem best_loop {j : Nat} {S : zSt} {D : zDv} {lim : Int32} {B t hd C now fl L : Nat} (hC1 : C < 100) (hf : fl < sF S) (hL : L ≤ 300) (hL1 : 1 ≤ L) (hB : B + 30000 < 1000000000) (hn : now + 300 ≤ 101000) : ∀ (m i f g : Nat) (μ ν : zM) (bst bnd few : Int32), i + m = scnt S 1 → m < f → m < g → ENV μ ν j S D lim → μ.2.1 10 0 6 = j → RQ μ ν 0 j S (ν.1 65 0) B t hd C now noG → ((bst = -2 ∧ bnd = nI L) ∨ ∃ i0 n0, i0 < 10 ∧ bst = nI i0 ∧ 1 ≤ n0 ∧ n0 ≤ L ∧ few = nI n0 ∧ bnd = nI (n0 - 1)) → ∃ v μ' ν', tX10_bestInlet_54 f (nI fl) bst bnd (nI i) μ = some (some (.inl v), μ') ∧ FrA μ μ' ∧ tX11_bestInlet_45 g (nI fl) (nI L) bst few (nI i) ν = some (some (.inl v), ν') ∧ FrN C ν ν'
  | 0, i, f, g, μ, ν, bst, bnd, few, hi, hf', hg, hE, hj, h, hinv => by
    obtain ⟨f, rfl⟩ : ∃ q, f = q + 1 := ⟨f - 1, by omega⟩
    obtain ⟨g, rfl⟩ : ∃ q, g = q + 1 := ⟨g - 1, by omega⟩
    obtain ⟨a1, a2, a3⟩ := cnt_X hE (s := 1) (by decide) (by decide)
    refine ⟨bst, μ, ν, ?_, FrA.rf, ?_, FrN.rf⟩
    · rw [eX10_bestInlet_54, hj, zif_pos hE.2.2.1.1, qI_in (x := 1) (p := 1) (zS_49 j) rfl (by decide) (by decide), Option.bind_some, a1, zif_neg (nI_nlt (by omega) (by omega))]
    · rw [eX11_bestInlet_45, pM_manyS (y := 1) rfl (by decide) a2, zI_some, zif_neg (nI_nlt (by omega) (by omega))]
  | m + 1, i, f, g, μ, ν, bst, bnd, few, hi, hf', hg, hE, hj, h, hinv => by
    obtain ⟨f, rfl⟩ : ∃ q, f = q + 1 := ⟨f - 1, by omega⟩
    obtain ⟨g, rfl⟩ : ∃ q, g = q + 1 := ⟨g - 1, by omega⟩
    obtain ⟨a1, a2, a3⟩ := cnt_X hE (s := 1) (by decide) (by decide)
    have hj2 := hE.2.2.1.1
    obtain ⟨μ1, e1, fr1, hE1, hR1, -⟩ := ahead hE h
    generalize hν1 : mR ν 66 0 (cpF (ν.1 65 0) (ν.1 66 0) 0 1200) = ν1
    have hn1 : ∀ k i z, k ≠ 66 → ν1.1 k i z = ν.1 k i z := fun k i z hk => by rw [← hν1, mR_ne _ _ _ _ _ _ _ (fun q => hk q.1)]
    have hE2 : ENV μ1 ν1 j S D lim := hE1.of (fun _ _ _ _ => rfl) (fun z => hn1 _ _ _ (by decide))
    have hR2 : RQ μ1 ν1 1 j S (ν.1 65 0) B t hd C now noG := hR1.nu (fun k z q1 q2 _ => hn1 _ _ _ (by omega))
    have hj1 : μ1.2.1 10 0 6 = j := by rw [fr1.1 _ _ _ (by omega)]; exact hj
    obtain ⟨LX, hLX, hbnd⟩ : ∃ LX, LX ≤ L ∧ bnd = nI LX := by
      rcases hinv with ⟨-, q⟩ | ⟨i0, n0, -, -, q1, q2, -, q3⟩
      · exact ⟨L, Nat.le_refl _, q⟩
      · exact ⟨n0 - 1, by omega, q3⟩
    obtain ⟨o, μ2, μ3, ν2, w2, w3, t1, t2, t3, t4, t5, t6, t7, t8⟩ := trial_pair hE2 hR2 hj1 hC1 hf (show i < scnt S 1 by omega) hL hLX hB hn
    obtain ⟨ν3, g1, g2⟩ := aside_back (ν := ν) (ν2 := ν2) (C := C) (w' := w3) (by rw [t6, ← hν1]; rfl) (fun k i z hz => by rw [t7 k i z hz, hν1])
    have frA : FrA μ μ3 := fr1.fa.tr t5.fa
    obtain ⟨hE3, hR3⟩ := mem_next hE h frA g2
    have hj3 : μ3.2.1 10 0 6 = j := by rw [frA.1 _ _ _ (by omega)]; exact hj
    have eX : tX10_bestInlet_54 (f + 1) (nI fl) bst bnd (nI i) μ = zif (capI o LX = -2) (tX10_bestInlet_54 f (nI fl) bst bnd (nI (i + 1)) μ3) (tX10_bestInlet_54 f (nI fl) (nI i) (capI o LX - 1) (nI (i + 1)) μ3) := by
      rw [eX10_bestInlet_54, hj, zif_pos hj2, qI_in (x := 1) (p := 1) (zS_49 j) rfl (by decide) (by decide), Option.bind_some, a1, zif_pos (nI_lt (by omega) (by omega)), e1, zU_some, t1, zI_some, eX10_bestInlet_88, hbnd, t2, zI_some, eX10_bestInlet_101, eX10_bestInlet_111, eX10_bestInlet_117, eX10_bestInlet_117, eX10_bestInlet_120, eX10_bestInlet_120, nI_1]
    have eM : tX11_bestInlet_45 (g + 1) (nI fl) (nI L) bst few (nI i) ν = zif (oN (-2) id o < 0) (tX11_bestInlet_45 g (nI fl) (nI L) bst few (nI (i + 1)) ν3) (zif (bst < 0) (tX11_bestInlet_45 g (nI fl) (nI L) (nI i) (oN (-2) id o) (nI (i + 1)) ν3) (zif (oN (-2) id o < few) (tX11_bestInlet_45 g (nI fl) (nI L) (nI i) (oN (-2) id o) (nI (i + 1)) ν3) (tX11_bestInlet_45 g (nI fl) (nI L) bst few (nI (i + 1)) ν3))) := by
      rw [eX11_bestInlet_45, pM_manyS (y := 1) rfl (by decide) a2, zI_some, zif_pos (nI_lt (by omega) (by omega)), lays_at, zU_some, hν1, t3, zI_some, t4, zI_some, eX11_bestInlet_73, g1, zU_some, eX11_bestInlet_93, eX11_bestInlet_96, eX11_bestInlet_100, eX11_bestInlet_100, eX11_bestInlet_103, eX11_bestInlet_103, nI_1]
    have fin : ∀ bst' bnd' few', ((bst' = -2 ∧ bnd' = nI L) ∨ ∃ i0 n0, i0 < 10 ∧ bst' = nI i0 ∧ 1 ≤ n0 ∧ n0 ≤ L ∧ few' = nI n0 ∧ bnd' = nI (n0 - 1)) → ∃ v μ' ν', tX10_bestInlet_54 f (nI fl) bst' bnd' (nI (i + 1)) μ3 = some (some (.inl v), μ') ∧ FrA μ μ' ∧ tX11_bestInlet_45 g (nI fl) (nI L) bst' few' (nI (i + 1)) ν3 = some (some (.inl v), ν') ∧ FrN C ν ν' := by
      intro bst' bnd' few' hi'
      obtain ⟨v, μ', ν', k1, k2, k3, k4⟩ := best_loop hC1 hf hL hL1 hB hn m (i + 1) f g μ3 ν3 bst' bnd' few' (by omega) (by omega) (by omega) hE3 hj3 hR3 hi'
      exact ⟨v, μ', ν', k1, frA.tr k2, k3, g2.tr k4⟩
    rw [eX, eM]
    cases o with
    | none =>
      rw [zif_pos (show capI none LX = -2 from rfl), zif_pos (show oN (-2) id none < 0 from m2_lt)]
      exact fin bst bnd few hinv
    | some n =>
      obtain ⟨y1, y2, -, -⟩ := t8 n rfl
      rw [show oN (-2) id (some n) = nI n from rfl, zif_neg (nI_pos (by omega))]
      have hupd : ∃ v μ' ν', tX10_bestInlet_54 f (nI fl) (nI i) (nI n - 1) (nI (i + 1)) μ3 = some (some (.inl v), μ') ∧ FrA μ μ' ∧ tX11_bestInlet_45 g (nI fl) (nI L) (nI i) (nI n) (nI (i + 1)) ν3 = some (some (.inl v), ν') ∧ FrN C ν ν' := by
        refine fin _ _ _ (Or.inr ⟨i, n, by omega, rfl, y1, y2, rfl, ?_⟩)
        have := nI_pred (n - 1)
        rwa [show n - 1 + 1 = n by omega] at this
      have hne : ¬ nI n = -2 := fun z => by
        have := nI_pos (n := n) (by omega)
        rw [z] at this
        exact this m2_lt
      rcases hinv with ⟨q1, q2⟩ | ⟨i0, n0, q0, q1, q2, q3, q4, q5⟩
      · have hLL : LX = L := (nI_eq (by omega) (by omega)).mp (hbnd.symm.trans q2)
        rw [show capI (some n) LX = nI n from if_pos (by omega), zif_neg hne, q1, zif_pos m2_lt]
        exact hupd
      · have hLL : LX = n0 - 1 := (nI_eq (by omega) (by omega)).mp (hbnd.symm.trans q5)
        rw [q1, zif_neg (nI_pos (by omega)), q4]
        by_cases y : n ≤ LX
        · rw [show capI (some n) LX = nI n from if_pos y, zif_neg hne, zif_pos (nI_lt (by omega) (by omega))]
          exact hupd
        · rw [show capI (some n) LX = -2 from if_neg y, zif_pos rfl, zif_neg (nI_nlt (by omega) (by omega))]
          exact fin _ _ _ (Or.inr ⟨i0, n0, q0, rfl, q2, q3, rfl, q5⟩)
section FORE
variable {μ : zM} {c : Nat}
theorem a_bestInlet (h : REL μ c) (hc : c ≤ 600) (y x : Int32) : CALL (tX10_bestInlet_0 y x) (tX11_bestInlet_0 y x) μ (c + 1) := by
  obtain ⟨j, S, D, lim, t, hd, C, now, nx, cn, Cf, h1, h2, h3, h4, h5, h6, h7, h8⟩ := h.all
  have h4' := h4
  obtain ⟨O, st, Q, hR, -⟩ := h4'
  have hC := hR.1.2.2.2.2.2.2.2.2.2.2.1
  have hC1 := hR.1.2.2.2.2.2.2.2.2.2.2.2.1
  have hC2 := hR.1.2.2.2.2.2.2.2.2.2.2.2.2
  have hF := h3.1.2.2.2.1
  have hFX := h3.2.2.1.2.2.2.2.1
  have hFM := h3.2.2.2.2.2
  rcases ix_of y (n := sF S) (by omega) with ⟨fl, hf, rfl⟩ | hy
  · by_cases hx : x < 1 ∨ (300 : Int32) < x
    · refine CALL.ask h (v := -1) ?_ ?_
      · rw [eX10_bestInlet_0, h1.1, zif_pos h1.2.1, pX1_has hFX.2.1, zI_some, ok_yes hf (by omega), zif_neg one_ne0, pX10_isWithin, zI_some, zif_pos hx, zif_pos rfl, eX10_bestInlet_25]
      · rw [eX11_bestInlet_0, pM_isFlight hFM.2.1 (by omega), zI_some, ok_yes hf (by omega), zif_neg one_ne0, pM_in (a := x) (lo := 1) (hi := 300) rfl (by decide) (by decide), zI_some, zif_pos hx, zif_pos rfl, eX11_bestInlet_20]
    · obtain ⟨k, k1, k2, rfl⟩ := rng_of (a := 1) (b := 300) rfl rfl (by decide) (by decide) hx
      by_cases q : C < 100
      · refine fore_call h hC2 hC (fun ν hν => ?_)
        have e65 : ν.1 65 0 = μ.1 65 0 := funext (fun z => hν _ _ _ (by omega))
        have a3 := (cnt_X h3 (s := 1) (by decide) (by decide)).2.2
        obtain ⟨v, μ', ν', g1, g2, g3, g4⟩ := best_loop (now := now) (C := C) (t := t) (hd := hd) (bst := -2) (bnd := nI k) (few := 0) (L := k) q hf k2 k1 (show 30000 * c + 30000 < 1000000000 by omega) (by omega) (scnt S 1) 0 zN zN μ ν (by omega) (by rw [zN_eq]; omega) (by rw [zN_eq]; omega) (nu_ENV h3 hν) h1.1 (by rw [e65]; exact nu_RQ h4 hν) (Or.inl ⟨rfl, rfl⟩)
        refine ⟨v, μ', ν', ?_, g2, ?_, g4⟩
        · rw [eX10_bestInlet_0, h1.1, zif_pos h1.2.1, pX1_has hFX.2.1, zI_some, ok_yes hf (by omega), zif_neg one_ne0, pX10_isWithin, zI_some, zif_neg hx, zif_neg one_ne0, hC1, zif_pos (show nI C < 100 from nI_lt (b := 100) q (by decide)), eX10_bestInlet_48, eX10_bestInlet_51]
          exact g1
        · rw [eX11_bestInlet_0, pM_isFlight (n := sF S) (by rw [hν _ _ _ (by omega)]; exact hFM.2.1) (by omega), zI_some, ok_yes hf (by omega), zif_neg one_ne0, pM_in (a := nI k) (lo := 1) (hi := 300) rfl (by decide) (by decide), zI_some, zif_neg hx, zif_neg one_ne0, qI_in (x := 1) (p := 1) (zS_65 0) rfl (by decide) (by decide), Option.bind_some, e65, hC2, zif_neg (show ¬ nI C = 100 from nI_ne (b := 100) (by omega) (by decide) (by omega)), eX11_bestInlet_39, eX11_bestInlet_42]
          exact g3
      · refine CALL.ask h (v := -2) ?_ ?_
        · rw [eX10_bestInlet_0, h1.1, zif_pos h1.2.1, pX1_has hFX.2.1, zI_some, ok_yes hf (by omega), zif_neg one_ne0, pX10_isWithin, zI_some, zif_neg hx, zif_neg one_ne0, hC1, zif_neg (show ¬ nI C < 100 from nI_nlt (b := 100) (by omega) (by omega))]
        · rw [eX11_bestInlet_0, pM_isFlight hFM.2.1 (by omega), zI_some, ok_yes hf (by omega), zif_neg one_ne0, pM_in (a := nI k) (lo := 1) (hi := 300) rfl (by decide) (by decide), zI_some, zif_neg hx, zif_neg one_ne0, qI_in (x := 1) (p := 1) (zS_65 0) rfl (by decide) (by decide), Option.bind_some, hC2, zif_pos (show nI C = 100 by rw [show C = 100 by omega]; rfl)]
  · refine CALL.ask h (v := -1) ?_ ?_
    · rw [eX10_bestInlet_0, h1.1, zif_pos h1.2.1, pX1_has hFX.2.1, zI_some, ok_no hy, zif_pos rfl, eX10_bestInlet_25]
    · rw [eX11_bestInlet_0, pM_isFlight hFM.2.1 (by omega), zI_some, ok_no hy, zif_pos rfl, eX11_bestInlet_20]
theorem pM_it_loop {fl k d : Nat} (hd : d < 2 ^ 31) : ∀ (m s f : Nat) (μ μ' : zM), s + m = d → m < f → tkN m μ μ' → tX11_isInTime_7 f (nI fl) (nI k) (nI d) (nI s) μ = zI (tX11_additional_0 (nI fl) (nI k) μ') fun v3 μ2 => tX11_isInTime_31 (nI fl) v3 μ2
  | 0, s, f, μ, μ', hs, hf, h => by
    obtain ⟨f, rfl⟩ : ∃ q, f = q + 1 := ⟨f - 1, by omega⟩
    have h : μ' = μ := h
    subst h
    rw [eX11_isInTime_7, zif_neg (nI_nlt (by omega) (by omega))]
  | m + 1, s, f, μ, μ', hs, hf, h => by
    obtain ⟨f, rfl⟩ : ∃ q, f = q + 1 := ⟨f - 1, by omega⟩
    obtain ⟨μ1, h1, h2⟩ := h
    rw [eX11_isInTime_7, zif_pos (nI_lt (by omega) hd), h1, zU_some, eX11_isInTime_20, nI_1]
    exact pM_it_loop hd m (s + 1) f μ1 μ' (by omega) (by omega) h2
set_option maxHeartbeats 1000000 in
theorem time_pair {ν : zM} {j : Nat} {S : zSt} {D : zDv} {lim : Int32} {B t hd C now fl k d : Nat} (hE : ENV μ ν j S D lim) (hj : μ.2.1 10 0 6 = j) (h : RQ μ ν 0 j S (ν.1 65 0) B t hd C now noG) (hC1 : C < 100) (hf : fl < sF S) (hk : k < scnt S 1) (hd30 : d ≤ 30) (hB : B + 33000 < 1000000000) (hn : now ≤ 100000) :
    ∃ v μ' ν', tX10_arrivesInTime_0 (nI fl) (nI k) (nI d) μ = some (some (.inl v), μ') ∧ FrA μ μ' ∧ tX11_isInTime_0 (nI fl) (nI k) (nI d) ν = some (some (.inl v), ν') ∧ FrN C ν ν' := by
  have hS := hE.1
  have hF := hS.2.2.2.1
  have hj2 := hE.2.2.1.1
  have hFX := hE.2.2.1.2.2.2.2.1
  obtain ⟨-, ⟨chn, ch1, ch2⟩, opn, cl, cl1, cl2, cl3, cl4⟩ := hS.2.2.2.2.1 fl hf
  have h34 : μ.1 34 j fl = nI cl := (hFX.2.2 3 fl (by decide) hf).trans cl4
  have hnow : μ.1 9 0 1 = nI now := h.elim fun _ z => z.elim fun _ z => z.elim fun _ z => z.1.1.2.2.2.2.1
  obtain ⟨μ1, e1, fr1, hE1, hR1, -⟩ := ahead hE h
  generalize hν1 : mR ν 66 0 (cpF (ν.1 65 0) (ν.1 66 0) 0 1200) = ν1
  have hn1 : ∀ k i z, k ≠ 66 → ν1.1 k i z = ν.1 k i z := fun k i z hk => by rw [← hν1, mR_ne _ _ _ _ _ _ _ (fun q => hk q.1)]
  have hE2 : ENV μ1 ν1 j S D lim := hE1.of (fun _ _ _ _ => rfl) (fun z => hn1 _ _ _ (by decide))
  have hR2 : RQ μ1 ν1 1 j S (ν.1 65 0) B t hd C now noG := hR1.nu (fun k z q1 q2 _ => hn1 _ _ _ (by omega))
  have hj1 : μ1.2.1 10 0 6 = j := by rw [fr1.1 _ _ _ (by omega)]; exact hj
  obtain ⟨μs, ws, ts, b1, b2, b3, b4⟩ := steps d μ1 (ν.1 65 0) B t now hE2 hR2 (by omega) (by omega)
  have hjs : μs.2.1 10 0 6 = j := by rw [b3.1]; exact hj1
  obtain ⟨LX, hLX, hLX2⟩ : ∃ LX, LX ≤ 300 ∧ (LX = if now + d + 1 < cl then (if cl - 1 - (now + d) < 300 then cl - 1 - (now + d) else 300) else 300) := ⟨_, by split <;> (try split) <;> omega, rfl⟩
  obtain ⟨o, μ2, μ3, ν2, w2, w3, t1, t2, t3, t4, t5, t6, t7, t8⟩ := trial_pair (hE2.fr b3) b4 hjs hC1 hf hk (Nat.le_refl 300) hLX (by omega) (by omega)
  obtain ⟨ν3, g1, g2⟩ := aside_back (ν := ν) (ν2 := ν2) (C := C) (w' := w3) (by rw [t6, ← hν1]; rfl) (fun k i z hz => by rw [t7 k i z hz, hν1])
  have hFM2 : FlM ν2 (sF S) (sT S) := ⟨hE2.2.2.2.2.2.1, by rw [t7 _ _ _ (by omega)]; exact hE2.2.2.2.2.2.2.1, fun c f a b => by rw [t7 _ _ _ (by omega)]; exact hE2.2.2.2.2.2.2.2 c f a b⟩
  have e85 : ∀ r, (r = (0 : Int32) ∨ r = 1) → tX11_isInTime_85 r (mW ν2 w3) = some (some (.inl r), ν3) := fun r hr => by
    rw [eX11_isInTime_85, g1, zU_some]
    rcases hr with rfl | rfl
    · rw [zif_pos nar_0]
    · rw [zif_pos nar_1]
  have eM : tX11_isInTime_0 (nI fl) (nI k) (nI d) ν = some (some (.inl (inT o (w3 (400 + 8 * C + 1) = sT S 1 fl) (fun n => now + d + n < cl))), ν3) := by
    rw [eX11_isInTime_0, lays_at, zU_some, hν1]
    have el := pM_it_loop (fl := fl) (k := k) (show d < 2 ^ 31 by omega) d 0 zN (mW ν1 (ν.1 65 0)) (mW ν1 ws) (by omega) (by rw [zN_eq]; omega) b2
    refine Eq.trans el ?_
    rw [t3, zI_some, eX11_isInTime_31]
    have t4' : tX11_ticksFor_0 (nI C) 300 (mW ν2 w2) = some (some (.inl (oN (-2) id o)), mW ν2 w3) := t4
    rw [t4', zI_some, eX11_isInTime_42, eX11_isInTime_82, eX11_isInTime_83, e85 0 (Or.inl rfl)]
    cases o with
    | none => rw [zif_pos (show oN (-2) id none < 0 from m2_lt)]; rfl
    | some n =>
      obtain ⟨y1, y2, y3, y4⟩ := t8 n rfl
      rw [zif_neg (show ¬ oN (-2) id (some n) < 0 from nI_pos (n := n) (by omega)), pM_ofBagW (y := 1) (c := 1) rfl hC1 rfl (by decide), zI_some, pM_ofFlight (x := nI fl) (y := 1) hFM2.mW hf (show 1 < 4 by decide) rfl rfl, zI_some, qW (x := 0) (p := 0) rfl (by decide), Option.bind_some, pM_ofFlight (x := nI fl) (y := 3) hFM2.mW hf (show 3 < 4 by decide) rfl rfl, zI_some, eX11_isInTime_82, eX11_isInTime_83, eX11_isInTime_83, e85 0 (Or.inl rfl), e85 1 (Or.inr rfl), y3, cl4]
      show _ = some (some (Sum.inl (zif (w3 (400 + 8 * C + 1) = sT S 1 fl) (zif (now + d + n < cl) 1 0) 0)), ν3)
      by_cases p1 : w3 (400 + 8 * C + 1) = sT S 1 fl
      · rw [zif_pos p1, zif_pos p1]
        by_cases p2 : now + d + n < cl
        · rw [zif_pos p2, zif_pos (nI_lt p2 (by omega))]
        · rw [zif_neg p2, zif_neg (nI_nlt (by omega) (by omega))]
      · rw [zif_neg p1, zif_neg p1]
  have e120 : ∀ m, tX10_arrivesInTime_120 m = some (some (.inl 0), m) := fun m => by rw [eX10_arrivesInTime_120, eX10_arrivesInTime_121, zif_pos nar_0]
  have e121 : ∀ m, tX10_arrivesInTime_121 1 m = some (some (.inl 1), m) := fun m => by rw [eX10_arrivesInTime_121, zif_pos nar_1]
  have eX0 : tX10_arrivesInTime_0 (nI fl) (nI k) (nI d) μ = tX10_arrivesInTime_26 (nI fl) (nI k) (nI d) (nI (cl - 1) - nI (now + d)) μ := by
    rw [eX10_arrivesInTime_0, hj, zif_pos hj2, qI_in (zS_34 j) rfl (show fl < 10 by omega) (by decide), Option.bind_some, h34, hnow, nI_add, show nI cl - 1 = nI (cl - 1) by
      have := nI_pred (cl - 1)
      rwa [show cl - 1 + 1 = cl by omega] at this]
  by_cases q : now + d + 1 < cl
  · have hLXe : LX = if cl - 1 - (now + d) < 300 then cl - 1 - (now + d) else 300 := by rw [hLX2, if_pos q]
    have htl : nI (cl - 1) - nI (now + d) = nI (cl - 1 - (now + d)) := pk_sub (by omega)
    have hLI : zif (nI (cl - 1 - (now + d)) < 300) (nI (cl - 1 - (now + d))) 300 = nI LX := by
      by_cases y : cl - 1 - (now + d) < 300
      · rw [zif_pos (show nI (cl - 1 - (now + d)) < 300 from nI_lt (b := 300) y (by decide)), hLXe, if_pos y]
      · rw [zif_neg (show ¬ nI (cl - 1 - (now + d)) < 300 from nI_nlt (b := 300) (by omega) (by omega)), hLXe, if_neg y]
        rfl
    have eX1 : tX10_arrivesInTime_0 (nI fl) (nI k) (nI d) μ = tX10_arrivesInTime_81 (nI fl) (nI C) (capI o LX) μ3 := by
      rw [eX0, htl, eX10_arrivesInTime_26, zif_neg (show ¬ nI (cl - 1 - (now + d)) < 1 from nI_nlt (b := 1) (by omega) (by omega)), e1, zU_some, pX9_deliv (by omega) b1, zI_some, t1, zI_some, eX10_arrivesInTime_62, hLI, t2, zI_some]
    have hj3 : μ3.2.1 10 0 6 = j := by rw [t5.1]; exact hjs
    have hFX3 := ((hE2.fr b3).fr t5).2.2.1.2.2.2.2.1
    have h32 : μ3.1 32 j fl = sT S 1 fl := hFX3.2.2 1 fl (by decide) hf
    refine ⟨_, μ3, ν3, ?_, fr1.fa.tr (b3.fa.tr t5.fa), eM, g2⟩
    rw [eX1, eX10_arrivesInTime_81]
    cases o with
    | none => rw [zif_pos (show capI none LX = -2 from rfl), e120]; rfl
    | some n =>
      obtain ⟨y1, y2, y3, y4⟩ := t8 n rfl
      show _ = some (some (Sum.inl (zif (w3 (400 + 8 * C + 1) = sT S 1 fl) (zif (now + d + n < cl) 1 0) 0)), μ3)
      by_cases y : n ≤ LX
      · have hne : ¬ nI n = -2 := fun z => by
          have := nI_pos (n := n) (by omega)
          rw [z] at this
          exact this m2_lt
        have hlt : now + d + n < cl := by
          rw [hLXe] at y
          split at y <;> omega
        rw [show capI (some n) LX = nI n from if_pos y, zif_neg hne, qI_in (zS_27 1) rfl hC1 (by decide), Option.bind_some, hj3, zif_pos hj2, qI_in (zS_32 j) rfl (show fl < 10 by omega) (by decide), Option.bind_some, h32, ← y4 y, e120, e121, zif_pos hlt]
        by_cases p1 : w3 (400 + 8 * C + 1) = sT S 1 fl
        · rw [zif_pos p1, zif_pos p1]
        · rw [zif_neg p1, zif_neg p1]
      · have hlt : ¬ now + d + n < cl := by
          rw [hLXe] at y
          split at y <;> omega
        rw [show capI (some n) LX = -2 from if_neg y, zif_pos rfl, e120, zif_neg hlt]
        by_cases p1 : w3 (400 + 8 * C + 1) = sT S 1 fl
        · rw [zif_pos p1]
        · rw [zif_neg p1]
  · have hlt1 : nI (cl - 1) - nI (now + d) < 1 := by
      by_cases y : now + d ≤ cl - 1
      · rw [pk_sub y]
        exact nI_lt (b := 1) (by omega) (by decide)
      · have := pk_sneg (a := cl - 1) (b := now + d) (by omega) (by omega)
        exact i_tr this (by decide)
    refine ⟨0, μ, ν3, ?_, FrA.rf, ?_, g2⟩
    · rw [eX0, eX10_arrivesInTime_26, zif_pos hlt1, zif_pos nar_0]
    · rw [eM]
      cases o with
      | none => rfl
      | some n =>
        obtain ⟨y1, -⟩ := t8 n rfl
        show some (some (Sum.inl (zif (w3 (400 + 8 * C + 1) = sT S 1 fl) (zif (now + d + n < cl) 1 0) 0)), ν3) = _
        rw [zif_neg (show ¬ now + d + n < cl by omega)]
        by_cases p1 : w3 (400 + 8 * C + 1) = sT S 1 fl
        · rw [zif_pos p1]
        · rw [zif_neg p1]
theorem late_loop {j : Nat} {S : zSt} {D : zDv} {lim : Int32} {B t hd C now fl k : Nat} (hC1 : C < 100) (hf : fl < sF S) (hk : k < scnt S 1) (hB : B + 33000 < 1000000000) (hn : now ≤ 100000) : ∀ (m f g : Nat) (μ ν : zM), m ≤ 31 → m < f → m < g → ENV μ ν j S D lim → μ.2.1 10 0 6 = j → RQ μ ν 0 j S (ν.1 65 0) B t hd C now noG → ∃ v μ' ν', tX10_latestDelay_50 f (nI fl) (nI k) (nI m - 1) μ = some (some (.inl v), μ') ∧ FrA μ μ' ∧ tX11_latestDelay_36 g (nI fl) (nI k) (nI m - 1) ν = some (some (.inl v), ν') ∧ FrN C ν ν'
  | 0, f, g, μ, ν, hm, hf', hg, hE, hj, h => by
    obtain ⟨f, rfl⟩ : ∃ q, f = q + 1 := ⟨f - 1, by omega⟩
    obtain ⟨g, rfl⟩ : ∃ q, g = q + 1 := ⟨g - 1, by omega⟩
    have e : nI 0 - 1 < 0 := by decide
    exact ⟨-2, μ, ν, by rw [eX10_latestDelay_50, zif_pos e], FrA.rf, by rw [eX11_latestDelay_36, zif_pos e], FrN.rf⟩
  | m + 1, f, g, μ, ν, hm, hf', hg, hE, hj, h => by
    obtain ⟨f, rfl⟩ : ∃ q, f = q + 1 := ⟨f - 1, by omega⟩
    obtain ⟨g, rfl⟩ : ∃ q, g = q + 1 := ⟨g - 1, by omega⟩
    obtain ⟨r, μ1, ν1, a1, a2, a3, a4⟩ := time_pair (d := m) hE hj h hC1 hf hk (by omega) hB hn
    obtain ⟨hE1, hR1⟩ := mem_next hE h a2 a4
    have hj1 : μ1.2.1 10 0 6 = j := by rw [a2.1 _ _ _ (by omega)]; exact hj
    rw [nI_pred]
    by_cases q : r = 0
    · obtain ⟨v, μ', ν', k1, k2, k3, k4⟩ := late_loop hC1 hf hk hB hn m f g μ1 ν1 (by omega) (by omega) (by omega) hE1 hj1 hR1
      have e : nI m + (-1) = nI m - 1 := by rw [Int32.sub_eq_add_neg]
      refine ⟨v, μ', ν', ?_, a2.tr k2, ?_, a4.tr k4⟩
      · rw [eX10_latestDelay_50, zif_neg (nI_pos (by omega)), a1, zI_some, zif_pos q, eX10_latestDelay_69, e, k1]
      · rw [eX11_latestDelay_36, zif_neg (nI_pos (by omega)), a3, zI_some, zif_pos q, eX11_latestDelay_55, e, k3]
    · refine ⟨nI m, μ1, ν1, ?_, a2, ?_, a4⟩
      · rw [eX10_latestDelay_50, zif_neg (nI_pos (by omega)), a1, zI_some, zif_neg q]
      · rw [eX11_latestDelay_36, zif_neg (nI_pos (by omega)), a3, zI_some, zif_neg q]
theorem a_latestDelay (h : REL μ c) (hc : c ≤ 600) (y x : Int32) : CALL (tX10_latestDelay_0 y x) (tX11_latestDelay_0 y x) μ (c + 1) := by
  obtain ⟨j, S, D, lim, t, hd, C, now, nx, cn, Cf, h1, h2, h3, h4, h5, h6, h7, h8⟩ := h.all
  have h4' := h4
  obtain ⟨O, st, Q, hR, -⟩ := h4'
  have hC := hR.1.2.2.2.2.2.2.2.2.2.2.1
  have hC1 := hR.1.2.2.2.2.2.2.2.2.2.2.2.1
  have hC2 := hR.1.2.2.2.2.2.2.2.2.2.2.2.2
  have hF := h3.1.2.2.2.1
  have hn6 := h3.1.2.1
  have hFX := h3.2.2.1.2.2.2.2.1
  have hFM := h3.2.2.2.2.2
  obtain ⟨a1, a2, a3⟩ := cnt_X h3 (s := 1) (by decide) (by decide)
  rcases ix_of y (n := sF S) (by omega) with ⟨fl, hf, rfl⟩ | hy
  · rcases ix_of x (n := scnt S 1) (by omega) with ⟨k, hk, rfl⟩ | hx
    · obtain ⟨p1, -, -⟩ := h3.1.2.2.2.2.2.2.2.2.1 1 k (by decide) (by decide) hk
      by_cases q : C < 100
      · refine fore_call h hC2 hC (fun ν hν => ?_)
        have e65 : ν.1 65 0 = μ.1 65 0 := funext (fun z => hν _ _ _ (by omega))
        obtain ⟨v, μ', ν', g1, g2, g3, g4⟩ := late_loop q hf hk (show 30000 * c + 33000 < 1000000000 by omega) h2 31 zN zN μ ν (by omega) (by rw [zN_eq]; omega) (by rw [zN_eq]; omega) (nu_ENV h3 hν) h1.1 (by rw [e65]; exact nu_RQ h4 hν)
        have e30 : nI 31 - 1 = 30 := by decide
        rw [e30] at g1 g3
        refine ⟨v, μ', ν', ?_, g2, ?_, g4⟩
        · rw [eX10_latestDelay_0, h1.1, zif_pos h1.2.1, pX1_has hFX.2.1, zI_some, ok_yes hf (by omega), zif_neg one_ne0, h1.1, zif_pos h1.2.1, pX5_place_yes (y := 1) h3 rfl (by decide) (by decide) rfl hk, zI_some, zif_neg (show ¬ nI (spos S 1 k) = -1 from fX_neg (by omega)), hC1, zif_pos (show nI C < 100 from nI_lt (b := 100) q (by decide)), g1]
        · rw [eX11_latestDelay_0, pM_isFlight (n := sF S) (by rw [hν _ _ _ (by omega)]; exact hFM.2.1) (by omega), zI_some, ok_yes hf (by omega), zif_neg one_ne0, pM_isDevice (y := 1) (n := scnt S 1) rfl (by decide) (by rw [hν _ _ _ (by omega)]; exact a2) (by omega), zI_some, ok_yes hk (by omega), zif_neg one_ne0, qI_in (x := 1) (p := 1) (zS_65 0) rfl (by decide) (by decide), Option.bind_some, e65, hC2, zif_neg (show ¬ nI C = 100 from nI_ne (b := 100) (by omega) (by decide) (by omega)), g3]
      · refine CALL.ask h (v := -2) ?_ ?_
        · rw [eX10_latestDelay_0, h1.1, zif_pos h1.2.1, pX1_has hFX.2.1, zI_some, ok_yes hf (by omega), zif_neg one_ne0, h1.1, zif_pos h1.2.1, pX5_place_yes (y := 1) h3 rfl (by decide) (by decide) rfl hk, zI_some, zif_neg (show ¬ nI (spos S 1 k) = -1 from fX_neg (by omega)), hC1, zif_neg (show ¬ nI C < 100 from nI_nlt (b := 100) (by omega) (by omega))]
        · rw [eX11_latestDelay_0, pM_isFlight hFM.2.1 (by omega), zI_some, ok_yes hf (by omega), zif_neg one_ne0, pM_isDevice (y := 1) rfl (by decide) a2 (by omega), zI_some, ok_yes hk (by omega), zif_neg one_ne0, qI_in (x := 1) (p := 1) (zS_65 0) rfl (by decide) (by decide), Option.bind_some, hC2, zif_pos (show nI C = 100 by rw [show C = 100 by omega]; rfl)]
    · refine CALL.ask h (v := -1) ?_ ?_
      · rw [eX10_latestDelay_0, h1.1, zif_pos h1.2.1, pX1_has hFX.2.1, zI_some, ok_yes hf (by omega), zif_neg one_ne0, h1.1, zif_pos h1.2.1, pX5_place_no (y := 1) h3 rfl (by decide) (by decide) hx, zI_some, zif_pos rfl, eX10_latestDelay_27]
      · rw [eX11_latestDelay_0, pM_isFlight hFM.2.1 (by omega), zI_some, ok_yes hf (by omega), zif_neg one_ne0, pM_isDevice (y := 1) rfl (by decide) a2 (by omega), zI_some, ok_no hx, zif_pos rfl, eX11_latestDelay_17]
  · refine CALL.ask h (v := -1) ?_ ?_
    · rw [eX10_latestDelay_0, h1.1, zif_pos h1.2.1, pX1_has hFX.2.1, zI_some, ok_no hy, zif_pos rfl, eX10_latestDelay_27]
    · rw [eX11_latestDelay_0, pM_isFlight hFM.2.1 (by omega), zI_some, ok_no hy, zif_pos rfl, eX11_latestDelay_17]
end FORE
