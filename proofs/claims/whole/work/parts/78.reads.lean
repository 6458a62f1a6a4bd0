/-! ===== the whole text read ===== -/
def fil (μ : zM) (k i N : Nat) (v : Int32) : zM := (fun k' i' z => if k' = k ∧ i' = i ∧ z < N then v else μ.1 k' i' z, μ.2)
theorem fil_1 (μ : zM) (k i N : Nat) (v : Int32) (k' i' z : Nat) : (fil μ k i N v).1 k' i' z = if k' = k ∧ i' = i ∧ z < N then v else μ.1 k' i' z := rfl
theorem fil_0 (μ : zM) (k i : Nat) (v : Int32) : fil μ k i 0 v = μ := by
  refine Prod.ext (funext fun k' => funext fun i' => funext fun z => ?_) rfl
  rw [fil_1, if_neg (by omega)]
theorem fil_s (μ : zM) (k i a : Nat) (v : Int32) : mS (fil μ k i a v) k i a v = fil μ k i (a + 1) v := by
  refine Prod.ext (funext fun k' => funext fun i' => funext fun z => ?_) rfl
  rw [mS_1, fil_1, fil_1]
  by_cases h : k' = k ∧ i' = i ∧ z = a
  · rw [if_pos h, if_pos (by omega)]
  · rw [if_neg h]
    by_cases g : k' = k ∧ i' = i ∧ z < a
    · rw [if_pos g, if_pos (by omega)]
    · rw [if_neg g, if_neg (by omega)]
theorem pJ_fill {μ : zM} {k i N : Nat} {v : Int32} (hs : zS k i = .inr (0, N, (0, 0))) (hN : N ≤ 1000) (hk : k ≠ 77) : tJ7_fill_53178_0 (k, i) v μ = some (none, fil μ k i N v) := by
  have lp : ∀ m a f, a + m = N → m < f → tJ7_fill_53178_5 f (k, i) v (nI a) (nI N) (fil μ k i a v) = some (none, fil μ k i N v) := by
    intro m
    induction m with
    | zero =>
      intro a f h1 h2
      obtain ⟨f, rfl⟩ : ∃ g, f = g + 1 := ⟨f - 1, by omega⟩
      have : a = N := by omega
      subst this
      rw [eJ7_fill_53178_5, zif_neg (nI_nlt (by omega) (by omega))]
    | succ m ih =>
      intro a f h1 h2
      obtain ⟨f, rfl⟩ : ∃ g, f = g + 1 := ⟨f - 1, by omega⟩
      rw [eJ7_fill_53178_5, zif_pos (nI_lt (by omega) (by omega)), if_neg hk, wI_in hs rfl (by omega) (by omega), Option.bind_some, eJ7_fill_53178_17, nI_1, fil_s]
      exact ih (a + 1) f (by omega) (by omega)
  rw [eJ7_fill_53178_0, eJ7_fill_53178_2, if_neg hk, qL_in hs, Option.bind_some, zN_eq]
  have := lp N 0 100000 (by omega) (by omega)
  rw [fil_0] at this
  exact this
theorem RD.set {μ ν μ' ν' : zM} {j d w : Nat} {S : zSt} {D : zDv} {lim lim' : Int32} {dv : Nat → Nat → Nat} {ds dk : Nat → Nat} (h : RD μ ν j S D lim d dv ds dk) (hw : w ≤ 3) (hx : ∀ k a z, ¬ (k = 5 ∧ a = j ∧ (z = 1 ∨ z = 2)) → k ≠ 7 → μ'.1 k a z = μ.1 k a z) (x1 : μ'.1 5 j 1 = nI w) (x2 : μ'.1 5 j 2 = lim') (hm : ∀ z, z ≠ 2 → z ≠ 3 → ν'.1 64 0 z = ν.1 64 0 z) (m2 : ν'.1 64 0 2 = nI w) (m3 : ν'.1 64 0 3 = lim') : RD μ' ν' j (sn S, w, S.2.2) D lim' d dv ds dk := by
  obtain ⟨hS, hD, ⟨i1, i2, i3, i4, ⟨i5a, i5b, i5c⟩, i6, i7, i8, i9⟩, ⟨o0, o1, o2, o3, o4, o5, o6, o7, o8, o9, o10⟩, h13, h51⟩ := h
  refine ⟨⟨hS.1, hS.2.1, hw, hS.2.2.2⟩, hD, ⟨i1, ?_, x1, x2, ⟨i5a, ?_, fun c f hc hf => ?_⟩, fun p hp => ?_, fun s a b => ?_, fun s k a b c => ?_, fun s k a b c => ?_⟩, ⟨?_, ?_, m2, m3, fun p hp => ?_, fun s a b => ?_, fun p a b => ?_, fun s k a b c => ?_, fun x hx' => ?_, ⟨?_, fun c f hc hf => ?_⟩, o10⟩, ?_, fun x hx' => ?_⟩
  · rw [hx _ _ _ (by omega) (by decide)]; exact i2
  · rw [hx _ _ _ (by omega) (by decide)]; exact i5b
  · rw [hx _ _ _ (by omega) (by omega)]; exact i5c c f hc hf
  · rw [hx _ _ _ (by omega) (by decide)]; exact i6 p hp
  · rw [hx _ _ _ (by omega) (by decide)]; exact i7 s a b
  · rw [hx _ _ _ (by omega) (by decide), hx _ _ _ (by omega) (by decide)]; exact i8 s k a b c
  · obtain ⟨r1, r2, r3, r4, r5⟩ := i9 s k a b c
    rw [hx 45 _ _ (by omega) (by decide), hx 46 _ _ (by omega) (by decide), hx 47 _ _ (by omega) (by decide)]
    exact ⟨r1, r2, fun z l l1 l3 => by rw [hx _ _ _ (by omega) (by decide)]; exact r3 z l l1 l3, fun z => by rw [hx _ _ _ (by omega) (by decide)]; exact r4 z, r5⟩
  · rw [hm _ (by omega) (by omega)]; exact o0
  · rw [hm _ (by omega) (by omega)]; exact o1
  · rw [hm _ (by omega) (by omega)]; exact o4 p hp
  · rw [hm _ (by omega) (by omega)]; exact o5 s a b
  · rw [hm _ (by omega) (by omega)]; exact o6 p a b
  · obtain ⟨r0, r1, r2, r3, r4, r5⟩ := o7 s k a b c
    exact ⟨r0, by rw [hm _ (by omega) (by omega)]; exact r1, fun z => by rw [hm _ (by omega) (by omega), hm _ (by omega) (by omega)]; exact r2 z, fun z l l1 l3 => by rw [hm _ (by omega) (by omega)]; exact r3 z l l1 l3, fun z => by rw [hm _ (by omega) (by omega)]; exact r4 z, fun z => by rw [hm _ (by omega) (by omega)]; exact r5 z⟩
  · obtain ⟨r0, r1, r2⟩ := o8 x hx'
    exact ⟨r0, by rw [hm _ (by omega) (by omega)]; exact r1, by rw [hm _ (by omega) (by omega)]; exact r2⟩
  · rw [hm _ (by omega) (by omega)]; exact o9.1
  · rw [hm _ (by omega) (by omega)]; exact o9.2 c f hc hf
  · exact ⟨by rw [hx _ _ _ (by omega) (by decide)]; exact h13.1, by rw [hx _ _ _ (by omega) (by decide)]; exact h13.2⟩
  · rw [hx _ _ _ (by omega) (by decide)]; exact h51 x hx'
/-- the reference behind the flights -/
noncomputable def WIN (ν : zM) : Option (Option zV × zM) := zI (tX11_isWord_0 781652471 ν) fun v4 μ3 => zif (v4 = 0) (tX11_reads_161 μ3) (zI (tX11_numberBehind_0 781652471 0 3 μ3) fun v6 μ5 => (wI μ5 (64, 0) 2 v6).bind fun μ7 => zif (μ7.1 11 0 7 = 3) (tX11_reads_158 1 μ7) (tX11_reads_158 0 μ7))
theorem WIN_eq (ν : zM) : WIN ν = zI (tX11_isWord_0 781652471 ν) fun v4 μ3 => zif (v4 = 0) (tX11_reads_161 μ3) (zI (tX11_numberBehind_0 781652471 0 3 μ3) fun v6 μ5 => (wI μ5 (64, 0) 2 v6).bind fun μ7 => zif (μ7.1 11 0 7 = 3) (tX11_reads_158 1 μ7) (tX11_reads_158 0 μ7)) := rfl
theorem fls_loop {j d : Nat} {D : zDv} {lim : Int32} {dv : Nat → Nat → Nat} {ds dk : Nat → Nat} : ∀ (m : Nat) {μ ν : zM} {S : zSt} (f f' a : Nat), RD μ ν j S D lim d dv ds dk → TOKP μ ν → μ.2.1 6 0 1 = j → a ≤ sF S → sF S + m = 10 → m < f → m + 1 < f' → (∃ μ' ν' S', tX6_readFlights_2 f (nI a) μ = some (some (.inl 1), μ') ∧ tX11_reads_102 f' ν = WIN ν' ∧ TOKP μ' ν' ∧ RD μ' ν' j S' D lim d dv ds dk ∧ XG j μ μ' ∧ MG ν ν') ∨ (∃ μ' ν', tX6_readFlights_2 f (nI a) μ = some (some (.inl 0), μ') ∧ tX11_reads_102 f' ν = some (none, ν') ∧ BAD μ' ν' ∧ XG j μ μ' ∧ MG ν ν') := by
  intro m
  induction m with
  | zero =>
    intro μ ν S f f' a hR hT hj ha hd hf hf'
    obtain ⟨f, rfl⟩ : ∃ g, f = g + 1 := ⟨f - 1, by omega⟩
    obtain ⟨f', rfl⟩ : ∃ g, f' = g + 1 + 1 := ⟨f' - 2, by omega⟩
    have hj2 := hR.2.2.1.1
    rw [eX6_readFlights_2, zif_neg (show ¬ (10 : Int32) < nI a from nI_nlt (a := 10) (b := a) (by omega) (by decide)), eX11_reads_102]
    rcases P_isWord hT (i := 14) (c := 214211860) (by decide) (by decide) with ⟨wa, wb⟩ | ⟨wa, wb⟩
    · rw [wa, zI_some, wb, zI_some, zif_neg (show ¬ (1 : Int32) = 0 by decide), zif_neg (show ¬ (1 : Int32) = 0 by decide), hj, zif_pos hj2]
      rcases fl_step hR hT hj with ⟨μ', ν', S', c0, -⟩ | ⟨μ', ν', c1, c2, c3, c4, c5⟩
      · omega
      · right
        by_cases g : μ.1 1 j 0 < 10
        · rw [zif_pos g] at c1 ⊢
          cases hq : tX7_findToken_0 (μ.1 7 0 3) μ with
          | none => rw [hq] at c1; cases c1
          | some r =>
            obtain ⟨o, m⟩ := r
            cases o with
            | some _ => rw [hq] at c1; cases c1
            | none =>
              rw [hq, zU_some] at c1
              rw [zU_some, c1, zI_some, zif_pos rfl, zif_pos nar_0, c2, zU_some, D_102 c3.1]
              exact ⟨μ', ν', rfl, rfl, c3, c4, c5⟩
        · rw [zif_neg g] at c1 ⊢
          rw [zif_pos nar_0, c1, c2, zU_some, D_102 c3.1]
          exact ⟨μ', ν', rfl, rfl, c3, c4, c5⟩
    · left
      rw [wa, zI_some, wb, zI_some, zif_pos rfl, zif_pos nar_1, zif_pos rfl]
      exact ⟨μ, ν, S, rfl, rfl, hT, hR, XG.r μ, MG.r ν⟩
  | succ m ih =>
    intro μ ν S f f' a hR hT hj ha hd hf hf'
    obtain ⟨f, rfl⟩ : ∃ g, f = g + 1 := ⟨f - 1, by omega⟩
    obtain ⟨f', rfl⟩ : ∃ g, f' = g + 1 + 1 := ⟨f' - 2, by omega⟩
    have hj2 := hR.2.2.1.1
    rw [eX6_readFlights_2, zif_neg (show ¬ (10 : Int32) < nI a from nI_nlt (a := 10) (b := a) (by omega) (by decide)), eX11_reads_102]
    rcases P_isWord hT (i := 14) (c := 214211860) (by decide) (by decide) with ⟨wa, wb⟩ | ⟨wa, wb⟩
    · rw [wa, zI_some, wb, zI_some, zif_neg (show ¬ (1 : Int32) = 0 by decide), zif_neg (show ¬ (1 : Int32) = 0 by decide), hj, zif_pos hj2]
      rcases fl_step hR hT hj with ⟨μ', ν', S', c0, c1, c2, c3, c4, c5, c6, c7⟩ | ⟨μ', ν', c1, c2, c3, c4, c5⟩
      · by_cases g : μ.1 1 j 0 < 10
        · rw [zif_pos g] at c1 ⊢
          cases hq : tX7_findToken_0 (μ.1 7 0 3) μ with
          | none => rw [hq] at c1; cases c1
          | some r =>
            obtain ⟨o, m⟩ := r
            cases o with
            | some _ => rw [hq] at c1; cases c1
            | none =>
              rw [hq, zU_some] at c1
              rw [zU_some, c1, zI_some, zif_neg (show ¬ (1 : Int32) = 0 by decide), eX6_readFlights_65, nI_1, c2, zU_some]
              rcases ih f (f' + 1) (a + 1) c4 c3 (by rw [c6.1]; exact hj) (by omega) (by omega) (by omega) (by omega) with ⟨μ2, ν2, S2, y1, y2, y3, y4, y5, y6⟩ | ⟨μ2, ν2, y1, y2, y3, y4, y5⟩
              · left
                exact ⟨μ2, ν2, S2, y1, y2, y3, y4, c6.t y5, c7.t y6⟩
              · right
                exact ⟨μ2, ν2, y1, y2, y3, c6.t y4, c7.t y5⟩
        · rw [zif_neg g] at c1
          injection c1 with c1
          injection c1 with c1
          injection c1 with c1
          injection c1 with c1
          exact absurd c1 (by decide)
      · right
        by_cases g : μ.1 1 j 0 < 10
        · rw [zif_pos g] at c1 ⊢
          cases hq : tX7_findToken_0 (μ.1 7 0 3) μ with
          | none => rw [hq] at c1; cases c1
          | some r =>
            obtain ⟨o, m⟩ := r
            cases o with
            | some _ => rw [hq] at c1; cases c1
            | none =>
              rw [hq, zU_some] at c1
              rw [zU_some, c1, zI_some, zif_pos rfl, zif_pos nar_0, c2, zU_some, D_102 c3.1]
              exact ⟨μ', ν', rfl, rfl, c3, c4, c5⟩
        · rw [zif_neg g] at c1 ⊢
          rw [zif_pos nar_0, c1, c2, zU_some, D_102 c3.1]
          exact ⟨μ', ν', rfl, rfl, c3, c4, c5⟩
    · left
      rw [wa, zI_some, wb, zI_some, zif_pos rfl, zif_pos nar_1, zif_pos rfl]
      exact ⟨μ, ν, S, rfl, rfl, hT, hR, XG.r μ, MG.r ν⟩
theorem win_step {μ ν : zM} {j d : Nat} {S : zSt} {D : zDv} {lim : Int32} {dv : Nat → Nat → Nat} {ds dk : Nat → Nat} (hR : RD μ ν j S D lim d dv ds dk) (hT : TOKP μ ν) (hj : μ.2.1 6 0 1 = j) : (∃ μ' ν' S', tX6_readWindow_0 μ = some (some (.inl 1), μ') ∧ WIN ν = tX11_reads_161 ν' ∧ TOKP μ' ν' ∧ RD μ' ν' j S' D lim d dv ds dk ∧ XG j μ μ' ∧ MG ν ν') ∨ (∃ μ' ν', tX6_readWindow_0 μ = some (some (.inl 0), μ') ∧ WIN ν = some (none, ν') ∧ BAD μ' ν' ∧ XG j μ μ' ∧ MG ν ν') := by
  have hj2 := hR.2.2.1.1
  rw [eX6_readWindow_0, WIN_eq]
  rcases P_isWord hT (i := 7) (c := 781652471) (by decide) (by decide) with ⟨a, b⟩ | ⟨a, b⟩
  · rw [a, zI_some, b, zI_some, zif_neg (show ¬ (1 : Int32) = 0 by decide), zif_neg (show ¬ (1 : Int32) = 0 by decide), hj, zif_pos hj2]
    rcases P_named hT (i := 7) (c := 781652471) (lo := 0) (hi := 3) (by decide) (by decide) (by decide) with ⟨v, μ1, ν1, a1, a2, a3, a4, a5, a6⟩ | ⟨v, μ1, ν1, a1, a2, a3, a4, a5⟩
    · obtain ⟨w, hw1, hw2, rfl⟩ := rng_nat (a := 0) (b := 3) a3.1 a3.2 (by decide) (by decide)
      have hR1 := hR.f a5 a6
      have hj1 : μ1.2.1 6 0 1 = j := by rw [a5.1]; exact hj
      rw [a1, zI_some, zlet_eq, show (mS μ1 5 j 1 (nI w)).2.1 6 0 1 = j from hj1, zif_pos hj2, mS_same, zif_neg (m1_nI (by omega)), a2, zI_some, wI_64 (x := 2) (z := 2) rfl (by decide), Option.bind_some]
      have t1 : TOKP (mS μ1 5 j 1 (nI w)) (mS ν1 64 0 2 (nI w)) := a4.of (fun z => mS_k _ _ _ _ _ _ _ _ (by decide)) (fun z => mS_k _ _ _ _ _ _ _ _ (by decide)) (fun z => mS_k _ _ _ _ _ _ _ _ (by decide)) (fun z => mS_k _ _ _ _ _ _ _ _ (by decide)) rfl
      have gX : XG j μ (mS μ1 5 j 1 (nI w)) := (a5.g (j := j)).s (by unfold isSj; omega)
      have gM : MG ν (mS ν1 64 0 2 (nI w)) := a6.g.t ((MD.r ν1).s _ _).g
      rcases P_semi t1 with ⟨μ6, ν6, f1, f2, f3, f4, f5, f6⟩ | ⟨ν6, f1, f2, f3, f4, f5⟩
      · left
        rw [f1, zI_some, zif_neg (show ¬ (1 : Int32) = 0 by decide), eX6_readWindow_60, zif_pos nar_1, zif_pos f2, eX11_reads_158, f3, zU_some]
        refine ⟨μ6, ν6, (sn S, w, S.2.2), rfl, rfl, f4, ?_, gX.t f5.g, gM.t f6.g⟩
        have hlim := hR1.2.2.1.2.2.2.1
        have hlm := hR1.2.2.2.1.2.2.2.1
        refine RD.f (hR1.set (μ' := mS μ1 5 j 1 (nI w)) (ν' := mS ν1 64 0 2 (nI w)) hw2 (fun k a z n _ => ?_) (mS_same _ _ _ _ _) ?_ (fun z n1 n2 => ?_) (mS_same _ _ _ _ _) ?_) f5 f6
        · rw [mS_1, if_neg (by omega)]
        · rw [mS_n _ _ _ _ _ _ _ _ (by decide)]; exact hlim
        · rw [mS_n _ _ _ _ _ _ _ _ n1]
        · rw [mS_n _ _ _ _ _ _ _ _ (by decide)]; exact hlm
      · right
        rw [f1, zI_some, zif_pos rfl, eX6_readWindow_59, eX6_readWindow_60, zif_pos nar_0, zif_neg f2, eX11_reads_158, f3, zU_some, D_161 f4.1]
        exact ⟨_, ν6, rfl, rfl, f4, gX, gM.t f5⟩
    · right
      have hj1 : μ1.2.1 6 0 1 = j := by rw [a4.1]; exact hj
      rw [a1, zI_some, zlet_eq, show (mS μ1 5 j 1 (-1)).2.1 6 0 1 = j from hj1, zif_pos hj2, mS_same, zif_pos rfl, eX6_readWindow_59, eX6_readWindow_60, zif_pos nar_0, a2, zI_some, wI_64 (x := 2) (z := 2) rfl (by decide), Option.bind_some]
      have h0 : (mS ν1 64 0 2 v).1 11 0 10 = 0 := h64 a3.1
      rw [eX11_reads_158, eX11_reads_158, D_takes h0, D_takes h0, zU_some, D_161 h0, zif_same]
      have y3 : MD ν1 (mS ν1 64 0 2 v) := (MD.r ν1).s _ _
      exact ⟨_, _, rfl, rfl, (a3.d y3).x (by rw [mS_k _ _ _ _ _ _ _ _ (by decide)]), (a4.g (j := j)).s (by unfold isSj; omega), a5.t y3.g⟩
  · left
    rw [a, zI_some, zif_pos rfl, zif_pos nar_1, b, zI_some, zif_pos rfl]
    exact ⟨μ, ν, S, rfl, rfl, hT, hR, XG.r μ, MG.r ν⟩
theorem lim_step {μ ν : zM} {j d : Nat} {S : zSt} {D : zDv} {lim : Int32} {dv : Nat → Nat → Nat} {ds dk : Nat → Nat} (hR : RD μ ν j S D lim d dv ds dk) (hl0 : ∃ l, 1 ≤ l ∧ l ≤ 9 ∧ lim = nI l) (hT : TOKP μ ν) (hj : μ.2.1 6 0 1 = j) : (∃ μ' ν' l, 1 ≤ l ∧ l ≤ 9 ∧ tX6_readPassLimit_0 μ = some (some (.inl 1), μ') ∧ tX11_reads_161 ν = tX11_reads_204 ν' ∧ TOKP μ' ν' ∧ RD μ' ν' j S D (nI l) d dv ds dk ∧ XG j μ μ' ∧ MG ν ν') ∨ (∃ μ' ν', tX6_readPassLimit_0 μ = some (some (.inl 0), μ') ∧ tX11_reads_161 ν = some (none, ν') ∧ BAD μ' ν' ∧ XG j μ μ' ∧ MG ν ν') := by
  have hj2 := hR.2.2.1.1
  rw [eX6_readPassLimit_0, eX11_reads_161]
  rcases P_isWord hT (i := 8) (c := 538561715) (by decide) (by decide) with ⟨a, b⟩ | ⟨a, b⟩
  · rw [a, zI_some, b, zI_some, zif_neg (show ¬ (1 : Int32) = 0 by decide), zif_neg (show ¬ (1 : Int32) = 0 by decide), hj, zif_pos hj2]
    rcases P_named hT (i := 8) (c := 538561715) (lo := 1) (hi := 9) (by decide) (by decide) (by decide) with ⟨v, μ1, ν1, a1, a2, a3, a4, a5, a6⟩ | ⟨v, μ1, ν1, a1, a2, a3, a4, a5⟩
    · obtain ⟨w, hw1, hw2, rfl⟩ := rng_nat (a := 1) (b := 9) a3.1 a3.2 (by decide) (by decide)
      have hR1 := hR.f a5 a6
      have hj1 : μ1.2.1 6 0 1 = j := by rw [a5.1]; exact hj
      rw [a1, zI_some, zlet_eq, show (mS μ1 5 j 2 (nI w)).2.1 6 0 1 = j from hj1, zif_pos hj2, mS_same, zif_neg (m1_nI (by omega)), a2, zI_some, wI_64 (x := 3) (z := 3) rfl (by decide), Option.bind_some]
      have t1 : TOKP (mS μ1 5 j 2 (nI w)) (mS ν1 64 0 3 (nI w)) := a4.of (fun z => mS_k _ _ _ _ _ _ _ _ (by decide)) (fun z => mS_k _ _ _ _ _ _ _ _ (by decide)) (fun z => mS_k _ _ _ _ _ _ _ _ (by decide)) (fun z => mS_k _ _ _ _ _ _ _ _ (by decide)) rfl
      have gX : XG j μ (mS μ1 5 j 2 (nI w)) := (a5.g (j := j)).s (by unfold isSj; omega)
      have gM : MG ν (mS ν1 64 0 3 (nI w)) := a6.g.t ((MD.r ν1).s _ _).g
      rcases P_semi t1 with ⟨μ6, ν6, f1, f2, f3, f4, f5, f6⟩ | ⟨ν6, f1, f2, f3, f4, f5⟩
      · left
        rw [f1, zI_some, zif_neg (show ¬ (1 : Int32) = 0 by decide), eX6_readPassLimit_61, zif_pos nar_1, zif_pos f2, eX11_reads_201, f3, zU_some]
        refine ⟨μ6, ν6, w, hw1, hw2, rfl, rfl, f4, ?_, gX.t f5.g, gM.t f6.g⟩
        have hwd := hR1.2.2.1.2.2.1
        have hwm := hR1.2.2.2.1.2.2.1
        have hw3 := hR.1.2.2.1
        refine RD.f (hR1.set (w := swd S) (μ' := mS μ1 5 j 2 (nI w)) (ν' := mS ν1 64 0 3 (nI w)) hw3 (fun k a z n _ => ?_) ?_ (mS_same _ _ _ _ _) (fun z n1 n2 => ?_) ?_ (mS_same _ _ _ _ _)) f5 f6
        · rw [mS_1, if_neg (by omega)]
        · rw [mS_n _ _ _ _ _ _ _ _ (by decide)]; exact hwd
        · rw [mS_n _ _ _ _ _ _ _ _ n2]
        · rw [mS_n _ _ _ _ _ _ _ _ (by decide)]; exact hwm
      · right
        rw [f1, zI_some, zif_pos rfl, eX6_readPassLimit_60, eX6_readPassLimit_61, zif_pos nar_0, zif_neg f2, eX11_reads_201, f3, zU_some, D_204 f4.1]
        exact ⟨_, ν6, rfl, rfl, f4, gX, gM.t f5⟩
    · right
      have hj1 : μ1.2.1 6 0 1 = j := by rw [a4.1]; exact hj
      rw [a1, zI_some, zlet_eq, show (mS μ1 5 j 2 (-1)).2.1 6 0 1 = j from hj1, zif_pos hj2, mS_same, zif_pos rfl, eX6_readPassLimit_60, eX6_readPassLimit_61, zif_pos nar_0, a2, zI_some, wI_64 (x := 3) (z := 3) rfl (by decide), Option.bind_some]
      have h0 : (mS ν1 64 0 3 v).1 11 0 10 = 0 := h64 a3.1
      rw [eX11_reads_201, eX11_reads_201, D_takes h0, D_takes h0, zU_some, D_204 h0, zif_same]
      have y3 : MD ν1 (mS ν1 64 0 3 v) := (MD.r ν1).s _ _
      exact ⟨_, _, rfl, rfl, (a3.d y3).x (by rw [mS_k _ _ _ _ _ _ _ _ (by decide)]), (a4.g (j := j)).s (by unfold isSj; omega), a5.t y3.g⟩
  · left
    rw [a, zI_some, zif_pos rfl, zif_pos nar_1, b, zI_some, zif_pos rfl]
    obtain ⟨l, l1, l9, rfl⟩ := hl0
    exact ⟨μ, ν, l, l1, l9, rfl, rfl, hT, hR, XG.r μ, MG.r ν⟩
