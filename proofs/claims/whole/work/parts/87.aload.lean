theorem SU.sm {ν : zM} {S : zSt} {D : zDv} {lim : Int32} {d : Nat} {dv : Nat → Nat → Nat} {ds dk : Nat → Nat} (hd : d ≤ 18) (hF : sF S ≤ 10) (h : SU (ν.1 63 0) S D lim d dv ds dk) : SM (ν.1 63 0) S D lim ∧ FlM ν (sF S) (sT S) := by
  obtain ⟨u0, u1, u2, u3, u4, u5, u6, u7, u8, u9, u10⟩ := h
  refine ⟨⟨u0, u2, u3, u4, u5, u6, dv, fun s k a b c => ?_⟩, hF, u9.1, u9.2⟩
  obtain ⟨⟨v1, v2, v3⟩, v4, v5, v6, v7, v8⟩ := u7 s k a b c
  exact ⟨by omega, v4, v5, v6, v7, v8⟩
theorem SU.congr {u u' : Nat → Int32} {S : zSt} {D : zDv} {lim : Int32} {d : Nat} {dv : Nat → Nat → Nat} {ds dk : Nat → Nat} (hS : okS S) (hd : d ≤ 18) (h : SU u S D lim d dv ds dk) (e : ∀ z, z < 400 → u' z = u z) : SU u' S D lim d dv ds dk := by
  have n60 := hS.2.1
  have hF := hS.2.2.2.1
  obtain ⟨u0, u1, u2, u3, u4, u5, u6, u7, u8, u9, u10⟩ := h
  refine ⟨by rw [e _ (by decide)]; exact u0, by rw [e _ (by decide)]; exact u1, by rw [e _ (by decide)]; exact u2, by rw [e _ (by decide)]; exact u3, fun p hp => by rw [e _ (by omega)]; exact u4 p hp, fun s a b => by rw [e _ (by omega)]; exact u5 s a b, fun p a b => ?_, fun s k a b c => ?_, fun x hx => ?_, ⟨by rw [e _ (by decide)]; exact u9.1, fun c f hc hf => by rw [e _ (by omega)]; exact u9.2 c f hc hf⟩, u10⟩
  · have hp60 : p < 60 := by
      by_cases g : p < sn S
      · omega
      · have := hS.2.2.2.2.2.2.1 p (by omega)
        omega
    rw [e _ (by omega)]
    exact u6 p a b
  · obtain ⟨⟨v1, v2, v3⟩, v4, v5, v6, v7, v8⟩ := u7 s k a b c
    have hk6 := hS.2.2.2.2.2.2.2.1 s
    exact ⟨⟨v1, v2, v3⟩, by rw [e _ (by omega)]; exact v4, fun z => by rw [e _ (by omega), e _ (by omega)]; exact v5 z, fun z l l1 l3 => by rw [e _ (by omega)]; exact v6 z l l1 l3, fun z => by rw [e _ (by omega)]; exact v7 z, fun z => by rw [e _ (by omega)]; exact v8 z⟩
  · obtain ⟨v1, v2, v3⟩ := u8 x hx
    exact ⟨v1, by rw [e _ (by omega)]; exact v2, by rw [e _ (by omega)]; exact v3⟩
theorem a_load {μ : zM} {c : Nat} (h : REL μ c) : CALL tX10_load_0 tX11_load_0 μ (c + 1) := by
  have hR := h
  obtain ⟨j, S, D, lim, t, hd, C, now, nx, cn, Cf, ⟨h1, hj, h1'⟩, h2, h3, h4, h5, ⟨L, hL, l1, l2, l3⟩, h7, h8⟩ := h
  have hj' : 1 - j < 2 := by omega
  -- what the class answers, and what it leaves
  have xOK : ∀ {ν m : zM}, XH (1 - j) μ m → m.2.1 10 0 6 = j ∧ m.2.1 10 0 7 = 1 - j := fun f => ⟨by rw [f.1 _ _ _ (by omega)]; exact h1, by rw [f.1 _ _ _ (by omega)]; exact h1'⟩
  have size : ∀ {u : Nat → Int32} {S : zSt} {D : zDv} {lim : Int32} {d : Nat} {dv : Nat → Nat → Nat} {ds dk : Nat → Nat}, okS S → SU u S D lim d dv ds dk → d ≤ 18 ∧ sb ds d ≤ 472 ∧ ∀ x, x < d → 1 ≤ ds x ∧ ds x ≤ 6 ∧ dk x < scnt S (ds x) := fun hS hU => by
    have lims := hS.2.2.2.2.2.2.2.2.2.2
    have c3 := hS.2.2.2.2.2.2.2.1 3
    obtain ⟨u0, u1, u2, u3, u4, u5, u6, u7, u8, u9, u10, u11⟩ := hU
    exact ⟨by omega, by omega, fun x hx => ⟨(u8 x hx).1.1, (u8 x hx).1.2.1, (u8 x hx).1.2.2.1⟩⟩
  have hX : ∃ v μ1, tX10_load_0 μ = some (some (.inl v), μ1) ∧ (∀ z, μ1.1 11 0 z = μ.1 11 0 z) ∧ ∀ z, μ1.1 62 0 z = μ.1 62 0 z := by
    rcases into_pair (μ := μ) (ν := mS μ 11 0 2 (-2)) hj' hL ⟨l1, by rw [mS_n _ _ _ _ _ _ _ _ (by decide)]; exact l2, fun z hz => by rw [mS_k _ _ _ _ _ _ _ _ (by decide)]; exact l3 z hz⟩ (mS_same _ _ _ _ _) with ⟨m, n, S, D, l, d, dv, ds, dk, g1, g2, e1, e2, ⟨e3, e4, e5, e6, e7, e8, e9⟩, e10, e11, e12⟩ | ⟨m, n, e1, e2, e3, e4, e5⟩
    · obtain ⟨s1, s2, s3⟩ := size e3 e7
      obtain ⟨q, k1, k2, k3⟩ := XL_ok h1' hj hj' e1 (xOK (ν := μ) e11).1 (xOK (ν := μ) e11).2 e3 e4 g2 e5 e8 e9 s3 s2 s1
      refine ⟨_, q, k1, fun z => ?_, fun z => ?_⟩
      · rw [k2.2.2.2.2 _ _ _ (by unfold isW; omega) (by decide) (by decide) (by decide) (by decide) (by decide), e11.2.2 _ _ _ (by decide) (by unfold isSj; omega)]
      · rw [k2.2.2.2.2 _ _ _ (by unfold isW; omega) (by decide) (by decide) (by decide) (by decide) (by decide), e11.2.2 _ _ _ (by decide) (by unfold isSj; omega)]
    · refine ⟨_, _, XL_bad h1' hj' e1, fun z => ?_, fun z => ?_⟩
      · rw [mS_k _ _ _ _ _ _ _ _ (by decide), mS_k _ _ _ _ _ _ _ _ (by decide), e4.2.2 _ _ _ (by decide) (by unfold isSj; omega)]
      · rw [mS_k _ _ _ _ _ _ _ _ (by decide), mS_k _ _ _ _ _ _ _ _ (by decide), e4.2.2 _ _ _ (by decide) (by unfold isSj; omega)]
  obtain ⟨v, μ1, hx, hx11, hx62⟩ := hX
  have two : ∀ {a b : Int32} {m m' : zM}, (some (some (.inl a), m) : Option (Option zV × zM)) = some (some (.inl b), m') → a = b ∧ m = m' := fun e => by
    injection e with e
    injection e with e1 e2
    injection e1 with e1
    injection e1 with e1
    exact ⟨e1, e2⟩
  rcases into_pair (μ := μ) (ν := mS μ1 11 0 2 (-2)) hj' hL ⟨l1, by rw [mS_n _ _ _ _ _ _ _ _ (by decide), hx11]; exact l2, fun z hz => by rw [mS_k _ _ _ _ _ _ _ _ (by decide), hx62]; exact l3 z hz⟩ (mS_same _ _ _ _ _) with ⟨m, n, S', D', l, d, dv, ds, dk, g1, g2, e1, e2, ⟨e3, e4, e5, e6, e7, e8, e9⟩, e10, e11, e12⟩ | ⟨m, n, e1, e2, e3, e4, e5⟩
  · obtain ⟨s1, s2, s3⟩ := size e3 e7
    obtain ⟨q, k1, k2, k3⟩ := XL_ok h1' hj hj' e1 (xOK (ν := μ) e11).1 (xOK (ν := μ) e11).2 e3 e4 g2 e5 e8 e9 s3 s2 s1
    obtain ⟨rfl, rfl⟩ := two (hx.symm.trans k1)
    let n1 := mS n 11 0 1 0
    have hn10 : n1.1 11 0 10 = 1 := by
      show (mS n 11 0 1 0).1 11 0 10 = 1
      rw [mS_n _ _ _ _ _ _ _ _ (by decide)]; exact e10.1
    have k0 := cpy_loop n1 400 0 100000 (by decide) (by decide)
    have c0 : cpy n1 0 = n1 := by
      refine Prod.ext (funext fun k => funext fun i => funext fun z => ?_) rfl
      rw [cpy_1, if_neg (by omega)]
    rw [c0] at k0
    obtain ⟨μ2, b1, b2, b3, b4, b5⟩ := M_begins (cpy n1 400)
    have r63 : ∀ z, z < 400 → μ2.1 63 0 z = n.1 64 0 z := fun z hz => by
      rw [b5 _ _ _ (by omega) (by omega), cpy_1, if_pos ⟨rfl, rfl, hz⟩]
      exact mS_k _ _ _ _ _ _ _ _ (by decide)
    have hU2 : SU (μ2.1 63 0) S' D' (nI l) d dv ds dk := e7.congr e3 s1 r63
    -- cells of the class behind
    have rx : ∀ k i z, k ≠ 11 → ¬ (62 ≤ k) → μ2.1 k i z = μ1.1 k i z := fun k i z a b => by
      rw [b5 _ _ _ (by omega) (by omega), cpy_1, if_neg (by omega)]
      show (mS n 11 0 1 0).1 k i z = _
      rw [mS_k _ _ _ _ _ _ _ _ a, e12.2.1 _ _ _ (by omega) (by omega), mS_k _ _ _ _ _ _ _ _ a]
    have r11 : ∀ z, z ≠ 1 → z ≠ 14 → μ2.1 11 0 z = n.1 11 0 z := fun z a b => by
      rw [b5 _ _ _ (by omega) (by omega), cpy_1, if_neg (by omega)]
      exact mS_n _ _ _ _ _ _ _ _ a
    have p2 : μ2.2.1 = μ1.2.1 := by
      rw [b4]
      exact e12.1
    obtain ⟨⟨f1, f2, f3, f4, f5⟩, f6, f7, f8, f9⟩ := k2
    have hSX : SX μ2 (1 - j) S' D' (nI l) := e5.of (fun k a s hk => by
      unfold isS at hk
      rw [rx _ _ _ (by omega) (by omega), f9 _ _ _ (by unfold isW; omega) (by omega) (by omega) (by omega) (by omega) (by omega)])
    have hok := hU2.sm s1 e3.2.2.2.1
    refine ⟨nI (sn S'), μ1, μ2, k1, ?_, 1 - j, S', D', nI l, 0, 15, 0, 0, 0, 0, fun _ => 0, ⟨by rw [p2]; exact f1, hj', ?_⟩, by decide, ⟨e3, e4, hSX, ⟨?_, fun k p hk => ?_⟩, hok.1, hok.2⟩, RQ_beg e3 (f6.of (fun k z hk => rx _ _ _ (by omega) (by omega))) (by rw [p2]; exact f3) b2, ⟨by decide, by decide, ?_, ?_, b3, fun u u' _ a => absurd a (Nat.not_lt_zero _), fun u a => absurd a (Nat.not_lt_zero _), fun u a => absurd a (Nat.not_lt_zero _)⟩, ⟨0, by decide, ?_, ?_, fun z hz => absurd hz (Nat.not_lt_zero _)⟩, ⟨TX S' D' l d ds dk, k3, ?_, fun z hz => ?_, says_all e3 e4 g2 hU2⟩, ?_⟩
    · rw [eX11_load_0, zlet_eq, e2, zU_some, zlet_eq, show (mS n 11 0 1 0).1 11 0 10 = 1 from hn10, zif_neg (show ¬ (1 : Int32) = 0 by decide), zN_eq, show tX11_load_26 100000 0 (mS n 11 0 1 0) = _ from k0, b1, zU_some, qI_in (x := 0) (p := 0) (zS_63 0) rfl (by decide) (by decide), Option.bind_some, hU2.1]
    · rw [p2, f2]
      omega
    · rw [rx _ _ _ (by decide) (by decide), f9 _ _ _ (by unfold isW; omega) (by omega) (by omega) (by omega) (by omega) (by omega)]
      exact e6.1
    · rw [rx _ _ _ (by decide) (by decide), f9 _ _ _ (by unfold isW; omega) (by omega) (by omega) (by omega) (by omega) (by omega)]
      exact e6.2 k p hk
    · rw [rx _ _ _ (by decide) (by decide)]; exact f8.1
    · rw [rx _ _ _ (by decide) (by decide)]; exact f8.2.1
    · rw [rx _ _ _ (by decide) (by decide)]; exact f8.2.2.2
    · rw [b5 _ _ _ (by omega) (by omega), cpy_1, if_neg (by omega)]
      exact mS_same _ _ _ _ _
    · rw [rx _ _ _ (by decide) (by decide)]; exact f7.1
    · rw [rx _ _ _ (by decide) (by decide)]; exact f7.2 z hz
    · rw [rx _ _ _ (by decide) (by decide), f8.2.2.1, r11 2 (by decide) (by decide), e10.2]
  · obtain ⟨rfl, rfl⟩ := two (hx.symm.trans (XL_bad h1' hj' e1))
    let n1 := mS n 11 0 1 0
    have rk : ∀ k i z, k ≠ 7 → k ≠ 10 → k ≠ 11 → k ≠ 64 → ¬ isSj (1 - j) k i → n1.1 k i z = μ.1 k i z := fun k i z a1 a2 a3 a4 a5 => by
      show (mS n 11 0 1 0).1 k i z = _
      rw [mS_k _ _ _ _ _ _ _ _ a3, e5.2.1 _ _ _ (by omega) (by omega), mS_k _ _ _ _ _ _ _ _ a3, mS_k _ _ _ _ _ _ _ _ a1, mS_k _ _ _ _ _ _ _ _ a2, e4.2.2 _ _ _ a1 a5]
    have r11 : ∀ z, z ≠ 1 → z ≠ 2 → ¬ (5 ≤ z ∧ z ≤ 10) → n1.1 11 0 z = μ.1 11 0 z := fun z a1 a2 a3 => by
      show (mS n 11 0 1 0).1 11 0 z = _
      rw [mS_n _ _ _ _ _ _ _ _ a1, e5.2.1 _ _ _ (by omega) (by omega), mS_n _ _ _ _ _ _ _ _ a2, mS_k _ _ _ _ _ _ _ _ (by decide), mS_k _ _ _ _ _ _ _ _ (by decide), e4.2.2 _ _ _ (by decide) (by unfold isSj; omega)]
    have p2 : ∀ k i z, ¬ (k = 6 ∧ i = 0 ∧ z = 1) → n1.2.1 k i z = μ.2.1 k i z := fun k i z a => by
      show n.2.1 k i z = _
      rw [e5.1]
      exact e4.1 k i z a
    have dis : ∀ k i, isSj j k i → ¬ isSj (1 - j) k i := fun k i a => (isSj_dis a).resolve_right (by omega)
    have hw : ∀ i k x z, isW i k x → n1.1 k x z = μ.1 k x z := fun i k x z a => by
      have q := isW_lt a
      exact rk _ _ _ (by omega) (by omega) (by omega) (by omega) (by unfold isSj; omega)
    have e65 : n1.1 65 0 = μ.1 65 0 := funext fun z => rk _ _ _ (by decide) (by decide) (by decide) (by decide) (by unfold isSj; omega)
    have e63 : n1.1 63 0 = μ.1 63 0 := funext fun z => rk _ _ _ (by decide) (by decide) (by decide) (by decide) (by unfold isSj; omega)
    obtain ⟨v1, v2, v3, v4, v5, v6⟩ := h3
    refine ⟨-1, _, n1, hx, ?_, j, S, D, lim, t, hd, C, now, nx, cn, Cf, ⟨by rw [p2 _ _ _ (by omega)]; exact h1, hj, by rw [p2 _ _ _ (by omega)]; exact h1'⟩, h2, ⟨v1, v2, v3.ofj (fun k a s hk => ?_), ⟨?_, fun k p hk => ?_⟩, by rw [e63]; exact v5, v6.1, ?_, fun c f hc hf => ?_⟩, ?_, (h5.of v1 (fun i k x z _ a => hw i k x z a) (fun i _ => p2 _ _ _ (by omega)) (fun z => rk _ _ _ (by decide) (by decide) (by decide) (by decide) (by unfold isSj; omega)) (r11 14 (by decide) (by decide) (by decide)) (fun z => rk _ _ _ (by decide) (by decide) (by decide) (by decide) (by unfold isSj; omega)) (fun k z k1 k2 _ => rk _ _ _ (by omega) (by omega) (by omega) (by omega) (by unfold isSj; omega))).up (by omega), ⟨0, by decide, ?_, ?_, fun z hz => absurd hz (Nat.not_lt_zero _)⟩, h7.of (fun k z hk => rk _ _ _ (by omega) (by omega) (by omega) (by omega) (by unfold isSj; omega)), ?_⟩
    · rw [eX11_load_0, zlet_eq, e2, zU_some, zlet_eq, zif_pos (show (mS n 11 0 1 0).1 11 0 10 = 0 by rw [mS_n _ _ _ _ _ _ _ _ (by decide)]; exact e3.1)]
    · have hk' := hk
      unfold isSj at hk'
      exact rk _ _ _ (by omega) (by omega) (by omega) (by omega) (dis _ _ hk)
    · rw [rk _ _ _ (by decide) (by decide) (by decide) (by decide) (dis _ _ (by unfold isSj; omega))]
      exact v4.1
    · rw [rk _ _ _ (by decide) (by decide) (by decide) (by decide) (dis _ _ (by unfold isSj; omega))]
      exact v4.2 k p hk
    · rw [rk _ _ _ (by decide) (by decide) (by decide) (by decide) (by unfold isSj; omega)]
      exact v6.2.1
    · rw [rk _ _ _ (by decide) (by decide) (by decide) (by decide) (by unfold isSj; omega)]
      exact v6.2.2 c f hc hf
    · rw [e65]
      refine RQ.up ?_ (show 30000 * c ≤ 30000 * (c + 1) by omega)
      exact (h4.nu (fun k z k1 k2 _ => rk _ _ _ (by omega) (by omega) (by omega) (by omega) (by unfold isSj; omega))).mu v1 (fun k x z a => hw _ k x z a) (p2 _ _ _ (by omega))
    · show (mS n 11 0 1 0).1 7 0 1 = nI 0
      rw [mS_k _ _ _ _ _ _ _ _ (by decide), e5.2.1 _ _ _ (by omega) (by omega), mS_k _ _ _ _ _ _ _ _ (by decide), mS_same]
      rfl
    · show (mS n 11 0 1 0).1 11 0 1 = nI 0
      rw [mS_same]
      rfl
    · show (mS n 11 0 1 0).1 10 0 8 = (mS n 11 0 1 0).1 11 0 2
      rw [mS_k _ _ _ _ _ _ _ _ (by decide), mS_n _ _ _ _ _ _ _ _ (by decide), e3.2, e5.2.1 _ _ _ (by omega) (by omega), mS_k _ _ _ _ _ _ _ _ (by decide), mS_k _ _ _ _ _ _ _ _ (by decide), mS_same]
