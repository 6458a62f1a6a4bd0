/-! ===== all devices ===== -/
theorem pX10_wordOf {μ : zM} {s : Nat} (h1 : 1 ≤ s) (h6 : s ≤ 6) : tX10_wordOf_0 (nI s) μ = some (some (.inr (.inr (75, s - 1))), μ) := by
  rw [eX10_wordOf_0]
  rcases (by omega : s = 1 ∨ s = 2 ∨ s = 3 ∨ s = 4 ∨ s = 5 ∨ s = 6) with rfl | rfl | rfl | rfl | rfl | rfl
  · rw [zif_pos (by decide)]
  · rw [zif_neg (by decide), zif_pos (by decide)]
  · rw [zif_neg (by decide), zif_neg (by decide), zif_pos (by decide)]
  · rw [zif_neg (by decide), zif_neg (by decide), zif_neg (by decide), zif_pos (by decide)]
  · rw [zif_neg (by decide), zif_neg (by decide), zif_neg (by decide), zif_neg (by decide), zif_pos (by decide)]
  · rw [zif_neg (by decide), zif_neg (by decide), zif_neg (by decide), zif_neg (by decide), zif_neg (by decide)]
theorem P_sort {μ ν : zM} (h : TOKP μ ν) : ∃ s, s ≤ 6 ∧ tX6_sortOfToken_0 μ = some (some (.inl (nI s)), μ) ∧ tX11_sortHere_0 ν = some (some (.inl (nI s)), ν) := by
  have hn : ∀ f a, 1 ≤ a → a ≤ 6 → tX7_isAtWord_0 (a - 1) μ = some (some (.inl 0), μ) → tX6_sortOfToken_2 (f + 1) (nI a) μ = tX6_sortOfToken_2 f (nI (a + 1)) μ := fun f a a1 a6 e => by
    rw [eX6_sortOfToken_2, zif_neg (show ¬ (6 : Int32) < nI a from nI_nlt (a := 6) (b := a) a6 (by decide)), pX10_wordOf a1 a6, zT_some, e, zI_some, zif_pos rfl, eX6_sortOfToken_27, nI_1]
  have hy : ∀ f a, 1 ≤ a → a ≤ 6 → tX7_isAtWord_0 (a - 1) μ = some (some (.inl 1), μ) → tX6_sortOfToken_2 (f + 1) (nI a) μ = some (some (.inl (nI a)), μ) := fun f a a1 a6 e => by
    rw [eX6_sortOfToken_2, zif_neg (show ¬ (6 : Int32) < nI a from nI_nlt (a := 6) (b := a) a6 (by decide)), pX10_wordOf a1 a6, zT_some, e, zI_some, zif_neg (by decide)]
  rw [eX6_sortOfToken_0, eX11_sortHere_0, zN_eq, show (100000 : Nat) = 99993 + 1 + 1 + 1 + 1 + 1 + 1 + 1 from rfl, show (1 : Int32) = nI 1 from rfl]
  have e86 : ∀ x, tX11_sortHere_86 x ν = some (some (.inl x), ν) := fun x => eX11_sortHere_86 x ν
  rcases P_isWord h (i := 0) (c := 9908404) (by decide) (by decide) with ⟨a, b⟩ | ⟨a, b⟩
  · exact ⟨1, by decide, hy _ 1 (by decide) (by decide) a, by rw [b, zI_some, zif_neg (by decide), e86]⟩
  rw [hn _ 1 (by decide) (by decide) a, b, zI_some, zif_pos rfl]
  rcases P_isWord h (i := 1) (c := 20503279794) (by decide) (by decide) with ⟨a, b⟩ | ⟨a, b⟩
  · exact ⟨2, by decide, hy _ 2 (by decide) (by decide) a, by rw [b, zI_some, zif_neg (by decide), e86]; rfl⟩
  rw [hn _ 2 (by decide) (by decide) a, b, zI_some, zif_pos rfl]
  rcases P_isWord h (i := 2) (c := 3430021) (by decide) (by decide) with ⟨a, b⟩ | ⟨a, b⟩
  · exact ⟨3, by decide, hy _ 3 (by decide) (by decide) a, by rw [b, zI_some, zif_neg (by decide), e86]; rfl⟩
  rw [hn _ 3 (by decide) (by decide) a, b, zI_some, zif_pos rfl]
  rcases P_isWord h (i := 3) (c := 641275054) (by decide) (by decide) with ⟨a, b⟩ | ⟨a, b⟩
  · exact ⟨4, by decide, hy _ 4 (by decide) (by decide) a, by rw [b, zI_some, zif_neg (by decide), e86]; rfl⟩
  rw [hn _ 4 (by decide) (by decide) a, b, zI_some, zif_pos rfl]
  rcases P_isWord h (i := 4) (c := 20594245) (by decide) (by decide) with ⟨a, b⟩ | ⟨a, b⟩
  · exact ⟨5, by decide, hy _ 5 (by decide) (by decide) a, by rw [b, zI_some, zif_neg (by decide), e86]; rfl⟩
  rw [hn _ 5 (by decide) (by decide) a, b, zI_some, zif_pos rfl]
  rcases P_isWord h (i := 5) (c := 21073896942) (by decide) (by decide) with ⟨a, b⟩ | ⟨a, b⟩
  · exact ⟨6, by decide, hy _ 6 (by decide) (by decide) a, by rw [b, zI_some, zif_neg (by decide), e86]; rfl⟩
  rw [hn _ 6 (by decide) (by decide) a, b, zI_some, zif_pos rfl]
  exact ⟨0, by decide, by rw [eX6_sortOfToken_2, zif_pos (by decide), nI_0], by rw [e86, nI_0]⟩
theorem RD.f {μ ν μ' ν' : zM} {j d : Nat} {S : zSt} {D : zDv} {lim : Int32} {dv : Nat → Nat → Nat} {ds dk : Nat → Nat} (h : RD μ ν j S D lim d dv ds dk) (f : XF μ μ') (m : MF ν ν') : RD μ' ν' j S D lim d dv ds dk := by
  obtain ⟨h1, h2, h3, h4, h5, h6⟩ := h
  have e : ν'.1 64 0 = ν.1 64 0 := funext fun z => m.2.1 _ _ _ (by omega)
  exact ⟨h1, h2, h3.of (fun k a s hk => f.2 _ _ _ (by unfold isS at hk; omega)), by rw [e]; exact h4, ⟨by rw [f.2 _ _ _ (by omega)]; exact h5.1, by rw [f.2 _ _ _ (by omega)]; exact h5.2⟩, fun x hx => by rw [f.2 _ _ _ (by omega)]; exact h6 x hx⟩
theorem pM_mostOf {ν : zM} {s : Nat} (h1 : 1 ≤ s) (h6 : s ≤ 6) : tX11_mostOf_0 (nI s) ν = some (some (.inl (zLim s)), ν) := by
  rw [eX11_mostOf_0, eX11_mostOf_20, eX11_mostOf_20, eX11_mostOf_20]
  rcases (by omega : s = 1 ∨ s = 2 ∨ s = 3 ∨ s = 4 ∨ s = 5 ∨ s = 6) with rfl | rfl | rfl | rfl | rfl | rfl
  · rw [zif_neg (by decide), zif_pos (by decide)]; rfl
  · rw [zif_neg (by decide), zif_pos (by decide)]; rfl
  · rw [zif_pos (by decide)]; rfl
  · rw [zif_neg (by decide), zif_neg (by decide)]; rfl
  · rw [zif_neg (by decide), zif_neg (by decide)]; rfl
  · rw [zif_neg (by decide), zif_neg (by decide)]; rfl
theorem zLim_lt {s k : Nat} (h1 : 1 ≤ s) (h6 : s ≤ 6) (hk : k ≤ 6) : nI k < zLim s ↔ (s ≤ 2 → k < 3) ∧ (s = 3 → k < 6) ∧ (4 ≤ s → k < 2) := by
  have : zLim s = nI (if s ≤ 2 then 3 else if s = 3 then 6 else 2) := by
    rcases (by omega : s = 1 ∨ s = 2 ∨ s = 3 ∨ s = 4 ∨ s = 5 ∨ s = 6) with rfl | rfl | rfl | rfl | rfl | rfl <;> rfl
  rw [this]
  split
  · rw [nI_ltI (by omega) (by decide)]; omega
  · split
    · rw [nI_ltI (by omega) (by decide)]; omega
    · rw [nI_ltI (by omega) (by decide)]; omega
/-- one device, limits too -/
theorem dev_step {μ ν : zM} {j d s : Nat} {S : zSt} {D : zDv} {lim : Int32} {dv : Nat → Nat → Nat} {ds dk : Nat → Nat} (h : RD μ ν j S D lim d dv ds dk) (hT : TOKP μ ν) (hj : μ.2.1 6 0 1 = j) (s1 : 1 ≤ s) (s6 : s ≤ 6) (f : Nat) (a : Int32) : (∃ μ' ν' S' D' dv' ds' dk', tX6_readDevices_13 f a (nI s) μ = tX6_readDevices_65 f (a + 1) μ' ∧ tX11_readDevice_0 (nI s) ν = some (none, ν') ∧ TOKP μ' ν' ∧ RD μ' ν' j S' D' lim (d + 1) dv' ds' dk' ∧ d < 18 ∧ XG j μ μ' ∧ MG ν ν') ∨ (∃ μ' ν', tX6_readDevices_13 f a (nI s) μ = some (some (.inl 0), μ') ∧ tX11_readDevice_0 (nI s) ν = some (none, ν') ∧ BAD μ' ν' ∧ XG j μ μ' ∧ MG ν ν') := by
  have hR := h
  obtain ⟨hS, hD, hX, hU, h13, h51⟩ := h
  have hj2 := hX.1
  have hlims := hS.2.2.2.2.2.2.2.2.2.2
  have hc6 := hS.2.2.2.2.2.2.2.1
  have hd18 : d ≤ 18 := by
    have := hU.2.2.2.2.2.2.2.2.2.2
    have := hc6 3
    omega
  have x49 := hX.2.2.2.2.2.2.1 s s1 s6
  have u1 := hU.2.1
  have us := hU.2.2.2.2.2.1 s s1 s6
  have hLimq : qI μ (74, 0) (nI s) = some (zLim s) := qLim_in rfl (by omega)
  rw [eX6_readDevices_13, zif_neg (show ¬ nI s = 0 from nI_ne (b := 0) (by omega) (by decide) (by omega)), hj, zif_pos hj2, qI_in (zS_49 j) rfl (by omega) (by decide), Option.bind_some, x49, hLimq, Option.bind_some]
  rw [eX11_readDevice_0, show (10 : Int32) + nI s = nI (10 + s) from nI_add 10 s, qI_64 rfl (by omega), Option.bind_some, us, eX11_readDevice_10, qI_64 (x := 1) (z := 1) rfl (by decide), Option.bind_some, u1, show (140 : Int32) + 8 * nI d = nI (140 + 8 * d) by rw [show (8 : Int32) = nI 8 from rfl, show (140 : Int32) = nI 140 from rfl, pk_mul, nI_add], eX11_readDevice_24, pM_mostOf s1 s6, zI_some]
  by_cases g : nI (scnt S s) < zLim s
  · have gl := (zLim_lt s1 s6 (hc6 s)).mp g
    have hd17 : d < 18 := by
      have hsum := hU.2.2.2.2.2.2.2.2.2.2
      have := hc6 3
      rcases (by omega : s = 1 ∨ s = 2 ∨ s = 3 ∨ s = 4 ∨ s = 5 ∨ s = 6) with rfl | rfl | rfl | rfl | rfl | rfl
      · have := gl.1 (by decide); omega
      · have := gl.1 (by decide); omega
      · have := gl.2.1 rfl; omega
      · have := gl.2.2 (by decide); omega
      · have := gl.2.2 (by decide); omega
      · have := gl.2.2 (by decide); omega
    obtain ⟨μ1, ν1, a1, a2, a3, a4, a5⟩ := P_takes hT
    have hR1 := hR.f a4 a5
    rw [zif_pos g, a1, zU_some, zif_pos g, eX11_readDevice_38, a2, zU_some, eX6_readDevice_0]
    have hj1 : μ1.2.1 6 0 1 = j := by rw [a4.1]; exact hj
    obtain ⟨-, -, hX1, hU1, -, -⟩ := hR1
    have sn60 := hS.2.1
    have sn10 := hS.1
    rcases P_free a3 hj1 hj2 hX1.2.1 hU1.1 ⟨by omega, sn60⟩ (fun z hz => by rw [hX1.2.2.2.2.2.1 z (by omega), hU1.2.2.2.2.1 z (by omega)]) with ⟨p, μ2, ν2, c1, c2, c3, c4, c5, c6, c7⟩ | ⟨v, ν2, c1, c2, c3, c4⟩
    · rw [c1, zI_some, c2, zI_some]
      have hR2 := (hR.f a4 a5).f c6 c7
      have hR2' := hR2
      obtain ⟨-, -, hX2, hU2, h132, -⟩ := hR2'
      have srt0 : ∀ q, q < 60 → μ2.1 43 j q = 0 → ssrt S q = 0 := fun q hq e => by
        rw [hX2.2.2.2.2.2.1 q hq] at e
        have := hS.2.2.2.2.2.1 q
        exact (nI_0iff (by omega)).mp e
      have c4' : μ2.1 43 j p = 0 := by rw [c6.2 _ _ _ (by omega)]; exact c4
      have hB : DB μ2 ν2 j s p (scnt S s) d (sn S) := ⟨⟨by rw [c6.1]; exact hj1, hj2⟩, ⟨s1, s6⟩, ⟨c3, by omega, sn60⟩, by omega, hd17, hX2.2.1, hU2.1, fun z hz => by rw [hX2.2.2.2.2.2.1 z (by omega), hU2.2.2.2.2.1 z (by omega)], hU2.2.1, hU2.2.2.2.2.2.1 s s1 s6, c4'⟩
      have hXF : XG j μ μ2 := a4.g.t c6.g
      have hMF : MG ν ν2 := a5.g.t c7.g
      rcases LPos hB c5 (hX2.2.2.2.2.2.2.1 s s1 s6) h132.1 with ⟨μ3, ν3, e1, e2, r, w, t1, t2, t3, ex, q1, q2, q3, q4, q5, q6, q7⟩ | ⟨μ3, ν3, e1, e2, e3, e4, e5⟩
      · left
        have hN : NEW S s p (scnt S s) ex := ⟨⟨s1, s6⟩, rfl, gl.1, gl.2.1, gl.2.2, ⟨c3, srt0 p (by omega) c4'⟩, fun z => ⟨(q4 z).1, (q4 z).2.1, srt0 ex (by have := (q4 z).1; omega) (q4 z).2.2⟩⟩
        obtain ⟨D', dv', ds', dk', hR'⟩ := RD_add hR2 hN q1 q2 q3 q6 q7 hd17
        refine ⟨μ3, ν3, addS S s p (scnt S s) ex, D', dv', ds', dk', by rw [e1, zI_some, zif_neg (by decide)], e2, q5, hR', hd17, hXF.t q6.2.2.2.2.2.2.2.2.2.2.2.2, ?_⟩
        obtain ⟨ν4, -, y2, -⟩ := q7
        exact hMF.t y2
      · right
        exact ⟨μ3, ν3, by rw [e1, zI_some, zif_pos rfl, zif_pos nar_0], e2, e3, hXF.t e4, hMF.t e5⟩
    · right
      rw [c1, zI_some, c2, zI_some, eX6_readDevice_5, zif_pos rfl, zif_pos nar_0, zI_some, zif_pos rfl, zif_pos nar_0]
      obtain ⟨ν', y1, y2⟩ := DD47 c3.1 hd18 (nI s) (nI (scnt S s)) v
      exact ⟨μ1, ν', rfl, y1, c3.d y2, a4.g, (a5.g.t c4).t y2.g⟩
  · right
    obtain ⟨ν1, t1, t2, t3⟩ := P_takesnot hT
    rw [zif_neg g, zif_pos nar_0, zif_neg g, eX11_readDevice_38, t1, zU_some, D_free t2.1, zI_some]
    obtain ⟨ν', y1, y2⟩ := DD47 t2.1 hd18 (nI s) (nI (scnt S s)) (ν1.1 11 0 8)
    exact ⟨μ, ν', rfl, y1, t2.d y2, XG.r μ, t3.t y2.g⟩
/-! the reference's rest, once something was wrong -/
theorem D_204 {ν : zM} (h : ν.1 11 0 10 = 0) : tX11_reads_204 ν = some (none, ν) := by
  rw [eX11_reads_204, zif_pos h, eX11_reads_231]
theorem D_161 {ν : zM} (h : ν.1 11 0 10 = 0) : tX11_reads_161 ν = some (none, ν) := by
  rw [eX11_reads_161, D_isWord h, zI_some, zif_pos rfl, D_204 h]
theorem D_102 {ν : zM} (h : ν.1 11 0 10 = 0) (f : Nat) : tX11_reads_102 (f + 1) ν = some (none, ν) := by
  rw [eX11_reads_102, D_isWord h, zI_some, zif_pos rfl, D_isWord h, zI_some, zif_pos rfl, D_161 h]
theorem D_sort {ν : zM} (h : ν.1 11 0 10 = 0) : tX11_sortHere_0 ν = some (some (.inl 0), ν) := by
  rw [eX11_sortHere_0]
  simp only [D_isWord h, zI_some]
  rw [zif_pos trivial, zif_pos trivial, zif_pos trivial, zif_pos trivial, zif_pos trivial, zif_pos trivial, eX11_sortHere_86]
theorem zN_succ : ∃ f, zN = f + 1 := ⟨99999, zN_eq⟩
theorem D_84 {ν : zM} (h : ν.1 11 0 10 = 0) (f : Nat) : tX11_reads_84 (f + 1) ν = some (none, ν) := by
  obtain ⟨g, hg⟩ := zN_succ
  rw [eX11_reads_84, D_sort h, zI_some, zif_neg (by decide), hg, D_102 h]
theorem D_81 {ν : zM} (h : ν.1 11 0 10 = 0) (x : Int32) : tX11_reads_81 x ν = some (none, ν) := by
  obtain ⟨g, hg⟩ := zN_succ
  rw [eX11_reads_81, D_takes h, zU_some, hg, D_84 h]
theorem devs_loop {j : Nat} {lim : Int32} : ∀ (m : Nat) {μ ν : zM} {d : Nat} {S : zSt} {D : zDv} {dv : Nat → Nat → Nat} {ds dk : Nat → Nat} (f f' : Nat), RD μ ν j S D lim d dv ds dk → TOKP μ ν → μ.2.1 6 0 1 = j → d + m = 18 → m < f → m + 1 < f' → (∃ μ' ν' d' S' D' dv' ds' dk', tX6_readDevices_2 f (nI d) μ = some (some (.inl 1), μ') ∧ tX11_reads_84 f' ν = tX11_reads_102 zN ν' ∧ TOKP μ' ν' ∧ RD μ' ν' j S' D' lim d' dv' ds' dk' ∧ XG j μ μ' ∧ MG ν ν') ∨ (∃ μ' ν', tX6_readDevices_2 f (nI d) μ = some (some (.inl 0), μ') ∧ tX11_reads_84 f' ν = some (none, ν') ∧ BAD μ' ν' ∧ XG j μ μ' ∧ MG ν ν') := by
  intro m
  induction m with
  | zero =>
    intro μ ν d S D dv ds dk f f' hR hT hj hd hf hf'
    obtain ⟨f, rfl⟩ : ∃ g, f = g + 1 := ⟨f - 1, by omega⟩
    obtain ⟨f', rfl⟩ : ∃ g, f' = g + 1 + 1 := ⟨f' - 2, by omega⟩
    obtain ⟨s, s6, e1, e2⟩ := P_sort hT
    rw [eX6_readDevices_2, zif_neg (show ¬ (18 : Int32) < nI d from nI_nlt (a := 18) (b := d) (by omega) (by decide)), e1, zI_some, eX11_reads_84, e2, zI_some]
    by_cases g : s = 0
    · left
      rw [g, eX6_readDevices_13, zif_pos nI_0, zif_pos nar_1, zif_neg (show ¬ (0 : Int32) < nI 0 by decide)]
      exact ⟨μ, ν, d, S, D, dv, ds, dk, rfl, rfl, hT, hR, XG.r μ, MG.r ν⟩
    · rw [zif_pos (show (0 : Int32) < nI s from nI_lt (a := 0) (by omega) (by omega)), e2, zI_some]
      rcases dev_step hR hT hj (by omega) s6 f (nI d) with ⟨μ', ν', S', D', dv', ds', dk', c1, c2, c3, c4, c5, -⟩ | ⟨μ', ν', c1, c2, c3, c4, c5⟩
      · omega
      · right
        rw [c1, c2, zU_some, D_84 c3.1]
        exact ⟨μ', ν', rfl, rfl, c3, c4, c5⟩
  | succ m ih =>
    intro μ ν d S D dv ds dk f f' hR hT hj hd hf hf'
    obtain ⟨f, rfl⟩ : ∃ g, f = g + 1 := ⟨f - 1, by omega⟩
    obtain ⟨f', rfl⟩ : ∃ g, f' = g + 1 + 1 := ⟨f' - 2, by omega⟩
    obtain ⟨s, s6, e1, e2⟩ := P_sort hT
    rw [eX6_readDevices_2, zif_neg (show ¬ (18 : Int32) < nI d from nI_nlt (a := 18) (b := d) (by omega) (by decide)), e1, zI_some, eX11_reads_84, e2, zI_some]
    by_cases g : s = 0
    · left
      rw [g, eX6_readDevices_13, zif_pos nI_0, zif_pos nar_1, zif_neg (show ¬ (0 : Int32) < nI 0 by decide)]
      exact ⟨μ, ν, d, S, D, dv, ds, dk, rfl, rfl, hT, hR, XG.r μ, MG.r ν⟩
    · rw [zif_pos (show (0 : Int32) < nI s from nI_lt (a := 0) (by omega) (by omega)), e2, zI_some]
      rcases dev_step hR hT hj (by omega) s6 f (nI d) with ⟨μ', ν', S', D', dv', ds', dk', c1, c2, c3, c4, c5, c6, c7⟩ | ⟨μ', ν', c1, c2, c3, c4, c5⟩
      · rw [c1, eX6_readDevices_65, nI_1, c2, zU_some]
        rcases ih f (f' + 1) c4 c3 (by rw [c6.1]; exact hj) (by omega) (by omega) (by omega) with ⟨μ2, ν2, d', S2, D2, dv2, ds2, dk2, y1, y2, y3, y4, y5, y6⟩ | ⟨μ2, ν2, y1, y2, y3, y4, y5⟩
        · left
          exact ⟨μ2, ν2, d', S2, D2, dv2, ds2, dk2, y1, y2, y3, y4, c6.t y5, c7.t y6⟩
        · right
          exact ⟨μ2, ν2, y1, y2, y3, c6.t y4, c7.t y5⟩
      · right
        rw [c1, c2, zU_some, D_84 c3.1]
        exact ⟨μ', ν', rfl, rfl, c3, c4, c5⟩
