theorem qI_X {μ0 μ : zM} {l : List Int32} {k i z N : Nat} {x : Int32} (ho : XO μ0 μ l) (hs : zS k i = .inr (0, N, (0, 0))) (hk : k ≠ 8 ∧ k ≠ 56) (hx : x = nI z) (hz : z < N) (hN : N < 2 ^ 31) : qI μ (k, i) x = some (μ0.1 k i z) := by
  rw [qI_in hs hx hz hN, ho.2.2.2 _ _ _ (by omega) (by omega)]
theorem X_dev {μ0 μ : zM} {l : List Int32} {j s p r w t1 t2 t3 ex : Nat} (h : DVT s p r w t1 t2 t3 ex) (u0 : μ0.1 43 j p = nI s) (u2 : 3 ≤ s → μ0.1 45 j p = nI r ∧ μ0.1 46 j p = nI w) (u4 : s = 4 → μ0.1 53 (4 * j + 1) p = nI t1 ∧ μ0.1 53 (4 * j + 2) p = nI t2 ∧ μ0.1 53 (4 * j + 3) p = nI t3) (u6 : s = 6 → μ0.1 53 (4 * j + 1) p = nI t1) (u7 : 4 ≤ s → μ0.1 47 j p = nI ex) (ho : XO μ0 μ l) (hf : fresh l) (hl : l.length + 100 ≤ 1024) : ∃ μ', tX5_describeDevice_0 j (nI p) μ = some (none, μ') ∧ XO μ0 μ' (l ++ devL s p r w t1 t2 t3 ex) := by
  obtain ⟨h1, h2, h3, h4, h5, h6⟩ := h
  have hA := zTxB_len (s - 1) (by omega)
  have hA8 := zTxL_lt (s - 1)
  have hp := np_2 (show p ≤ 99 by omega)
  have pp : p < 60 := by omega
  obtain ⟨n2, a1, a2⟩ := X_named0 (i := s - 1) (v := p) (by omega) ho hf rfl (by omega) (by omega)
  have l1 : (l ++ (zTxB (s - 1) ++ [32] ++ numL p)).length ≤ l.length + 10 := by
    simp [hA, numL_len]
    omega
  generalize hl0 : (l ++ (zTxB (s - 1) ++ [32] ++ numL p)) = L0 at a2 l1
  have st1 : ∃ n3, (zif (zif (3 ≤ s ∧ s ≤ 6) 1 0 = (0 : Int32)) (tX5_describeDevice_47 j (nI p) (nI s) n2) ((qI n2 (45, j) (nI p)).bind fun v6 => zU (tX8_addNamed_0 9 v6 n2) fun μ7 => (qI μ7 (46, j) (nI p)).bind fun v8 => zU (tX8_addNamed_0 10 v8 μ7) fun μ9 => tX5_describeDevice_47 j (nI p) (nI s) μ9)) = tX5_describeDevice_47 j (nI p) (nI s) n3 ∧ XS μ0 n3 (L0 ++ (if 3 ≤ s then nm 9 r ++ nm 10 w else [])) ∧ (L0 ++ (if 3 ≤ s then nm 9 r ++ nm 10 w else [])).length ≤ l.length + 30 := by
    by_cases g : 3 ≤ s
    · obtain ⟨b1, b2⟩ := u2 g
      have rr := h3 g
      have k1 := np_2 (show r ≤ 99 by omega)
      have k2 := np_1 (show w ≤ 9 by omega)
      have q1 : (nm 9 r).length = zTxL 9 + np r + 3 := nm_len (by decide)
      have q2 : (nm 10 w).length = zTxL 10 + np w + 3 := nm_len (by decide)
      have q3 : zTxL 9 = 4 := rfl
      have q4 : zTxL 10 = 6 := rfl
      obtain ⟨m1, c1, c2⟩ := X_named1 (i := 9) (by decide) a2 b1 (by omega) (by omega)
      have l2 : (L0 ++ nm 9 r).length ≤ l.length + 18 := by rw [List.length_append]; omega
      obtain ⟨m2, c3, c4⟩ := X_named1 (i := 10) (by decide) c2 b2 (by omega) (by omega)
      refine ⟨m2, ?_, ?_, ?_⟩
      · rw [zif_pos (show 3 ≤ s ∧ s ≤ 6 by omega), zif_neg (show ¬ (1 : Int32) = 0 by decide), qI_X a2.1 (zS_45 j) (by decide) rfl pp (by decide), Option.bind_some, c1, zU_some, qI_X c2.1 (zS_46 j) (by decide) rfl pp (by decide), Option.bind_some, c3, zU_some]
      · rw [if_pos g, ← List.append_assoc]
        exact c4
      · rw [if_pos g, ← List.append_assoc, List.length_append]
        omega
    · refine ⟨n2, by rw [zif_neg (show ¬ (3 ≤ s ∧ s ≤ 6) by omega), zif_pos rfl], ?_, ?_⟩
      · rw [if_neg g, List.append_nil]; exact a2
      · rw [if_neg g, List.append_nil]; omega
  obtain ⟨n3, e1, e2, e3⟩ := st1
  generalize hl1 : (L0 ++ (if 3 ≤ s then nm 9 r ++ nm 10 w else [])) = L1 at e2 e3
  have st2 : ∃ n4, tX5_describeDevice_47 j (nI p) (nI s) n3 = tX5_describeDevice_86 j (nI p) (nI s) n4 ∧ XS μ0 n4 (L1 ++ (if s = 4 then nm 11 t1 ++ ([32] ++ numL t2) ++ ([32] ++ numL t3) else [])) ∧ (L1 ++ (if s = 4 then nm 11 t1 ++ ([32] ++ numL t2) ++ ([32] ++ numL t3) else [])).length ≤ l.length + 48 := by
    rw [eX5_describeDevice_47]
    by_cases g : s = 4
    · obtain ⟨b1, b2, b3⟩ := u4 g
      have tt := h4 g
      have k1 := np_2 tt.1
      have k2 := np_2 tt.2.1
      have k3 := np_2 tt.2.2
      obtain ⟨m0, c1, c2⟩ := X_name1 (i := 11) (by decide) e2 (by omega)
      have l0 : (L1 ++ [32] ++ zTxB 11).length ≤ l.length + 36 := by
        rw [List.length_append, List.length_append]
        have : (zTxB 11).length = 5 := rfl
        simp
        omega
      obtain ⟨m1, c3, c4⟩ := X_value c2 b1 (by omega) (by omega)
      have l2 : (L1 ++ [32] ++ zTxB 11 ++ [32] ++ numL t1).length ≤ l.length + 39 := by
        rw [List.length_append, List.length_append, numL_len]
        simp at l0 ⊢
        omega
      obtain ⟨m2, c5, c6⟩ := X_value c4 b2 (by omega) (by omega)
      have l3 : (L1 ++ [32] ++ zTxB 11 ++ [32] ++ numL t1 ++ [32] ++ numL t2).length ≤ l.length + 42 := by
        rw [List.length_append, List.length_append, numL_len]
        simp at l2 ⊢
        omega
      obtain ⟨m3, c7, c8⟩ := X_value c6 b3 (by omega) (by omega)
      have lp : ∀ (m : zM) (f a : Nat), a ≤ 3 → tX5_describeDevice_61 (f + 1) j (nI p) (nI s) (nI a) m = (qI m (53, 4 * j + a) (nI p)).bind fun v2 => zU (tX8_addValue_0 v2 m) fun μ3 => tX5_describeDevice_61 f j (nI p) (nI s) (nI (a + 1)) μ3 := fun m f a ha => by
        rw [eX5_describeDevice_61, zif_neg (show ¬ (3 : Int32) < nI a from nI_nlt (a := 3) (b := a) ha (by decide)), qX_in (N := 4) (p := a) rfl (by omega) (by decide), Option.bind_some]
        simp only [eX5_describeDevice_83, nI_1]
      refine ⟨m3, ?_, ?_, ?_⟩
      · rw [zif_pos (show nI s = 4 by rw [g]; rfl), c1, zU_some, zN_eq, show (100000 : Nat) = 99996 + 1 + 1 + 1 + 1 from rfl, show tX5_describeDevice_61 (99996 + 1 + 1 + 1 + 1) j (nI p) (nI s) 1 m0 = tX5_describeDevice_61 (99996 + 1 + 1 + 1 + 1) j (nI p) (nI s) (nI 1) m0 from rfl, lp _ _ _ (by decide), qI_X c2.1 (zS_53 _) (by decide) rfl pp (by decide), Option.bind_some, c3, zU_some, lp _ _ _ (by decide), qI_X c4.1 (zS_53 _) (by decide) rfl pp (by decide), Option.bind_some, c5, zU_some, lp _ _ _ (by decide), qI_X c6.1 (zS_53 _) (by decide) rfl pp (by decide), Option.bind_some, c7, zU_some, eX5_describeDevice_61, zif_pos (by decide)]
      · rw [if_pos g]
        unfold nm
        simpa [List.append_assoc] using c8
      · rw [if_pos g]
        have : (nm 11 t1).length = zTxL 11 + np t1 + 3 := nm_len (by decide)
        have q5 : zTxL 11 = 5 := rfl
        simp [numL_len]
        omega
    · refine ⟨n3, by rw [zif_neg (show ¬ nI s = 4 from nI_ne (b := 4) (by omega) (by decide) g)], ?_, ?_⟩
      · rw [if_neg g, List.append_nil]; exact e2
      · rw [if_neg g, List.append_nil]; omega
  obtain ⟨n4, f1, f2, f3⟩ := st2
  generalize hl2 : (L1 ++ (if s = 4 then nm 11 t1 ++ ([32] ++ numL t2) ++ ([32] ++ numL t3) else [])) = L2 at f2 f3
  have st3 : ∃ n5, tX5_describeDevice_86 j (nI p) (nI s) n4 = tX5_describeDevice_106 j (nI p) (nI s) n5 ∧ XS μ0 n5 (L2 ++ (if s = 6 then nm 12 t1 else [])) ∧ (L2 ++ (if s = 6 then nm 12 t1 else [])).length ≤ l.length + 58 := by
    rw [eX5_describeDevice_86]
    by_cases g : s = 6
    · have tt := h5 g
      have k1 := np_2 tt
      have q1 : (nm 12 t1).length = zTxL 12 + np t1 + 3 := nm_len (by decide)
      have q3 : zTxL 12 = 4 := rfl
      obtain ⟨m1, c1, c2⟩ := X_named1 (i := 12) (by decide) f2 (u6 g) (by omega) (by omega)
      refine ⟨m1, ?_, ?_, ?_⟩
      · rw [zif_pos (show nI s = 6 by rw [g]; rfl), qX_in (N := 4) (x := 1) (p := 1) rfl (by decide) (by decide), Option.bind_some, qI_X f2.1 (zS_53 _) (by decide) rfl pp (by decide), Option.bind_some, c1, zU_some]
      · rw [if_pos g]; exact c2
      · rw [if_pos g, List.length_append]
        omega
    · refine ⟨n4, by rw [zif_neg (show ¬ nI s = 6 from nI_ne (b := 6) (by omega) (by decide) g)], ?_, ?_⟩
      · rw [if_neg g, List.append_nil]; exact f2
      · rw [if_neg g, List.append_nil]; omega
  obtain ⟨n5, i1, i2, i3⟩ := st3
  generalize hl3 : (L2 ++ (if s = 6 then nm 12 t1 else [])) = L3 at i2 i3
  have st4 : ∃ n6, tX5_describeDevice_106 j (nI p) (nI s) n5 = tX5_describeDevice_125 n6 ∧ XS μ0 n6 (L3 ++ (if 4 ≤ s then nm 13 ex else [])) ∧ (L3 ++ (if 4 ≤ s then nm 13 ex else [])).length ≤ l.length + 70 := by
    rw [eX5_describeDevice_106, pX10_hasExit h1.1 h1.2, zI_some]
    by_cases g : 4 ≤ s
    · have tt := h6 g
      have k1 := np_2 (show ex ≤ 99 by omega)
      have q1 : (nm 13 ex).length = zTxL 13 + np ex + 3 := nm_len (by decide)
      have q3 : zTxL 13 = 4 := rfl
      obtain ⟨m1, c1, c2⟩ := X_named1 (i := 13) (by decide) i2 (u7 g) (by omega) (by omega)
      refine ⟨m1, ?_, ?_, ?_⟩
      · rw [zif_pos g, zif_neg (show ¬ (1 : Int32) = 0 by decide), qI_X i2.1 (zS_47 _) (by decide) rfl pp (by decide), Option.bind_some, c1, zU_some]
      · rw [if_pos g]; exact c2
      · rw [if_pos g, List.length_append]
        omega
    · refine ⟨n5, by rw [zif_neg g, zif_pos rfl], ?_, ?_⟩
      · rw [if_neg g, List.append_nil]; exact i2
      · rw [if_neg g, List.append_nil]; omega
  obtain ⟨n6, j1, j2, j3⟩ := st4
  obtain ⟨n7, k1, k2⟩ := X_endc j2.1 (by omega)
  refine ⟨n7, ?_, ?_⟩
  · rw [eX5_describeDevice_0, qI_X ho (zS_43 j) (by decide) rfl pp (by decide), Option.bind_some, u0, eX5_describeDevice_7, pX10_wordOf h1.1 h1.2, zT_some, a1, zU_some, pX10_isOutlet (by omega), zI_some, e1, f1, i1, j1, eX5_describeDevice_125, k1, zU_some]
  · rw [← hl3, ← hl2, ← hl1, ← hl0] at k2
    unfold devL
    simpa [List.append_assoc] using k2
def flL (q ch op cl : Nat) : List Int32 := (zTxB 14 ++ [32] ++ numL q) ++ nm 2 ch ++ nm 15 op ++ nm 16 cl ++ [59]
theorem flL_len {q ch op cl : Nat} (hq : q ≤ 999) (hc : ch < 6) : (flL q ch op cl).length ≤ 42 := by
  have k1 := np_3 hq
  have k2 := np_1 (show ch ≤ 9 by omega)
  have k3 := np_le op
  have k4 := np_le cl
  unfold flL
  simp [zTxB_len, numL_len, zTxL, nm_len]
  omega
theorem X_flight {μ0 μ : zM} {l : List Int32} {j F f : Nat} {T : Nat → Nat → Int32} {q ch op cl : Nat} (hF : FlX μ0 j F T) (hf : f < F) (hq : T 0 f = nI q ∧ q ≤ 999) (hc : T 1 f = nI ch ∧ ch < 6) (hop : T 2 f = nI op ∧ op ≤ 99999) (hcl : T 3 f = nI cl ∧ cl ≤ 99999) (ho : XO μ0 μ l) (hfr : fresh l) (hl : l.length + 100 ≤ 1024) : ∃ μ', tX5_describeFlight_0 j (nI f) μ = some (none, μ') ∧ XO μ0 μ' (l ++ flL q ch op cl) := by
  have hF10 := hF.1
  have k1 := np_3 hq.2
  have k2 := np_1 (show ch ≤ 9 by omega)
  have k3 := np_le op
  have k4 := np_le cl
  have w2 : (nm 2 ch).length = zTxL 2 + np ch + 3 := nm_len (by decide)
  have w15 : (nm 15 op).length = zTxL 15 + np op + 3 := nm_len (by decide)
  have w16 : (nm 16 cl).length = zTxL 16 + np cl + 3 := nm_len (by decide)
  have y2 : zTxL 2 = 5 := rfl
  have y15 : zTxL 15 = 4 := rfl
  have y16 : zTxL 16 = 5 := rfl
  have s31 : ∀ c, c < 4 → zS (31 + c) j = .inr (0, 10, (0, 0)) := fun c hc => by
    rcases (by omega : c = 0 ∨ c = 1 ∨ c = 2 ∨ c = 3) with rfl | rfl | rfl | rfl <;> rfl
  have rd : ∀ {m : zM} {k : List Int32} (c : Nat), c < 4 → XO μ0 m k → qI m (31 + c, j) (nI f) = some (T c f) := fun c hc o => by
    rw [qI_X o (s31 c hc) (by omega) rfl (by omega) (by decide), hF.2.2 c f hc hf]
  obtain ⟨n1, a1, a2⟩ := X_named0 (i := 14) (by decide) ho hfr hq.1 (by omega) (by omega)
  have l1 : (l ++ (zTxB 14 ++ [32] ++ numL q)).length ≤ l.length + 10 := by
    simp [numL_len, zTxB_len, zTxL]
    omega
  obtain ⟨n2, a3, a4⟩ := X_named1 (i := 2) (by decide) a2 hc.1 (by omega) (by omega)
  have l2 : (l ++ (zTxB 14 ++ [32] ++ numL q) ++ nm 2 ch).length ≤ l.length + 18 := by rw [List.length_append]; omega
  obtain ⟨n3, a5, a6⟩ := X_named1 (i := 15) (by decide) a4 hop.1 (by omega) (by omega)
  have l3 : (l ++ (zTxB 14 ++ [32] ++ numL q) ++ nm 2 ch ++ nm 15 op).length ≤ l.length + 29 := by rw [List.length_append]; omega
  obtain ⟨n4, a7, a8⟩ := X_named1 (i := 16) (by decide) a6 hcl.1 (by omega) (by omega)
  have l4 : (l ++ (zTxB 14 ++ [32] ++ numL q) ++ nm 2 ch ++ nm 15 op ++ nm 16 cl).length ≤ l.length + 42 := by rw [List.length_append]; omega
  obtain ⟨n5, a9, a10⟩ := X_endc a8.1 (by omega)
  refine ⟨n5, ?_, ?_⟩
  · rw [eX5_describeFlight_0, show qI μ (31, j) (nI f) = some (T 0 f) from rd 0 (by decide) ho, Option.bind_some, a1, zU_some, show qI n1 (32, j) (nI f) = some (T 1 f) from rd 1 (by decide) a2.1, Option.bind_some, a3, zU_some, show qI n2 (33, j) (nI f) = some (T 2 f) from rd 2 (by decide) a4.1, Option.bind_some, a5, zU_some, show qI n3 (34, j) (nI f) = some (T 3 f) from rd 3 (by decide) a6.1, Option.bind_some, a7, zU_some, a9, zU_some]
  · unfold flL
    simpa [List.append_assoc] using a10
