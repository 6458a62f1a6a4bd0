/-! ===== clauses ===== -/
def devL (s p r w t1 t2 t3 ex : Nat) : List Int32 := (zTxB (s - 1) ++ [32] ++ numL p) ++ (if 3 ≤ s then nm 9 r ++ nm 10 w else []) ++ (if s = 4 then nm 11 t1 ++ ([32] ++ numL t2) ++ ([32] ++ numL t3) else []) ++ (if s = 6 then nm 12 t1 else []) ++ (if 4 ≤ s then nm 13 ex else []) ++ [59]
def DVT (s p r w t1 t2 t3 ex : Nat) : Prop := (1 ≤ s ∧ s ≤ 6) ∧ p ≤ 59 ∧ (3 ≤ s → r ≤ 20 ∧ w ≤ 9) ∧ (s = 4 → t1 ≤ 99 ∧ t2 ≤ 99 ∧ t3 ≤ 99) ∧ (s = 6 → t1 ≤ 99) ∧ (4 ≤ s → ex ≤ 59)
theorem devL_len {s p r w t1 t2 t3 ex : Nat} (h : DVT s p r w t1 t2 t3 ex) : (devL s p r w t1 t2 t3 ex).length ≤ bnd s := by
  obtain ⟨h1, h2, h3, h4, h5, h6⟩ := h
  have p2 := np_2 (show p ≤ 99 by omega)
  unfold devL
  rcases (by omega : s = 1 ∨ s = 2 ∨ s = 3 ∨ s = 4 ∨ s = 5 ∨ s = 6) with rfl | rfl | rfl | rfl | rfl | rfl
  · simp [zTxB_len, numL_len, zTxL, bnd]; omega
  · simp [zTxB_len, numL_len, zTxL, bnd]; omega
  · have a1 := np_2 (show r ≤ 99 by omega)
    have a2 := np_1 (show w ≤ 9 by omega)
    simp [zTxB_len, numL_len, zTxL, bnd, nm_len]; omega
  · have a1 := np_2 (show r ≤ 99 by omega)
    have a2 := np_1 (show w ≤ 9 by omega)
    have a3 := np_2 (h4 rfl).1
    have a4 := np_2 (h4 rfl).2.1
    have a5 := np_2 (h4 rfl).2.2
    have a6 := np_2 (show ex ≤ 99 by omega)
    simp [zTxB_len, numL_len, zTxL, bnd, nm_len]; omega
  · have a1 := np_2 (show r ≤ 99 by omega)
    have a2 := np_1 (show w ≤ 9 by omega)
    have a6 := np_2 (show ex ≤ 99 by omega)
    simp [zTxB_len, numL_len, zTxL, bnd, nm_len]; omega
  · have a1 := np_2 (show r ≤ 99 by omega)
    have a2 := np_1 (show w ≤ 9 by omega)
    have a3 := np_2 (h5 rfl)
    have a6 := np_2 (show ex ≤ 99 by omega)
    simp [zTxB_len, numL_len, zTxL, bnd, nm_len]; omega
theorem bnd_le (s : Nat) : bnd s ≤ 50 := by
  unfold bnd
  split
  · omega
  · split
    · omega
    · split
      · omega
      · split
        · omega
        · split <;> omega
theorem pM_wordOf {ν : zM} {s : Nat} (h1 : 1 ≤ s) (h6 : s ≤ 6) : tX11_wordOf_0 (nI s) ν = some (some (.inr (.inl (Int64.ofNat (wCode (s - 1))))), ν) := by
  rw [eX11_wordOf_0]
  simp only [eX11_wordOf_58]
  rcases (by omega : s = 1 ∨ s = 2 ∨ s = 3 ∨ s = 4 ∨ s = 5 ∨ s = 6) with rfl | rfl | rfl | rfl | rfl | rfl
  · rw [zif_pos (by decide)]; rfl
  · rw [zif_neg (by decide), zif_pos (by decide)]; rfl
  · rw [zif_neg (by decide), zif_neg (by decide), zif_pos (by decide)]; rfl
  · rw [zif_neg (by decide), zif_neg (by decide), zif_neg (by decide), zif_pos (by decide)]; rfl
  · rw [zif_neg (by decide), zif_neg (by decide), zif_neg (by decide), zif_neg (by decide), zif_pos (by decide)]; rfl
  · rw [zif_neg (by decide), zif_neg (by decide), zif_neg (by decide), zif_neg (by decide), zif_neg (by decide)]; rfl
theorem qI_63 {ν0 ν : zM} {l : List Int32} {x : Int32} {z : Nat} (ho : OUT ν0 ν l) (hx : x = nI z) (hz : z < 400) : qI ν (63, 0) x = some (ν0.1 63 0 z) := by
  rw [qI_in (zS_63 0) hx hz (by decide), ho.2.2.2 _ _ _ (by omega) (by omega)]
theorem M_dev {ν0 ν : zM} {l : List Int32} {x s p r w t1 t2 t3 ex : Nat} (hx : x < 18) (h : DVT s p r w t1 t2 t3 ex) (u0 : ν0.1 63 0 (140 + 8 * x) = nI s) (u1 : ν0.1 63 0 (140 + 8 * x + 1) = nI p) (u2 : 3 ≤ s → ν0.1 63 0 (140 + 8 * x + 2) = nI r ∧ ν0.1 63 0 (140 + 8 * x + 3) = nI w) (u4 : s = 4 → ν0.1 63 0 (140 + 8 * x + 4) = nI t1 ∧ ν0.1 63 0 (140 + 8 * x + 5) = nI t2 ∧ ν0.1 63 0 (140 + 8 * x + 6) = nI t3) (u6 : s = 6 → ν0.1 63 0 (140 + 8 * x + 4) = nI t1) (u7 : 4 ≤ s → ν0.1 63 0 (140 + 8 * x + 7) = nI ex) (ho : OUT ν0 ν l) (hl : l.length + 200 ≤ 2400) : ∃ ν', tX11_saysDevice_0 (nI (140 + 8 * x)) ν = some (none, ν') ∧ OUT ν0 ν' (l ++ devL s p r w t1 t2 t3 ex) := by
  obtain ⟨h1, h2, h3, h4, h5, h6⟩ := h
  have ad : ∀ c, nI (140 + 8 * x) + nI c = nI (140 + 8 * x + c) := fun c => nI_add _ c
  have hA := zTxB_len (s - 1) (by omega)
  have hA8 := zTxL_lt (s - 1)
  have hp4 := np_le p
  -- the word, the position
  obtain ⟨n1, a1, a2⟩ := M_word (i := s - 1) (by omega) rfl ho (by omega)
  obtain ⟨n2, a3, a4⟩ := M_num u1 (by omega) a2 (by simp; omega)
  have l1 : (l ++ zTxB (s - 1) ++ [32] ++ numL p).length ≤ l.length + 14 := by
    simp [hA, numL_len]
    omega
  -- room, switching
  have st1 : ∃ n3, (zif (nI s < 3) (tX11_saysDevice_62 (nI (140 + 8 * x)) (nI s) n2) ((qI n2 (63, 0) (nI (140 + 8 * x) + 2)).bind fun v6 => zU (tX11_saysBoth_0 605677 v6 n2) fun μ7 => (qI μ7 (63, 0) (nI (140 + 8 * x) + 3)).bind fun v8 => zU (tX11_saysBoth_0 661966952 v8 μ7) fun μ9 => tX11_saysDevice_62 (nI (140 + 8 * x)) (nI s) μ9)) = tX11_saysDevice_62 (nI (140 + 8 * x)) (nI s) n3 ∧ OUT ν0 n3 (l ++ zTxB (s - 1) ++ [32] ++ numL p ++ (if 3 ≤ s then nm 9 r ++ nm 10 w else [])) ∧ (l ++ zTxB (s - 1) ++ [32] ++ numL p ++ (if 3 ≤ s then nm 9 r ++ nm 10 w else [])).length ≤ l.length + 44 := by
    by_cases g : 3 ≤ s
    · obtain ⟨b1, b2⟩ := u2 g
      have rr := h3 g
      obtain ⟨m1, c1, c2⟩ := M_both (i := 9) (w := 605677) (by decide) (by decide) b1 (by omega) a4 (by omega)
      have hr := np_le r
      have hw := np_le w
      have l2 : (l ++ zTxB (s - 1) ++ [32] ++ numL p ++ nm 9 r).length ≤ l.length + 28 := by
        rw [List.length_append, nm_len (by decide)]
        have : zTxL 9 = 4 := rfl
        omega
      obtain ⟨m2, c3, c4⟩ := M_both (i := 10) (w := 661966952) (by decide) (by decide) b2 (by omega) c2 (by omega)
      refine ⟨m2, ?_, ?_, ?_⟩
      · rw [zif_neg (show ¬ nI s < 3 from nI_nlt (b := 3) g (by omega)), show nI (140 + 8 * x) + 2 = nI (140 + 8 * x + 2) from ad 2, qI_63 a4 rfl (by omega), Option.bind_some, c1, zU_some, show nI (140 + 8 * x) + 3 = nI (140 + 8 * x + 3) from ad 3, qI_63 c2 rfl (by omega), Option.bind_some, c3, zU_some]
      · rw [if_pos g, ← List.append_assoc]
        exact c4
      · rw [if_pos g, ← List.append_assoc, List.length_append, nm_len (by decide)]
        have : zTxL 10 = 6 := rfl
        omega
    · refine ⟨n2, by rw [zif_pos (show nI s < 3 from nI_lt (b := 3) (by omega) (by decide))], ?_, ?_⟩
      · rw [if_neg g, List.append_nil]; exact a4
      · rw [if_neg g, List.append_nil]; omega
  obtain ⟨n3, e1, e2, e3⟩ := st1
  generalize hl1 : (l ++ zTxB (s - 1) ++ [32] ++ numL p ++ (if 3 ≤ s then nm 9 r ++ nm 10 w else [])) = L1 at e2 e3
  have st2 : ∃ n4, tX11_saysDevice_62 (nI (140 + 8 * x)) (nI s) n3 = tX11_saysDevice_107 (nI (140 + 8 * x)) (nI s) n4 ∧ OUT ν0 n4 (L1 ++ (if s = 4 then nm 11 t1 ++ ([32] ++ numL t2) ++ ([32] ++ numL t3) else [])) ∧ (L1 ++ (if s = 4 then nm 11 t1 ++ ([32] ++ numL t2) ++ ([32] ++ numL t3) else [])).length ≤ l.length + 72 := by
    rw [eX11_saysDevice_62]
    by_cases g : s = 4
    · obtain ⟨b1, b2, b3⟩ := u4 g
      have tt := h4 g
      obtain ⟨m1, c1, c2⟩ := M_both (i := 11) (w := 21279923) (by decide) (by decide) b1 (by omega) e2 (by omega)
      have k1 := np_le t1
      have k2 := np_le t2
      have k3 := np_le t3
      have l2 : (L1 ++ nm 11 t1).length ≤ l.length + 56 := by
        rw [List.length_append, nm_len (by decide)]
        have : zTxL 11 = 5 := rfl
        omega
      obtain ⟨m2, c3, c4⟩ := M_num b2 (by omega) c2 (by omega)
      obtain ⟨m3, c5, c6⟩ := M_num b3 (by omega) c4 (by simp [numL_len]; simp at l2; omega)
      refine ⟨m3, ?_, ?_, ?_⟩
      · rw [zif_pos (show nI s = 4 by rw [g]; rfl), show nI (140 + 8 * x) + 4 = nI (140 + 8 * x + 4) from ad 4, qI_63 e2 rfl (by omega), Option.bind_some, c1, zU_some, show nI (140 + 8 * x) + 5 = nI (140 + 8 * x + 5) from ad 5, qI_63 c2 rfl (by omega), Option.bind_some, c3, zU_some, show nI (140 + 8 * x) + 6 = nI (140 + 8 * x + 6) from ad 6, qI_63 c4 rfl (by omega), Option.bind_some, c5, zU_some]
      · rw [if_pos g]
        simpa [List.append_assoc] using c6
      · have n2' := np_2 tt.2.1
        have n3' := np_2 tt.2.2
        rw [if_pos g]
        simp [numL_len]
        simp at l2
        omega
    · refine ⟨n3, by rw [zif_neg (show ¬ nI s = 4 from nI_ne (b := 4) (by omega) (by decide) g)], ?_, ?_⟩
      · rw [if_neg g, List.append_nil]; exact e2
      · rw [if_neg g, List.append_nil]; omega
  obtain ⟨n4, f1, f2, f3⟩ := st2
  generalize hl2 : (L1 ++ (if s = 4 then nm 11 t1 ++ ([32] ++ numL t2) ++ ([32] ++ numL t3) else [])) = L2 at f2 f3
  have st3 : ∃ n5, tX11_saysDevice_107 (nI (140 + 8 * x)) (nI s) n4 = tX11_saysDevice_128 (nI (140 + 8 * x)) (nI s) n5 ∧ OUT ν0 n5 (L2 ++ (if s = 6 then nm 12 t1 else [])) ∧ (L2 ++ (if s = 6 then nm 12 t1 else [])).length ≤ l.length + 90 := by
    rw [eX11_saysDevice_107]
    by_cases g : s = 6
    · have tt := h5 g
      have k1 := np_le t1
      obtain ⟨m1, c1, c2⟩ := M_both (i := 12) (w := 664997) (by decide) (by decide) (u6 g) (by omega) f2 (by omega)
      refine ⟨m1, ?_, ?_, ?_⟩
      · rw [zif_pos (show nI s = 6 by rw [g]; rfl), show nI (140 + 8 * x) + 4 = nI (140 + 8 * x + 4) from ad 4, qI_63 f2 rfl (by omega), Option.bind_some, c1, zU_some]
      · rw [if_pos g]; exact c2
      · rw [if_pos g, List.length_append, nm_len (by decide)]
        have : zTxL 12 = 4 := rfl
        omega
    · refine ⟨n4, by rw [zif_neg (show ¬ nI s = 6 from nI_ne (b := 6) (by omega) (by decide) g)], ?_, ?_⟩
      · rw [if_neg g, List.append_nil]; exact f2
      · rw [if_neg g, List.append_nil]; omega
  obtain ⟨n5, i1, i2, i3⟩ := st3
  generalize hl3 : (L2 ++ (if s = 6 then nm 12 t1 else [])) = L3 at i2 i3
  have st4 : ∃ n6, tX11_saysDevice_128 (nI (140 + 8 * x)) (nI s) n5 = tX11_saysDevice_149 n6 ∧ OUT ν0 n6 (L3 ++ (if 4 ≤ s then nm 13 ex else [])) ∧ (L3 ++ (if 4 ≤ s then nm 13 ex else [])).length ≤ l.length + 110 := by
    rw [eX11_saysDevice_128]
    by_cases g : 4 ≤ s
    · have tt := h6 g
      have k1 := np_le ex
      obtain ⟨m1, c1, c2⟩ := M_both (i := 13) (w := 188724) (by decide) (by decide) (u7 g) (by omega) i2 (by omega)
      refine ⟨m1, ?_, ?_, ?_⟩
      · rw [zif_pos (show (3 : Int32) < nI s from nI_lt (a := 3) (by omega) (by omega)), show nI (140 + 8 * x) + 7 = nI (140 + 8 * x + 7) from ad 7, qI_63 i2 rfl (by omega), Option.bind_some, c1, zU_some]
      · rw [if_pos g]; exact c2
      · rw [if_pos g, List.length_append, nm_len (by decide)]
        have : zTxL 13 = 4 := rfl
        omega
    · refine ⟨n5, by rw [zif_neg (show ¬ (3 : Int32) < nI s from nI_nlt (a := 3) (b := s) (by omega) (by decide))], ?_, ?_⟩
      · rw [if_neg g, List.append_nil]; exact i2
      · rw [if_neg g, List.append_nil]; omega
  obtain ⟨n6, j1, j2, j3⟩ := st4
  obtain ⟨n7, k1, k2⟩ := j2.says (by omega) 59
  refine ⟨n7, ?_, ?_⟩
  · rw [eX11_saysDevice_0, qI_63 ho rfl (by omega), Option.bind_some, u0, eX11_saysDevice_7, pM_wordOf h1.1 h1.2, zJ_some, a1, zU_some, show nI (140 + 8 * x) + 1 = nI (140 + 8 * x + 1) from ad 1, qI_63 a2 rfl (by omega), Option.bind_some, a3, zU_some, e1, f1, i1, j1, eX11_saysDevice_149, k1, zU_some]
  · rw [← hl3, ← hl2, ← hl1] at k2
    unfold devL
    simpa [List.append_assoc] using k2
theorem M_flight {ν0 ν : zM} {l : List Int32} {F f : Nat} {T : Nat → Nat → Int32} {q ch op cl : Nat} (hF : FlM ν0 F T) (hf : f < F) (hq : T 0 f = nI q ∧ q ≤ 999) (hc : T 1 f = nI ch ∧ ch < 6) (hop : T 2 f = nI op ∧ op ≤ 99999) (hcl : T 3 f = nI cl ∧ cl ≤ 99999) (ho : OUT ν0 ν l) (hl : l.length + 100 ≤ 2400) : ∃ ν', (∀ kk : zM → Option (Option zV × zM), (zU (tX11_saysWord_0 214211860 ν) fun μ2 => zI (tX11_ofFlight_0 (nI f) 0 μ2) fun v4 μ3 => zU (tX11_saysNumber_0 v4 μ3) fun μ5 => zI (tX11_ofFlight_0 (nI f) 1 μ5) fun v7 μ6 => zU (tX11_saysBoth_0 3430021 v7 μ6) fun μ8 => zI (tX11_ofFlight_0 (nI f) 2 μ8) fun v10 μ9 => zU (tX11_saysBoth_0 508078 v10 μ9) fun μ11 => zI (tX11_ofFlight_0 (nI f) 3 μ11) fun v13 μ12 => zU (tX11_saysBoth_0 3554917 v13 μ12) fun μ14 => zU (tX11_says_0 59 μ14) fun μ15 => kk μ15) = kk ν') ∧ OUT ν0 ν' (l ++ ((zTxB 14 ++ [32] ++ numL q) ++ nm 2 ch ++ nm 15 op ++ nm 16 cl ++ [59])) := by
  have fl : ∀ {m : zM} {k : List Int32}, OUT ν0 m k → FlM m F T := fun o => ⟨hF.1, by rw [o.2.2.2 _ _ _ (by omega) (by omega)]; exact hF.2.1, fun c f a b => by rw [o.2.2.2 _ _ _ (by omega) (by omega)]; exact hF.2.2 c f a b⟩
  have k1 := np_le q
  have k2 := np_le ch
  have k3 := np_le op
  have k4 := np_le cl
  obtain ⟨n1, a1, a2⟩ := M_word (i := 14) (w := 214211860) (by decide) (by decide) ho (by omega)
  have l1 : (l ++ zTxB 14).length ≤ l.length + 6 := by rw [List.length_append]; exact Nat.le_refl _
  obtain ⟨n2, a3, a4⟩ := M_num hq.1 (by omega) a2 (by omega)
  have l2 : (l ++ zTxB 14 ++ [32] ++ numL q).length ≤ l.length + 12 := by
    rw [List.length_append, List.length_append, numL_len]
    simp at l1 ⊢
    omega
  obtain ⟨n3, a5, a6⟩ := M_both (i := 2) (w := 3430021) (by decide) (by decide) hc.1 (by omega) a4 (by omega)
  have l3 : (l ++ zTxB 14 ++ [32] ++ numL q ++ nm 2 ch).length ≤ l.length + 25 := by
    rw [List.length_append, nm_len (by decide)]
    have : zTxL 2 = 5 := rfl
    omega
  obtain ⟨n4, a7, a8⟩ := M_both (i := 15) (w := 508078) (by decide) (by decide) hop.1 (by omega) a6 (by omega)
  have l4 : (l ++ zTxB 14 ++ [32] ++ numL q ++ nm 2 ch ++ nm 15 op).length ≤ l.length + 40 := by
    rw [List.length_append, nm_len (by decide)]
    have : zTxL 15 = 4 := rfl
    omega
  obtain ⟨n5, a9, a10⟩ := M_both (i := 16) (w := 3554917) (by decide) (by decide) hcl.1 (by omega) a8 (by omega)
  have l5 : (l ++ zTxB 14 ++ [32] ++ numL q ++ nm 2 ch ++ nm 15 op ++ nm 16 cl).length ≤ l.length + 60 := by
    rw [List.length_append, nm_len (by decide)]
    have : zTxL 16 = 5 := rfl
    omega
  obtain ⟨n6, a11, a12⟩ := a10.says (by omega) 59
  refine ⟨n6, ?_, ?_⟩
  · intro kk
    rw [a1, zU_some, pM_ofFlight (fl a2) hf (c := 0) (y := 0) (by decide) rfl rfl, zI_some, a3, zU_some, pM_ofFlight (fl a4) hf (c := 1) (y := 1) (by decide) rfl rfl, zI_some, a5, zU_some, pM_ofFlight (fl a6) hf (c := 2) (y := 2) (by decide) rfl rfl, zI_some, a7, zU_some, pM_ofFlight (fl a8) hf (c := 3) (y := 3) (by decide) rfl rfl, zI_some, a9, zU_some, a11, zU_some]
  · simpa [List.append_assoc] using a12
