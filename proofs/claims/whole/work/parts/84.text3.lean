/-! ===== the whole text ===== -/
def dvL (S : zSt) (D : zDv) (s k : Nat) : List Int32 := devL s (spos S s k) (D s k 0) (D s k 1) (D s k 2) (D s k 3) (D s k 4) (D s k 5)
def dsL (S : zSt) (D : zDv) (ds dk : Nat → Nat) : Nat → List Int32
  | 0 => []
  | x + 1 => dsL S D ds dk x ++ dvL S D (ds x) (dk x)
def tN (S : zSt) (c f : Nat) : Nat := (sT S c f).toNatClampNeg
def fsL (S : zSt) : Nat → List Int32
  | 0 => []
  | f + 1 => fsL S f ++ flL (tN S 0 f) (tN S 1 f) (tN S 2 f) (tN S 3 f)
def hdL (n : Nat) : List Int32 := zTxB 6 ++ [32] ++ numL n ++ [59]
def tlL (wd lm : Nat) : List Int32 := (zTxB 7 ++ [32] ++ numL wd ++ [59]) ++ (zTxB 8 ++ [32] ++ numL lm ++ [59])
def TX (S : zSt) (D : zDv) (lm d : Nat) (ds dk : Nat → Nat) : List Int32 := hdL (sn S) ++ dsL S D ds dk d ++ fsL S (sF S) ++ tlL (swd S) lm
theorem dvT_of {S : zSt} {D : zDv} {s k : Nat} (hS : okS S) (hD : okD S D) (h1 : 1 ≤ s) (h6 : s ≤ 6) (hk : k < scnt S s) : DVT s (spos S s k) (D s k 0) (D s k 1) (D s k 2) (D s k 3) (D s k 4) (D s k 5) := by
  have a := hS.2.2.2.2.2.2.2.2.1 s k h1 h6 hk
  have n60 := hS.2.1
  refine ⟨⟨h1, h6⟩, by omega, fun g => ?_, fun g => ?_, fun g => ?_, fun g => ?_⟩
  · have := hD s k g h6 hk
    exact ⟨this.2.1, this.2.2.2.1⟩
  · have := (hD s k (by omega) h6 hk).2.2.2.2.1 g
    exact ⟨(this 1 (by decide) (by decide)).2, (this 2 (by decide) (by decide)).2, (this 3 (by decide) (by decide)).2⟩
  · exact ((hD s k (by omega) h6 hk).2.2.2.2.2.1 g).2
  · have := ((hD s k (by omega) h6 hk).2.2.2.2.2.2 g).1
    omega
theorem fl_of {S : zSt} (hS : okS S) {f : Nat} (hf : f < sF S) : (sT S 0 f = nI (tN S 0 f) ∧ tN S 0 f ≤ 999) ∧ (sT S 1 f = nI (tN S 1 f) ∧ tN S 1 f < 6) ∧ (sT S 2 f = nI (tN S 2 f) ∧ tN S 2 f ≤ 99999) ∧ (sT S 3 f = nI (tN S 3 f) ∧ tN S 3 f ≤ 99999) := by
  obtain ⟨⟨q, q1, q2, q3⟩, ⟨c, c1, c2⟩, ⟨o, l, o1, o2, o3, o4⟩⟩ := hS.2.2.2.2.1 f hf
  unfold tN
  rw [q3, c2, o3, o4, nI_clamp (by omega), nI_clamp (by omega), nI_clamp (by omega), nI_clamp (by omega)]
  exact ⟨⟨rfl, q2⟩, ⟨rfl, c1⟩, ⟨rfl, by omega⟩, ⟨rfl, o2⟩⟩
theorem dsL_len {S : zSt} {D : zDv} {ds dk : Nat → Nat} (hS : okS S) (hD : okD S D) : ∀ d, (∀ x, x < d → 1 ≤ ds x ∧ ds x ≤ 6 ∧ dk x < scnt S (ds x)) → (dsL S D ds dk d).length ≤ sb ds d := by
  intro d
  induction d with
  | zero => exact fun _ => Nat.le_refl _
  | succ d ih =>
    intro h
    have h1 := ih (fun x hx => h x (by omega))
    obtain ⟨a, b, c⟩ := h d (by omega)
    have h2 : (dvL S D (ds d) (dk d)).length ≤ bnd (ds d) := devL_len (dvT_of hS hD a b c)
    show (dsL S D ds dk d ++ dvL S D (ds d) (dk d)).length ≤ sb ds d + bnd (ds d)
    rw [List.length_append]
    omega
theorem sb_mono {ds : Nat → Nat} {x d : Nat} (h : x ≤ d) : sb ds x ≤ sb ds d := by
  induction d with
  | zero =>
    have : x = 0 := by omega
    subst this
    exact Nat.le_refl _
  | succ d ih =>
    by_cases e : x = d + 1
    · rw [e]
      exact Nat.le_refl _
    · have h1 := ih (by omega)
      have : sb ds (d + 1) = sb ds d + bnd (ds d) := rfl
      omega
theorem fsL_len {S : zSt} (hS : okS S) : ∀ f, f ≤ sF S → (fsL S f).length ≤ 42 * f := by
  intro f
  induction f with
  | zero => exact fun _ => Nat.le_refl _
  | succ f ih =>
    intro h
    have h1 := ih (by omega)
    obtain ⟨a, b, -⟩ := fl_of hS (show f < sF S by omega)
    have h2 := flL_len (op := tN S 2 f) (cl := tN S 3 f) a.2 b.2
    show (fsL S f ++ flL (tN S 0 f) (tN S 1 f) (tN S 2 f) (tN S 3 f)).length ≤ _
    rw [List.length_append]
    omega
theorem hdL_len {n : Nat} (h : n ≤ 60) : (hdL n).length ≤ 8 := by
  have := np_2 (show n ≤ 99 by omega)
  unfold hdL
  simp [numL_len, zTxB_len, zTxL]
  omega
theorem tlL_len {wd lm : Nat} (h : wd ≤ 3) (h2 : lm ≤ 9) : (tlL wd lm).length ≤ 18 := by
  have := np_1 (show wd ≤ 9 by omega)
  have := np_1 h2
  unfold tlL
  simp [numL_len, zTxB_len, zTxL]
  omega
theorem fr_dsL {S : zSt} {D : zDv} {ds dk : Nat → Nat} : ∀ d, fresh (hdL (sn S) ++ dsL S D ds dk d)
  | 0 => Or.inr ⟨zTxB 6 ++ [32] ++ numL (sn S), by show hdL (sn S) ++ [] = _; rw [List.append_nil]; rfl⟩
  | d + 1 => by
    right
    show ∃ l', hdL (sn S) ++ (dsL S D ds dk d ++ dvL S D (ds d) (dk d)) = _
    unfold dvL devL
    exact ⟨_, by simp only [← List.append_assoc]; rfl⟩
theorem fr_fsL {S : zSt} {D : zDv} {ds dk : Nat → Nat} {d : Nat} : ∀ f, fresh (hdL (sn S) ++ dsL S D ds dk d ++ fsL S f)
  | 0 => by
    show fresh (hdL (sn S) ++ dsL S D ds dk d ++ [])
    rw [List.append_nil]
    exact fr_dsL d
  | f + 1 => by
    right
    show ∃ l', hdL (sn S) ++ dsL S D ds dk d ++ (fsL S f ++ flL (tN S 0 f) (tN S 1 f) (tN S 2 f) (tN S 3 f)) = _
    unfold flL
    exact ⟨_, by simp only [← List.append_assoc]; rfl⟩
theorem says_all {u : Nat → Int32} {S : zSt} {D : zDv} {lm d : Nat} {dv : Nat → Nat → Nat} {ds dk : Nat → Nat} (hS : okS S) (hD : okD S D) (hl : lm ≤ 9) (hU : SU u S D (nI lm) d dv ds dk) : sayR u (TX S D lm d ds dk) := by
  intro ν0 hu
  obtain ⟨u0, u1, u2, u3, u4, u5, u6, u7, u8, u9, u10, u11⟩ := hU
  have hn := hS.2.1
  have hw := hS.2.2.1
  have hF := hS.2.2.2.1
  have lims := hS.2.2.2.2.2.2.2.2.2.2
  have c3 := hS.2.2.2.2.2.2.2.1 3
  have hd : d ≤ 18 := by omega
  have hsb : sb ds d ≤ 472 := by omega
  have e : ∀ z, ν0.1 63 0 z = u z := fun z => by rw [hu]
  have hFl : FlM ν0 (sF S) (sT S) := ⟨hF, by rw [e]; exact u9.1, fun c f a b => by rw [e]; exact u9.2 c f a b⟩
  have hd8 := hdL_len hn
  have hok : ∀ x, x < d → 1 ≤ ds x ∧ ds x ≤ 6 ∧ dk x < scnt S (ds x) := fun x hx => ⟨(u8 x hx).1.1, (u8 x hx).1.2.1, (u8 x hx).1.2.2.1⟩
  have dlen : ∀ x, x ≤ d → (dsL S D ds dk x).length ≤ 472 := fun x hx => by
    have := dsL_len hS hD x (fun y hy => hok y (by omega))
    have := sb_mono (ds := ds) hx
    omega
  -- devices
  have dl : ∀ m x f (ν : zM), x + m = d → m < f → OUT ν0 ν (hdL (sn S) ++ dsL S D ds dk x) → ∃ ν', tX11_saysSetup_30 f (nI x) ν = tX11_saysSetup_60 zN 0 ν' ∧ OUT ν0 ν' (hdL (sn S) ++ dsL S D ds dk d) := by
    intro m
    induction m with
    | zero =>
      intro x f ν h1 h2 ho
      obtain ⟨f, rfl⟩ : ∃ g, f = g + 1 := ⟨f - 1, by omega⟩
      have : x = d := by omega
      subst this
      refine ⟨ν, ?_, ho⟩
      rw [eX11_saysSetup_30, qI_63 ho (x := 1) (z := 1) rfl (by decide), Option.bind_some, e, u1, zif_neg (nI_nlt (by omega) (by omega))]
    | succ m ih =>
      intro x f ν h1 h2 ho
      obtain ⟨f, rfl⟩ : ∃ g, f = g + 1 := ⟨f - 1, by omega⟩
      obtain ⟨⟨w1, w2, w3, w4⟩, w5, w6⟩ := u8 x (by omega)
      obtain ⟨v1, v2, v3, v4, v5, v6⟩ := u7 (ds x) (dk x) w1 w2 w3
      rw [w4] at v3 v4 v5 v6
      have hx1 := dlen x (by omega)
      obtain ⟨ν1, c1, c2⟩ := M_dev (x := x) (by omega) (dvT_of hS hD w1 w2 w3) (by rw [e]; exact w5) (by rw [e]; exact w6) (fun g => by rw [e, e]; exact v3 g) (fun g => by rw [e, e, e]; exact ⟨v4 g 1 (by decide) (by decide), v4 g 2 (by decide) (by decide), v4 g 3 (by decide) (by decide)⟩) (fun g => by rw [e]; exact v5 g) (fun g => by rw [e]; exact v6 g) ho (by rw [List.length_append]; omega)
      rw [List.append_assoc] at c2
      obtain ⟨ν', c3, c4⟩ := ih (x + 1) f ν1 (by omega) (by omega) c2
      refine ⟨ν', ?_, c4⟩
      rw [eX11_saysSetup_30, qI_63 ho (x := 1) (z := 1) rfl (by decide), Option.bind_some, e, u1, zif_pos (nI_lt (by omega) (by omega)), show (140 : Int32) + 8 * nI x = nI (140 + 8 * x) by rw [show (8 : Int32) = nI 8 from rfl, show (140 : Int32) = nI 140 from rfl, pk_mul, nI_add], c1, zU_some, eX11_saysSetup_55, nI_1, c3]
  have flen : ∀ f, f ≤ sF S → (hdL (sn S) ++ dsL S D ds dk d ++ fsL S f).length ≤ 900 := fun f hf => by
    have := fsL_len hS f hf
    have := dlen d (Nat.le_refl _)
    rw [List.length_append, List.length_append]
    omega
  -- flights, window, passes
  have fl : ∀ m x f (ν : zM), x + m = sF S → m < f → OUT ν0 ν (hdL (sn S) ++ dsL S D ds dk d ++ fsL S x) → ∃ ν', tX11_saysSetup_60 f (nI x) ν = some (none, ν') ∧ OUT ν0 ν' (TX S D lm d ds dk) := by
    intro m
    induction m with
    | zero =>
      intro x f ν h1 h2 ho
      obtain ⟨f, rfl⟩ : ∃ g, f = g + 1 := ⟨f - 1, by omega⟩
      have : x = sF S := by omega
      subst this
      have h9 := flen (sF S) (Nat.le_refl _)
      have e1 := np_le (swd S)
      have e2 := np_le lm
      generalize hLL : hdL (sn S) ++ dsL S D ds dk d ++ fsL S (sF S) = LL at ho h9
      obtain ⟨n1, a1, a2⟩ := M_word (i := 7) (w := 781652471) (by decide) (by decide) ho (by omega)
      have l1 : (LL ++ zTxB 7).length ≤ 910 := by rw [List.length_append]; have : (zTxB 7).length = 6 := rfl; omega
      obtain ⟨n2, a3, a4⟩ := M_num (v := swd S) (x := ν0.1 63 0 2) (by rw [e]; exact u2) (by omega) a2 (by omega)
      have l2 : (LL ++ zTxB 7 ++ [32] ++ numL (swd S)).length ≤ 920 := by
        rw [List.length_append, List.length_append, numL_len]
        simp at l1 ⊢
        omega
      obtain ⟨n3, a5, a6⟩ := a4.says (by omega) 59
      have l3 : (LL ++ zTxB 7 ++ [32] ++ numL (swd S) ++ [59]).length ≤ 921 := by
        rw [List.length_append]
        simp at l2 ⊢
        omega
      obtain ⟨n4, a7, a8⟩ := M_word (i := 8) (w := 538561715) (by decide) (by decide) a6 (by omega)
      have l4 : (LL ++ zTxB 7 ++ [32] ++ numL (swd S) ++ [59] ++ zTxB 8).length ≤ 930 := by rw [List.length_append]; have : (zTxB 8).length = 6 := rfl; omega
      obtain ⟨n5, a9, a10⟩ := M_num (v := lm) (x := ν0.1 63 0 3) (by rw [e]; exact u3) (by omega) a8 (by omega)
      have l5 : (LL ++ zTxB 7 ++ [32] ++ numL (swd S) ++ [59] ++ zTxB 8 ++ [32] ++ numL lm).length ≤ 940 := by
        rw [List.length_append, List.length_append, numL_len]
        simp at l4 ⊢
        omega
      obtain ⟨n6, a11, a12⟩ := a10.says (by omega) 59
      refine ⟨n6, ?_, ?_⟩
      · rw [eX11_saysSetup_60, qI_63 ho (x := 4) (z := 4) rfl (by decide), Option.bind_some, e, u9.1, zif_neg (nI_nlt (by omega) (by omega)), a1, zU_some, qI_63 a2 (x := 2) (z := 2) rfl (by decide), Option.bind_some, a3, zU_some, a5, zU_some, a7, zU_some, qI_63 a8 (x := 3) (z := 3) rfl (by decide), Option.bind_some, a9, zU_some, a11, zU_some]
      · unfold TX tlL
        rw [hLL]
        simpa [List.append_assoc] using a12
    | succ m ih =>
      intro x f ν h1 h2 ho
      obtain ⟨f, rfl⟩ : ∃ g, f = g + 1 := ⟨f - 1, by omega⟩
      obtain ⟨q1, q2, q3, q4⟩ := fl_of hS (show x < sF S by omega)
      have h9 := flen x (by omega)
      obtain ⟨ν1, c1, c2⟩ := M_flight hFl (show x < sF S by omega) q1 q2 q3 q4 ho (by omega)
      have c2' : OUT ν0 ν1 (hdL (sn S) ++ dsL S D ds dk d ++ fsL S (x + 1)) := by
        show OUT ν0 ν1 (hdL (sn S) ++ dsL S D ds dk d ++ (fsL S x ++ flL (tN S 0 x) (tN S 1 x) (tN S 2 x) (tN S 3 x)))
        rw [← List.append_assoc (hdL (sn S) ++ dsL S D ds dk d)]
        exact c2
      obtain ⟨ν', c3, c4⟩ := ih (x + 1) f ν1 (by omega) (by omega) c2'
      refine ⟨ν', ?_, c4⟩
      rw [eX11_saysSetup_60, qI_63 ho (x := 4) (z := 4) rfl (by decide), Option.bind_some, e, u9.1, zif_pos (nI_lt (by omega) (by omega))]
      refine (c1 (fun μ15 => tX11_saysSetup_135 f (nI x + 1) μ15)).trans ?_
      show tX11_saysSetup_135 f (nI x + 1) ν1 = _
      rw [eX11_saysSetup_135, nI_1, c3]
  obtain ⟨n1, a1, a2⟩ := M_word (i := 6) (w := 599495) (by decide) (by decide) (OUT.start ν0) (by decide)
  obtain ⟨n2, a3, a4⟩ := M_num (v := sn S) (x := ν0.1 63 0 0) (by rw [e]; exact u0) (by omega) a2 (by decide)
  have e1 := np_le (sn S)
  obtain ⟨n3, a5, a6⟩ := a4.says (by simp [numL_len, zTxB_len, zTxL]; omega) 59
  have a6' : OUT ν0 n3 (hdL (sn S) ++ dsL S D ds dk 0) := by
    show OUT ν0 n3 (hdL (sn S) ++ [])
    rw [List.append_nil]
    exact a6
  obtain ⟨n4, b1, b2⟩ := dl d 0 zN n3 (by omega) (by rw [zN_eq]; omega) a6'
  have b2' : OUT ν0 n4 (hdL (sn S) ++ dsL S D ds dk d ++ fsL S 0) := by
    show OUT ν0 n4 (hdL (sn S) ++ dsL S D ds dk d ++ [])
    rw [List.append_nil]
    exact b2
  obtain ⟨n5, b3, b4⟩ := fl (sF S) 0 zN n4 (by omega) (by rw [zN_eq]; omega) b2'
  refine ⟨n5, ?_, b4⟩
  rw [eX11_saysSetup_0, zlet_eq, a1, zU_some, qI_63 a2 (x := 0) (z := 0) rfl (by decide), Option.bind_some, a3, zU_some, a5, zU_some, show tX11_saysSetup_30 zN 0 n3 = tX11_saysSetup_60 zN 0 n4 from b1]
  exact b3
/-- the class writes the same -/
theorem describe_all {μ0 : zM} {S : zSt} {D : zDv} {j lm d : Nat} {ds dk : Nat → Nat} (hS : okS S) (hD : okD S D) (hl : lm ≤ 9) (hX : SX μ0 j S D (nI lm)) (h13 : μ0.1 5 j 13 = nI d) (h51 : ∀ x, x < d → μ0.1 51 j x = nI (spos S (ds x) (dk x))) (hok : ∀ x, x < d → 1 ≤ ds x ∧ ds x ≤ 6 ∧ dk x < scnt S (ds x)) (hsb : sb ds d ≤ 472) (hd : d ≤ 18) : ∃ μ', tX5_describe_0 j μ0 = some (none, μ') ∧ XO μ0 μ' (TX S D lm d ds dk) ∧ (TX S D lm d ds dk).length ≤ 1024 := by
  obtain ⟨x1, x2, x3, x4, x5, x6, x7, x8, x9⟩ := hX
  have hn := hS.2.1
  have hw := hS.2.2.1
  have hF := hS.2.2.2.1
  have hd8 := hdL_len hn
  have dlen : ∀ x, x ≤ d → (dsL S D ds dk x).length ≤ 472 := fun x hx => by
    have := dsL_len hS hD x (fun y hy => hok y (by omega))
    have := sb_mono (ds := ds) hx
    omega
  have cell : ∀ {m : zM} {k : List Int32} (a i z : Nat), a ≠ 8 → a ≠ 56 → XO μ0 m k → m.1 a i z = μ0.1 a i z := fun a i z p q o => o.2.2.2 _ _ _ (by omega) (by omega)
  have flen : ∀ f, f ≤ sF S → (hdL (sn S) ++ dsL S D ds dk d ++ fsL S f).length ≤ 480 + 42 * f := fun f hf => by
    have := fsL_len hS f hf
    have := dlen d (Nat.le_refl _)
    rw [List.length_append, List.length_append]
    omega
  have dl : ∀ m x f (μ : zM), x + m = d → m < f → XO μ0 μ (hdL (sn S) ++ dsL S D ds dk x) → ∃ μ', tX5_describe_21 f j (nI x) μ = tX5_describe_48 zN j 0 μ' ∧ XO μ0 μ' (hdL (sn S) ++ dsL S D ds dk d) := by
    intro m
    induction m with
    | zero =>
      intro x f μ h1 h2 ho
      obtain ⟨f, rfl⟩ : ∃ g, f = g + 1 := ⟨f - 1, by omega⟩
      have : x = d := by omega
      subst this
      refine ⟨μ, ?_, ho⟩
      rw [eX5_describe_21, cell 5 j 13 (by decide) (by decide) ho, h13, zif_neg (nI_nlt (by omega) (by omega))]
    | succ m ih =>
      intro x f μ h1 h2 ho
      obtain ⟨f, rfl⟩ : ∃ g, f = g + 1 := ⟨f - 1, by omega⟩
      obtain ⟨w1, w2, w3⟩ := hok x (by omega)
      have hp := hS.2.2.2.2.2.2.2.2.1 (ds x) (dk x) w1 w2 w3
      have hx1 := dlen x (by omega)
      have v := fun g => x9 (ds x) (dk x) g w2 w3
      obtain ⟨μ1, c1, c2⟩ := X_dev (j := j) (dvT_of hS hD w1 w2 w3) (by rw [x6 _ (by omega), hp.2.1]) (fun g => ⟨(v g).1, (v g).2.1⟩) (fun g => ⟨(v (by omega)).2.2.1 g 1 (by decide) (by decide), (v (by omega)).2.2.1 g 2 (by decide) (by decide), (v (by omega)).2.2.1 g 3 (by decide) (by decide)⟩) (fun g => (v (by omega)).2.2.2.1 g) (fun g => (v (by omega)).2.2.2.2 g) ho (fr_dsL x) (by rw [List.length_append]; omega)
      rw [List.append_assoc] at c2
      obtain ⟨μ', c3, c4⟩ := ih (x + 1) f μ1 (by omega) (by omega) c2
      refine ⟨μ', ?_, c4⟩
      rw [eX5_describe_21, cell 5 j 13 (by decide) (by decide) ho, h13, zif_pos (nI_lt (by omega) (by omega)), qI_X ho (zS_51 j) (by decide) rfl (by omega) (by decide), Option.bind_some, h51 x (by omega), c1, zU_some, eX5_describe_43, nI_1, c3]
  have fl : ∀ m x f (μ : zM), x + m = sF S → m < f → XO μ0 μ (hdL (sn S) ++ dsL S D ds dk d ++ fsL S x) → ∃ μ', tX5_describe_48 f j (nI x) μ = some (none, μ') ∧ XO μ0 μ' (TX S D lm d ds dk) := by
    intro m
    induction m with
    | zero =>
      intro x f μ h1 h2 ho
      obtain ⟨f, rfl⟩ : ∃ g, f = g + 1 := ⟨f - 1, by omega⟩
      have : x = sF S := by omega
      subst this
      have h9 := flen (sF S) (Nat.le_refl _)
      have e1 := np_1 (show swd S ≤ 9 by omega)
      have e2 := np_1 hl
      have hfr : fresh (hdL (sn S) ++ dsL S D ds dk d ++ fsL S (sF S)) := fr_fsL (sF S)
      generalize hLL : hdL (sn S) ++ dsL S D ds dk d ++ fsL S (sF S) = LL at ho h9 hfr
      obtain ⟨n1, a1, a2⟩ := X_named0 (i := 7) (v := swd S) (x := μ0.1 5 j 1) (by decide) ho hfr x3 (by omega) (by omega)
      have l1 : (LL ++ (zTxB 7 ++ [32] ++ numL (swd S))).length ≤ 908 := by
        simp [numL_len, zTxB_len, zTxL]
        omega
      obtain ⟨n2, a3, a4⟩ := X_endc a2.1 (by omega)
      obtain ⟨n3, a5, a6⟩ := X_named0 (i := 8) (v := lm) (x := μ0.1 5 j 2) (by decide) a4 (Or.inr ⟨_, rfl⟩) x4 (by omega) (by rw [List.length_append]; simp at l1 ⊢; omega)
      obtain ⟨n4, a7, a8⟩ := X_endc a6.1 (by
        rw [List.length_append, List.length_append]
        simp [numL_len, zTxB_len, zTxL] at l1 ⊢
        omega)
      refine ⟨n4, ?_, ?_⟩
      · rw [eX5_describe_48, cell 1 j 0 (by decide) (by decide) ho, x5.2.1, zif_neg (nI_nlt (by omega) (by omega)), cell 5 j 1 (by decide) (by decide) ho, a1, zU_some, a3, zU_some, cell 5 j 2 (by decide) (by decide) a4, a5, zU_some, a7, zU_some]
      · unfold TX tlL
        rw [hLL]
        simpa [List.append_assoc] using a8
    | succ m ih =>
      intro x f μ h1 h2 ho
      obtain ⟨f, rfl⟩ : ∃ g, f = g + 1 := ⟨f - 1, by omega⟩
      obtain ⟨q1, q2, q3, q4⟩ := fl_of hS (show x < sF S by omega)
      have h9 := flen x (by omega)
      obtain ⟨μ1, c1, c2⟩ := X_flight x5 (show x < sF S by omega) q1 q2 q3 q4 ho (fr_fsL x) (by omega)
      have c2' : XO μ0 μ1 (hdL (sn S) ++ dsL S D ds dk d ++ fsL S (x + 1)) := by
        show XO μ0 μ1 (hdL (sn S) ++ dsL S D ds dk d ++ (fsL S x ++ flL (tN S 0 x) (tN S 1 x) (tN S 2 x) (tN S 3 x)))
        rw [← List.append_assoc (hdL (sn S) ++ dsL S D ds dk d)]
        exact c2
      obtain ⟨μ', c3, c4⟩ := ih (x + 1) f μ1 (by omega) (by omega) c2'
      refine ⟨μ', ?_, c4⟩
      rw [eX5_describe_48, cell 1 j 0 (by decide) (by decide) ho, x5.2.1, zif_pos (nI_lt (by omega) (by omega)), c1, zU_some, eX5_describe_68, nI_1, c3]
  have st : XO μ0 (mS μ0 8 0 1 0) [] := ⟨mS_same _ _ _ _ _, fun z hz => absurd hz (Nat.not_lt_zero _), rfl, fun k i z h _ => by rw [mS_1, if_neg h]⟩
  have e1 := np_2 (show sn S ≤ 99 by omega)
  obtain ⟨n1, a1, a2⟩ := X_named0 (i := 6) (v := sn S) (x := μ0.1 5 j 0) (by decide) st (Or.inl rfl) x2 (by omega) (by show 0 + 12 + np (sn S) ≤ 1024; omega)
  obtain ⟨n2, a3, a4⟩ := X_endc a2.1 (by simp [numL_len, zTxB_len, zTxL]; omega)
  have a4' : XO μ0 n2 (hdL (sn S) ++ dsL S D ds dk 0) := by
    show XO μ0 n2 (hdL (sn S) ++ [])
    rw [List.append_nil]
    exact a4
  obtain ⟨n4, b1, b2⟩ := dl d 0 zN n2 (by omega) (by rw [zN_eq]; omega) a4'
  have b2' : XO μ0 n4 (hdL (sn S) ++ dsL S D ds dk d ++ fsL S 0) := by
    show XO μ0 n4 (hdL (sn S) ++ dsL S D ds dk d ++ [])
    rw [List.append_nil]
    exact b2
  obtain ⟨n5, b3, b4⟩ := fl (sF S) 0 zN n4 (by omega) (by rw [zN_eq]; omega) b2'
  refine ⟨n5, ?_, b4, ?_⟩
  · rw [eX5_describe_0, zlet_eq, cell 5 j 0 (by decide) (by decide) st, a1, zU_some, a3, zU_some, show tX5_describe_21 zN j 0 n2 = tX5_describe_48 zN j 0 n4 from b1]
    exact b3
  · have h9 := flen (sF S) (Nat.le_refl _)
    have := tlL_len hw hl
    unfold TX
    rw [List.length_append]
    omega
