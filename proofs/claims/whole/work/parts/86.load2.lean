/-! ===== load ===== -/
theorem qP_10 {μ : zM} {n j : Nat} (hn : n = 6 ∨ n = 7) (hj : j < 2) : qP μ (10, 0) n (.inr (.inr (5, j))) = some (μ.1, zupN μ.2.1 (10, 0) n j, μ.2.2) := by
  rw [qP_eq]
  rcases hn with rfl | rfl
  · show (if 5 = 5 ∧ j < 2 then _ else _) = _
    rw [if_pos ⟨rfl, hj⟩]
  · show (if 5 = 5 ∧ j < 2 then _ else _) = _
    rw [if_pos ⟨rfl, hj⟩]
theorem zupN_1 (f : Nat → Nat → Nat → Nat) (k i n v k' i' n' : Nat) : zupN f (k, i) n v k' i' n' = if k' = k ∧ i' = i ∧ n' = n then v else f k' i' n' := rfl
theorem XL_bad {μ m : zM} {j' : Nat} (hp : μ.2.1 10 0 7 = j') (hj : j' < 2) (h : tX6_readInto_0 j' μ = some (some (.inl 0), m)) : tX10_load_0 μ = some (some (.inl (-1)), mS (mS m 10 0 8 (m.1 7 0 2)) 7 0 1 0) := by
  rw [eX10_load_0, hp, zif_pos hj, h, zI_some, eX10_load_12, zif_pos rfl, eX10_load_29, zlet_eq, zlet_eq, zif_pos rfl]
def LF (m q : zM) (j j' : Nat) (l : List Int32) : Prop := (q.2.1 10 0 6 = j' ∧ q.2.1 10 0 7 = j ∧ q.2.1 9 0 0 = j' ∧ q.2.2 = m.2.2 ∧ ∀ k i n, ¬ (k = 10 ∧ i = 0) → ¬ (k = 9 ∧ i = 0 ∧ n = 0) → q.2.1 k i n = m.2.1 k i n) ∧ BEG q ∧ (q.1 8 0 1 = nI l.length ∧ ∀ z, z < l.length → q.1 56 0 z = l.getD z 0) ∧ (q.1 2 0 1 = 0 ∧ q.1 2 0 2 = 0 ∧ q.1 10 0 8 = -2 ∧ q.1 7 0 1 = 0) ∧ ∀ k i z, ¬ isW 0 k i → k ≠ 2 → k ≠ 7 → k ≠ 8 → k ≠ 10 → k ≠ 56 → q.1 k i z = m.1 k i z
theorem BEG.of {μ μ' : zM} (h : BEG μ) (e : ∀ k z, (k = 9 ∨ k = 0 ∨ k = 40 ∨ (36 ≤ k ∧ k ≤ 38) ∨ (57 ≤ k ∧ k ≤ 61)) → μ'.1 k 0 z = μ.1 k 0 z) : BEG μ' := by
  obtain ⟨⟨a1, a2, a3, a4⟩, b, c⟩ := h
  refine ⟨⟨by rw [e _ _ (by omega)]; exact a1, by rw [e _ _ (by omega)]; exact a2, by rw [e _ _ (by omega)]; exact a3, by rw [e _ _ (by omega)]; exact a4⟩, fun z hz => ?_, fun z hz => by rw [e _ _ (by omega)]; exact c z hz⟩
  rw [e 40 _ (by omega), e 36 _ (by omega), e 37 _ (by omega), e 38 _ (by omega), e 58 _ (by omega), e 59 _ (by omega), e 60 _ (by omega), e 61 _ (by omega)]
  exact b z hz
theorem XL_ok {μ m : zM} {j j' lm d : Nat} {S : zSt} {D : zDv} {ds dk : Nat → Nat} (hp : μ.2.1 10 0 7 = j') (hj : j < 2) (hj' : j' < 2) (h : tX6_readInto_0 j' μ = some (some (.inl 1), m)) (m6 : m.2.1 10 0 6 = j) (m7 : m.2.1 10 0 7 = j') (hS : okS S) (hD : okD S D) (hl : lm ≤ 9) (hX : SX m j' S D (nI lm)) (h13 : m.1 5 j' 13 = nI d) (h51 : ∀ x, x < d → m.1 51 j' x = nI (spos S (ds x) (dk x))) (hok : ∀ x, x < d → 1 ≤ ds x ∧ ds x ≤ 6 ∧ dk x < scnt S (ds x)) (hsb : sb ds d ≤ 472) (hd : d ≤ 18) : ∃ q, tX10_load_0 μ = some (some (.inl (nI (sn S))), q) ∧ LF m q j j' (TX S D lm d ds dk) ∧ (TX S D lm d ds dk).length ≤ 1024 := by
  let q1 := mS (mS m 10 0 8 (-2)) 7 0 1 0
  let q2 : zM := (q1.1, zupN q1.2.1 (10, 0) 6 j', q1.2.2)
  let q3 : zM := (q2.1, zupN q2.2.1 (10, 0) 7 j, q2.2.2)
  have k1 : ∀ k i z, k ≠ 10 → k ≠ 7 → q3.1 k i z = m.1 k i z := fun k i z a b => by
    show (mS (mS m 10 0 8 (-2)) 7 0 1 0).1 k i z = _
    rw [mS_k _ _ _ _ _ _ _ _ b, mS_k _ _ _ _ _ _ _ _ a]
  have p3 : ∀ k i n, q3.2.1 k i n = if k = 10 ∧ i = 0 ∧ n = 7 then j else if k = 10 ∧ i = 0 ∧ n = 6 then j' else m.2.1 k i n := fun k i n => rfl
  have hX3 : SX q3 j' S D (nI lm) := hX.of (fun k a s hk => k1 _ _ _ (by unfold isS at hk; omega) (by unfold isS at hk; omega))
  obtain ⟨q4, e1, e2, e3⟩ := describe_all hS hD hl hX3 (by rw [k1 _ _ _ (by decide) (by decide)]; exact h13) (fun x hx => by rw [k1 _ _ _ (by decide) (by decide)]; exact h51 x hx) hok hsb hd
  obtain ⟨q5, b1, b2, b3, b4, b5⟩ := X_begin (μ := q4) hj'
  have p4 : q4.2 = q3.2 := e2.2.2.1
  have n60 : q5.1 5 j' 0 = nI (sn S) := by
    rw [b5 _ _ _ (by unfold isW; omega), e2.2.2.2 _ _ _ (by omega) (by omega)]
    exact hX3.2.1
  have p56 : q5.2.1 10 0 6 = j' := by
    rw [b3, zupN_1, if_neg (by omega), p4, p3, if_neg (by omega), if_pos ⟨rfl, rfl, rfl⟩]
  have x6 : q3.2.1 10 0 6 = j' := by rw [p3, if_neg (by omega), if_pos ⟨rfl, rfl, rfl⟩]
  refine ⟨mS (mS q5 2 0 1 0) 2 0 2 0, ?_, ⟨⟨p56, ?_, ?_, ?_, fun k i n a b => ?_⟩, b2.of (fun k z hk => ?_), ⟨?_, fun z hz => ?_⟩, ⟨?_, ?_, ?_, ?_⟩, fun k i z n1 n2 n3 n4 n5 n6 => ?_⟩, e3⟩
  · rw [eX10_load_0, hp, zif_pos hj', h, zI_some, eX10_load_12, zif_neg (show ¬ (1 : Int32) = 0 by decide), eX10_load_29, zlet_eq, zlet_eq, zif_neg (show ¬ (1 : Int32) = 0 by decide)]
    rw [show (mS (mS m 10 0 8 (-2)) 7 0 1 0).2.1 10 0 6 = j from m6, zif_pos hj, eX10_load_51, show (mS (mS m 10 0 8 (-2)) 7 0 1 0).2.1 10 0 7 = j' from m7, zif_pos hj', qP_10 (Or.inl rfl) hj', Option.bind_some, qP_10 (Or.inr rfl) hj, Option.bind_some, show ((q2.1, zupN q2.2.1 (10, 0) 7 j, q2.2.2) : zM).2.1 10 0 6 = j' from x6, zif_pos hj', show tX5_describe_0 j' (q2.1, zupN q2.2.1 (10, 0) 7 j, q2.2.2) = some (none, q4) from e1, zU_some, show q4.2.1 10 0 6 = j' by rw [p4]; exact x6, zif_pos hj', b1, zU_some, eX2_forget_0, zlet_eq, zlet_eq, zU_some, show (mS (mS q5 2 0 1 0) 2 0 2 0).2.1 10 0 6 = j' from p56, zif_pos hj', mS_k _ _ _ _ _ _ _ _ (by decide), mS_k _ _ _ _ _ _ _ _ (by decide), n60]
  · show q5.2.1 10 0 7 = j
    rw [b3, zupN_1, if_neg (by omega), p4, p3, if_pos ⟨rfl, rfl, rfl⟩]
  · show q5.2.1 9 0 0 = j'
    rw [b3, zupN_1, if_pos ⟨rfl, rfl, rfl⟩]
  · show q5.2.2 = m.2.2
    rw [b4, p4]
    rfl
  · show q5.2.1 k i n = _
    rw [b3, zupN_1, if_neg b, p4, p3, if_neg (by omega), if_neg (by omega)]
  · rw [mS_k _ _ _ _ _ _ _ _ (by omega), mS_k _ _ _ _ _ _ _ _ (by omega)]
  · rw [mS_k _ _ _ _ _ _ _ _ (by decide), mS_k _ _ _ _ _ _ _ _ (by decide), b5 _ _ _ (by unfold isW; omega)]
    exact e2.1
  · rw [mS_k _ _ _ _ _ _ _ _ (by decide), mS_k _ _ _ _ _ _ _ _ (by decide), b5 _ _ _ (by unfold isW; omega)]
    exact e2.2.1 z hz
  · rw [mS_n _ _ _ _ _ _ _ _ (by decide), mS_same]
  · rw [mS_same]
  · rw [mS_k _ _ _ _ _ _ _ _ (by decide), mS_k _ _ _ _ _ _ _ _ (by decide), b5 _ _ _ (by unfold isW; omega), e2.2.2.2 _ _ _ (by omega) (by omega)]
    show (mS (mS m 10 0 8 (-2)) 7 0 1 0).1 10 0 8 = _
    rw [mS_k _ _ _ _ _ _ _ _ (by decide), mS_same]
  · rw [mS_k _ _ _ _ _ _ _ _ (by decide), mS_k _ _ _ _ _ _ _ _ (by decide), b5 _ _ _ (by unfold isW; omega), e2.2.2.2 _ _ _ (by omega) (by omega)]
    show (mS (mS m 10 0 8 (-2)) 7 0 1 0).1 7 0 1 = _
    rw [mS_same]
  · rw [mS_k _ _ _ _ _ _ _ _ n2, mS_k _ _ _ _ _ _ _ _ n2, b5 _ _ _ n1, e2.2.2.2 _ _ _ (by omega) (by omega), k1 _ _ _ n5 n3]
def cpy (ν : zM) (a : Nat) : zM := (fun k i z => if k = 63 ∧ i = 0 ∧ z < a then ν.1 64 0 z else ν.1 k i z, ν.2)
theorem cpy_1 (ν : zM) (a k i z : Nat) : (cpy ν a).1 k i z = if k = 63 ∧ i = 0 ∧ z < a then ν.1 64 0 z else ν.1 k i z := rfl
theorem cpy_loop (ν : zM) : ∀ m a f, a + m = 400 → m < f → tX11_load_26 f (nI a) (cpy ν a) = zU (tX11_begins_0 (cpy ν 400)) fun μ3 => (qI μ3 (63, 0) 0).bind fun v4 => some (some (.inl v4), μ3) := by
  intro m
  induction m with
  | zero =>
    intro a f h1 h2
    obtain ⟨f, rfl⟩ : ∃ g, f = g + 1 := ⟨f - 1, by omega⟩
    have : a = 400 := by omega
    subst this
    rw [eX11_load_26, zif_neg (by decide)]
  | succ m ih =>
    intro a f h1 h2
    obtain ⟨f, rfl⟩ : ∃ g, f = g + 1 := ⟨f - 1, by omega⟩
    have e : mS (cpy ν a) 63 0 a (ν.1 64 0 a) = cpy ν (a + 1) := by
      refine Prod.ext (funext fun k => funext fun i => funext fun z => ?_) rfl
      rw [mS_1, cpy_1, cpy_1]
      by_cases h : k = 63 ∧ i = 0 ∧ z = a
      · rw [if_pos h, if_pos (by omega), h.2.2]
      · rw [if_neg h]
        by_cases g : k = 63 ∧ i = 0 ∧ z < a
        · rw [if_pos g, if_pos (by omega)]
        · rw [if_neg g, if_neg (by omega)]
    rw [eX11_load_26, zif_pos (show nI a < 400 from nI_lt (b := 400) (by omega) (by decide)), qI_64 rfl (by omega), Option.bind_some, wI_in (zS_63 0) rfl (by omega) (by decide), Option.bind_some, cpy_1, if_neg (by omega), e, eX11_load_48, nI_1]
    exact ih (a + 1) f (by omega) (by omega)
theorem SX.ofj {j : Nat} {S : zSt} {D : zDv} {lim : Int32} {μ μ' : zM} (e : ∀ k a s, isSj j k a → μ'.1 k a s = μ.1 k a s) (h : SX μ j S D lim) : SX μ' j S D lim := by
  have e : ∀ k a s, (((a = j ∧ (k = 5 ∨ k = 1 ∨ (31 ≤ k ∧ k ≤ 34) ∨ (43 ≤ k ∧ k ≤ 52))) ∨ (k = 53 ∧ a / 4 = j) ∨ (k = 54 ∧ a / 7 = j))) → μ'.1 k a s = μ.1 k a s := e
  obtain ⟨h1, h2, h3, h4, ⟨h5, h6, h7⟩, h8, h9, h10, h11⟩ := h
  refine ⟨h1, by rw [e _ _ _ (by omega)]; exact h2, by rw [e _ _ _ (by omega)]; exact h3, by rw [e _ _ _ (by omega)]; exact h4, ⟨h5, by rw [e _ _ _ (by omega)]; exact h6, fun c g hc hg => by rw [e _ _ _ (by omega)]; exact h7 c g hc hg⟩, fun p hp => by rw [e _ _ _ (by omega)]; exact h8 p hp, fun s a b => by rw [e _ _ _ (by omega)]; exact h9 s a b, fun s k a b c => by rw [e _ _ _ (by omega), e _ _ _ (by omega)]; exact h10 s k a b c, fun s k a b c => ?_⟩
  obtain ⟨g1, g2, g3, g4, g5⟩ := h11 s k a b c
  exact ⟨by rw [e _ _ _ (by omega)]; exact g1, by rw [e _ _ _ (by omega)]; exact g2, fun z l l1 l2 => by rw [e _ _ _ (by omega)]; exact g3 z l l1 l2, fun z => by rw [e _ _ _ (by omega)]; exact g4 z, fun z => by rw [e _ _ _ (by omega)]; exact g5 z⟩
theorem isSj_dis {j k i : Nat} (h : isSj j k i) : ¬ isSj (1 - j) k i ∨ 2 ≤ j := by
  unfold isSj at *
  omega
