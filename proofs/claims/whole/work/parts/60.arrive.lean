/-! ===== a bag arrives ===== -/
theorem mS_mWk (ν : zM) (w : Nat → Int32) (k i n : Nat) (v : Int32) (hk : k ≠ 65) : mS (mW ν w) k i n v = mW (mS ν k i n v) w := by
  refine Prod.ext ?_ rfl
  funext a b z
  rw [mS_1]
  show (if a = k ∧ b = i ∧ z = n then v else (if a = 65 ∧ b = 0 then w z else ν.1 a b z)) = (if a = 65 ∧ b = 0 then w z else (mS ν k i n v).1 a b z)
  rw [mS_1]
  by_cases h : a = 65 ∧ b = 0
  · rw [if_pos h, if_pos h, if_neg (fun q => hk (q.1.symm.trans h.1))]
  · rw [if_neg h, if_neg h]
def lbN (ν : zM) (b : Nat) (x1 x2 x3 x4 x5 : Int32) : zM := mS (mS (mS (mS (mS ν 68 0 b x1) 69 0 b x2) 70 0 b x3) 71 0 b x4) 72 0 b x5
def arF (w : Nat → Int32) (b k : Nat) : Nat → Int32 := goesF (upd (cpF (fun _ => 0) (upd w 1 (nI (b + 1))) (400 + 8 * b) 8) (400 + 8 * b + 7) (-2)) b 0 (nI k)
theorem pM_arr_loop {ν : zM} {w : Nat → Int32} {b k : Nat} (hb : b < 100) : ∀ (m a f : Nat), a + m = 8 → m < f → tX11_arrives_64 f (nI k) (nI b) (nI a) (mW ν (cpF (fun _ => 0) w (400 + 8 * b) a)) = some (some (.inl (nI b)), mW ν (goesF (upd (cpF (fun _ => 0) w (400 + 8 * b) 8) (400 + 8 * b + 7) (-2)) b 0 (nI k)))
  | 0, a, f, ha, hf => by
    obtain ⟨f, rfl⟩ : ∃ q, f = q + 1 := ⟨f - 1, by omega⟩
    rw [eX11_arrives_64, zif_neg (show ¬ nI a < 8 from nI_nlt (b := 8) (by omega) (by omega)), show a = 8 by omega, wW (b7 rfl) (by omega), Option.bind_some, pM_goes rfl hb, zU_some]
  | m + 1, a, f, ha, hf => by
    obtain ⟨f, rfl⟩ : ∃ q, f = q + 1 := ⟨f - 1, by omega⟩
    have ih := pM_arr_loop (ν := ν) (w := w) (k := k) hb m (a + 1) f (by omega) (by omega)
    rw [eX11_arrives_64, zif_pos (show nI a < 8 from nI_lt (b := 8) (by omega) (by decide)), wW (p := 400 + 8 * b + a) (i8 b a rfl rfl) (by omega), Option.bind_some, show upd (cpF (fun _ => 0) w (400 + 8 * b) a) (400 + 8 * b + a) 0 = cpF (fun _ => 0) w (400 + 8 * b) (a + 1) from cpF_step (fun _ => 0) w (400 + 8 * b) a, eX11_arrives_92, nI_1, ih]
theorem pM_arrives {ν : zM} {w : Nat → Int32} {C k : Nat} {x1 x2 x3 x4 x5 : Int32} (hC : w 1 = nI C) (hC1 : C < 100) : tX11_arrives_0 (nI k) x1 x2 x3 x4 x5 (mW ν w) = some (some (.inl (nI C)), mW (lbN ν C x1 x2 x3 x4 x5) (arF w C k)) := by
  rw [eX11_arrives_0, qW (x := 1) (p := 1) rfl (by decide), Option.bind_some, hC, eX11_arrives_8, wI_in (zS_68 0) rfl hC1 (by decide), Option.bind_some, wI_in (zS_69 0) rfl hC1 (by decide), Option.bind_some, wI_in (zS_70 0) rfl hC1 (by decide), Option.bind_some, wI_in (zS_71 0) rfl hC1 (by decide), Option.bind_some, wI_in (zS_72 0) rfl hC1 (by decide), Option.bind_some, mS_mWk _ _ _ _ _ _ (by decide), mS_mWk _ _ _ _ _ _ (by decide), mS_mWk _ _ _ _ _ _ (by decide), mS_mWk _ _ _ _ _ _ (by decide), mS_mWk _ _ _ _ _ _ (by decide), qW (x := 1) (p := 1) rfl (by decide), Option.bind_some, wW (x := 1) (p := 1) rfl (by decide), Option.bind_some, hC, nI_1]
  have h := pM_arr_loop (ν := lbN ν C x1 x2 x3 x4 x5) (w := upd w 1 (nI (C + 1))) (k := k) hC1 8 0 zN (by omega) (by rw [zN_eq]; omega)
  rw [cpF_0] at h
  exact h
theorem pX4_makeH {μ : zM} {i b : Nat} (hb : b < 100) : tX4_makeAt_0 (2 * i + 1) (nI b) μ = some (none, mS (mS (mS μ 40 (2 * i + 1) b 0) 41 (2 * i + 1) b 0) 42 (2 * i + 1) b 0) := by
  rw [eX4_makeAt_0, wI_in (hel_40 i) rfl hb (by decide), Option.bind_some, wI_in (hel_41 i) rfl hb (by decide), Option.bind_some, wI_in (hel_42 i) rfl hb (by decide), Option.bind_some]
set_option maxHeartbeats 1000000 in
theorem pX9_addBag {μ ν : zM} {i j : Nat} {S : zSt} {D : zDv} {lim : Int32} {w : Nat → Int32} {B t hd C now O : Nat} {st : Nat → Nat} {Q : Nat → List Nat} {k : Nat} (hE : ENV μ ν j S D lim) (hR : RW μ ν i j S w B t hd C now O st Q) (hC1 : C < 100) (hk : k < scnt S 1) :
    ∃ μ', tX9_addBag_0 i (nI (spos S 1 k)) μ = some (some (.inl (nI C)), μ') ∧ FrW i μ μ' ∧ QX μ' i (spos S 1 k) (Q (spos S 1 k) ++ [C]) ∧ (∀ q', keeps S q' → q' ≠ spos S 1 k → QX μ' i q' (Q q')) ∧ μ'.1 0 i 0 = nI (C + 1) ∧ (∀ z, μ'.1 26 i z = upd (μ.1 26 i) C 0 z) ∧ (∀ z, μ'.1 27 i z = upd (μ.1 27 i) C (nI k) z) ∧ (∀ k z, 40 ≤ k → k ≤ 42 → μ'.1 k (2 * i + 1) z = upd (μ.1 k (2 * i + 1)) C 0 z) ∧ (∀ k z, 40 ≤ k → k ≤ 42 → μ'.1 k (2 * i) z = μ.1 k (2 * i) z) ∧ ∀ k z, k ≠ 0 → k ≠ 26 → k ≠ 27 → ¬ (36 ≤ k ∧ k ≤ 42) → μ'.1 k i z = μ.1 k i z := by
  have hS := hE.1
  have hn6 := hS.2.1
  obtain ⟨a1, a2, a3⟩ := hS.2.2.2.2.2.2.2.2.1 1 k (by decide) (by decide) hk
  have hkp : keeps S (spos S 1 k) := ⟨a1, by omega, by omega⟩
  have hj := hR.1.1
  have hj2 := hE.2.2.1.1
  have h44 := (hE.2.2.1.2.2.2.2.2.2.2.1 1 k (by decide) (by decide) hk).2
  have hlen := RQ_bound hR hkp
  generalize spos S 1 k = q at *
  have hnot : ∀ q', keeps S q' → C ∉ Q q' := fun q' hq' z => by have := (st_que hS hR hq' z).1; omega
  generalize hm : mS (mS (mS (mS (mS (mS μ 0 i 0 (nI (C + 1))) 26 i C 0) 27 i C (nI k)) 40 (2 * i + 1) C 0) 41 (2 * i + 1) C 0) 42 (2 * i + 1) C 0 = m
  have hQ1 : ∀ q' l', QX μ i q' l' → QX m i q' l' := fun q' l' h => QX_congr (fun k z k1 k2 => by
    rw [← hm, mS_k _ _ _ _ _ _ _ _ (by omega), mS_k _ _ _ _ _ _ _ _ (by omega), mS_k _ _ _ _ _ _ _ _ (by omega), mS_k _ _ _ _ _ _ _ _ (by omega), mS_k _ _ _ _ _ _ _ _ (by omega), mS_k _ _ _ _ _ _ _ _ (by omega)]) h
  obtain ⟨μ', e1, fr, hq1, hq2⟩ := pX3_add (hQ1 q _ (hR.2.2.2.2.2.1 q hkp).1) rfl (show q < 60 by omega) rfl hC1 (hnot q hkp) (by omega)
  have eν : ∀ k a z, ¬ (36 ≤ k ∧ k ≤ 39) → μ'.1 k a z = m.1 k a z := fun k a z hk => fr.2 k a z (fun h => hk ⟨h.1, h.2.1⟩)
  have frm : FrW i μ m := by
    rw [← hm]
    refine FrW.mS (FrW.mS (FrW.mS (FrW.mS (FrW.mS (FrW.mS FrW.rf ?_) ?_) ?_) ?_) ?_) ?_ <;> unfold isW <;> omega
  refine ⟨μ', ?_, frm.tr (FrW.ofQ fr), hq1, fun q' hq' hne => hq2 q' _ hne (hQ1 q' _ (hR.2.2.2.2.2.1 q' hq').1) (fun a ha => ⟨que_disj hS hR hkp hq' hne a ha, fun z => hnot q' hq' (by rw [← z]; exact ha)⟩), ?_, fun z => ?_, fun z => ?_, fun k' z k1 k2 => ?_, fun k' z k1 k2 => ?_, fun k' z k1 k2 k3 k4 => ?_⟩
  · rw [eX9_addBag_0, hR.1.2.2.2.2.2.2.2.2.2.2.2.1, eX9_addBag_8, zif_pos (show nI C < 100 from nI_lt (b := 100) hC1 (by decide)), hj, zif_pos hj2, pX5_has hE.2.2.1.2.1, zI_some, ok_yes a1 (by omega), zif_neg one_ne0, zlet_eq, mS_2, hj, zif_pos hj2, qI_in (zS_44 j) rfl (show q < 60 by omega) (by decide), Option.bind_some, mS_k _ _ _ _ _ _ _ _ (by decide), h44, nI_1, pX0_put rfl hC1, zU_some, pX4_makeH hC1, zU_some, hm, e1, zU_some]
  · rw [eν _ _ _ (by omega), ← hm]; simp [mS_1]
  · rw [eν _ _ _ (by omega), ← hm]; simp [mS_1, upd]
  · rw [eν _ _ _ (by omega), ← hm]; simp [mS_1, upd]
  · rw [eν _ _ _ (by omega), ← hm]
    rcases (by omega : k' = 40 ∨ k' = 41 ∨ k' = 42) with rfl | rfl | rfl <;> simp [mS_1, upd]
  · rw [eν _ _ _ (by omega), ← hm]
    rcases (by omega : k' = 40 ∨ k' = 41 ∨ k' = 42) with rfl | rfl | rfl <;> simp [mS_1]
  · rw [eν _ _ _ (by omega), ← hm, mS_k _ _ _ _ _ _ _ _ (by omega), mS_k _ _ _ _ _ _ _ _ (by omega), mS_k _ _ _ _ _ _ _ _ (by omega), mS_k _ _ _ _ _ _ _ _ k3, mS_k _ _ _ _ _ _ _ _ k2, mS_k _ _ _ _ _ _ _ _ k1]
theorem pX0_describe {μ : zM} {i C b : Nat} {x1 x2 x3 x4 x5 : Int32} (hC : μ.1 0 i 0 = nI C) (hb : b < C) (hC1 : C ≤ 100) : tX0_describe_0 i (nI b) x1 x2 x3 x4 x5 μ = some (none, mS (mS (mS (mS (mS μ 21 i b x1) 22 i b x2) 23 i b x3) 24 i b x4) 25 i b x5) := by
  rw [eX0_describe_0, pX0_has hC, zI_some, ok_yes hb (by omega), zif_neg one_ne0, wI_in (zS_21 i) rfl (show b < 100 by omega) (by decide), Option.bind_some, wI_in (zS_22 i) rfl (show b < 100 by omega) (by decide), Option.bind_some, wI_in (zS_23 i) rfl (show b < 100 by omega) (by decide), Option.bind_some, wI_in (zS_24 i) rfl (show b < 100 by omega) (by decide), Option.bind_some, wI_in (zS_25 i) rfl (show b < 100 by omega) (by decide), Option.bind_some, eX0_describe_46]
set_option maxHeartbeats 2000000 in
/-- both sides -/
theorem arrive_pair {μ ν : zM} {i j : Nat} {S : zSt} {D : zDv} {lim : Int32} {w : Nat → Int32} {B t hd C now : Nat} {G : Nat → Prop} {k : Nat} {x1 x2 x3 x4 x5 : Int32} (hE : ENV μ ν j S D lim) (h : RQ μ ν i j S w B t hd C now G) (hGC : ∀ b, G b → b < C) (hB : B < 1000000000) (hC1 : C < 100) (hk : k < scnt S 1) (hx1 : isLb x1) (hx3 : isLb x3) :
    ∃ μ1 μ2, tX9_addBag_0 i (nI (spos S 1 k)) μ = some (some (.inl (nI C)), μ1) ∧ tX0_describe_0 i (nI C) x1 x2 x3 x4 x5 μ1 = some (none, μ2) ∧ tX11_arrives_0 (nI k) x1 x2 x3 x4 x5 (mW ν w) = some (some (.inl (nI C)), mW (lbN ν C x1 x2 x3 x4 x5) (arF w C k)) ∧ FrW i μ μ1 ∧ FrW i μ μ2 ∧ RQ μ2 (lbN ν C x1 x2 x3 x4 x5) i j S (arF w C k) (B + 1) t hd (C + 1) now G := by
  obtain ⟨O, st, Q, hR, hG⟩ := h
  have hS := hE.1
  have hn6 := hS.2.1
  obtain ⟨μ1, e1, fr1, y1, y2, y3, y4, y5, y6, y7, y8⟩ := pX9_addBag hE hR hC1 hk
  obtain ⟨a1, a2, a3⟩ := hS.2.2.2.2.2.2.2.2.1 1 k (by decide) (by decide) hk
  have hkp : keeps S (spos S 1 k) := ⟨a1, by omega, by omega⟩
  have hk6 := hS.2.2.2.2.2.2.2.1 1
  have hpl : plOf S (spos S 1 k) = k := by rw [show plOf S (spos S 1 k) = snum S (spos S 1 k) from if_neg (by omega), a3]
  have hs0 : stOf (ssrt S (spos S 1 k)) = 0 := by rw [a2]; rfl
  generalize spos S 1 k = q at *
  refine ⟨μ1, _, e1, pX0_describe y3 (by omega) (by omega), pM_arrives hR.1.2.2.2.2.2.2.2.2.2.2.2.2 hC1, fr1, ?_, ?_⟩
  · refine FrW.mS (FrW.mS (FrW.mS (FrW.mS (FrW.mS fr1 ?_) ?_) ?_) ?_) ?_ <;> unfold isW <;> omega
  · generalize hm2 : mS (mS (mS (mS (mS μ1 21 i C x1) 22 i C x2) 23 i C x3) 24 i C x4) 25 i C x5 = μ2
    have fr2 : FrW i μ μ2 := by
      rw [← hm2]
      refine FrW.mS (FrW.mS (FrW.mS (FrW.mS (FrW.mS fr1 ?_) ?_) ?_) ?_) ?_ <;> unfold isW <;> omega
    have ek : ∀ k a z, ¬ (21 ≤ k ∧ k ≤ 25) → μ2.1 k a z = μ1.1 k a z := fun k a z hk => by rw [← hm2, mS_k _ _ _ _ _ _ _ _ (by omega), mS_k _ _ _ _ _ _ _ _ (by omega), mS_k _ _ _ _ _ _ _ _ (by omega), mS_k _ _ _ _ _ _ _ _ (by omega), mS_k _ _ _ _ _ _ _ _ (by omega)]
    have el : ∀ k z, 21 ≤ k → k ≤ 25 → z ≠ C → μ2.1 k i z = μ.1 k i z := fun k z k1 k2 hz => by rw [← hm2, mS_n _ _ _ _ _ _ _ _ hz, mS_n _ _ _ _ _ _ _ _ hz, mS_n _ _ _ _ _ _ _ _ hz, mS_n _ _ _ _ _ _ _ _ hz, mS_n _ _ _ _ _ _ _ _ hz, y8 k z (by omega) (by omega) (by omega) (by omega)]
    have enu : ∀ k z, 68 ≤ k → k ≤ 72 → z ≠ C → (lbN ν C x1 x2 x3 x4 x5).1 k 0 z = ν.1 k 0 z := fun k z k1 k2 hz => by
      unfold lbN
      rw [mS_n _ _ _ _ _ _ _ _ hz, mS_n _ _ _ _ _ _ _ _ hz, mS_n _ _ _ _ _ _ _ _ hz, mS_n _ _ _ _ _ _ _ _ hz, mS_n _ _ _ _ _ _ _ _ hz]
    have hlb : lblR μ2 (lbN ν C x1 x2 x3 x4 x5) i C := by
      have e1 : μ2.1 21 i C = x1 := by rw [← hm2]; simp [mS_1]
      have e2 : μ2.1 22 i C = x2 := by rw [← hm2]; simp [mS_1]
      have e3 : μ2.1 23 i C = x3 := by rw [← hm2]; simp [mS_1]
      have e4 : μ2.1 24 i C = x4 := by rw [← hm2]; simp [mS_1]
      have e5 : μ2.1 25 i C = x5 := by rw [← hm2]; simp [mS_1]
      refine ⟨fun c hc => ?_, by rw [e1]; exact hx1, by rw [e3]; exact hx3⟩
      unfold lbN
      rcases (by omega : c = 0 ∨ c = 1 ∨ c = 2 ∨ c = 3 ∨ c = 4) with rfl | rfl | rfl | rfl | rfl
      · show μ2.1 21 i C = _; rw [e1]; simp [mS_1]
      · show μ2.1 22 i C = _; rw [e2]; simp [mS_1]
      · show μ2.1 23 i C = _; rw [e3]; simp [mS_1]
      · show μ2.1 24 i C = _; rw [e4]; simp [mS_1]
      · show μ2.1 25 i C = _; rw [e5]; simp [mS_1]
    have wn : ∀ z, z ≠ 1 → z ≠ 2 → ¬ (400 + 8 * C ≤ z ∧ z < 408 + 8 * C) → arF w C k z = w z := fun z z1 z2 z3 => by
      unfold arF goesF cpF
      rw [upd_ne _ _ (by omega), upd_ne _ _ (by omega), upd_ne _ _ (by omega), upd_ne _ _ (by omega), upd_ne _ _ (by omega), if_neg (by omega), upd_ne _ _ (by omega)]
    have wz : ∀ a, 3 ≤ a → a ≤ 6 → arF w C k (400 + 8 * C + a) = 0 := fun a h1 h2 => by
      unfold arF goesF cpF
      rw [upd_ne _ _ (by omega), upd_ne _ _ (by omega), upd_ne _ _ (by omega), upd_ne _ _ (by omega), upd_ne _ _ (by omega), if_pos (by omega)]
    have w0 : arF w C k (400 + 8 * C) = 0 := by
      unfold arF goesF
      rw [upd_ne _ _ (by omega), upd_ne _ _ (by omega), upd_ne _ _ (by omega), upd_at]
    have wp : arF w C k (400 + 8 * C + 1) = nI k := by
      unfold arF goesF
      rw [upd_ne _ _ (by omega), upd_ne _ _ (by omega), upd_at]
    have hin2 : upd (cpF (fun _ => 0) (upd w 1 (nI (C + 1))) (400 + 8 * C) 8) (400 + 8 * C + 7) (-2) 2 = w 2 := by
      unfold cpF
      rw [upd_ne _ _ (by omega), if_neg (by omega), upd_ne _ _ (by omega)]
    have hnot : ∀ q', keeps S q' → C ∉ Q q' := fun q' hq' z => by have := (st_que hS hR hq' z).1; omega
    have e2627 : ∀ k z, 26 ≤ k → k ≤ 29 → z ≠ C → μ2.1 k i z = μ.1 k i z := fun k z k1 k2 hz => by
      rw [ek _ _ _ (by omega)]
      by_cases q1 : k = 26
      · subst q1; rw [y4, upd_ne _ _ hz]
      · by_cases q2 : k = 27
        · subst q2; rw [y5, upd_ne _ _ hz]
        · exact y8 k z (by omega) q1 q2 (by omega)
    refine ⟨O + 1, stUp st C 0, quUp Q q (Q q ++ [C]), ?_, fun b hb => ?_⟩
    · refine move_RW hS hR fr2 hB (by omega) (by omega) (by omega) (fun b' hb' hne => by omega) (fun z => by rw [ek _ _ _ (by omega), y8 _ _ (by decide) (by decide) (by decide) (by omega)]) (by rw [ek _ _ _ (by omega)]; exact y3) ?_ (fun k' hk' => ?_) (fun p hp => ?_) (fun p hp r' hr' hne => by rw [wn (90 + p) (by omega) (by omega) (by omega)]) (fun p hp hpr => ?_) ⟨by decide, by rw [ek _ _ _ (by omega), y4, upd_at]; rfl, w0, fun z => by omega, fun z => by omega, fun _ _ _ => ⟨by rw [wp, ek _ _ _ (by omega), y5, upd_at], k, by omega, by rw [ek _ _ _ (by omega), y5, upd_at]⟩, fun _ => ?_, fun _ => ?_, fun z => by omega⟩ e2627 (fun k' z k1 k2 hz => by rw [ek _ _ _ (by omega), y6 k' z k1 k2, upd_ne _ _ hz]) el enu hlb (fun b' c hb' hc => wn _ (by omega) (by omega) (by omega)) (fun k' hk' => wn _ (by omega) (by omega) (by omega)) (fun q' hq' => ?_) ⟨fun p hp => ?_, fun k' hk' => ?_, fun k' hk' => ?_⟩ ?_ ?_
      · unfold arF goesF cpF
        rw [upd_ne _ _ (by omega), upd_ne _ _ (by omega), upd_ne _ _ (by omega), upd_ne _ _ (by omega), upd_ne _ _ (by omega), if_neg (by omega), upd_at]
      · rw [wn _ (by omega) (by omega) (by omega), ek _ _ _ (by omega), y8 _ _ (by decide) (by decide) (by decide) (by omega)]
        exact hR.1.2.2.2.2.2.2.2.2.2.1 k' hk'
      · rw [ek 58 _ _ (by omega), y8 58 _ (by decide) (by decide) (by decide) (by omega), ek 40 _ _ (by omega), y7 40 _ (by decide) (by decide), ek 41 _ _ (by omega), y7 41 _ (by decide) (by decide), ek 42 _ _ (by omega), y7 42 _ (by decide) (by decide), wn (90 + p) (by omega) (by omega) (by omega), wn (150 + p) (by omega) (by omega) (by omega), wn (210 + p) (by omega) (by omega) (by omega), wn (270 + p) (by omega) (by omega) (by omega), wn (330 + p) (by omega) (by omega) (by omega)]
        exact hR.2.1 p hp
      · rw [wn (90 + p) (by omega) (by omega) (by omega)] at hpr
        have := (hR.2.2.1 p hp C hC1 hpr).1
        omega
      · rw [ek 40 _ _ (by omega), ek 41 _ _ (by omega), ek 42 _ _ (by omega), y6 40 _ (by decide) (by decide), y6 41 _ (by decide) (by decide), y6 42 _ (by decide) (by decide), upd_at, upd_at, upd_at]
        exact ⟨Or.inl rfl, wz 3 (by decide) (by decide), ⟨wz 4 (by decide) (by decide), Or.inl rfl⟩, wz 5 (by decide) (by decide)⟩
      · rw [ek 40 _ _ (by omega), ek 41 _ _ (by omega), ek 42 _ _ (by omega), y6 40 _ (by decide) (by decide), y6 41 _ (by decide) (by decide), y6 42 _ (by decide) (by decide), upd_at, upd_at, upd_at]
        exact ⟨rfl, rfl, rfl⟩
      · by_cases e : q' = q
        · subst e
          rw [show quUp Q q' (Q q' ++ [C]) q' = Q q' ++ [C] from if_pos rfl]
          refine ⟨QX_congr (fun k s k1 k2 => ek _ _ _ (by omega)) y1, Or.inr ⟨if_pos rfl, hnot q' hq', ?_⟩⟩
          rw [hs0, hpl]
          exact ⟨w0, wp⟩
        · have eq : quUp Q q (Q q ++ [C]) q' = Q q' := if_neg e
          rw [eq]
          refine ⟨QX_congr (fun k s k1 k2 => ek _ _ _ (by omega)) (y2 q' hq' e), Or.inl ?_⟩
          rw [eq]
          exact ⟨hnot q' hq', List.Sublist.refl _, fun _ z _ => z, in_one hS hkp hq' (by rw [hs0]; exact w0) (by rw [hpl]; exact wp) e⟩
      · rw [ek _ _ _ (by omega), y8 _ _ (by decide) (by decide) (by decide) (by omega), wn (15 + p) (by omega) (by omega) (by omega)]
        exact hR.2.2.2.2.2.2.1.1 p hp
      · have := cnt_two hS
        rw [ek _ _ _ (by omega), y8 _ _ (by decide) (by decide) (by decide) (by omega), wn (79 + k') (by omega) (by omega) (by omega)]
        exact hR.2.2.2.2.2.2.1.2.1 k' hk'
      · have := cnt_two hS
        rw [ek 60 _ _ (by omega), ek 61 _ _ (by omega), y8 60 _ (by decide) (by decide) (by decide) (by omega), y8 61 _ (by decide) (by decide) (by decide) (by omega), wn (75 + k') (by omega) (by omega) (by omega), wn (77 + k') (by omega) (by omega) (by omega)]
        exact hR.2.2.2.2.2.2.1.2.2 k' hk'
      · unfold arF goesF
        rw [upd_ne _ _ (by omega), upd_at]
        exact hin2
      · unfold arF goesF
        rw [upd_at, hin2]
    · have hbC := hGC b hb
      rw [show stUp st C 0 b = st b from if_neg (by omega)]
      exact hG b hb
/-- labels as both take them -/
theorem pX10_isLabel {μ : zM} (x : Int32) : tX10_isLabel_0 x μ = some (some (.inl (zif (x = 0 ∨ ¬ (x < 1000 ∨ (999999 : Int32) < x)) 1 0)), μ) := by
  rw [eX10_isLabel_0, pX10_isWithin, zI_some, eX10_isLabel_17, eX10_isLabel_22, eX10_isLabel_22, zif_pos nar_0, zif_pos nar_1]
  by_cases a : x = 0
  · rw [zif_pos a, zif_pos (Or.inl a)]
  · rw [zif_neg a]
    by_cases b : x < 1000 ∨ (999999 : Int32) < x
    · rw [zif_pos b, zif_pos rfl, zif_neg (fun z => z.elim a (fun y => y b))]
    · rw [zif_neg b, zif_neg one_ne0, zif_pos (Or.inr b)]
theorem pM_isLabel {μ : zM} (x : Int32) : tX11_isLabel_0 x μ = some (some (.inl (zif (x = 0 ∨ ¬ (x < 1000 ∨ (999999 : Int32) < x)) 1 0)), μ) := by
  rw [eX11_isLabel_0, pM_in (a := x) (lo := 1000) (hi := 999999) rfl (by decide) (by decide), zI_some, eX11_isLabel_18, eX11_isLabel_23, eX11_isLabel_23, zif_pos nar_0, zif_pos nar_1]
  by_cases a : x = 0
  · rw [zif_pos a, zif_pos (Or.inl a)]
  · rw [zif_neg a]
    by_cases b : x < 1000 ∨ (999999 : Int32) < x
    · rw [zif_pos b, zif_pos rfl, zif_neg (fun z => z.elim a (fun y => y b))]
    · rw [zif_neg b, zif_neg one_ne0, zif_pos (Or.inr b)]
theorem isL_lb {x : Int32} (h : x = 0 ∨ ¬ (x < 1000 ∨ (999999 : Int32) < x)) : isLb x := by
  rcases h with h | h
  · exact Or.inl h
  · obtain ⟨s, s1, s2, s3⟩ := rng_of (a := 1000) (b := 999999) rfl rfl (by decide) (by decide) h
    exact Or.inr (Or.inr ⟨s, s1, s2, s3⟩)
theorem a_checkIn {μ : zM} {c : Nat} (h : REL μ c) (hc : c ≤ 600) (x x1 x2 x3 x4 x5 : Int32) : CALL (tX10_checkIn_0 x x1 x2 x3 x4 x5) (tX11_checkIn_0 x x1 x2 x3 x4 x5) μ (c + 1) := by
  obtain ⟨j, S, D, lim, t, hd, C, now, nx, cn, Cf, h1, h2, h3, h4, h5, h6, h7, h8⟩ := h.all
  have h4' := h4
  obtain ⟨O, st, Q, hR, -⟩ := h4'
  have hn6 := h3.1.2.1
  have hC := hR.1.2.2.2.2.2.2.2.2.2.2.1
  have hC1 := hR.1.2.2.2.2.2.2.2.2.2.2.2.1
  have hC2 := hR.1.2.2.2.2.2.2.2.2.2.2.2.2
  obtain ⟨a1, a2, a3⟩ := cnt_X h3 (s := 1) (by decide) (by decide)
  rcases ix_of x (n := scnt S 1) (by omega) with ⟨k, hk, rfl⟩ | hx
  · obtain ⟨p1, -, -⟩ := h3.1.2.2.2.2.2.2.2.2.1 1 k (by decide) (by decide) hk
    have eX0 : tX10_checkIn_0 (nI k) x1 x2 x3 x4 x5 μ = tX10_checkIn_11 x1 x2 x3 x4 x5 (nI (spos S 1 k)) μ := by
      rw [eX10_checkIn_0, h1.1, zif_pos h1.2.1, pX5_place_yes (y := 1) h3 rfl (by decide) (by decide) rfl hk, zI_some]
    have eM0 : ∀ μ1, keepM μ μ1 → tX11_checkIn_0 (nI k) x1 x2 x3 x4 x5 μ1 = zif (zif (x1 = 0 ∨ ¬ (x1 < 1000 ∨ (999999 : Int32) < x1)) (1 : Int32) 0 = 0) (some (some (.inl (-1)), μ1)) (zif (zif (x3 = 0 ∨ ¬ (x3 < 1000 ∨ (999999 : Int32) < x3)) (1 : Int32) 0 = 0) (some (some (.inl (-1)), μ1)) (zif (zif (x2 < 0 ∨ (15 : Int32) < x2) (0 : Int32) 1 = 0) (some (some (.inl (-1)), μ1)) (zif (zif (x4 < 0 ∨ (15 : Int32) < x4) (0 : Int32) 1 = 0) (some (some (.inl (-1)), μ1)) (zif (zif (x5 < 0 ∨ (3 : Int32) < x5) (0 : Int32) 1 = 0) (some (some (.inl (-1)), μ1)) (zif (nI C = 100) (some (some (.inl (-2)), μ1)) (zU (tX11_keeps_0 μ1) fun μ14 => zI (tX11_arrives_0 (nI k) x1 x2 x3 x4 x5 μ14) fun v16 μ15 => some (some (.inl v16), μ15))))))) := fun μ1 hm => by
      have hm63 : μ1.1 63 0 (10 + 1) = nI (scnt S 1) := by rw [hm _ _ _ (by omega)]; exact a2
      have hm65 : μ1.1 65 0 1 = nI C := by rw [hm _ _ _ (by omega)]; exact hC2
      rw [eX11_checkIn_0, pM_isDevice (y := 1) rfl (by decide) hm63 (by omega), zI_some, ok_yes hk (by omega), zif_neg one_ne0, pM_isLabel, zI_some, pM_isLabel, zI_some, pM_in (a := x2) (lo := 0) (hi := 15) rfl (by decide) (by decide), zI_some, pM_in (a := x4) (lo := 0) (hi := 15) rfl (by decide) (by decide), zI_some, pM_in (a := x5) (lo := 0) (hi := 3) rfl (by decide) (by decide), zI_some, qI_in (x := 1) (p := 1) (zS_65 0) rfl (by decide) (by decide), Option.bind_some, hm65, eX11_checkIn_62]
    have eX1 : tX10_checkIn_0 (nI k) x1 x2 x3 x4 x5 μ = zif (zif (x1 = 0 ∨ ¬ (x1 < 1000 ∨ (999999 : Int32) < x1)) (1 : Int32) 0 = 0) (some (some (.inl (-1)), μ)) (zif (zif (x3 = 0 ∨ ¬ (x3 < 1000 ∨ (999999 : Int32) < x3)) (1 : Int32) 0 = 0) (some (some (.inl (-1)), μ)) (zif (zif (x2 < 0 ∨ (15 : Int32) < x2) (0 : Int32) 1 = 0) (some (some (.inl (-1)), μ)) (zif (zif (x4 < 0 ∨ (15 : Int32) < x4) (0 : Int32) 1 = 0) (some (some (.inl (-1)), μ)) (zif (zif (x5 < 0 ∨ (3 : Int32) < x5) (0 : Int32) 1 = 0) (some (some (.inl (-1)), μ)) (zif (nI C < 100) (zU (tX2_save_0 0 μ) fun μ11 => zI (tX9_addBag_0 0 (nI (spos S 1 k)) μ11) fun v13 μ12 => tX10_checkIn_107 x1 x2 x3 x4 x5 v13 μ12) (some (some (.inl (-2)), μ))))))) := by
      rw [eX0, eX10_checkIn_11, zif_neg (show ¬ nI (spos S 1 k) = -1 from fX_neg (by omega)), pX10_isLabel, zI_some, pX10_isLabel, zI_some, pX10_isWithin, zI_some, pX10_isWithin, zI_some, pX10_isWithin, zI_some, hC1, eX10_checkIn_32, eX10_checkIn_65]
    by_cases q1 : x1 = 0 ∨ ¬ (x1 < 1000 ∨ (999999 : Int32) < x1)
    · by_cases q2 : x3 = 0 ∨ ¬ (x3 < 1000 ∨ (999999 : Int32) < x3)
      · by_cases q3 : x2 < 0 ∨ (15 : Int32) < x2
        · exact CALL.ask h (v := -1) (by rw [eX1, zif_pos q1, zif_neg one_ne0, zif_pos q2, zif_neg one_ne0, zif_pos q3, zif_pos rfl]) (by rw [eM0 μ (fun _ _ _ _ => rfl), zif_pos q1, zif_neg one_ne0, zif_pos q2, zif_neg one_ne0, zif_pos q3, zif_pos rfl])
        · by_cases q4 : x4 < 0 ∨ (15 : Int32) < x4
          · exact CALL.ask h (v := -1) (by rw [eX1, zif_pos q1, zif_neg one_ne0, zif_pos q2, zif_neg one_ne0, zif_neg q3, zif_neg one_ne0, zif_pos q4, zif_pos rfl]) (by rw [eM0 μ (fun _ _ _ _ => rfl), zif_pos q1, zif_neg one_ne0, zif_pos q2, zif_neg one_ne0, zif_neg q3, zif_neg one_ne0, zif_pos q4, zif_pos rfl])
          · by_cases q5 : x5 < 0 ∨ (3 : Int32) < x5
            · exact CALL.ask h (v := -1) (by rw [eX1, zif_pos q1, zif_neg one_ne0, zif_pos q2, zif_neg one_ne0, zif_neg q3, zif_neg one_ne0, zif_neg q4, zif_neg one_ne0, zif_pos q5, zif_pos rfl]) (by rw [eM0 μ (fun _ _ _ _ => rfl), zif_pos q1, zif_neg one_ne0, zif_pos q2, zif_neg one_ne0, zif_neg q3, zif_neg one_ne0, zif_neg q4, zif_neg one_ne0, zif_pos q5, zif_pos rfl])
            · rw [zif_pos q1, zif_neg one_ne0, zif_pos q2, zif_neg one_ne0, zif_neg q3, zif_neg one_ne0, zif_neg q4, zif_neg one_ne0, zif_neg q5, zif_neg one_ne0] at eX1
              have eM1 : ∀ μ1, keepM μ μ1 → tX11_checkIn_0 (nI k) x1 x2 x3 x4 x5 μ1 = zif (nI C = 100) (some (some (.inl (-2)), μ1)) (zU (tX11_keeps_0 μ1) fun μ14 => zI (tX11_arrives_0 (nI k) x1 x2 x3 x4 x5 μ14) fun v16 μ15 => some (some (.inl v16), μ15)) := fun μ1 hm => by
                rw [eM0 μ1 hm, zif_pos q1, zif_neg one_ne0, zif_pos q2, zif_neg one_ne0, zif_neg q3, zif_neg one_ne0, zif_neg q4, zif_neg one_ne0, zif_neg q5, zif_neg one_ne0]
              by_cases q6 : C < 100
              · refine op_call2 (FX := fun m => zI (tX9_addBag_0 0 (nI (spos S 1 k)) m) fun v13 μ12 => tX10_checkIn_107 x1 x2 x3 x4 x5 v13 μ12) (FM := fun m => zI (tX11_arrives_0 (nI k) x1 x2 x3 x4 x5 m) fun v16 μ15 => some (some (.inl v16), μ15)) h1 h3 h2 h4 h5 h6 h7 h8 (fun μ1 ν hE hj hR1 => ?_) ?_ (fun μ1 hm => ?_)
                · obtain ⟨μa, μb, e1, e2, e3, f1, f2, f3⟩ := arrive_pair (x2 := x2) (x4 := x4) (x5 := x5) hE hR1 (fun _ z => z.elim) (by omega) q6 hk (isL_lb q1) (isL_lb q2)
                  refine ⟨nI C, μb, _, _, t, hd, C + 1, now, ?_, ?_, f2, f3.up (by omega), by omega, h2, rfl, fun k i z hn => ?_⟩
                  · rw [e1, zI_some, eX10_checkIn_107, e2, zU_some]
                  · rw [e3, zI_some]
                  · unfold lbN
                    rw [mS_1, if_neg (by omega), mS_1, if_neg (by omega), mS_1, if_neg (by omega), mS_1, if_neg (by omega), mS_1, if_neg (by omega)]
                · rw [eX1, zif_pos (show nI C < 100 from nI_lt (b := 100) q6 (by decide))]
                · rw [eM1 μ1 hm, zif_neg (show ¬ nI C = 100 from nI_ne (b := 100) (by omega) (by decide) (by omega))]
              · exact CALL.ask h (v := -2) (by rw [eX1, zif_neg (show ¬ nI C < 100 from nI_nlt (b := 100) (by omega) (by omega))]) (by rw [eM1 μ (fun _ _ _ _ => rfl), zif_pos (show nI C = 100 by rw [show C = 100 by omega]; rfl)])
      · exact CALL.ask h (v := -1) (by rw [eX1, zif_pos q1, zif_neg one_ne0, zif_neg q2, zif_pos rfl]) (by rw [eM0 μ (fun _ _ _ _ => rfl), zif_pos q1, zif_neg one_ne0, zif_neg q2, zif_pos rfl])
    · exact CALL.ask h (v := -1) (by rw [eX1, zif_neg q1, zif_pos rfl]) (by rw [eM0 μ (fun _ _ _ _ => rfl), zif_neg q1, zif_pos rfl])
  · refine CALL.ask h (v := -1) ?_ ?_
    · rw [eX10_checkIn_0, h1.1, zif_pos h1.2.1, pX5_place_no (y := 1) h3 rfl (by decide) (by decide) hx, zI_some, eX10_checkIn_11, zif_pos rfl, eX10_checkIn_32]
    · rw [eX11_checkIn_0, pM_isDevice (y := 1) rfl (by decide) a2 (by omega), zI_some, ok_no hx, zif_pos rfl, eX11_checkIn_62]
