/-! ===== stations and screens: both sides ===== -/
theorem zS_60 (i : Nat) : zS 60 i = .inr (0, 60, (0, 0)) := rfl
theorem zS_61 (i : Nat) : zS 61 i = .inr (0, 60, (0, 0)) := rfl
theorem zS_53 (i : Nat) : zS 53 i = .inr (0, 60, (0, 0)) := rfl
theorem zS_25 (i : Nat) : zS 25 i = .inr (0, 100, (0, 0)) := rfl
theorem zS_72 (i : Nat) : zS 72 i = .inr (0, 100, (0, 0)) := rfl
theorem upd_upd (f : Nat → Int32) (k : Nat) (a b : Int32) : upd (upd f k a) k b = upd f k b := by
  funext x
  unfold upd
  split <;> rfl
theorem mS_mS (μ : zM) (k i n : Nat) (a b : Int32) : mS (mS μ k i n a) k i n b = mS μ k i n b := by
  refine Prod.ext ?_ rfl
  funext x y z
  rw [mS_1, mS_1, mS_1]
  split <;> rfl
theorem dev_ex {μ ν : zM} {j : Nat} {S : zSt} {D : zDv} {lim : Int32} (hE : ENV μ ν j S D lim) {s k : Nat} (h4 : 4 ≤ s) (h6 : s ≤ 6) (hk : k < scnt S s) :
    spos S s k < sn S ∧ ssrt S (spos S s k) = s ∧ snum S (spos S s k) = k ∧ keeps S (spos S s k) ∧ plOf S (spos S s k) = k ∧ k < 6 ∧ μ.1 47 j (spos S s k) = nI (D s k 5) ∧ keeps S (D s k 5) ∧ ssrt S (D s k 5) = 7 ∧ ∃ d, d < 18 ∧ ν.1 63 0 (340 + 6 * s + k) = nI d ∧ ν.1 63 0 (140 + 8 * d + 7) = nI (D s k 5) ∧
      (s = 4 → ∀ l, 1 ≤ l → l ≤ 3 → μ.1 53 (4 * j + l) (spos S s k) = nI (D s k (1 + l)) ∧ ν.1 63 0 (140 + 8 * d + (3 + l)) = nI (D s k (1 + l))) ∧ (s = 6 → μ.1 53 (4 * j + 1) (spos S s k) = nI (D s k 2) ∧ ν.1 63 0 (140 + 8 * d + 4) = nI (D s k 2)) := by
  have hS := hE.1
  obtain ⟨a1, a2, a3⟩ := hS.2.2.2.2.2.2.2.2.1 s k (by omega) h6 hk
  obtain ⟨b1, b2, b3, b4, b5⟩ := hE.2.2.1.2.2.2.2.2.2.2.2 s k (by omega) h6 hk
  obtain ⟨c1, c2, c3, c4, c5, c6, c7⟩ := hE.2.1 s k (by omega) h6 hk
  obtain ⟨dv, hdv⟩ := hE.2.2.2.2.1.2.2.2.2.2.2
  obtain ⟨g1, g2, g3, g4, g5, g6⟩ := hdv s k (by omega) h6 hk
  have c8 := c7 h4
  have := hS.2.2.2.2.2.2.2.1 s
  refine ⟨a1, a2, a3, ⟨a1, by omega, by omega⟩, ?_, by omega, b5 h4, ⟨c8.1, by omega, by omega⟩, c8.2, dv s k, g1, g2, g6 h4, fun e l l1 l3 => ⟨b3 e l l1 l3, by rw [← Nat.add_assoc]; exact g4 e l l1 l3⟩, fun e => ⟨b4 e, g5 e⟩⟩
  rw [show plOf S (spos S s k) = snum S (spos S s k) from if_neg (by omega), a3]
theorem pX9_setAside {μ : zM} {i b : Nat} (hb : b < 100) : tX9_setAside_0 i (nI b) μ = some (none, mS (mS (mS (mS μ 26 i b 8) 27 i b (-1)) 40 (2 * i + 1) b (-2)) 57 i 5 (μ.1 57 i 5 + 1)) := by
  rw [eX9_setAside_0, pX0_put rfl hb, zU_some, pX4_removeH hb, zU_some, qI_in (x := 5) (p := 5) (zS_57 i) rfl (by decide) (by decide), Option.bind_some, wI_in (x := 5) (p := 5) (zS_57 i) rfl (by decide) (by decide), Option.bind_some, mS_k _ _ _ _ _ _ _ _ (by decide), mS_k _ _ _ _ _ _ _ _ (by decide), mS_k _ _ _ _ _ _ _ _ (by decide)]
/-- the first bag of a queue goes aside, or is seized -/
theorem drop_first {G : Nat → Prop} {μ μ8 ν : zM} {i j : Nat} {S : zSt} {w : Nat → Int32} {B t hd C now O : Nat} {st : Nat → Nat} {Q : Nat → List Nat} {q b s1 c1 : Nat} {l : List Nat} (hS : okS S) (h : RW μ ν i j S w B t hd C now O st Q) (hB : B < 1000000000) (hk : keeps S q) (hQ : Q q = b :: l) (hs1 : s1 = 8 ∨ s1 = 9) (hc1 : c1 < 8)
    (fr8 : FrQ i μ μ8) (z1 : QX μ8 i q l) (z2 : ∀ q' l', q' ≠ q → QX μ i q' l' → QX μ8 i q' l') (hG : ∀ b, G b → st b = 8 ∨ st b = 9) :
    RQ (mS (mS (mS (mS μ8 26 i b (nI s1)) 27 i b (-1)) 40 (2 * i + 1) b (-2)) 57 i c1 (μ8.1 57 i c1 + 1)) ν i j S (cntF (goesF w b (nI s1) (-2)) c1) (B + 1) t hd C now G ∧ FrW i μ (mS (mS (mS (mS μ8 26 i b (nI s1)) 27 i b (-1)) 40 (2 * i + 1) b (-2)) 57 i c1 (μ8.1 57 i c1 + 1)) := by
  have e8r : ∀ k a z, ¬ (36 ≤ k ∧ k ≤ 39) → μ8.1 k a z = μ.1 k a z := fun k a z hk => fr8.2 k a z (fun h => hk ⟨h.1, h.2.1⟩)
  have hc7 := h.1.2.2.2.2.2.2.2.2.2.1
  have hstq := (st_que hS h hk (a := b) (by rw [hQ]; exact List.mem_cons_self)).2
  have hst7 := stOf_le hS q
  have hfr : FrW i μ (mS (mS (mS (mS μ8 26 i b (nI s1)) 27 i b (-1)) 40 (2 * i + 1) b (-2)) 57 i c1 (μ8.1 57 i c1 + 1)) := by
    refine FrW.mS (FrW.mS (FrW.mS (FrW.mS (FrW.ofQ fr8) ?_) ?_) ?_) ?_ <;> unfold isW <;> omega
  refine ⟨⟨O + 1, _, _, gone_RW hS h hB hk hQ hs1 hfr (fun k z hk => ?_) (fun k z a c => ?_) (fun k hk => ?_) ?_ (fun k z a c hz => ?_) (fun k z a c hz => ?_) (fun x x1 x2 x3 => ?_) ?_ ?_ ?_ ?_ ?_ (fun q' hq' hne => ?_), gone_up hG (by omega) (by omega)⟩, hfr⟩
  · rw [mS_k _ _ _ _ _ _ _ _ (by omega), mS_k _ _ _ _ _ _ _ _ (by omega), mS_k _ _ _ _ _ _ _ _ (by omega), mS_k _ _ _ _ _ _ _ _ (by omega), e8r _ _ _ (by omega)]
  · rw [mS_k _ _ _ _ _ _ _ _ (by omega), mS_i _ _ _ _ _ _ _ _ (by omega), mS_k _ _ _ _ _ _ _ _ (by omega), mS_k _ _ _ _ _ _ _ _ (by omega), e8r _ _ _ (by omega)]
  · by_cases e : k = c1
    · subst e
      rw [mS_same, e8r _ _ _ (by omega), ← hc7 k hk]
      unfold cntF goesF
      repeat (first | rw [upd_at] | rw [upd_ne _ _ (by omega)])
    · rw [mS_n _ _ _ _ _ _ _ _ e, mS_k _ _ _ _ _ _ _ _ (by decide), mS_k _ _ _ _ _ _ _ _ (by decide), mS_k _ _ _ _ _ _ _ _ (by decide), e8r _ _ _ (by omega), ← hc7 k hk]
      unfold cntF goesF
      repeat (first | rw [upd_at] | rw [upd_ne _ _ (by omega)])
  · rw [mS_k _ _ _ _ _ _ _ _ (by decide), mS_k _ _ _ _ _ _ _ _ (by decide), mS_k _ _ _ _ _ _ _ _ (by decide), mS_same]
  · rw [mS_k _ _ _ _ _ _ _ _ (by omega), mS_k _ _ _ _ _ _ _ _ (by omega), mS_n _ _ _ _ _ _ _ _ hz, mS_n _ _ _ _ _ _ _ _ hz, e8r _ _ _ (by omega)]
  · rw [mS_k _ _ _ _ _ _ _ _ (by omega), mS_n _ _ _ _ _ _ _ _ hz, mS_n _ _ _ _ _ _ _ _ hz, mS_n _ _ _ _ _ _ _ _ hz, e8r _ _ _ (by omega)]
  · unfold cntF goesF
    repeat (first | rw [upd_at] | rw [upd_ne _ _ (by omega)])
  · unfold cntF goesF
    repeat (first | rw [upd_at] | rw [upd_ne _ _ (by omega)])
  · unfold cntF goesF
    repeat (first | rw [upd_at] | rw [upd_ne _ _ (by omega)])
  · unfold cntF goesF
    repeat (first | rw [upd_at] | rw [upd_ne _ _ (by omega)])
  · unfold cntF goesF
    repeat (first | rw [upd_at] | rw [upd_ne _ _ (by omega)])
  · exact QX_congr (fun k z k1 k2 => by rw [mS_k _ _ _ _ _ _ _ _ (by omega), mS_k _ _ _ _ _ _ _ _ (by omega), mS_k _ _ _ _ _ _ _ _ (by omega), mS_k _ _ _ _ _ _ _ _ (by omega)]) z1
  · exact QX_congr (fun k z k1 k2 => by rw [mS_k _ _ _ _ _ _ _ _ (by omega), mS_k _ _ _ _ _ _ _ _ (by omega), mS_k _ _ _ _ _ _ _ _ (by omega), mS_k _ _ _ _ _ _ _ _ (by omega)]) (z2 q' _ hne (h.2.2.2.2.2.1 q' hq').1)
/-- a bag of a queue, its record written anew, goes to an exit -/
theorem send_bag {G : Nat → Prop} {μ μ8 μ9 ν : zM} {i j : Nat} {S : zSt} {w w9 : Nat → Int32} {B t hd C now O : Nat} {st : Nat → Nat} {Q : Nat → List Nat} {q b e : Nat} {l : List Nat} (hS : okS S) (h : RW μ ν i j S w B t hd C now O st Q) (hB : B < 1000000000) (hk : keeps S q) (hb : b ∈ Q q) (hq7 : ssrt S q ≠ 7) (he : keeps S e) (he7 : ssrt S e = 7) (hj : μ.2.1 9 i 0 = j) (hj2 : j < 2) (h47 : μ.1 47 j q = nI e)
    (fr8 : FrQ i μ μ8) (z1 : QX μ8 i q l) (z2 : ∀ q', keeps S q' → q' ≠ q → QX μ8 i q' (Q q')) (fr9 : FrW i μ8 μ9) (y1 : ∀ k a z, ¬ (40 ≤ k ∧ k ≤ 42) → μ9.1 k a z = μ8.1 k a z) (y2 : ∀ k z, 40 ≤ k → k ≤ 42 → μ9.1 k (2 * i) z = μ8.1 k (2 * i) z) (y3 : ∀ k z, 40 ≤ k → k ≤ 42 → z ≠ b → μ9.1 k (2 * i + 1) z = μ8.1 k (2 * i + 1) z)
    (hl : isLb (μ9.1 40 (2 * i + 1) b)) (w3 : w9 (400 + 8 * b + 3) = μ9.1 40 (2 * i + 1) b) (w4 : w9 (400 + 8 * b + 4) = μ9.1 42 (2 * i + 1) b) (h01 : is01 (μ9.1 42 (2 * i + 1) b)) (w5 : w9 (400 + 8 * b + 5) = μ9.1 41 (2 * i + 1) b) (w90 : ∀ x, ¬ (400 + 8 * b + 3 ≤ x ∧ x ≤ 400 + 8 * b + 5) → w9 x = w x)
    (hbl : b ∉ l) (hsub : l.Sublist (Q q)) (hl2 : ∀ b', b' ∈ Q q → b' ≠ b → b' ∈ l) (hG : ∀ b, G b → st b = 8 ∨ st b = 9) :
    ∃ μ', tX9_sendToExit_0 i (nI q) (nI b) μ9 = some (none, μ') ∧ FrW i μ μ' ∧ RQ μ' ν i j S (goesF w9 b 7 (nI e)) (B + 1) t hd C now G := by
  have hn6 := hS.2.1
  have hb1 := (st_que hS h hk hb).1
  have hstq := (st_que hS h hk hb).2
  have hst7 := stOf_le hS q
  have hC := h.1.2.2.2.2.2.2.2.2.2.2.1
  have heq : e ≠ q := fun z => hq7 (by rw [← z]; exact he7)
  have e8r : ∀ k a z, ¬ (36 ≤ k ∧ k ≤ 39) → μ8.1 k a z = μ.1 k a z := fun k a z hk => fr8.2 k a z (fun h => hk ⟨h.1, h.2.1⟩)
  have hqe := z2 e he heq
  have hbe : b ∉ Q e := fun z => que_disj hS h hk he heq b z hb
  have hlen := RQ_bound h he
  have hqn := hk.1
  have hen := he.1
  obtain ⟨μ', e1, fr', u1, u2, u3, u4, u5⟩ := pX9_sendToExit (μ := μ9) (i := i) (j := j) (q := q) (e := e) (b := b) (l := Q e) (by rw [fr9.1, fr8.1]; exact hj) hj2 (by rw [y1 _ _ _ (by omega), e8r _ _ _ (by omega)]; exact h47) (by omega) (by omega) (by omega) (QX_congr (fun k z k1 k2 => y1 _ _ _ (by omega)) hqe) hbe (by omega)
  have frA : FrW i μ μ' := (FrW.ofQ fr8).tr (fr9.tr fr')
  refine ⟨μ', e1, frA, O + 1, _, _, exit_RW hS h hB hk hb hq7 he he7 frA (fun k z hk => ?_) (fun k z a c => ?_) (fun k hk => ?_) ?_ ?_ (fun k z a c hz => ?_) (fun k z a c hz => ?_) (fun x x1 x2 x3 => ?_) ?_ ?_ ?_ ?_ ?_ ?_ ?_ (by rw [u3 _ _ _ (by omega) (by omega) (by omega)]; exact h01) ?_ hbl hsub hl2 ?_ ?_ (fun q' hq' n1 n2 => ?_), gone_up hG (by omega) (by omega)⟩
  · rw [u3 _ _ _ (by omega) (by omega) (by omega), y1 _ _ _ (by omega), e8r _ _ _ (by omega)]
  · rw [u3 _ _ _ (by omega) (by omega) (by omega), y2 k z a c, e8r _ _ _ (by omega)]
  · rw [u3 _ _ _ (by omega) (by omega) (by omega), y1 _ _ _ (by omega), e8r _ _ _ (by omega), ← h.1.2.2.2.2.2.2.2.2.2.1 k hk]
    unfold goesF
    rw [upd_ne _ _ (by omega), upd_ne _ _ (by omega), upd_ne _ _ (by omega), upd_ne _ _ (by omega), w90 _ (by omega)]
  · rw [u4, upd_at]; rfl
  · rw [u5, upd_at]
  · by_cases e26 : k = 26
    · subst e26
      rw [u4, upd_ne _ _ hz, y1 _ _ _ (by omega), e8r _ _ _ (by omega)]
    · by_cases e27 : k = 27
      · subst e27
        rw [u5, upd_ne _ _ hz, y1 _ _ _ (by omega), e8r _ _ _ (by omega)]
      · rw [u3 _ _ _ (by omega) e26 e27, y1 _ _ _ (by omega), e8r _ _ _ (by omega)]
  · rw [u3 _ _ _ (by omega) (by omega) (by omega), y3 k z a c hz, e8r _ _ _ (by omega)]
  · unfold goesF
    rw [upd_ne _ _ (by omega), upd_ne _ _ (by omega), upd_ne _ _ (by omega), upd_ne _ _ (by omega), w90 _ (by omega)]
  · unfold goesF
    rw [upd_ne _ _ (by omega), upd_ne _ _ (by omega), upd_ne _ _ (by omega), upd_at]; rfl
  · unfold goesF
    rw [upd_ne _ _ (by omega), upd_ne _ _ (by omega), upd_at]
  · unfold goesF
    rw [upd_ne _ _ (by omega), upd_at, w90 _ (by omega)]
  · unfold goesF
    rw [upd_at, w90 _ (by omega)]
  · rw [u3 _ _ _ (by omega) (by omega) (by omega)]; exact hl
  · rw [u3 _ _ _ (by omega) (by omega) (by omega), ← w3]
    unfold goesF
    rw [upd_ne _ _ (by omega), upd_ne _ _ (by omega), upd_ne _ _ (by omega), upd_ne _ _ (by omega)]
  · rw [u3 _ _ _ (by omega) (by omega) (by omega), ← w4]
    unfold goesF
    rw [upd_ne _ _ (by omega), upd_ne _ _ (by omega), upd_ne _ _ (by omega), upd_ne _ _ (by omega)]
  · rw [u3 _ _ _ (by omega) (by omega) (by omega), ← w5]
    unfold goesF
    rw [upd_ne _ _ (by omega), upd_ne _ _ (by omega), upd_ne _ _ (by omega), upd_ne _ _ (by omega)]
  · exact u2 q l (Ne.symm heq) (QX_congr (fun k z k1 k2 => y1 _ _ _ (by omega)) z1) (fun a ha => ⟨que_disj hS h he hk (Ne.symm heq) a (hsub.subset ha), fun z => hbl (by rw [← z]; exact ha)⟩)
  · exact u1
  · exact u2 q' _ n2 (QX_congr (fun k z k1 k2 => y1 _ _ _ (by omega)) (z2 q' hq' n1)) (fun a ha => ⟨que_disj hS h he hq' n2 a ha, fun z => que_disj hS h hk hq' n1 b (by rw [← z]; exact ha) hb⟩)
theorem lbUse_ne0 {T : Nat → Nat → Int32} {F : Nat} {now a b x : Int32} (hT : FlT F T) (ha : isLb a) (hb : isLb b) (h : lbUse T F now a b = some x) : ¬ x = 0 := by
  have hz : ¬ lbGood T F now 0 := lbGood_none (flOf_0 hT)
  intro e
  subst e
  unfold lbUse at h
  by_cases e : lbGood T F now a
  · rw [zif_pos e] at h; cases h; exact hz e
  · rw [zif_neg e] at h
    by_cases e2 : lbGood T F now b
    · rw [zif_pos e2] at h; cases h; exact hz e2
    · rw [zif_neg e2] at h; cases h
set_option maxHeartbeats 2000000 in
theorem station_pair {μ ν : zM} {i j : Nat} {S : zSt} {D : zDv} {lim : Int32} {w : Nat → Int32} {B t hd C now k : Nat} (hE : ENV μ ν j S D lim) {G : Nat → Prop} (h : RQ μ ν i j S w B t hd C now G) (hB : B < 1000000000) (hk : k < scnt S 6) :
    Pair (tX9_workStation_0 i (nI (spos S 6 k))) (tX11_stationWorks_0 (nI k)) μ ν i j S w (B + 1) t hd C now G := by
  obtain ⟨O, st, Q, h, hG⟩ := h
  have hS := hE.1
  have hn6 := hS.2.1
  obtain ⟨p1, p2, p3, p4, p5, p6, p7, p8, p9, d, gd, g1, g2, -, g4⟩ := dev_ex hE (s := 6) (by decide) (by decide) hk
  obtain ⟨t1, t2⟩ := g4 rfl
  have hj := h.1.1
  have hj2 := hE.2.2.1.1
  have hC13 := h.1.2.2.2.2.2.2.2.2.2.2.2.2
  have hC11 := h.1.2.2.2.2.2.2.2.2.2.2.1
  obtain ⟨qa, qb, qc⟩ := h.2.2.2.2.2.1 _ p4
  have hlen := RQ_bound h p4
  have hv := h.2.2.2.2.2.2.1.2.1 k hk
  have hA := work6_RW hS h hk (w (79 + k) + 1)
  have hA2 := work6_RW hS hA hk 0
  obtain ⟨c4, c5, c6⟩ := cnt_two hS
  generalize hq : spos S 6 k = q at *
  unfold Pair
  rw [eX9_workStation_0, qI_in (zS_36 i) rfl (show q < 60 by omega) (by decide), Option.bind_some, qa.1, eX9_workStation_10, eX11_stationWorks_0, pM_firstInW (x := 6) (l := Q q) hC13 hC11 _ qc (fun b => by rw [qb b, p2, p5]; rfl), zI_some, eX11_stationWorks_8]
  cases hQ : Q q with
  | nil =>
    rw [show oI ([] : List Nat).head? = -1 from rfl, zif_pos m1_lt, show oN (-2) id ([] : List Nat).head? = -2 from rfl, zif_pos m2_lt]
    exact ⟨μ, w, rfl, rfl, FrW.rf, h.rq (by omega) hG⟩
  | cons b l =>
    have hbQ : b ∈ Q q := by rw [hQ]; exact List.mem_cons_self
    obtain ⟨hbC, hstb⟩ := st_que hS h p4 hbQ
    have hb : b < 100 := by omega
    rw [hQ] at qa hlen
    rw [show oI (b :: l).head? = nI b from rfl, show oN (-2) id (b :: l).head? = nI b from rfl, zif_neg (nI_pos (by omega)), zif_neg (nI_pos (by omega)), qI_in (zS_60 i) rfl (show q < 60 by omega) (by decide), Option.bind_some, wI_in (zS_60 i) rfl (show q < 60 by omega) (by decide), Option.bind_some, qI_in (zS_60 i) rfl (show q < 60 by omega) (by decide), Option.bind_some, mS_same, mS_2, hj, zif_pos hj2, qX_in (N := 4) (x := 1) (p := 1) rfl (by decide) (by decide), Option.bind_some, qI_in (zS_53 _) rfl (show q < 60 by omega) (by decide), Option.bind_some, mS_k _ _ _ _ _ _ _ _ (by decide), t1, hv, qW (a79 rfl) (by omega), Option.bind_some, wW (a79 rfl) (by omega), Option.bind_some, qW (a79 rfl) (by omega), Option.bind_some, upd_at, pM_ofDevice (x := 6) (z := 4) (s := 6) (k := k) (c := 4) (d := d) rfl rfl rfl (by decide) (by omega) (by decide) gd g1 t2, zI_some]
    by_cases hlt : w (79 + k) + 1 < nI (D 6 k 2)
    · rw [zif_pos hlt, zif_pos hlt]
      exact ⟨_, _, rfl, rfl, FrW.mS FrW.rf (by unfold isW; omega), hA.rq (by omega) hG⟩
    · rw [zif_neg hlt, zif_neg hlt, wI_in (zS_60 i) rfl (show q < 60 by omega) (by decide), Option.bind_some, wW (a79 rfl) (by omega), Option.bind_some]
      have fr7 : FrW i μ (mS (mS μ 60 i q (w (79 + k) + 1)) 60 i q 0) := by
        refine FrW.mS (FrW.mS FrW.rf ?_) ?_ <;> unfold isW <;> omega
      generalize mS (mS μ 60 i q (w (79 + k) + 1)) 60 i q 0 = μ7 at hA2 fr7 ⊢
      generalize upd (upd w (79 + k) (w (79 + k) + 1)) (79 + k) 0 = w7 at hA2 ⊢
      have hE7 := hE.fr fr7
      have qa7 := (hA2.2.2.2.2.2.1 _ p4).1
      rw [hQ] at qa7
      obtain ⟨μ8, e8, fr8, z1, z2⟩ := pX3_takeFirst_some qa7 (x := nI q) rfl (by omega) (by simp at hlen; omega)
      have hE8 := hE7.fr (FrW.ofQ fr8)
      have e8r : ∀ k a z, ¬ (36 ≤ k ∧ k ≤ 39) → μ8.1 k a z = μ7.1 k a z := fun k a z hk => fr8.2 k a z (fun h => hk ⟨h.1, h.2.1⟩)
      have hj7 : μ7.2.1 9 i 0 = j := hA2.1.1
      have hj8 : μ8.2.1 9 i 0 = j := by rw [fr8.1]; exact hj7
      have hlb := hA2.2.2.2.2.1 b hbC
      have l1 := hlb.1 0 (by decide)
      have l3 := hlb.1 2 (by decide)
      rw [e8, zI_some, pX9_usableLabel hj8 hj2 hE8.2.2.1.2.2.2.2.1 rfl hb, zI_some, pM_properOfW hE.2.2.2.2.2 hS.2.2.2.2.1 rfl hb (l1 ▸ hlb.2.1) (l3 ▸ hlb.2.2), zI_some, e8r 9 _ _ (by omega), e8r 21 _ _ (by omega), e8r 23 _ _ (by omega), hA2.1.2.2.2.2.1, hA2.1.2.2.2.2.2.1, show μ7.1 21 i b = ν.1 68 0 b from l1, show μ7.1 23 i b = ν.1 70 0 b from l3]
      cases hL : lbUse (sT S) (sF S) (nI now) (ν.1 68 0 b) (ν.1 70 0 b) with
      | none =>
        rw [show (none : Option Int32).getD 0 = 0 from rfl, show (none : Option Int32).getD (-2) = -2 from rfl, eX9_workStation_68, zif_pos rfl, pX9_setAside hb, zU_some, eX11_stationWorks_63, zif_pos rfl, pM_goes rfl hb, zU_some, pM_counts (z := 5) (k := 5) rfl (by decide), zU_some]
        obtain ⟨r1, r2⟩ := drop_first (s1 := 8) (c1 := 5) hS hA2 hB p4 hQ (Or.inl rfl) (by decide) fr8 z1 z2 hG
        exact ⟨_, _, rfl, rfl, fr7.tr r2, r1⟩
      | some x =>
        have hx := lbUse_lb (l1 ▸ hlb.2.1) (l3 ▸ hlb.2.2) hL
        have hx0 := lbUse_ne0 hS.2.2.2.2.1 (l1 ▸ hlb.2.1) (l3 ▸ hlb.2.2) hL
        rw [show (some x).getD 0 = x from rfl, show (some x).getD (-2) = x from rfl, eX9_workStation_68, zif_neg hx0, wI_in (hel_40 i) rfl hb (by decide), Option.bind_some, wI_in (hel_41 i) rfl hb (by decide), Option.bind_some, eX11_stationWorks_63, zif_neg (lb_ne2 hx), wW (b3 rfl) (by omega), Option.bind_some, wW (b5 rfl) (by omega), Option.bind_some, pM_ofDevice (x := 6) (z := 7) (s := 6) (k := k) (c := 7) (d := d) rfl rfl rfl (by decide) (by omega) (by decide) gd g1 g2, zI_some, pM_goes rfl hb, zU_some]
        have hbag := hA2.2.2.2.1 b hbC
        have hst6 : st b = 6 := by rw [hstb, p2]; rfl
        obtain ⟨-, -, ⟨f4, f401⟩, -⟩ := hbag.2.2.2.2.2.2.1 (by omega)
        have hnd := qa.2.2.2.2.2
        obtain ⟨μ', v1, v2, v3⟩ := send_bag (μ9 := mS (mS μ8 40 (2 * i + 1) b x) 41 (2 * i + 1) b 0) (w9 := upd (upd w7 (400 + 8 * b + 3) x) (400 + 8 * b + 5) 0) (l := l) (e := D 6 k 5) hS hA2 hB p4 hbQ (by omega) p8 p9 hj7 hj2 (by rw [fr7.2 47 j q (by unfold isW; omega)]; exact p7) fr8 z1 (fun q' hq' hne => z2 q' _ hne (hA2.2.2.2.2.2.1 q' hq').1) (by refine FrW.mS (FrW.mS FrW.rf ?_) ?_ <;> unfold isW <;> omega) (fun k a z hk => by rw [mS_k _ _ _ _ _ _ _ _ (by omega), mS_k _ _ _ _ _ _ _ _ (by omega)]) (fun k z a c => by rw [mS_i _ _ _ _ _ _ _ _ (by omega), mS_i _ _ _ _ _ _ _ _ (by omega)]) (fun k z a c hz => by rw [mS_n _ _ _ _ _ _ _ _ hz, mS_n _ _ _ _ _ _ _ _ hz]) (by rw [mS_k _ _ _ _ _ _ _ _ (by decide), mS_same]; exact hx) (by rw [upd_ne _ _ (by omega), upd_at, mS_k _ _ _ _ _ _ _ _ (by decide), mS_same]) (by rw [upd_ne _ _ (by omega), upd_ne _ _ (by omega), mS_k _ _ _ _ _ _ _ _ (by decide), mS_k _ _ _ _ _ _ _ _ (by decide), e8r _ _ _ (by omega)]; exact f4) (by rw [mS_k _ _ _ _ _ _ _ _ (by decide), mS_k _ _ _ _ _ _ _ _ (by decide), e8r _ _ _ (by omega)]; exact f401) (by rw [upd_at, mS_same]) (fun x hx => by rw [upd_ne _ _ (by omega), upd_ne _ _ (by omega)]) (List.nodup_cons.mp hnd).1 (by rw [hQ]; exact List.sublist_cons_self _ _) (fun b' z1 z2 => by rw [hQ] at z1; exact (List.mem_cons.mp z1).resolve_left z2) hG
        rw [v1, zU_some]
        exact ⟨_, _, rfl, rfl, fr7.tr v2, v3⟩
