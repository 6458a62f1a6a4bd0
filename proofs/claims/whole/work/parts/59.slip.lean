/-! ===== slip, takeOff ===== -/
set_option maxHeartbeats 2000000 in
theorem slip_RW {μ ν : zM} {i j : Nat} {S : zSt} {w : Nat → Int32} {B t hd C now O : Nat} {st : Nat → Nat} {Q : Nat → List Nat} {p q r : Nat} (hS : okS S) (hR : RW μ ν i j S w B t hd C now O st Q) (hp : p < sn S) (hq : q < sn S) (hr : r < 100) (hwp : w (90 + p) = nI r) (hwq : w (90 + q) < 0) :
    RW (mS (mS (mS (mS μ 58 i (zslot (sn S) t p) (-1)) 58 i (zslot (sn S) t q) (nI r)) 26 i r 1) 27 i r (nI (zslot (sn S) t q))) ν i j S (upd (upd (upd w (90 + q) (nI r)) (90 + p) (-2)) (400 + 8 * r + 1) (nI q)) B t hd C now O st Q := by
  obtain ⟨⟨h1, h2, h3, h4, h5, h6, h7, h8, h9, h10, h11, h12, h13⟩, hring, hcon, hbag, hlb, hque, ⟨hrd, hw6, hw4⟩, hO, hO2, hord⟩ := hR
  have hn6 := hS.2.1
  have hpq : p ≠ q := fun z => by rw [← z, hwp] at hwq; exact nI_pos (by omega) hwq
  have hs := zslot_ne h2 hp hq hpq
  obtain ⟨hrC, hst, hrp⟩ := hcon p hp r hr hwp
  generalize hμ' : mS (mS (mS (mS μ 58 i (zslot (sn S) t p) (-1)) 58 i (zslot (sn S) t q) (nI r)) 26 i r 1) 27 i r (nI (zslot (sn S) t q)) = μ'
  generalize hw' : upd (upd (upd w (90 + q) (nI r)) (90 + p) (-2)) (400 + 8 * r + 1) (nI q) = w'
  have ek : ∀ k a z, k ≠ 58 → k ≠ 26 → k ≠ 27 → μ'.1 k a z = μ.1 k a z := fun k a z k1 k2 k3 => by rw [← hμ', mS_k _ _ _ _ _ _ _ _ k3, mS_k _ _ _ _ _ _ _ _ k2, mS_k _ _ _ _ _ _ _ _ k1, mS_k _ _ _ _ _ _ _ _ k1]
  have e58p : μ'.1 58 i (zslot (sn S) t p) = -1 := by rw [← hμ', mS_k _ _ _ _ _ _ _ _ (by decide), mS_k _ _ _ _ _ _ _ _ (by decide), mS_n _ _ _ _ _ _ _ _ hs, mS_same]
  have e58q : μ'.1 58 i (zslot (sn S) t q) = nI r := by rw [← hμ', mS_k _ _ _ _ _ _ _ _ (by decide), mS_k _ _ _ _ _ _ _ _ (by decide), mS_same]
  have e58 : ∀ z, z ≠ zslot (sn S) t p → z ≠ zslot (sn S) t q → μ'.1 58 i z = μ.1 58 i z := fun z z1 z2 => by rw [← hμ', mS_k _ _ _ _ _ _ _ _ (by decide), mS_k _ _ _ _ _ _ _ _ (by decide), mS_n _ _ _ _ _ _ _ _ z2, mS_n _ _ _ _ _ _ _ _ z1]
  have e26 : μ'.1 26 i r = 1 := by rw [← hμ', mS_k _ _ _ _ _ _ _ _ (by decide), mS_same]
  have e27 : μ'.1 27 i r = nI (zslot (sn S) t q) := by rw [← hμ', mS_same]
  have ebn : ∀ k z, k = 26 ∨ k = 27 → z ≠ r → μ'.1 k i z = μ.1 k i z := fun k z hk hz => by rw [← hμ', mS_n _ _ _ _ _ _ _ _ hz, mS_n _ _ _ _ _ _ _ _ hz, mS_k _ _ _ _ _ _ _ _ (by omega), mS_k _ _ _ _ _ _ _ _ (by omega)]
  have wn : ∀ z, z ≠ 90 + p → z ≠ 90 + q → z ≠ 400 + 8 * r + 1 → w' z = w z := fun z z1 z2 z3 => by rw [← hw', upd_ne _ _ z3, upd_ne _ _ z1, upd_ne _ _ z2]
  have wp : w' (90 + p) = -2 := by rw [← hw', upd_ne _ _ (by omega), upd_at]
  have wq : w' (90 + q) = nI r := by rw [← hw', upd_ne _ _ (by omega), upd_ne _ _ (by omega), upd_at]
  have wr : w' (400 + 8 * r + 1) = nI q := by rw [← hw', upd_at]
  have hmu2 : μ'.2 = μ.2 := by rw [← hμ']; rfl
  refine ⟨⟨by rw [hmu2]; exact h1, h2, by rw [ek _ _ _ (by decide) (by decide) (by decide)]; exact h3, h4, by rw [ek _ _ _ (by decide) (by decide) (by decide)]; exact h5, by rw [wn 0 (by omega) (by omega) (by omega)]; exact h6, h7, by rw [ek _ _ _ (by decide) (by decide) (by decide)]; exact h8, fun k hk => by rw [wn _ (by omega) (by omega) (by omega)]; exact h9 k hk, fun k hk => by rw [wn _ (by omega) (by omega) (by omega), ek _ _ _ (by decide) (by decide) (by decide)]; exact h10 k hk, h11, by rw [ek _ _ _ (by decide) (by decide) (by decide)]; exact h12, by rw [wn 1 (by omega) (by omega) (by omega)]; exact h13⟩, fun p' hp' => ?_, fun p' hp' r' hr' hpr => ?_, fun b hb => ?_, fun b hb => ?_, fun q' hq' => ?_, ⟨fun p' hp' => ?_, fun k hk => ?_, fun k hk => ?_⟩, hO, by rw [wn 2 (by omega) (by omega) (by omega)]; exact hO2, fun b hb => ?_⟩
  · rw [ek 40 _ _ (by decide) (by decide) (by decide), ek 41 _ _ (by decide) (by decide) (by decide), ek 42 _ _ (by decide) (by decide) (by decide), wn (150 + p') (by omega) (by omega) (by omega), wn (210 + p') (by omega) (by omega) (by omega), wn (270 + p') (by omega) (by omega) (by omega), wn (330 + p') (by omega) (by omega) (by omega)]
    refine ⟨?_, (hring p' hp').2⟩
    by_cases e1 : p' = p
    · subst e1
      rw [e58p, wp]
      exact Or.inl ⟨rfl, rfl⟩
    · by_cases e2 : p' = q
      · subst e2
        rw [e58q, wq]
        exact Or.inr ⟨r, hr, rfl, rfl⟩
      · rw [e58 _ (zslot_ne h2 hp' hp e1) (zslot_ne h2 hp' hq e2), wn (90 + p') (by omega) (by omega) (by omega)]
        exact (hring p' hp').1
  · by_cases e1 : p' = p
    · subst e1
      rw [wp] at hpr
      have := nI_pos (n := r') (by omega)
      rw [← hpr] at this
      exact absurd m2_lt this
    · by_cases e2 : p' = q
      · subst e2
        rw [wq] at hpr
        have e3 := (nI_eq (by omega) (by omega)).mp hpr
        subst e3
        exact ⟨hrC, hst, wr⟩
      · rw [wn (90 + p') (by omega) (by omega) (by omega)] at hpr
        obtain ⟨c1, c2, c3⟩ := hcon p' hp' r' hr' hpr
        have hne : r' ≠ r := fun z => by
          rw [z, hrp] at c3
          exact e1 ((nI_eq (by omega) (by omega)).mp c3).symm
        exact ⟨c1, c2, by rw [wn _ (by omega) (by omega) (by omega)]; exact c3⟩
  · obtain ⟨g0, g1, g2, g3, g4, g5, g6, g7, g8⟩ := hbag b hb
    by_cases e : b = r
    · subst e
      rw [hst] at g2 ⊢
      exact ⟨by decide, e26, by rw [wn _ (by omega) (by omega) (by omega)]; exact g2, fun _ => ⟨q, hq, wr, e27, wq⟩, fun z => by omega, fun z => absurd rfl z, fun z => by omega, fun z => by omega, fun z => by omega⟩
    · refine ⟨g0, by rw [ebn 26 b (by omega) e]; exact g1, by rw [wn _ (by omega) (by omega) (by omega)]; exact g2, fun hs => ?_, fun hs => by rw [wn _ (by omega) (by omega) (by omega)]; exact g4 hs, fun a1 a2 a3 => by rw [wn _ (by omega) (by omega) (by omega), ebn 27 b (by omega) e]; exact g5 a1 a2 a3, fun hs => ?_, fun hs => ?_, fun hs => ?_⟩
      · obtain ⟨p', f1, f2, f3, f4⟩ := g3 hs
        have n1 : p' ≠ p := fun z => by
          rw [z, hwp] at f4
          exact e ((nI_eq (by omega) (by omega)).mp f4).symm
        have n2 : p' ≠ q := fun z => by
          rw [z] at f4
          rw [f4] at hwq
          exact nI_pos (by omega) hwq
        exact ⟨p', f1, by rw [wn _ (by omega) (by omega) (by omega)]; exact f2, by rw [ebn 27 b (by omega) e]; exact f3, by rw [wn (90 + p') (by omega) (by omega) (by omega)]; exact f4⟩
      · rw [ek 40 _ _ (by decide) (by decide) (by decide), ek 41 _ _ (by decide) (by decide) (by decide), ek 42 _ _ (by decide) (by decide) (by decide), wn (400 + 8 * b + 3) (by omega) (by omega) (by omega), wn (400 + 8 * b + 4) (by omega) (by omega) (by omega), wn (400 + 8 * b + 5) (by omega) (by omega) (by omega)]; exact g6 hs
      · rw [ek 40 _ _ (by decide) (by decide) (by decide), ek 41 _ _ (by decide) (by decide) (by decide), ek 42 _ _ (by decide) (by decide) (by decide)]; exact g7 hs
      · rw [ek 28 _ _ (by decide) (by decide) (by decide), ek 29 _ _ (by decide) (by decide) (by decide), wn (400 + 8 * b + 6) (by omega) (by omega) (by omega), wn (400 + 8 * b + 7) (by omega) (by omega) (by omega)]; exact g8 hs
  · obtain ⟨f1, f2, f3⟩ := hlb b hb
    exact ⟨fun c hc => by rw [ek _ _ _ (by omega) (by omega) (by omega)]; exact f1 c hc, by rw [ek _ _ _ (by decide) (by decide) (by decide)]; exact f2, by rw [ek _ _ _ (by decide) (by decide) (by decide)]; exact f3⟩
  · obtain ⟨ra, rb, rc⟩ := hque q' hq'
    refine ⟨QX_congr (fun k s k1 k2 => ek _ _ _ (by omega) (by omega) (by omega)) ra, fun b => ?_, ?_⟩
    · rw [rb b]
      refine and_congr_right (fun hb => ?_)
      unfold inM
      rw [wn (400 + 8 * b) (by omega) (by omega) (by omega)]
      by_cases e : b = r
      · subst e
        have hle := stOf_le hS q'
        have hne : ¬ w (400 + 8 * b) = nI (stOf (ssrt S q')) := by
          rw [(hbag b hb).2.2.1, hst]
          exact nI_ne (by decide) (by omega) (fun z => stOf_ne1 hq' z.symm)
        exact ⟨fun z => absurd z.1 hne, fun z => absurd z.1 hne⟩
      · rw [wn (400 + 8 * b + 1) (by omega) (by omega) (by omega)]
    · refine rc.imp (fun {a c} hac => ?_)
      unfold ordM at hac ⊢
      rw [wn (400 + 8 * a + 2) (by omega) (by omega) (by omega), wn (400 + 8 * c + 2) (by omega) (by omega) (by omega)]
      exact hac
  · rw [ek _ _ _ (by decide) (by decide) (by decide), wn (15 + p') (by omega) (by omega) (by omega)]; exact hrd p' hp'
  · have := cnt_two hS
    rw [ek _ _ _ (by decide) (by decide) (by decide), wn (79 + k) (by omega) (by omega) (by omega)]; exact hw6 k hk
  · have := cnt_two hS
    rw [ek _ _ _ (by decide) (by decide) (by decide), ek _ _ _ (by decide) (by decide) (by decide), wn (75 + k) (by omega) (by omega) (by omega), wn (77 + k) (by omega) (by omega) (by omega)]; exact hw4 k hk
  · obtain ⟨o, f1, f2⟩ := hord b hb
    refine ⟨o, f1, ?_⟩
    unfold ordM at f2 ⊢
    rw [wn (400 + 8 * b + 2) (by omega) (by omega) (by omega)]
    exact f2
set_option maxHeartbeats 2000000 in
theorem off_RW {μ ν : zM} {i j : Nat} {S : zSt} {w : Nat → Int32} {B t hd C now O : Nat} {st : Nat → Nat} {Q : Nat → List Nat} {p r : Nat} (hS : okS S) (hR : RW μ ν i j S w B t hd C now O st Q) (hB : B < 1000000000) (hp : p < sn S) (hr : r < 100) (hwp : w (90 + p) = nI r) :
    RW (mS (mS (mS (mS (mS μ 58 i (zslot (sn S) t p) (-1)) 26 i r 8) 27 i r (-1)) 40 (2 * i + 1) r (-2)) 57 i 5 (μ.1 57 i 5 + 1)) ν i j S (cntF (goesF (upd w (90 + p) (-2)) r 8 (-2)) 5) (B + 1) t hd C now (O + 1) (stUp st r 8) Q := by
  have hn6 := hS.2.1
  have ht : t < sn S := hR.1.2.1
  obtain ⟨hrC, hst, hrp⟩ := hR.2.2.1 p hp r hr hwp
  have hC := hR.1.2.2.2.2.2.2.2.2.2.2.1
  have hcn := hR.1.2.2.2.2.2.2.2.2.2.1
  generalize hμ' : mS (mS (mS (mS (mS μ 58 i (zslot (sn S) t p) (-1)) 26 i r 8) 27 i r (-1)) 40 (2 * i + 1) r (-2)) 57 i 5 (μ.1 57 i 5 + 1) = μ'
  generalize hw' : cntF (goesF (upd w (90 + p) (-2)) r 8 (-2)) 5 = w'
  have ek : ∀ k a z, k ≠ 58 → k ≠ 26 → k ≠ 27 → k ≠ 40 → k ≠ 57 → μ'.1 k a z = μ.1 k a z := fun k a z k1 k2 k3 k4 k5 => by rw [← hμ', mS_k _ _ _ _ _ _ _ _ k5, mS_k _ _ _ _ _ _ _ _ k4, mS_k _ _ _ _ _ _ _ _ k3, mS_k _ _ _ _ _ _ _ _ k2, mS_k _ _ _ _ _ _ _ _ k1]
  have wn : ∀ z, z ≠ 2 → z ≠ 8 → z ≠ 90 + p → ¬ (400 + 8 * r ≤ z ∧ z < 400 + 8 * r + 3) → w' z = w z := fun z z1 z2 z3 z4 => by
    rw [← hw']
    unfold cntF goesF
    rw [upd_ne _ _ (by omega), upd_ne _ _ (by omega), upd_ne _ _ (by omega), upd_ne _ _ (by omega), upd_ne _ _ (by omega), upd_ne _ _ (by omega)]
  have wp : w' (90 + p) = -2 := by
    rw [← hw']
    unfold cntF goesF
    repeat (first | rw [upd_at] | rw [upd_ne _ _ (by omega)])
  have e58 : ∀ z, μ'.1 58 i z = upd (μ.1 58 i) (zslot (sn S) t p) (-1) z := fun z => by rw [← hμ']; simp [mS_1, upd]
  have e40b : ∀ z, μ'.1 40 (2 * i) z = μ.1 40 (2 * i) z := fun z => by rw [← hμ']; simp [mS_1]
  have e40h : ∀ z, z ≠ r → μ'.1 40 (2 * i + 1) z = μ.1 40 (2 * i + 1) z := fun z hz => by rw [← hμ']; simp [mS_1, hz]
  have e57 : ∀ z, μ'.1 57 i z = upd (μ.1 57 i) 5 (μ.1 57 i 5 + 1) z := fun z => by rw [← hμ']; simp [mS_1, upd]
  have ebn : ∀ k z, 26 ≤ k → k ≤ 29 → z ≠ r → μ'.1 k i z = μ.1 k i z := fun k z k1 k2 hz => by
    rw [← hμ', mS_k _ _ _ _ _ _ _ _ (by omega), mS_k _ _ _ _ _ _ _ _ (by omega), mS_n _ _ _ _ _ _ _ _ hz, mS_n _ _ _ _ _ _ _ _ hz, mS_k _ _ _ _ _ _ _ _ (by omega)]
  have e26 : μ'.1 26 i r = 8 := by rw [← hμ']; simp [mS_1]
  have fr : FrW i μ μ' := by
    rw [← hμ']
    refine FrW.mS (FrW.mS (FrW.mS (FrW.mS (FrW.mS FrW.rf ?_) ?_) ?_) ?_) ?_ <;> unfold isW <;> omega
  have hnot : ∀ q', keeps S q' → r ∉ Q q' := fun q' hq' z => stOf_ne1 hq' ((st_que hS hR hq' z).2.symm.trans hst)
  have m2n : ∀ r', r' < 100 → ¬ (-2 : Int32) = nI r' := fun r' hr' z => by
    have := nI_pos (n := r') (by omega)
    rw [← z] at this
    exact this m2_lt
  have w8 : w' (400 + 8 * r) = nI 8 := by
    rw [← hw']
    unfold cntF goesF
    repeat (first | rw [upd_at] | rw [upd_ne _ _ (by omega)])
    rfl
  refine move_RW hS hR fr hB hrC hC (Nat.le_refl C) (fun b' hb' _ => hb') (fun z => ek _ _ _ (by decide) (by decide) (by decide) (by decide) (by decide)) (by rw [ek _ _ _ (by decide) (by decide) (by decide) (by decide) (by decide)]; exact hR.1.2.2.2.2.2.2.2.2.2.2.2.1) (by rw [wn 1 (by omega) (by omega) (by omega) (by omega)]; exact hR.1.2.2.2.2.2.2.2.2.2.2.2.2) (fun k hk => ?_) (fun p' hp' => ?_) (fun p' hp' r' hr' hne => ?_) (fun p' hp' hpr => ?_) ⟨by decide, e26, w8, fun z => by omega, fun _ => ?_, fun _ z _ => absurd rfl z, fun z => by omega, fun z => by omega, fun z => by omega⟩ ebn (fun k z k1 k2 hz => ?_) (fun k z k1 k2 hz => ek _ _ _ (by omega) (by omega) (by omega) (by omega) (by omega)) (fun _ _ _ _ _ => rfl) ?_ (fun b' c hb' hc => wn _ (by omega) (by omega) (by omega) (by omega)) (fun k hk' => wn _ (by omega) (by omega) (by omega) (by omega)) (fun q' hq' => ⟨QX_congr (fun k s k1 k2 => ek _ _ _ (by omega) (by omega) (by omega) (by omega) (by omega)) (hR.2.2.2.2.2.1 q' hq').1, Or.inl ⟨hnot q' hq', List.Sublist.refl _, fun _ z _ => z, in_none hS hq' w8 (by decide) (by have := stOf_le hS q'; omega)⟩⟩) ⟨fun p' hp' => ?_, fun k hk' => ?_, fun k hk' => ?_⟩ ?_ ?_
  · rw [e57]
    by_cases e : k = 5
    · subst e
      rw [upd_at, ← hcn 5 (by decide), ← hw']
      unfold cntF goesF
      repeat (first | rw [upd_at] | rw [upd_ne _ _ (by omega)])
    · rw [upd_ne _ _ e, ← hcn k hk]
      exact wn _ (by omega) (by omega) (by omega) (by omega)
  · rw [e40b, ek 41 _ _ (by decide) (by decide) (by decide) (by decide) (by decide), ek 42 _ _ (by decide) (by decide) (by decide) (by decide) (by decide), wn (150 + p') (by omega) (by omega) (by omega) (by omega), wn (210 + p') (by omega) (by omega) (by omega) (by omega), wn (270 + p') (by omega) (by omega) (by omega) (by omega), wn (330 + p') (by omega) (by omega) (by omega) (by omega), e58]
    refine ⟨?_, (hR.2.1 p' hp').2⟩
    by_cases e : p' = p
    · subst e
      rw [upd_at, wp]
      exact Or.inl ⟨rfl, rfl⟩
    · rw [upd_ne _ _ (zslot_ne ht hp' hp e), wn (90 + p') (by omega) (by omega) (by omega) (by omega)]
      exact (hR.2.1 p' hp').1
  · by_cases e : p' = p
    · subst e
      rw [wp, hwp]
      exact ⟨fun z => absurd z (m2n r' hr'), fun z => absurd ((nI_eq (by omega) (by omega)).mp z) (fun y => hne y.symm)⟩
    · rw [wn (90 + p') (by omega) (by omega) (by omega) (by omega)]
  · by_cases e : p' = p
    · subst e
      rw [wp] at hpr
      exact absurd hpr (m2n r hr)
    · rw [wn (90 + p') (by omega) (by omega) (by omega) (by omega)] at hpr
      have c3 := (hR.2.2.1 p' hp' r hr hpr).2.2
      exact absurd ((nI_eq (by omega) (by omega)).mp (c3.symm.trans hrp)) e
  · rw [← hw']
    unfold cntF goesF
    repeat (first | rw [upd_at] | rw [upd_ne _ _ (by omega)])
  · by_cases e : k = 40
    · subst e
      exact e40h z hz
    · exact ek _ _ _ (by omega) (by omega) (by omega) (by omega) (by omega)
  · obtain ⟨f1, f2, f3⟩ := hR.2.2.2.2.1 r hrC
    exact ⟨fun c hc => by rw [ek _ _ _ (by omega) (by omega) (by omega) (by omega) (by omega)]; exact f1 c hc, by rw [ek _ _ _ (by decide) (by decide) (by decide) (by decide) (by decide)]; exact f2, by rw [ek _ _ _ (by decide) (by decide) (by decide) (by decide) (by decide)]; exact f3⟩
  · rw [ek _ _ _ (by decide) (by decide) (by decide) (by decide) (by decide), wn (15 + p') (by omega) (by omega) (by omega) (by omega)]
    exact hR.2.2.2.2.2.2.1.1 p' hp'
  · have := cnt_two hS
    rw [ek _ _ _ (by decide) (by decide) (by decide) (by decide) (by decide), wn (79 + k) (by omega) (by omega) (by omega) (by omega)]
    exact hR.2.2.2.2.2.2.1.2.1 k hk'
  · have := cnt_two hS
    rw [ek _ _ _ (by decide) (by decide) (by decide) (by decide) (by decide), ek _ _ _ (by decide) (by decide) (by decide) (by decide) (by decide), wn (75 + k) (by omega) (by omega) (by omega) (by omega), wn (77 + k) (by omega) (by omega) (by omega) (by omega)]
    exact hR.2.2.2.2.2.2.1.2.2 k hk'
  · rw [← hw']
    unfold cntF goesF
    repeat (first | rw [upd_at] | rw [upd_ne _ _ (by omega)])
  · rw [← hw']
    unfold cntF goesF
    repeat (first | rw [upd_at] | rw [upd_ne _ _ (by omega)])
section OPS
variable {μ : zM} {c : Nat}
theorem a_takeOff (h : REL μ c) (hc : c ≤ 600) (x : Int32) : CALL (tX10_takeOff_0 x) (tX11_takeOff_0 x) μ (c + 1) := by
  obtain ⟨j, S, D, lim, t, hd, C, now, nx, cn, Cf, h1, h2, h3, h4, h5, h6, h7, h8⟩ := h.all
  have h4' := h4
  obtain ⟨O, st, Q, hR, -⟩ := h4'
  have hn6 := h3.1.2.1
  rcases ix_of x (n := sn S) (by omega) with ⟨p, hp, rfl⟩ | hx
  · obtain ⟨s1, s2⟩ := un_slot h3 hR hp
    have eX : tX10_takeOff_0 (nI p) μ = tX10_takeOff_32 (nI (zslot (sn S) t p)) (μ.1 58 0 (zslot (sn S) t p)) μ := by
      rw [eX10_takeOff_0, h1.1, zif_pos h1.2.1, pX5_has h3.2.2.1.2.1, zI_some, ok_yes hp (by omega), zif_neg one_ne0, s1, zI_some, eX10_takeOff_22, qI_in (zS_58 0) rfl s2 (by decide), Option.bind_some]
    have eM : ∀ μ1, keepM μ μ1 → tX11_takeOff_0 (nI p) μ1 = tX11_takeOff_20 (nI p) (μ.1 65 0 (90 + p)) μ1 := fun μ1 hm => by
      rw [eX11_takeOff_0, pM_isPosition (n := sn S) (by rw [hm _ _ _ (by omega)]; exact h3.2.2.2.2.1.1) (by omega), zI_some, ok_yes hp (by omega), zif_neg one_ne0, qI_in (zS_65 0) (a90 rfl) (by omega) (by decide), Option.bind_some, hm _ _ _ (by omega)]
    rcases (hR.2.1 p hp).1 with ⟨a1, a2⟩ | ⟨r, hr, a1, a2⟩
    · refine CALL.ask h (v := -2) ?_ ?_
      · rw [eX, a1, eX10_takeOff_32, zif_pos m1_lt]
      · rw [eM μ (fun _ _ _ _ => rfl), a2, eX11_takeOff_20, zif_pos m2_lt]
    · refine op_call2 (FX := fun m => (wI m (58, 0) (nI (zslot (sn S) t p)) (-1)).bind fun μ2 => zU (tX9_setAside_0 0 (nI r) μ2) fun μ3 => some (some (.inl (nI r)), μ3)) (FM := fun m => (wI m (65, 0) (90 + nI p) (-2)).bind fun μ2 => zU (tX11_goes_0 (nI r) 8 (-2) μ2) fun μ3 => zU (tX11_counts_0 5 μ3) fun μ4 => some (some (.inl (nI r)), μ4)) h1 h3 h2 h4 h5 h6 h7 h8 (fun μ1 ν hE hj hR1 => ?_) ?_ (fun μ1 hm => ?_)
      · obtain ⟨O1, st1, Q1, hR1, hG1⟩ := hR1
        have hA := off_RW h3.1 hR1 (by omega) hp hr a2
        refine ⟨nI r, _, ν, _, t, hd, C, now, ?_, ?_, ?_, hA.rq (by omega) (fun _ z => z.elim), Nat.le_refl _, h2, rfl, fun _ _ _ _ => rfl⟩
        · rw [wI_in (zS_58 0) rfl s2 (by decide), Option.bind_some, pX9_setAside hr, zU_some, mS_k _ _ _ _ _ 57 _ _ (by decide)]
        · rw [wW (a90 rfl) (by omega), Option.bind_some, pM_goes rfl hr, zU_some, pM_counts (z := 5) (k := 5) rfl (by decide), zU_some]
        · refine FrW.mS (FrW.mS (FrW.mS (FrW.mS (FrW.mS FrW.rf ?_) ?_) ?_) ?_) ?_ <;> unfold isW <;> omega
      · rw [eX, a1, eX10_takeOff_32, zif_neg (nI_pos (by omega))]
      · rw [eM μ1 hm, a2, eX11_takeOff_20, zif_neg (nI_pos (by omega))]
  · refine CALL.ask h (v := -1) ?_ ?_
    · rw [eX10_takeOff_0, h1.1, zif_pos h1.2.1, pX5_has h3.2.2.1.2.1, zI_some, ok_no hx, zif_pos rfl]
    · rw [eX11_takeOff_0, pM_isPosition h3.2.2.2.2.1.1 (by omega), zI_some, ok_no hx, zif_pos rfl]
theorem a_slip (h : REL μ c) (hc : c ≤ 600) (x : Int32) : CALL (tX10_slip_0 x) (tX11_slip_0 x) μ (c + 1) := by
  obtain ⟨j, S, D, lim, t, hd, C, now, nx, cn, Cf, h1, h2, h3, h4, h5, h6, h7, h8⟩ := h.all
  have h4' := h4
  obtain ⟨O, st, Q, hR, -⟩ := h4'
  have hn6 := h3.1.2.1
  have hn3 := h3.1.1
  have ht := hR.1.2.1
  rcases ix_of x (n := sn S) (by omega) with ⟨p, hp, rfl⟩ | hx
  · obtain ⟨s1, s2⟩ := un_slot h3 hR hp
    have hq : (p + sn S - 1) % sn S < sn S := Nat.mod_lt _ (by omega)
    obtain ⟨s3, s4⟩ := un_slot h3 hR hq
    have hsb : zslot (sn S) 1 (zslot (sn S) t p) = zslot (sn S) t ((p + sn S - 1) % sn S) := by
      rw [slot_back ht hp (by omega)]
      rfl
    have hzl := zslot_lt (n := sn S) (t := t) (p := p) (by omega)
    have ew := wrap_sub (n := sn S) (t := 1) (p := zslot (sn S) t p) hn6 (by omega) hzl
    have eX : tX10_slip_0 (nI p) μ = tX10_slip_44 (nI (zslot (sn S) t p)) (nI (zslot (sn S) t ((p + sn S - 1) % sn S))) (μ.1 58 0 (zslot (sn S) t p)) μ := by
      rw [eX10_slip_0, h1.1, zif_pos h1.2.1, pX5_has h3.2.2.1.2.1, zI_some, ok_yes hp (by omega), zif_neg one_ne0, s1, zI_some, eX10_slip_22, pX9_wrapped _ _ _ (by rw [hR.1.1]; exact h1.2.1), zI_some, hR.1.1, h3.2.2.1.2.1, show (1 : Int32) = nI 1 from rfl, ew, hsb, eX10_slip_33, qI_in (zS_58 0) rfl s2 (by decide), Option.bind_some]
    have er : nI p + nI (sn S) - 1 - (nI p + nI (sn S) - 1) / nI (sn S) * nI (sn S) = nI ((p + sn S - 1) % sn S) := by
      have e1 : nI p + nI (sn S) - 1 = nI (p + sn S - 1) := by rw [nI_add, show p + sn S = (p + sn S - 1) + 1 by omega, nI_pred]; rfl
      rw [e1, pk_rem (by omega) (by omega) (by omega)]
    have eM : ∀ μ1, keepM μ μ1 → tX11_slip_0 (nI p) μ1 = zif (μ.1 65 0 (90 + p) < 0) (some (some (.inl 0), μ1)) (zif (μ.1 65 0 (90 + (p + sn S - 1) % sn S) < 0) (zU (tX11_keeps_0 μ1) fun μ2 => (qI μ2 (65, 0) (90 + nI p)).bind fun v3 => tX11_slip_68 (nI p) (nI ((p + sn S - 1) % sn S)) v3 μ2) (some (some (.inl 0), μ1))) := fun μ1 hm => by
      have hn0 : μ1.1 63 0 0 = nI (sn S) := by rw [hm _ _ _ (by omega)]; exact h3.2.2.2.2.1.1
      rw [eX11_slip_0, pM_isPosition hn0 (by omega), zI_some, ok_yes hp (by omega), zif_neg one_ne0, qI_in (zS_65 0) (a90 rfl) (by omega) (by decide), Option.bind_some, hm _ _ _ (by omega), eX11_slip_20, zif_pos nar_0, qI_in (x := 0) (p := 0) (zS_63 0) rfl (by decide) (by decide), Option.bind_some, Option.bind_some, hn0, zif_neg (show ¬ nI (sn S) = 0 from nI_ne0 (by omega) (by omega)), er, eX11_slip_40, qI_in (zS_65 0) (a90 rfl) (by omega) (by decide), Option.bind_some, hm _ _ _ (by omega), zif_pos nar_0]
    have e0 : ∀ m, tX10_slip_61 m = some (some (.inl 0), m) := fun m => by rw [eX10_slip_61, zif_pos nar_0]
    rcases (hR.2.1 p hp).1 with ⟨a1, a2⟩ | ⟨r, hr, a1, a2⟩
    · refine CALL.ask h (v := 0) ?_ ?_
      · rw [eX, a1, eX10_slip_44, zif_pos m1_lt, e0]
      · rw [eM μ (fun _ _ _ _ => rfl), a2, zif_pos m2_lt]
    · have hrdq := rd_cases (hR.2.1 _ hq).1
      by_cases b : μ.1 65 0 (90 + (p + sn S - 1) % sn S) < 0
      · refine op_call2 (FX := fun m => (wI m (58, 0) (nI (zslot (sn S) t p)) (-1)).bind fun μ3 => (wI μ3 (58, 0) (nI (zslot (sn S) t ((p + sn S - 1) % sn S))) (nI r)).bind fun μ4 => zU (tX0_put_0 0 (nI r) 1 (nI (zslot (sn S) t ((p + sn S - 1) % sn S))) μ4) fun μ5 => zif (vp_nar .boolean 1 = 1) (some (some (.inl 1), μ5)) none) (FM := fun μ2 => (qI μ2 (65, 0) (90 + nI p)).bind fun v3 => tX11_slip_68 (nI p) (nI ((p + sn S - 1) % sn S)) v3 μ2) h1 h3 h2 h4 h5 h6 h7 h8 (fun μ1 ν hE hj hR1 => ?_) ?_ (fun μ1 hm => ?_)
        · obtain ⟨O1, st1, Q1, hR1, hG1⟩ := hR1
          have hA := slip_RW h3.1 hR1 hp hq hr a2 b
          refine ⟨1, _, ν, _, t, hd, C, now, ?_, ?_, ?_, hA.rq (by omega) (fun _ z => z.elim), Nat.le_refl _, h2, rfl, fun _ _ _ _ => rfl⟩
          · rw [wI_in (zS_58 0) rfl s2 (by decide), Option.bind_some, wI_in (zS_58 0) rfl s4 (by decide), Option.bind_some, pX0_put rfl hr, zU_some, zif_pos nar_1]
          · rw [qW (a90 rfl) (by omega), Option.bind_some, a2, eX11_slip_68, wW (a90 rfl) (by omega), Option.bind_some, wW (a90 rfl) (by omega), Option.bind_some, wW (b1 rfl) (by omega), Option.bind_some, zif_pos nar_1]
          · refine FrW.mS (FrW.mS (FrW.mS (FrW.mS FrW.rf ?_) ?_) ?_) ?_ <;> unfold isW <;> omega
        · rw [eX, a1, eX10_slip_44, zif_neg (nI_pos (by omega)), qI_in (zS_58 0) rfl s4 (by decide), Option.bind_some, zif_pos (hrdq.mpr b)]
        · rw [eM μ1 hm, a2, zif_neg (nI_pos (by omega)), zif_pos b]
      · refine CALL.ask h (v := 0) ?_ ?_
        · rw [eX, a1, eX10_slip_44, zif_neg (nI_pos (by omega)), qI_in (zS_58 0) rfl s4 (by decide), Option.bind_some, zif_neg (fun z => b (hrdq.mp z)), e0]
        · rw [eM μ (fun _ _ _ _ => rfl), a2, zif_neg (nI_pos (by omega)), zif_neg b]
  · refine CALL.ask h (v := 0) ?_ ?_
    · rw [eX10_slip_0, h1.1, zif_pos h1.2.1, pX5_has h3.2.2.1.2.1, zI_some, ok_no hx, zif_pos rfl, zif_pos nar_0]
    · rw [eX11_slip_0, pM_isPosition h3.2.2.2.2.1.1 (by omega), zI_some, ok_no hx, zif_pos rfl, eX11_slip_20, zif_pos nar_0]
end OPS
