/-! ===== diverters: the pair ===== -/
theorem stOf_out {s : Nat} (h3 : 3 < s) (h6 : s ≤ 6) : stOf s = s := by
  unfold stOf
  rw [if_neg (by omega), if_neg (by omega)]
set_option maxHeartbeats 2000000 in
theorem divert_bag {G : Nat → Prop} {μ ν : zM} {i j : Nat} {S : zSt} {D : zDv} {lim : Int32} {w : Nat → Int32} {B t hd C now O : Nat} {st : Nat → Nat} {Q : Nat → List Nat} {q r : Nat} (hE : ENV μ ν j S D lim) (h : RW μ ν i j S w B t hd C now O st Q) (hB : B < 1000000000) (hk : keeps S q) (h3 : 3 ≤ ssrt S q) (h6 : ssrt S q ≤ 6) (hr : r < 100) (hwr : w (90 + q) = nI r) (hrec : w (150 + q) = 1) (hG : ∀ b, G b → st b = 8 ∨ st b = 9) :
    ∃ μ' w', tX9_divert_129 i (nI q) (nI (zslot (sn S) t q)) (nI (ssrt S q)) (nI r) μ = some (none, μ') ∧ tX11_outletWorks_122 (nI q) (nI (ssrt S q)) (nI (snum S q)) (nI r) (mW ν w) = some (none, mW ν w') ∧ FrW i μ μ' ∧ RQ μ' ν i j S w' (B + 1) t hd C now G := by
  have hS := hE.1
  have hn6 := hS.2.1
  have hn3 := hS.1
  have hqn := hk.1
  have ht : t < sn S := h.1.2.1
  have hs : zslot (sn S) t q < 60 := by have := zslot_lt (n := sn S) (t := t) (p := q) (by omega); omega
  obtain ⟨hrC, hst1, hrp⟩ := h.2.2.1 q hqn r hr hwr
  have hnot : r ∉ Q q := fun z => stOf_ne1 hk ((st_que hS h hk z).2.symm.trans hst1)
  have hlen := RQ_bound h hk
  obtain ⟨d1, d2, d3, d4⟩ := dev_any hE (q := q) (by omega) h6
  have hrc : isLb (μ.1 40 (2 * i) (zslot (sn S) t q)) ∧ w (210 + q) = μ.1 40 (2 * i) (zslot (sn S) t q) ∧ (w (270 + q) = μ.1 42 (2 * i) (zslot (sn S) t q) ∧ is01 (μ.1 42 (2 * i) (zslot (sn S) t q))) ∧ w (330 + q) = μ.1 41 (2 * i) (zslot (sn S) t q) := by
    rcases (h.2.1 q hqn).2 with ⟨a1, a2⟩ | ⟨a1, a2, a3, a4, a5, a6⟩
    · exact absurd (a2.symm.trans hrec) zo_ne
    · exact ⟨a2, a4, a5, a6⟩
  obtain ⟨μ4, hK, fr4, y1, y2, y3, y4, y5, y6, y7⟩ := pX9_div_in (μ := μ) (i := i) (q := q) (s := zslot (sn S) t q) (r := r) (by omega) hs hr (h.2.2.2.2.2.1 q hk).1 hnot (by omega)
  have hj : μ4.2.1 9 i 0 = j := by rw [fr4.1]; exact h.1.1
  have hj2 := hE.2.2.1.1
  have hE4 := hE.fr fr4
  have h44 : μ4.1 44 j q = nI (snum S q) := (dev_any hE4 (q := q) (by omega) h6).1
  have hX0 : tX9_divert_129 i (nI q) (nI (zslot (sn S) t q)) (nI (ssrt S q)) (nI r) μ = zif (nI (ssrt S q) = 3) (zU (tX9_deliver_0 i (nI r) (nI (snum S q)) μ4) fun m => some (none, m)) (zU (tX0_put_0 i (nI r) (nI (ssrt S q)) (nI (snum S q)) μ4) fun m => some (none, m)) := by
    rw [eX9_divert_129, zif_neg (nI_pos (by omega))]
    refine (hK _).trans ?_
    rw [hj, zif_pos hj2, zif_pos hj2, qI_in (zS_44 j) rfl (show q < 60 by omega) (by decide), Option.bind_some, Option.bind_some, h44]
    simp only [eX9_divert_226]
  have hlb := h.2.2.2.2.1 r hrC
  have l1 := hlb.1 0 (by decide)
  have l3 := hlb.1 2 (by decide)
  have hM0 : tX11_outletWorks_122 (nI q) (nI (ssrt S q)) (nI (snum S q)) (nI r) (mW ν w) = zU (tX11_takesIn_0 (nI r) (nI q) (nI (ssrt S q)) (nI (snum S q)) (mW ν w)) fun m => tX11_outletWorks_144 (nI q) m := by
    rw [eX11_outletWorks_122, zif_neg (nI_pos (by omega))]
  have hkn : snum S q < 60 := by omega
  have h26 : ∀ k z, 26 ≤ k → k ≤ 29 → μ4.1 k i z = μ.1 k i z := fun k z a b => y7 k z (by omega) (by omega)
  rw [hX0, hM0, pM_takesIn hr (by omega) h3 h6]
  by_cases e3 : ssrt S q = 3
  · have hs2 : stOf (ssrt S q) = 2 := by rw [e3]; rfl
    rw [zif_pos (show nI (ssrt S q) = 3 by rw [e3]; rfl), zif_pos (show nI (ssrt S q) = 3 by rw [e3]; rfl), pX9_deliver hj hj2 hE4.2.2.1.2.2.2.2.1 hr, zU_some, hs2]
    rw [pM_properOfW hE.2.2.2.2.2 hS.2.2.2.2.1 rfl hr (l1 ▸ hlb.2.1) (l3 ▸ hlb.2.2), zI_some, pM_takes118 hE.2.2.2.2.2 hS.2.2.2.2.1 (l1 ▸ hlb.2.1) (l3 ▸ hlb.2.2) hr, zU_some, eX11_outletWorks_144, pM_dropRecord rfl (by omega), zU_some]
    have en : upd (tkF w r q (nI 2) (nI (snum S q))) (400 + 8 * r + 6) (w 0) 0 = nI now := by
      unfold tkF goesF
      rw [upd_ne _ _ (by omega), upd_ne _ _ (by omega), upd_ne _ _ (by omega), upd_ne _ _ (by omega), upd_ne _ _ (by omega), upd_ne _ _ (by omega), upd_ne _ _ (by omega), upd_ne _ _ (by omega), upd_ne _ _ (by omega)]
      exact h.1.2.2.2.2.2.1
    rw [en, y7 9 1 (by decide) (by decide), y7 21 r (by decide) (by decide), y7 23 r (by decide) (by decide), y7 57 7 (by decide) (by decide), h.1.2.2.2.2.1, show μ.1 21 i r = ν.1 68 0 r from l1, show μ.1 23 i r = ν.1 70 0 r from l3]
    generalize hdl : dl (sT S) (nI (snum S q)) (flOf (sT S) (sF S) ((lbUse (sT S) (sF S) (nI now) (ν.1 68 0 r) (ν.1 70 0 r)).getD 0)) = o
    have ho : ∀ f, o = some f → f < 10 := by
      intro f hf
      rw [← hdl] at hf
      unfold dl at hf
      split at hf
      · cases hf
      · next g hg =>
        split at hf
        · cases hf
          have := flOf_lt hg
          have := hS.2.2.2.1
          omega
        · cases hf
    refine ⟨_, _, rfl, rfl, ?_, ?_⟩
    · refine FrW.tr fr4 ?_
      refine FrW.mS (FrW.mS (FrW.mS (FrW.mS (FrW.mS (FrW.mS FrW.rf ?_) ?_) ?_) ?_) ?_) ?_ <;> unfold isW <;> omega
    · generalize hm5 : mS (mS (mS (mS (mS (mS μ4 26 i r 2) 27 i r (nI (snum S q))) 40 (2 * i + 1) r (-2)) 57 i 7 (μ.1 57 i 7 + 1)) 28 i r (nI now)) 29 i r (oN (-1) id o) = μ5
      have fr5 : FrW i μ μ5 := by
        rw [← hm5]
        refine FrW.tr fr4 ?_
        refine FrW.mS (FrW.mS (FrW.mS (FrW.mS (FrW.mS (FrW.mS FrW.rf ?_) ?_) ?_) ?_) ?_) ?_ <;> unfold isW <;> omega
      have ek : ∀ k a z, k ≠ 26 → k ≠ 27 → k ≠ 40 → k ≠ 57 → k ≠ 28 → k ≠ 29 → μ5.1 k a z = μ4.1 k a z := fun k a z k1 k2 k3 k4 k5 k6 => by
        rw [← hm5, mS_k _ _ _ _ _ _ _ _ k6, mS_k _ _ _ _ _ _ _ _ k5, mS_k _ _ _ _ _ _ _ _ k4, mS_k _ _ _ _ _ _ _ _ k3, mS_k _ _ _ _ _ _ _ _ k2, mS_k _ _ _ _ _ _ _ _ k1]
      have e26 : μ5.1 26 i r = 2 := by rw [← hm5]; simp [mS_1]
      have e27 : μ5.1 27 i r = nI (snum S q) := by rw [← hm5]; simp [mS_1]
      have e28 : μ5.1 28 i r = nI now := by rw [← hm5]; simp [mS_1]
      have e29 : μ5.1 29 i r = oN (-1) id o := by rw [← hm5]; simp [mS_1]
      have en2 : ∀ k z, 26 ≤ k → k ≤ 29 → z ≠ r → μ5.1 k i z = μ4.1 k i z := fun k z a b c => by
        rw [← hm5]
        simp [mS_1, c]
        intro z1
        omega
      have e40 : ∀ z, μ5.1 40 (2 * i) z = μ4.1 40 (2 * i) z := fun z => by rw [← hm5]; simp [mS_1]
      have e40h : ∀ z, z ≠ r → μ5.1 40 (2 * i + 1) z = μ4.1 40 (2 * i + 1) z := fun z hz => by rw [← hm5]; simp [mS_1, hz]
      have e57 : ∀ z, μ5.1 57 i z = upd (μ.1 57 i) 7 (μ.1 57 i 7 + 1) z := fun z => by
        rw [← hm5]
        simp [mS_1, upd]
        split
        · rfl
        · exact y7 57 z (by decide) (by decide)
      refine ⟨O + 1, stUp st r (stOf (ssrt S q)), quUp Q q (Q q ++ [r]), ?_, gone_up hG (by omega) (by omega)⟩
      refine intake_RW hS h hB hk h3 h6 hr hwr fr5 (QX_congr (fun k s k1 k2 => ek _ _ _ (by omega) (by omega) (by omega) (by omega) (by omega) (by omega)) y1) (fun q' l' hne hQ' hd => QX_congr (fun k s k1 k2 => ek _ _ _ (by omega) (by omega) (by omega) (by omega) (by omega) (by omega)) (y2 q' l' hne hQ' hd)) (fun z => by rw [ek _ _ _ (by decide) (by decide) (by decide) (by decide) (by decide) (by decide)]; exact y3 z) (fun z => by rw [e40]; exact y4 z) (fun k z hk => by rw [ek _ _ _ (by omega) (by omega) (by omega) (by omega) (by omega) (by omega)]; exact y5 k z hk) (fun k z a b c => ?_) (fun k z a b c => by rw [en2 k z a b c]; exact h26 k z a b) (fun k z hk => by rw [ek _ _ _ (by omega) (by omega) (by omega) (by omega) (by omega) (by omega)]; exact y7 k z (by omega) (by omega)) (fun k hk => ?_) ⟨by rw [hs2]; decide, by rw [hs2]; exact e26, ?_, fun z => by omega, fun z => by omega, fun _ _ _ => ⟨?_, snum S q, hkn, e27⟩, fun z => by omega, fun z => by omega, fun _ => ⟨?_, ?_⟩⟩ ?_ ?_ ?_ ?_ ?_ ?_ ?_
      · by_cases e : k = 40
        · subst e
          rw [e40h z c, y6 40 z a b, upd_ne _ _ c]
        · rw [ek _ _ _ (by omega) (by omega) (by omega) (by omega) (by omega) (by omega), y6 k z a b, upd_ne _ _ c]
      · have hcn := h.1.2.2.2.2.2.2.2.2.2.1
        rw [e57]
        rcases (by omega : k = 7 ∨ k ≠ 7) with rfl | hk7
        · rw [upd_at, ← hcn 7 (by decide)]
          unfold dropF newF cntF tkF goesF
          repeat (first | rw [upd_at] | rw [upd_ne _ _ (by omega)])
        · rw [upd_ne _ _ hk7, ← hcn k hk]
          unfold dropF newF cntF tkF goesF
          repeat (first | rw [upd_at] | rw [upd_ne _ _ (by omega)])
      · rw [hs2]
        unfold dropF newF cntF tkF goesF
        repeat (first | rw [upd_at] | rw [upd_ne _ _ (by omega)])
      · rw [e27]
        unfold dropF newF cntF tkF goesF
        repeat (first | rw [upd_at] | rw [upd_ne _ _ (by omega)])
      · rw [e28, ← h.1.2.2.2.2.2.1]
        unfold dropF newF cntF tkF goesF
        repeat (first | rw [upd_at] | rw [upd_ne _ _ (by omega)])
      · have e7 : dropF (cntF (upd (upd (tkF w r q (nI 2) (nI (snum S q))) (400 + 8 * r + 6) (w 0)) (400 + 8 * r + 7) (oN (-2) id o)) 7) q (400 + 8 * r + 7) = oN (-2) id o := by
          unfold dropF newF cntF tkF goesF
          repeat (first | rw [upd_at] | rw [upd_ne _ _ (by omega)])
        rw [e29, e7]
        cases o with
        | none => exact Or.inl ⟨rfl, rfl⟩
        | some f => exact Or.inr ⟨f, ho f rfl, rfl, rfl⟩
      · unfold dropF newF cntF tkF goesF
        repeat (first | rw [upd_at] | rw [upd_ne _ _ (by omega)])
      · exact dropF_on
      · rw [hs2]
        unfold dropF newF cntF tkF goesF
        repeat (first | rw [upd_at] | rw [upd_ne _ _ (by omega)])
      · unfold dropF newF cntF tkF goesF
        repeat (first | rw [upd_at] | rw [upd_ne _ _ (by omega)])
      · unfold dropF newF cntF tkF goesF
        repeat (first | rw [upd_at] | rw [upd_ne _ _ (by omega)])
      · unfold dropF newF cntF tkF goesF
        repeat (first | rw [upd_at] | rw [upd_ne _ _ (by omega)])
      · intro x k1 k2 k3 k4 k5 k6 k7 k8
        unfold dropF newF cntF tkF goesF
        repeat (first | rw [upd_at] | rw [upd_ne _ _ (by omega)])
  · have hs2 : stOf (ssrt S q) = ssrt S q := stOf_out (by omega) h6
    have hn3' : ¬ nI (ssrt S q) = 3 := fun z => e3 ((nI_eq (b := 3) (by omega) (by decide)).mp z)
    rw [zif_neg hn3', zif_neg hn3', pX0_put rfl hr, zU_some, zU_some, eX11_outletWorks_144, pM_dropRecord rfl (by omega), zU_some]
    refine ⟨_, _, rfl, rfl, ?_, ?_⟩
    · refine FrW.tr fr4 ?_
      refine FrW.mS (FrW.mS FrW.rf ?_) ?_ <;> unfold isW <;> omega
    · generalize hm5 : mS (mS μ4 26 i r (nI (ssrt S q))) 27 i r (nI (snum S q)) = μ5
      have fr5 : FrW i μ μ5 := by
        rw [← hm5]
        refine FrW.tr fr4 ?_
        refine FrW.mS (FrW.mS FrW.rf ?_) ?_ <;> unfold isW <;> omega
      have ek : ∀ k a z, k ≠ 26 → k ≠ 27 → μ5.1 k a z = μ4.1 k a z := fun k a z k1 k2 => by
        rw [← hm5, mS_k _ _ _ _ _ _ _ _ k2, mS_k _ _ _ _ _ _ _ _ k1]
      have e26 : μ5.1 26 i r = nI (ssrt S q) := by rw [← hm5]; simp [mS_1]
      have e27 : μ5.1 27 i r = nI (snum S q) := by rw [← hm5]; simp [mS_1]
      have en2 : ∀ k z, 26 ≤ k → k ≤ 29 → z ≠ r → μ5.1 k i z = μ4.1 k i z := fun k z a b c => by rw [← hm5]; simp [mS_1, c]
      rw [hs2]
      refine ⟨O + 1, stUp st r (stOf (ssrt S q)), quUp Q q (Q q ++ [r]), ?_, gone_up hG (by omega) (by omega)⟩
      refine intake_RW hS h hB hk h3 h6 hr hwr fr5 (QX_congr (fun k s k1 k2 => ek _ _ _ (by omega) (by omega)) y1) (fun q' l' hne hQ' hd => QX_congr (fun k s k1 k2 => ek _ _ _ (by omega) (by omega)) (y2 q' l' hne hQ' hd)) (fun z => by rw [ek _ _ _ (by decide) (by decide)]; exact y3 z) (fun z => by rw [ek _ _ _ (by decide) (by decide)]; exact y4 z) (fun k z hk => by rw [ek _ _ _ (by omega) (by omega)]; exact y5 k z hk) (fun k z a b c => by rw [ek _ _ _ (by omega) (by omega), y6 k z a b, upd_ne _ _ c]) (fun k z a b c => by rw [en2 k z a b c]; exact h26 k z a b) (fun k z hk => by rw [ek _ _ _ (by omega) (by omega)]; exact y7 k z (by omega) (by omega)) (fun k hk => ?_) ⟨by rw [hs2]; omega, by rw [hs2]; exact e26, ?_, fun z => by omega, fun z => by omega, fun _ _ _ => ⟨?_, snum S q, hkn, e27⟩, fun _ => ?_, fun z => by omega, fun z => by omega⟩ ?_ ?_ ?_ ?_ ?_ ?_ ?_
      · rw [ek _ _ _ (by decide) (by decide), y7 57 k (by decide) (by decide), ← h.1.2.2.2.2.2.2.2.2.2.1 k hk]
        unfold dropF newF tkF goesF
        repeat (first | rw [upd_at] | rw [upd_ne _ _ (by omega)])
      · rw [hs2]
        unfold dropF newF tkF goesF
        repeat (first | rw [upd_at] | rw [upd_ne _ _ (by omega)])
      · rw [e27]
        unfold dropF newF tkF goesF
        repeat (first | rw [upd_at] | rw [upd_ne _ _ (by omega)])
      · rw [ek _ _ _ (by decide) (by decide), ek _ _ _ (by decide) (by decide), ek _ _ _ (by decide) (by decide), y6 40 r (by decide) (by decide), y6 41 r (by decide) (by decide), y6 42 r (by decide) (by decide), upd_at, upd_at, upd_at, ← hrc.2.1, ← hrc.2.2.1.1, ← hrc.2.2.2]
        refine ⟨by rw [hrc.2.1]; exact hrc.1, ?_, ⟨?_, by rw [hrc.2.2.1.1]; exact hrc.2.2.1.2⟩, ?_⟩
        · unfold dropF newF tkF goesF
          repeat (first | rw [upd_at] | rw [upd_ne _ _ (by omega)])
        · unfold dropF newF tkF goesF
          repeat (first | rw [upd_at] | rw [upd_ne _ _ (by omega)])
        · unfold dropF newF tkF goesF
          repeat (first | rw [upd_at] | rw [upd_ne _ _ (by omega)])
      · unfold dropF newF tkF goesF
        repeat (first | rw [upd_at] | rw [upd_ne _ _ (by omega)])
      · exact dropF_on
      · rw [hs2]
        unfold dropF newF tkF goesF
        repeat (first | rw [upd_at] | rw [upd_ne _ _ (by omega)])
      · unfold dropF newF tkF goesF
        repeat (first | rw [upd_at] | rw [upd_ne _ _ (by omega)])
      · unfold dropF newF tkF goesF
        repeat (first | rw [upd_at] | rw [upd_ne _ _ (by omega)])
      · unfold dropF newF tkF goesF
        repeat (first | rw [upd_at] | rw [upd_ne _ _ (by omega)])
      · intro x k1 k2 k3 k4 k5 k6 k7 k8
        unfold dropF newF tkF goesF
        repeat (first | rw [upd_at] | rw [upd_ne _ _ (by omega)])
set_option maxHeartbeats 2000000 in
theorem divert_pair {μ ν : zM} {i j : Nat} {S : zSt} {D : zDv} {lim : Int32} {w : Nat → Int32} {B t hd C now q : Nat} (hE : ENV μ ν j S D lim) {G : Nat → Prop} (h : RQ μ ν i j S w B t hd C now G) (hB : B < 1000000000) (hq : q < sn S) (h3 : 3 ≤ ssrt S q) (h6 : ssrt S q ≤ 6) :
    Pair (tX9_divert_0 i (nI q) (nI (zslot (sn S) t q))) (tX11_outletWorks_0 (nI q) (nI (ssrt S q))) μ ν i j S w (B + 1) t hd C now G := by
  obtain ⟨O, st, Q, h, hG⟩ := h
  have hS := hE.1
  have hn6 := hS.2.1
  have hn3 := hS.1
  have hk : keeps S q := ⟨hq, by omega, by omega⟩
  have hs : zslot (sn S) t q < 60 := by have := zslot_lt (n := sn S) (t := t) (p := q) (by omega); omega
  obtain ⟨hr1, hr2⟩ := h.2.1 q hq
  have hrd := rd_cases hr1
  have hrc := rc_cases hr2
  obtain ⟨d1, d2, d3, d4⟩ := dev_any hE (q := q) (by omega) h6
  obtain ⟨g1, g2, g3, g4, d, gd, g5, g6, g7⟩ := dev_out hE h3 h6
  obtain ⟨s1, s2⟩ := dev_srt hE (q := q) (by omega)
  have hj := h.1.1
  have hj2 := hE.2.2.1.1
  have hC13 := h.1.2.2.2.2.2.2.2.2.2.2.2.2
  have hC11 := h.1.2.2.2.2.2.2.2.2.2.2.1
  obtain ⟨qa, qb, qc⟩ := h.2.2.2.2.2.1 q hk
  have hpl : plOf S q = snum S q := if_neg (by omega)
  have hlen := RQ_bound h hk
  have hw0 := h.1.2.2.2.2.2.1
  have hx9 := h.1.2.2.2.2.1
  unfold Pair
  rw [eX9_divert_0, pX4_has rfl hs, zI_some, eX11_outletWorks_0, qU (a80 rfl) (by omega), Option.bind_some, d2, eX11_outletWorks_10, qW (a150 rfl) (by omega), Option.bind_some]
  by_cases b : w (150 + q) = 0
  · rw [zif_pos b, zif_pos (hrc.1.mpr b), zif_pos rfl, eX11_outletWorks_44]
    exact ⟨μ, w, rfl, rfl, FrW.rf, h.rq (by omega) hG⟩
  · have hb1 : w (150 + q) = 1 := hrc.2.resolve_left b
    have hr : isLb (μ.1 40 (2 * i) (zslot (sn S) t q)) ∧ w (210 + q) = μ.1 40 (2 * i) (zslot (sn S) t q) ∧ w (270 + q) = μ.1 42 (2 * i) (zslot (sn S) t q) ∧ w (330 + q) = μ.1 41 (2 * i) (zslot (sn S) t q) := by
      rcases hr2 with ⟨a1, a2⟩ | ⟨a1, a2, a3, a4, a5, a6⟩
      · exact absurd a2 b
      · exact ⟨a2, a4, a5.1, a6⟩
    rw [zif_neg b, zif_neg (fun z => b (hrc.1.mp z)), zif_neg one_ne0, hj, zif_pos hj2, qI_in (zS_43 j) rfl (show q < 60 by omega) (by decide), Option.bind_some, s1, pM_destW hE.2.2.2.2.2 hS.2.2.2.2.1 rfl (by omega) (by rw [hr.2.1]; exact hr.1), zI_some, hr.2.1, hr.2.2.1, hr.2.2.2, hE.2.2.2.2.1.2.2.1, hw0]
    obtain ⟨g, hgX, hgM⟩ : ∃ g, tX9_divert_22 i (nI q) (nI (zslot (sn S) t q)) (nI (ssrt S q)) μ = tX9_divert_45 i (nI q) (nI (zslot (sn S) t q)) (nI (ssrt S q)) g μ ∧ ∀ v, (zif (nI (ssrt S q) = 3) (tX11_outletWorks_41 (nI q) (nI (ssrt S q)) (nI (snum S q)) v (10 + nI (snum S q)) (mW ν w)) (tX11_outletWorks_41 (nI q) (nI (ssrt S q)) (nI (snum S q)) v (nI (ssrt S q)) (mW ν w))) = tX11_outletWorks_41 (nI q) (nI (ssrt S q)) (nI (snum S q)) v g (mW ν w) := by
      by_cases e : nI (ssrt S q) = 3
      · refine ⟨10 + nI (snum S q), ?_, fun v => by rw [zif_pos e]⟩
        rw [eX9_divert_22, zif_pos e, hj, zif_pos hj2, qI_in (zS_44 j) rfl (show q < 60 by omega) (by decide), Option.bind_some, d1, eX9_divert_43]
      · refine ⟨nI (ssrt S q), ?_, fun v => by rw [zif_neg e]⟩
        rw [eX9_divert_22, zif_neg e, eX9_divert_43]
    rw [hgX, hgM, eX9_divert_45, pX9_goalOf hj hj2 hE.2.2.1.2.2.2.2.1 rfl hs, zI_some, hE.2.2.1.2.2.2.1, hx9]
    generalize zgoal (sT S) (sF S) lim (nI now) (μ.1 40 (2 * i) (zslot (sn S) t q)) (μ.1 42 (2 * i) (zslot (sn S) t q)) (μ.1 41 (2 * i) (zslot (sn S) t q)) = gg
    rw [eX11_outletWorks_41]
    by_cases hgg : gg = g
    · rw [zif_pos hgg, zif_pos hgg, pM_stateIn h3 h6, zI_some, pM_manyInW hC13 hC11 _ _ qa.2.2.2.2.2 (fun b => by rw [qb b, hpl]), zI_some, pM_ofDevice (s := ssrt S q) (k := snum S q) (z := 2) (c := 2) (d := d) rfl rfl rfl h6 d4 (by decide) gd g5 g6, zI_some, qI_in (zS_38 i) rfl (show q < 60 by omega) (by decide), Option.bind_some, qa.2.2.1, hj, zif_pos hj2, qI_in (zS_45 j) rfl (show q < 60 by omega) (by decide), Option.bind_some, g1]
      have hmiss : ∃ μ' w', tX9_divert_90 i μ = some (none, μ') ∧ tX11_outletWorks_82 (mW ν w) = some (none, mW ν w') ∧ FrW i μ μ' ∧ RQ μ' ν i j S w' (B + 1) t hd C now G := by
        rw [eX9_divert_90, qI_in (x := 3) (p := 3) (zS_57 i) rfl (by decide) (by decide), Option.bind_some, wI_in (x := 3) (p := 3) (zS_57 i) rfl (by decide) (by decide), Option.bind_some, eX11_outletWorks_82, pM_counts (z := 3) (k := 3) rfl (by decide), zU_some]
        exact ⟨_, _, rfl, rfl, FrW.mS FrW.rf (by unfold isW; omega), (count_RW (k := 3) hS h (by decide)).rq (by omega) hG⟩
      by_cases hl : nI (Q q).length < nI (D (ssrt S q) (snum S q) 0)
      · rw [zif_pos hl, zif_pos hl, qI_in (zS_59 i) rfl (show q < 60 by omega) (by decide), Option.bind_some, h.2.2.2.2.2.2.1.1 q hq, qW (x := 0) (p := 0) rfl (by decide), Option.bind_some, qW (a15 rfl) (by omega), Option.bind_some, hw0]
        by_cases hy : nI now < w (15 + q)
        · rw [zif_pos hy, zif_pos hy]
          exact hmiss
        · rw [zif_neg hy, zif_neg hy, zif_pos hj2, qI_in (zS_46 j) rfl (show q < 60 by omega) (by decide), Option.bind_some, g2, wI_in (zS_59 i) rfl (show q < 60 by omega) (by decide), Option.bind_some, Option.bind_some, pM_ofDevice (s := ssrt S q) (k := snum S q) (z := 3) (c := 3) (d := d) rfl rfl rfl h6 d4 (by decide) gd g5 g7, zI_some, wW (a15 rfl) (by omega), Option.bind_some, qW (a90 rfl) (by omega), Option.bind_some]
          have hA := ready_RW hS h hq (nI now + nI (D (ssrt S q) (snum S q) 1))
          generalize hm1 : mS μ 59 i q (nI now + nI (D (ssrt S q) (snum S q) 1)) = μ1 at hA
          generalize hw1 : upd w (15 + q) (nI now + nI (D (ssrt S q) (snum S q) 1)) = w1 at hA
          have fr1 : FrW i μ μ1 := by rw [← hm1]; exact FrW.mS FrW.rf (by unfold isW; omega)
          have hE1 := hE.fr fr1
          have e150 : w1 (150 + q) = 1 := by rw [← hw1, upd_ne _ _ (by omega)]; exact hb1
          rw [qI_in (zS_58 i) rfl hs (by decide), Option.bind_some]
          rcases (hA.2.1 q hq).1 with ⟨a1, a2⟩ | ⟨r, hr100, a1, a2⟩
          · rw [a1, a2, eX9_divert_129, zif_pos m1_lt, pX4_removeAt hs, zU_some, qI_in (x := 4) (p := 4) (zS_57 i) rfl (by decide) (by decide), Option.bind_some, wI_in (x := 4) (p := 4) (zS_57 i) rfl (by decide) (by decide), Option.bind_some, eX11_outletWorks_122, zif_pos m2_lt, pM_counts (z := 4) (k := 4) rfl (by decide), zU_some, eX11_outletWorks_144, pM_dropRecord rfl (by omega), zU_some]
            refine ⟨_, _, rfl, rfl, ?_, ?_⟩
            · refine FrW.tr fr1 ?_
              refine FrW.mS (FrW.mS FrW.rf ?_) ?_ <;> unfold isW <;> omega
            · have hB2 := drop_RW (p := q) hS (count_RW (k := 4) hS hA (by decide)) hq
              rw [mS_comm (by decide)] at hB2
              rw [mS_k _ _ _ _ _ _ _ _ (by decide)]
              exact hB2.rq (by omega) hG
          · rw [a1, a2]
            obtain ⟨μ', w', c1, c2, c3, c4⟩ := divert_bag hE1 hA hB hk h3 h6 hr100 a2 e150 hG
            exact ⟨μ', w', c1, c2, fr1.tr c3, c4⟩
      · rw [zif_neg hl, zif_neg hl]
        exact hmiss
    · rw [zif_neg hgg, zif_neg hgg, eX11_outletWorks_44]
      exact ⟨μ, w, rfl, rfl, FrW.rf, h.rq (by omega) hG⟩
