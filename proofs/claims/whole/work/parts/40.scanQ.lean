/-! ===== a scanner reads; finds records and bags ===== -/
theorem lone_iff {μ ν : zM} {i n t : Nat} {w : Nat → Int32} (h : ringR μ i n t w) (b : Bool) : ∀ q, q < n → (loneX μ i b (zslot n t q) ↔ loneM (mW ν w) b q) := by
  intro q hq
  obtain ⟨h1, h2⟩ := h q hq
  have e1 := rd_cases h1
  have e2 := rc_cases h2
  unfold loneX loneM
  rw [mW_65, e1]
  have e3 : (¬ μ.1 40 (2 * i) (zslot n t q) = -2) ↔ w (150 + q) = 1 := by
    rw [e2.1]
    rcases e2.2 with e | e
    · rw [e]; decide
    · rw [e]; decide
  rw [e3]
theorem pM_nearW {ν : zM} {w : Nat → Int32} {S : zSt} {D : zDv} {lim : Int32} {p : Nat} {b : Bool} {o : Option Nat} (hS : okS S) (hu : SM (ν.1 63 0) S D lim) (hp : p < sn S) (h : nearF (loneM (mW ν w) b) (sn S) p (swd S) 1 o) : tX11_nearest_0 (nI p) (wI1 b) (mW ν w) = some (some (.inl (oN (-2) id o)), mW ν w) :=
  pM_nearest rfl (by rw [mW_k _ _ _ _ _ (by decide)]; exact hu.1) hS.2.1 hS.1 hp (by rw [mW_k _ _ _ _ _ (by decide)]; exact hu.2.1) hS.2.2.1 h
set_option maxHeartbeats 1000000 in
theorem read_pair {μ ν : zM} {i j : Nat} {S : zSt} {D : zDv} {lim : Int32} {w : Nat → Int32} {B t hd C now O : Nat} {st : Nat → Nat} {Q : Nat → List Nat} {p r : Nat} (hE : ENV μ ν j S D lim) (h : RW μ ν i j S w B t hd C now O st Q) (hp : p < sn S) (hr : r < 100) (hw : w (90 + p) = nI r) (hrec : w (150 + p) = 1) :
    ∃ μ' w', tX9_readLabels_0 i (nI (zslot (sn S) t p)) μ = some (none, μ') ∧ tX11_scannerWorks_122 (nI p) (mW ν w) = some (none, mW ν w') ∧ FrW i μ μ' ∧ RW μ' ν i j S w' B t hd C now O st Q := by
  have hS := hE.1
  have hn6 := hS.2.1
  have hn3 := hS.1
  have ht : t < sn S := h.1.2.1
  have hs : zslot (sn S) t p < 60 := by have := zslot_lt (n := sn S) (t := t) (p := p) (by omega); omega
  generalize hse : zslot (sn S) t p = s at *
  have hrX : μ.1 58 i s = nI r := by
    have := (h.2.1 p hp).1
    rw [hse] at this
    rcases this with ⟨a1, a2⟩ | ⟨r', a1, a2, a3⟩
    · exact absurd (hw.symm.trans a2) (fun z => by have := nI_pos (n := r) (by omega); rw [z] at this; exact this m2_lt)
    · rw [a2, ← a3, hw]
  obtain ⟨b1, b2, b3⟩ := h.2.2.2.2.1 r (h.2.2.1 p hp r hr hw).1
  have hpas : w (330 + p) = μ.1 41 (2 * i) s := by
    have := (h.2.1 p hp).2
    rw [hse] at this
    rcases this with ⟨a1, a2⟩ | ⟨a1, a2, a3, a4, a5, a6⟩
    · exact absurd (a2.symm.trans hrec) zo_ne
    · exact a6
  have hA := pass_RW hS h hp hrec (μ.1 41 (2 * i) s + 1)
  rw [hse] at hA
  generalize hμ1 : mS μ 41 (2 * i) s (μ.1 41 (2 * i) s + 1) = μ1 at hA
  generalize hw1 : upd w (330 + p) (μ.1 41 (2 * i) s + 1) = w1 at hA
  have fr1 : FrW i μ μ1 := by rw [← hμ1]; exact FrW.mS FrW.rf (by unfold isW; omega)
  have hE1 := hE.fr fr1
  have e1 : w1 (90 + p) = nI r := by rw [← hw1, upd_ne _ _ (by omega)]; exact hw
  have e2 : w1 (150 + p) = 1 := by rw [← hw1, upd_ne _ _ (by omega)]; exact hrec
  have e3 : μ1.1 58 i s = nI r := by rw [← hμ1, mS_k _ _ _ _ _ _ _ _ (by decide)]; exact hrX
  have hj := hA.1.1
  have hhd := hA.1.2.2.2.2.2.2
  have f1 := b1 0 (by decide)
  have f2 := b1 1 (by decide)
  have f3 := b1 2 (by decide)
  have f4 := b1 3 (by decide)
  have g1 := hA.2.2.2.2.1 r (hA.2.2.1 p hp r hr e1).1
  have c1 := g1.1 0 (by decide)
  have c2 := g1.1 1 (by decide)
  have c3 := g1.1 2 (by decide)
  have c4 := g1.1 3 (by decide)
  have hcX := pX9_codeSeen (x := nI r) hj hE1.2.2.1.1 hE1.2.2.1.2.2.2.2.1 rfl hr
  have hcM := pM_readOfW (w := w1) (x := nI r) (hd := hd) hE1.2.2.2.2.2 hS.2.2.2.2.1 ⟨hhd.1, hhd.2.2.1⟩ rfl hr (c1 ▸ g1.2.1) (c3 ▸ g1.2.2)
  rw [hhd.2.1, show μ1.1 22 i r = ν.1 69 0 r from c2, show μ1.1 21 i r = ν.1 68 0 r from c1, show μ1.1 24 i r = ν.1 71 0 r from c4, show μ1.1 23 i r = ν.1 70 0 r from c3] at hcX
  have hclb : isLb (zcode (sT S) (sF S) (zseen (nI hd) (ν.1 69 0 r) (ν.1 68 0 r)) (zseen (nI hd) (ν.1 71 0 r) (ν.1 70 0 r))) := zcode_lb (zseen_lb (c1 ▸ g1.2.1)) (zseen_lb (c3 ▸ g1.2.2))
  generalize zcode (sT S) (sF S) (zseen (nI hd) (ν.1 69 0 r) (ν.1 68 0 r)) (zseen (nI hd) (ν.1 71 0 r) (ν.1 70 0 r)) = code at hcX hcM hclb
  have hX : tX9_readLabels_0 i (nI s) μ = tX9_readLabels_34 i (nI s) code (μ1.1 40 (2 * i) s) μ1 := by
    rw [eX9_readLabels_0, qI_in (bel_41 i) rfl hs (by decide), Option.bind_some, wI_in (bel_41 i) rfl hs (by decide), Option.bind_some, hμ1, qI_in (zS_58 i) rfl hs (by decide), Option.bind_some, e3, hcX, zI_some, eX9_readLabels_24, qI_in (bel_40 i) rfl hs (by decide), Option.bind_some]
  have hM : tX11_scannerWorks_122 (nI p) (mW ν w) = tX11_scannerWorks_151 (nI p) code (mW ν w1) := by
    rw [eX11_scannerWorks_122, qW (a330 rfl) (by omega), Option.bind_some, wW (a330 rfl) (by omega), Option.bind_some, hpas, hw1, qW (a90 rfl) (by omega), Option.bind_some, e1, hcM, zI_some]
  have hlab : μ1.1 40 (2 * i) s = w1 (210 + p) ∧ isLb (w1 (210 + p)) := by
    have := (hA.2.1 p hp).2
    rw [hse] at this
    rcases this with ⟨a1, a2⟩ | ⟨a1, a2, a3, a4, a5, a6⟩
    · exact absurd (a2.symm.trans e2) zo_ne
    · exact ⟨a4.symm, by rw [a4]; exact a2⟩
  rw [hX, hM, eX9_readLabels_34, eX11_scannerWorks_151, hlab.1]
  by_cases hc : code < 1000
  · have hc0 := (lb_1000 hclb).mp hc
    rw [zif_pos hc, zif_neg hc0]
    by_cases hm : code = -1
    · have hm0 := (lb_m1 hclb hc0).mpr hm
      rw [zif_pos hm, zif_pos hm0, qW (a210 rfl) (by omega), Option.bind_some]
      by_cases hl0 : w1 (210 + p) = 0
      · have hB := label_RW (v := -1) hS hA hp e2 (Or.inr (Or.inl rfl))
        rw [hse] at hB
        refine ⟨_, _, ?_, ?_, ?_, hB⟩
        · rw [zif_pos hl0, wI_in (bel_40 i) rfl hs (by decide), Option.bind_some, eX9_readLabels_95]
        · rw [zif_pos hl0, wW (a210 rfl) (by omega), Option.bind_some, eX11_scannerWorks_233]
        · exact FrW.mS fr1 (by unfold isW; omega)
      · refine ⟨_, _, ?_, ?_, fr1, hA⟩
        · rw [zif_neg hl0, eX9_readLabels_95]
        · rw [zif_neg hl0, eX11_scannerWorks_233]
    · have hm0 := fun z => hm ((lb_m1 hclb hc0).mp z)
      refine ⟨_, _, ?_, ?_, fr1, hA⟩
      · rw [zif_neg hm, eX9_readLabels_95]
      · rw [zif_neg hm0, eX11_scannerWorks_233]
  · have hc0 : 0 < code := Classical.byContradiction (fun z => hc ((lb_1000 hclb).mpr z))
    rw [zif_neg hc, zif_pos hc0, qW (a210 rfl) (by omega), Option.bind_some]
    have hfin : ∀ μ2 w2, FrW i μ μ2 → RW μ2 ν i j S w2 B t hd C now O st Q → w2 (150 + p) = 1 → ∃ μ' w', tX9_readLabels_63 i (nI s) code μ2 = some (none, μ') ∧ tX11_scannerWorks_189 (nI p) code (mW ν w2) = some (none, mW ν w') ∧ FrW i μ μ' ∧ RW μ' ν i j S w' B t hd C now O st Q := by
      intro μ2 w2 fr2 h2 hr2
      have hB := label_RW hS h2 hp hr2 hclb
      rw [hse] at hB
      refine ⟨_, _, ?_, ?_, ?_, hB⟩
      · rw [eX9_readLabels_63, wI_in (bel_40 i) rfl hs (by decide), Option.bind_some, eX9_readLabels_95]
      · rw [eX11_scannerWorks_189, wW (a210 rfl) (by omega), Option.bind_some, eX11_scannerWorks_233]
      · exact FrW.mS fr2 (by unfold isW; omega)
    by_cases hl : w1 (210 + p) < 1000
    · rw [zif_pos hl, zif_neg ((lb_1000 hlab.2).mp hl)]
      exact hfin μ1 w1 fr1 hA e2
    · have hl0 : 0 < w1 (210 + p) := Classical.byContradiction (fun z => hl ((lb_1000 hlab.2).mpr z))
      rw [zif_neg hl, zif_pos hl0, Option.bind_some]
      by_cases heq : w1 (210 + p) = code
      · rw [zif_pos heq, zif_pos heq]
        exact hfin μ1 w1 fr1 hA e2
      · rw [zif_neg heq, zif_neg heq, qI_in (x := 2) (p := 2) (zS_57 i) rfl (by decide) (by decide), Option.bind_some, wI_in (x := 2) (p := 2) (zS_57 i) rfl (by decide) (by decide), Option.bind_some, pM_counts (z := 2) (k := 2) rfl (by decide), zU_some]
        refine hfin _ _ ?_ (count_RW (k := 2) hS hA (by decide)) ?_
        · exact FrW.mS fr1 (by unfold isW; omega)
        · exact (upd_ne _ _ (by omega)).trans e2
set_option maxHeartbeats 1000000 in
theorem scan_pair {μ ν : zM} {i j : Nat} {S : zSt} {D : zDv} {lim : Int32} {w : Nat → Int32} {B t hd C now p : Nat} (hE : ENV μ ν j S D lim) {G : Nat → Prop} (h : RQ μ ν i j S w B t hd C now G) (hp : p < sn S) :
    Pair (tX9_scan_0 i (nI (zslot (sn S) t p))) (tX11_scannerWorks_0 (nI p)) μ ν i j S w (B + 1) t hd C now G := by
  obtain ⟨O, st, Q, h, hG⟩ := h
  have hS := hE.1
  have hn6 := hS.2.1
  have hn3 := hS.1
  have ht : t < sn S := h.1.2.1
  have hs : zslot (sn S) t p < 60 := by have := zslot_lt (n := sn S) (t := t) (p := p) (by omega); omega
  obtain ⟨hr1, hr2⟩ := h.2.1 p hp
  have hrd := rd_cases hr1
  have hrc := rc_cases hr2
  have hX0 : tX9_scan_0 i (nI (zslot (sn S) t p)) μ = zif (w (90 + p) < 0) (zif (w (150 + p) = 0) (some (none, μ)) (zU (tX9_findBagFor_0 i (nI (zslot (sn S) t p)) μ) fun m => some (none, m))) (zif (w (150 + p) = 0) (zU (tX9_findRecordFor_0 i (nI (zslot (sn S) t p)) μ) fun m => zU (tX9_readLabels_0 i (nI (zslot (sn S) t p)) m) fun m2 => some (none, m2)) (zU (tX9_readLabels_0 i (nI (zslot (sn S) t p)) μ) fun m2 => some (none, m2))) := by
    rw [eX9_scan_0, qI_in (zS_58 i) rfl hs (by decide), Option.bind_some]
    by_cases a : w (90 + p) < 0
    · rw [zif_pos (hrd.mpr a), zif_pos a, eX9_scan_14, eX9_scan_15, pX4_has rfl hs, zI_some]
      by_cases b : w (150 + p) = 0
      · rw [zif_pos b, zif_pos (hrc.1.mpr b), eX9_scan_24, zif_pos rfl, eX9_scan_37, zif_pos rfl, zif_pos rfl, eX9_scan_58]
      · rw [zif_neg b, zif_neg (fun z => b (hrc.1.mp z)), eX9_scan_24, zif_pos rfl, eX9_scan_37, zif_pos rfl, zif_neg one_ne0]
        simp only [eX9_scan_58]
    · rw [zif_neg (fun z => a (hrd.mp z)), zif_neg a, eX9_scan_14, eX9_scan_15, pX4_has rfl hs, zI_some]
      by_cases b : w (150 + p) = 0
      · rw [zif_pos b, zif_pos (hrc.1.mpr b), eX9_scan_24, zif_neg one_ne0, zif_pos rfl]
        simp only [eX9_scan_37, zif_neg one_ne0, eX9_scan_58]
      · rw [zif_neg b, zif_neg (fun z => b (hrc.1.mp z)), eX9_scan_24, zif_neg one_ne0, zif_neg one_ne0]
        simp only [eX9_scan_37, zif_neg one_ne0, eX9_scan_58]
  have hM0 : tX11_scannerWorks_0 (nI p) (mW ν w) = zif (w (90 + p) < 0) (zif (w (150 + p) = 0) (some (none, mW ν w)) (zI (tX11_nearest_0 (nI p) 0 (mW ν w)) fun v m => tX11_scannerWorks_54 (nI p) v m)) (zif (w (150 + p) = 0) (zI (tX11_nearest_0 (nI p) 1 (mW ν w)) fun v m => tX11_scannerWorks_97 (nI p) v m) (tX11_scannerWorks_122 (nI p) (mW ν w))) := by
    rw [eX11_scannerWorks_0, qW (a90 rfl) (by omega), Option.bind_some]
    have e17 : ∀ z, tX11_scannerWorks_17 (nI p) z (mW ν w) = zif (w (150 + p) = 0) (tX11_scannerWorks_38 (nI p) z 0 (mW ν w)) (tX11_scannerWorks_38 (nI p) z 1 (mW ν w)) := fun z => by
      rw [eX11_scannerWorks_17, eX11_scannerWorks_18, qW (a150 rfl) (by omega), Option.bind_some, eX11_scannerWorks_37, eX11_scannerWorks_37]
      rcases hrc.2 with e | e
      · rw [e, zif_neg zo_ne, zif_pos rfl]
      · rw [e, zif_pos rfl, zif_neg one_ne0]
    rw [e17, e17]
    by_cases a : w (90 + p) < 0
    · rw [zif_pos a, zif_pos a]
      by_cases b : w (150 + p) = 0
      · rw [zif_pos b, zif_pos b, eX11_scannerWorks_38, zif_pos rfl, zif_pos rfl, eX11_scannerWorks_80, zif_pos rfl]
      · rw [zif_neg b, zif_neg b, eX11_scannerWorks_38, zif_pos rfl, zif_neg one_ne0]
    · rw [zif_neg a, zif_neg a]
      by_cases b : w (150 + p) = 0
      · rw [zif_pos b, zif_pos b, eX11_scannerWorks_38, zif_neg one_ne0, eX11_scannerWorks_80, zif_neg one_ne0, zif_pos rfl]
      · rw [zif_neg b, zif_neg b, eX11_scannerWorks_38, zif_neg one_ne0, eX11_scannerWorks_80, zif_neg one_ne0, zif_neg one_ne0]
  unfold Pair
  rw [hX0, hM0]
  by_cases a : w (90 + p) < 0
  · rw [zif_pos a, zif_pos a]
    by_cases b : w (150 + p) = 0
    · rw [zif_pos b, zif_pos b]
      exact ⟨μ, w, rfl, rfl, FrW.rf, h.rq (by omega) hG⟩
    · have hb1 : w (150 + p) = 1 := hrc.2.resolve_left b
      rw [zif_neg b, zif_neg b]
      obtain ⟨o, ho⟩ := nearF_ex (loneM (mW ν w) false) (sn S) p (swd S) 1
      have hnM := pM_nearW hS hE.2.2.2.2.1 hp ho
      have hnX := pX9_loneNear (w := false) h.1.1 hE.2.2.1.1 hE.2.2.1.2.1 hn6 hn3 ht hp hE.2.2.1.2.2.1 hS.2.2.1 (lone_iff (ν := ν) h.2.1 false) ho
      change tX11_nearest_0 (nI p) 0 (mW ν w) = _ at hnM
      change tX9_loneNear_0 i _ 0 μ = _ at hnX
      rw [eX9_findBagFor_0, hnX, zI_some, hnM, zI_some, eX9_findBagFor_7, eX11_scannerWorks_54]
      cases o with
      | none =>
        rw [zif_pos (show oN (-1) (zslot (sn S) t) none < 0 from m1_lt), zif_pos (show oN (-2) id none < 0 from m2_lt), pX4_removeAt hs, zU_some, qI_in (x := 1) (p := 1) (zS_57 i) rfl (by decide) (by decide), Option.bind_some, wI_in (x := 1) (p := 1) (zS_57 i) rfl (by decide) (by decide), Option.bind_some, eX9_findBagFor_45, zU_some, pM_dropRecord rfl (by omega), zU_some, pM_counts (z := 1) (k := 1) rfl (by decide), zU_some, eX11_scannerWorks_79]
        refine ⟨_, _, rfl, rfl, ?_, (count_RW (k := 1) hS (drop_RW hS h hp) (by decide)).rq (by omega) hG⟩
        refine FrW.mS (FrW.mS FrW.rf ?_) ?_ <;> unfold isW <;> omega
      | some q =>
        obtain ⟨-, hqn⟩ := nearF_lone (by omega) _ _ _ ho
        have hsq : zslot (sn S) t q < 60 := by have := zslot_lt (n := sn S) (t := t) (p := q) (by omega); omega
        rw [show oN (-1) (zslot (sn S) t) (some q) = nI (zslot (sn S) t q) from rfl, show oN (-2) id (some q) = nI q from rfl, zif_neg (nI_pos (by omega)), zif_neg (nI_pos (by omega)), pX4_moveB hsq hs, zU_some, eX9_findBagFor_45, zU_some, pM_moveRecord rfl (by omega) rfl (by omega), zU_some, eX11_scannerWorks_79]
        refine ⟨_, _, rfl, rfl, ?_, (moveB_RW hS h hp hqn hb1).rq (by omega) hG⟩
        refine FrW.mS (FrW.mS (FrW.mS (FrW.mS FrW.rf ?_) ?_) ?_) ?_ <;> unfold isW <;> omega
  · rw [zif_neg a, zif_neg a]
    obtain ⟨r, hr100, hrw⟩ : ∃ r, r < 100 ∧ w (90 + p) = nI r := by
      rcases hr1 with ⟨a1, a2⟩ | ⟨r, a1, a2, a3⟩
      · exact absurd (by rw [a2]; exact m2_lt) a
      · exact ⟨r, a1, a3⟩
    by_cases b : w (150 + p) = 0
    · rw [zif_pos b, zif_pos b]
      obtain ⟨o, ho⟩ := nearF_ex (loneM (mW ν w) true) (sn S) p (swd S) 1
      have hnM := pM_nearW hS hE.2.2.2.2.1 hp ho
      have hnX := pX9_loneNear (w := true) h.1.1 hE.2.2.1.1 hE.2.2.1.2.1 hn6 hn3 ht hp hE.2.2.1.2.2.1 hS.2.2.1 (lone_iff (ν := ν) h.2.1 true) ho
      change tX11_nearest_0 (nI p) 1 (mW ν w) = _ at hnM
      change tX9_loneNear_0 i _ 1 μ = _ at hnX
      have hfin : ∀ μ2 w2, FrW i μ μ2 → RW μ2 ν i j S w2 B t hd C now O st Q → w2 (150 + p) = 1 → w2 (90 + p) = nI r → ∃ μ' w', (zU (tX9_readLabels_0 i (nI (zslot (sn S) t p)) μ2) fun m2 => some (none, m2)) = some (none, μ') ∧ tX11_scannerWorks_122 (nI p) (mW ν w2) = some (none, mW ν w') ∧ FrW i μ μ' ∧ RQ μ' ν i j S w' (B + 1) t hd C now G := by
        intro μ2 w2 fr2 h2 e1 e2
        obtain ⟨μ', w', c1, c2, c3, c4⟩ := read_pair (hE.fr fr2) h2 hp hr100 e2 e1
        exact ⟨μ', w', by rw [c1, zU_some], c2, fr2.tr c3, c4.rq (by omega) hG⟩
      rw [eX9_findRecordFor_0, hnX, zI_some, hnM, zI_some, eX9_findRecordFor_7, eX11_scannerWorks_97]
      cases o with
      | none =>
        rw [zif_pos (show oN (-1) (zslot (sn S) t) none < 0 from m1_lt), zif_pos (show oN (-2) id none < 0 from m2_lt), pX4_makeAt hs, zU_some, qI_in (x := 0) (p := 0) (zS_57 i) rfl (by decide) (by decide), Option.bind_some, wI_in (x := 0) (p := 0) (zS_57 i) rfl (by decide) (by decide), Option.bind_some, eX9_findRecordFor_45, zU_some, pM_newRecord rfl (by omega), zU_some, pM_counts (z := 0) (k := 0) rfl (by decide), zU_some]
        refine hfin _ _ ?_ (count_RW (k := 0) hS (rec_RW hS h hp (Or.inl rfl) (Or.inl rfl)) (by decide)) ?_ ?_
        · refine FrW.mS (FrW.mS (FrW.mS (FrW.mS FrW.rf ?_) ?_) ?_) ?_ <;> unfold isW <;> omega
        · unfold cntF
          rw [upd_ne _ _ (by omega)]
          exact (recF_on (by omega)).1
        · unfold cntF
          rw [upd_ne _ _ (by omega), newF_rec, recF_off (by omega) (by omega) (by omega) (by omega)]
          exact hrw
      | some q =>
        obtain ⟨hlq, hqn⟩ := nearF_lone (by omega) _ _ _ ho
        have hsq : zslot (sn S) t q < 60 := by have := zslot_lt (n := sn S) (t := t) (p := q) (by omega); omega
        have hq1 : w (150 + q) = 1 := by
          have := hlq.1
          rw [mW_65] at this
          exact this.mpr rfl
        have hqp : p ≠ q := fun z => by rw [z] at b; exact one_ne0 (hq1.symm.trans b)
        rw [show oN (-1) (zslot (sn S) t) (some q) = nI (zslot (sn S) t q) from rfl, show oN (-2) id (some q) = nI q from rfl, zif_neg (nI_pos (by omega)), zif_neg (nI_pos (by omega)), pX4_moveB hs hsq, zU_some, eX9_findRecordFor_45, zU_some, pM_moveRecord rfl (by omega) rfl (by omega), zU_some]
        refine hfin _ _ ?_ (moveB_RW hS h hqn hp hq1) ?_ ?_
        · refine FrW.mS (FrW.mS (FrW.mS (FrW.mS FrW.rf ?_) ?_) ?_) ?_ <;> unfold isW <;> omega
        · rw [movF_rec, dropF_off (by omega) (by omega) (by omega) (by omega)]
          exact (recF_on (by omega)).1
        · rw [movF_rec, dropF_off (by omega) (by omega) (by omega) (by omega), recF_off (by omega) (by omega) (by omega) (by omega)]
          exact hrw
    · have hb1 : w (150 + p) = 1 := hrc.2.resolve_left b
      rw [zif_neg b, zif_neg b]
      obtain ⟨μ', w', c1, c2, c3, c4⟩ := read_pair hE h hp hr100 hrw hb1
      exact ⟨μ', w', by rw [c1, zU_some], c2, c3, c4.rq (by omega) hG⟩
