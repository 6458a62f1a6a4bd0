/-! ===== screens: both sides ===== -/
set_option maxHeartbeats 4000000 in
theorem screen_pair {μ ν : zM} {i j : Nat} {S : zSt} {D : zDv} {lim : Int32} {w : Nat → Int32} {B t hd C now k : Nat} (hE : ENV μ ν j S D lim) {G : Nat → Prop} (h : RQ μ ν i j S w B t hd C now G) (hB : B < 1000000000) (hk : k < scnt S 4) :
    Pair (tX9_workScreen_0 i (nI (spos S 4 k))) (tX11_screenWorks_0 (nI k)) μ ν i j S w (B + 1) t hd C now G := by
  obtain ⟨O, st, Q, h, hG⟩ := h
  have hS := hE.1
  have hn6 := hS.2.1
  obtain ⟨p1, p2, p3, p4, p5, p6, p7, p8, p9, d, gd, g1, g2, g3, -⟩ := dev_ex hE (s := 4) (by decide) (by decide) hk
  have hj := h.1.1
  have hj2 := hE.2.2.1.1
  have hC13 := h.1.2.2.2.2.2.2.2.2.2.2.2.2
  have hC11 := h.1.2.2.2.2.2.2.2.2.2.2.1
  obtain ⟨qa, qb, qc⟩ := h.2.2.2.2.2.1 _ p4
  have hlen := RQ_bound h p4
  obtain ⟨hv, lv, lv1, lv3, hlX, hlM⟩ := h.2.2.2.2.2.2.1.2.2 k hk
  obtain ⟨t1, t2⟩ := g3 rfl lv lv1 lv3
  have hA := work4_RW hS h hk (w (75 + k) + 1)
  have hA2 := work4_RW hS hA hk 0
  have hlev := fun (v : Nat) (x y : Int32) (a : 1 ≤ v) (b : v ≤ 3) (hx : x = nI v) (hy : y = nI (v - 1)) => level_RW hS hA2 hk a b hx hy
  obtain ⟨c4, c5, c6⟩ := cnt_two hS
  generalize hq : spos S 4 k = q at *
  unfold Pair
  rw [eX9_workScreen_0, qI_in (zS_36 i) rfl (show q < 60 by omega) (by decide), Option.bind_some, qa.1, eX9_workScreen_10, qI_in (zS_61 i) rfl (show q < 60 by omega) (by decide), Option.bind_some, hlX, eX9_workScreen_17, eX11_screenWorks_0, pM_firstInW (x := 4) (l := Q q) hC13 hC11 _ qc (fun b => by rw [qb b, p2, p5]; rfl), zI_some, eX11_screenWorks_7]
  cases hQ : Q q with
  | nil =>
    rw [show oI ([] : List Nat).head? = -1 from rfl, zif_pos m1_lt, show oN (-2) id ([] : List Nat).head? = -2 from rfl, zif_pos m2_lt, eX9_workScreen_31]
    exact ⟨μ, w, rfl, rfl, FrW.rf, h.rq (by omega) hG⟩
  | cons b l =>
    have hbQ : b ∈ Q q := by rw [hQ]; exact List.mem_cons_self
    obtain ⟨hbC, hstb⟩ := st_que hS h p4 hbQ
    have hb : b < 100 := by omega
    have hnd := qa.2.2.2.2.2
    rw [hQ] at qa hlen hnd
    have hlv1 : ¬ nI lv < 1 := nI_nlt (b := 1) (by omega) (by omega)
    have hlv3 : ¬ (3 : Int32) < nI lv := nI_nlt (a := 3) (by omega) (by omega)
    have hM1 : w (77 + k) + 1 = nI lv := by
      rw [hlM, nI_1, show lv - 1 + 1 = lv by omega]
    rw [show oI (b :: l).head? = nI b from rfl, show oN (-2) id (b :: l).head? = nI b from rfl, zif_neg (nI_pos (by omega)), zif_neg (nI_pos (by omega)), zif_neg hlv1, zif_neg hlv3, qI_in (zS_60 i) rfl (show q < 60 by omega) (by decide), Option.bind_some, wI_in (zS_60 i) rfl (show q < 60 by omega) (by decide), Option.bind_some, qI_in (zS_60 i) rfl (show q < 60 by omega) (by decide), Option.bind_some, mS_same, mS_2, hj, zif_pos hj2, qX_in (N := 4) (p := lv) rfl (by omega) (by decide), Option.bind_some, qI_in (zS_53 _) rfl (show q < 60 by omega) (by decide), Option.bind_some, mS_k _ _ _ _ _ _ _ _ (by decide), t1, hv, qW (a77 rfl) (by omega), Option.bind_some, hM1, eX11_screenWorks_24, qW (a75 rfl) (by omega), Option.bind_some, wW (a75 rfl) (by omega), Option.bind_some, qW (a75 rfl) (by omega), Option.bind_some, upd_at, pM_ofDevice (x := 4) (s := 4) (k := k) (c := 3 + lv) (d := d) rfl rfl (a3 rfl) (by decide) (by omega) (by omega) gd g1 t2, zI_some]
    by_cases hlt : w (75 + k) + 1 < nI (D 4 k (1 + lv))
    · rw [zif_pos hlt, zif_pos hlt]
      exact ⟨_, _, rfl, rfl, FrW.mS FrW.rf (by unfold isW; omega), hA.rq (by omega) hG⟩
    · rw [zif_neg hlt, zif_neg hlt, wI_in (zS_60 i) rfl (show q < 60 by omega) (by decide), Option.bind_some, wW (a75 rfl) (by omega), Option.bind_some, wW (a77 rfl) (by omega), Option.bind_some]
      have fr7 : FrW i μ (mS (mS μ 60 i q (w (75 + k) + 1)) 60 i q 0) := by
        refine FrW.mS (FrW.mS FrW.rf ?_) ?_ <;> unfold isW <;> omega
      generalize mS (mS μ 60 i q (w (75 + k) + 1)) 60 i q 0 = μ7 at hA2 fr7 hlev ⊢
      generalize upd (upd w (75 + k) (w (75 + k) + 1)) (75 + k) 0 = w7 at hA2 hlev ⊢
      have hlb := hA2.2.2.2.2.1 b hbC
      have l4 : μ7.1 25 i b = ν.1 72 0 b := hlb.1 4 (by decide)
      rw [qI_in (zS_25 i) rfl hb (by decide), Option.bind_some, l4, qI_in (zS_72 0) rfl hb (by decide), Option.bind_some, mW_k _ _ _ _ _ (by decide)]
      have hdo : ∀ (a4 : Int32), tX9_workScreen_110 i (nI q) (nI b) a4 μ7 = (zI (tX3_takeFirst_0 i (nI q) (mS μ7 61 i q 1)) fun v3 μ2 => zif (a4 = 0) (zU (tX0_put_0 i (nI b) 9 (-1) μ2) fun μ4 => zU (tX4_removeAt_0 (2 * i + 1) (nI b) μ4) fun μ5 => (qI μ5 (57, i) 6).bind fun v6 => (wI μ5 (57, i) 6 (v6 + 1)).bind fun μ7 => tX9_workScreen_180 μ7) ((wI μ2 (42, 2 * i + 1) (nI b) 1).bind fun μ8 => zU (tX9_sendToExit_0 i (nI q) (nI b) μ8) fun μ9 => tX9_workScreen_180 μ9)) := fun a4 => by
        rw [eX9_workScreen_110, wI_in (zS_61 i) rfl (show q < 60 by omega) (by decide), Option.bind_some]
      have hB1 := hlev 1 1 0 (by decide) (by decide) rfl rfl
      have fr6 : FrW i μ (mS μ7 61 i q 1) := FrW.mS fr7 (by unfold isW; omega)
      have hE6 := hE.fr fr6
      have hlev2 := hlev (lv + 1) (nI lv + 1) (nI lv)
      by_cases hth : ν.1 72 0 b < nI lv
      · rw [zif_pos hth, zif_pos hth, eX9_workScreen_88, eX9_workScreen_90, zif_neg one_ne0, hdo, wW (b4 rfl) (by omega), Option.bind_some, eX11_screenWorks_112, pM_ofDevice (x := 4) (z := 7) (s := 4) (k := k) (c := 7) (d := d) rfl rfl rfl (by decide) (by omega) (by decide) gd g1 g2, zI_some, pM_goes rfl hb, zU_some, eX11_screenWorks_156]
        generalize mS μ7 61 i q 1 = μ6 at hB1 fr6 hE6 ⊢
        generalize upd w7 (77 + k) 0 = w6 at hB1 ⊢
        have qa6 := (hB1.2.2.2.2.2.1 _ p4).1
        rw [hQ] at qa6
        obtain ⟨μ8, e8, fr8, z1, z2⟩ := pX3_takeFirst_some qa6 (x := nI q) rfl (by omega) (by simp at hlen; omega)
        have e8r : ∀ k a z, ¬ (36 ≤ k ∧ k ≤ 39) → μ8.1 k a z = μ6.1 k a z := fun k a z hk => fr8.2 k a z (fun h => hk ⟨h.1, h.2.1⟩)
        have hj6 : μ6.2.1 9 i 0 = j := hB1.1.1
        rw [e8, zI_some, zif_neg one_ne0, wI_in (hel_42 i) rfl hb (by decide), Option.bind_some]
        have hbag := hB1.2.2.2.1 b hbC
        have hst4 : st b = 4 := by rw [hstb, p2]; rfl
        obtain ⟨f1, f3, -, f5⟩ := hbag.2.2.2.2.2.2.1 (by omega)
        obtain ⟨μ', v1, v2, v3⟩ := send_bag (μ9 := mS μ8 42 (2 * i + 1) b 1) (w9 := upd w6 (400 + 8 * b + 4) 1) (l := l) (e := D 4 k 5) hS hB1 hB p4 hbQ (by omega) p8 p9 hj6 hj2 (by rw [fr6.2 47 j q (by unfold isW; omega)]; exact p7) fr8 z1 (fun q' hq' hne => z2 q' _ hne (hB1.2.2.2.2.2.1 q' hq').1) (FrW.mS FrW.rf (by unfold isW; omega)) (fun k a z hk => by rw [mS_k _ _ _ _ _ _ _ _ (by omega)]) (fun k z a c => by rw [mS_i _ _ _ _ _ _ _ _ (by omega)]) (fun k z a c hz => by rw [mS_n _ _ _ _ _ _ _ _ hz]) (by rw [mS_k _ _ _ _ _ _ _ _ (by decide), e8r _ _ _ (by omega)]; exact f1) (by rw [upd_ne _ _ (by omega), mS_k _ _ _ _ _ _ _ _ (by decide), e8r _ _ _ (by omega)]; exact f3) (by rw [upd_at, mS_same]) (by rw [mS_same]; exact Or.inr rfl) (by rw [upd_ne _ _ (by omega), mS_k _ _ _ _ _ _ _ _ (by decide), e8r _ _ _ (by omega)]; exact f5) (fun x hx => by rw [upd_ne _ _ (by omega)]) (List.nodup_cons.mp hnd).1 (by rw [hQ]; exact List.sublist_cons_self _ _) (fun b' z1 z2 => by rw [hQ] at z1; exact (List.mem_cons.mp z1).resolve_left z2) hG
        rw [v1, zU_some, eX9_workScreen_180]
        exact ⟨_, _, rfl, rfl, fr6.tr v2, v3⟩
      · rw [zif_neg hth, zif_neg hth, eX9_workScreen_88, eX9_workScreen_90, zif_pos rfl]
        by_cases h3 : nI lv < 3
        · have hlv : lv + 1 ≤ 3 := by
            have := (nI_ltI (a := lv) (b := 3) (by omega) (by omega)).mp h3
            omega
          rw [zif_pos h3, zif_pos h3, wI_in (zS_61 i) rfl (show q < 60 by omega) (by decide), Option.bind_some, wW (a77 rfl) (by omega), Option.bind_some, eX11_screenWorks_156, upd_upd]
          exact ⟨_, _, rfl, rfl, FrW.mS fr7 (by unfold isW; omega), (hlev2 (by omega) hlv (nI_1 lv) (by rw [Nat.add_sub_cancel])).rq (by omega) hG⟩
        · rw [zif_neg h3, zif_neg h3, hdo, pM_goes rfl hb, zU_some, pM_counts (z := 6) (k := 6) rfl (by decide), zU_some, eX11_screenWorks_156]
          generalize mS μ7 61 i q 1 = μ6 at hB1 fr6 hE6 ⊢
          generalize upd w7 (77 + k) 0 = w6 at hB1 ⊢
          have qa6 := (hB1.2.2.2.2.2.1 _ p4).1
          rw [hQ] at qa6
          obtain ⟨μ8, e8, fr8, z1, z2⟩ := pX3_takeFirst_some qa6 (x := nI q) rfl (by omega) (by simp at hlen; omega)
          rw [e8, zI_some, zif_pos rfl, pX0_put rfl hb, zU_some, pX4_removeH hb, zU_some, qI_in (x := 6) (p := 6) (zS_57 i) rfl (by decide) (by decide), Option.bind_some, wI_in (x := 6) (p := 6) (zS_57 i) rfl (by decide) (by decide), Option.bind_some, eX9_workScreen_180, mS_k _ _ _ _ _ 57 _ _ (by decide), mS_k _ _ _ _ _ 57 _ _ (by decide), mS_k _ _ _ _ _ 57 _ _ (by decide)]
          obtain ⟨r1, r2⟩ := drop_first (s1 := 9) (c1 := 6) hS hB1 hB p4 hQ (Or.inr rfl) (by decide) fr8 z1 z2 hG
          exact ⟨_, _, rfl, rfl, fr6.tr r2, r1⟩
