/-! ===== stores: the pair ===== -/
theorem take_any {μ : zM} {i q b : Nat} {p1 p2 : List Nat} (h : QX μ i q (p1 ++ b :: p2)) (hq : q < 60) (hlen : (p1 ++ b :: p2).length < 200) :
    ∃ μ', tX3_takeBehind_0 i (nI q) (oI p1.getLast?) (nI b) μ = some (none, μ') ∧ FrQ i μ μ' ∧ QX μ' i q (p1 ++ p2) ∧ ∀ q' l2, q' ≠ q → QX μ i q' l2 → (∀ a ∈ l2, a ∉ p1 ++ b :: p2) → QX μ' i q' l2 := by
  by_cases e : p1 = []
  · subst e
    obtain ⟨μ', e1, e2, e3, e4⟩ := pX3_takeFront (x := nI q) (y := nI b) (z := -1) h rfl hq rfl rfl (by simp at hlen; omega)
    exact ⟨μ', e1, e2, e3, fun q' l2 hne hQ _ => e4 q' l2 hne hQ⟩
  · obtain ⟨l', c, rfl⟩ := last_app p1 e
    have he : l' ++ [c] ++ b :: p2 = l' ++ c :: b :: p2 := by simp
    have he2 : l' ++ [c] ++ p2 = l' ++ c :: p2 := by simp
    rw [he] at h hlen ⊢
    rw [he2, hdI_last]
    exact pX3_takeMid h rfl hq rfl rfl hlen
set_option maxHeartbeats 2000000 in
theorem store_pair {μ ν : zM} {i j : Nat} {S : zSt} {D : zDv} {lim : Int32} {w : Nat → Int32} {B t hd C now k : Nat} (hE : ENV μ ν j S D lim) {G : Nat → Prop} (h : RQ μ ν i j S w B t hd C now G) (hB : B < 1000000000) (hk : k < scnt S 5) :
    Pair (tX9_workStore_0 i (nI (spos S 5 k))) (tX11_storeWorks_0 (nI k)) μ ν i j S w (B + 1) t hd C now G := by
  obtain ⟨O, st, Q, h, hG⟩ := h
  have hS := hE.1
  have hn6 := hS.2.1
  obtain ⟨p1, p2, p3, p4, p5, p6, p7, p8, p9, d, gd, g1, g2, -, -⟩ := dev_ex hE (s := 5) (by decide) (by decide) hk
  have hj := h.1.1
  have hj2 := hE.2.2.1.1
  have hC13 := h.1.2.2.2.2.2.2.2.2.2.2.2.2
  have hC11 := h.1.2.2.2.2.2.2.2.2.2.2.1
  obtain ⟨qa, qb, qc⟩ := h.2.2.2.2.2.1 _ p4
  have hlen := RQ_bound h p4
  generalize hq : spos S 5 k = q at *
  have hin : ∀ b, b ∈ Q q ↔ b < C ∧ inM w 5 (nI k) b := fun b => by rw [qb b, p2, p5]; rfl
  have hlabs : ∀ b, b < C → inM w 5 (nI k) b → isLb (w (400 + 8 * b + 3)) ∧ w (400 + 8 * b + 3) = μ.1 40 (2 * i + 1) b ∧ (w (400 + 8 * b + 4) = μ.1 42 (2 * i + 1) b ∧ is01 (μ.1 42 (2 * i + 1) b)) ∧ w (400 + 8 * b + 5) = μ.1 41 (2 * i + 1) b := fun b hb hi => by
    have hbq := (hin b).mpr ⟨hb, hi⟩
    have hs5 : st b = 5 := by rw [(st_que hS h p4 hbq).2, p2]; rfl
    obtain ⟨f1, f2, f3, f4⟩ := (h.2.2.2.1 b hb).2.2.2.2.2.2.1 (by omega)
    exact ⟨by rw [f2]; exact f1, f2, f3, f4⟩
  have hlab2 : ∀ b, b ∈ Q q → w (400 + 8 * b + 3) = μ.1 40 (2 * i + 1) b := fun b hb => (hlabs b ((hin b).mp hb).1 ((hin b).mp hb).2).2.1
  obtain ⟨bst, bef, clo, eX, hX⟩ := pX9_store_loop (x := nI q) (T := sT S) (F := sF S) (now := nI now) hj hj2 hE.2.2.1.2.2.2.2.1 h.1.2.2.2.2.1 qa.2.2.2.1 qa.2.2.2.2.1 hlen (Q q) [] zN (-1) (-1) 0 rfl (by rw [zN_eq]; omega) (Or.inl ⟨rfl, fun a ha => by cases ha⟩)
  obtain ⟨z, c, eM, hM⟩ := pM_store_loop (ν := ν) (T := sT S) (F := sF S) (now := nI now) (kk := k) hC13 hC11 hE.2.2.2.2.2 hS.2.2.2.2.1 h.1.2.2.2.2.2.1 (fun b hb hi => (hlabs b hb hi).1) C 0 zN (-2) 0 (by omega) (by rw [zN_eq]; omega) (Or.inl ⟨rfl, fun b hb => by omega⟩)
  unfold Pair
  rw [eX9_workStore_0, eX9_workStore_2, eX9_workStore_4, eX9_workStore_7, eX9_workStore_10, qI_in (zS_36 i) rfl (show q < 60 by omega) (by decide), Option.bind_some, qa.1, ← hdI_head, eX9_workStore_21, eX11_storeWorks_0, eX11_storeWorks_3, eX11_storeWorks_5]
  have eX' : tX9_workStore_24 zN i (nI q) (-1) (-1) 0 (-1) (hdI (Q q) (-1)) 0 μ = tX9_workStore_142 i (nI q) bst bef μ := eX
  have eM' : tX11_storeWorks_8 zN (nI k) (-2) 0 0 (mW ν w) = _ := eM
  rw [eX', eM', eX9_workStore_142]
  rcases hX with ⟨x1, x2⟩ | ⟨l1, b, l2, x1, x2, x3, x4, x5, x6⟩
  · rcases hM with ⟨m1, m2⟩ | ⟨a, m1, m2, m3, m4, m5⟩
    · rw [x1, m1, zif_pos m1_lt, zif_pos m2_lt, eX9_workStore_162, eX11_storeWorks_148]
      exact ⟨μ, w, rfl, rfl, FrW.rf, h.rq (by omega) hG⟩
    · have haq := (hin a).mpr ⟨m1, m2⟩
      have := x2 a haq
      rw [← hlab2 a haq, m3] at this
      cases this
  · have hbQ : b ∈ Q q := by rw [x1]; simp
    obtain ⟨hbC, hbin⟩ := (hin b).mp hbQ
    rcases hM with ⟨m1, m2⟩ | ⟨a, m1, m2, m3, m4, m5⟩
    · have := m2 b hbC hbin
      rw [hlab2 b hbQ, x2] at this
      cases this
    · have haq := (hin a).mpr ⟨m1, m2⟩
      have hab : a = b := by
        refine Classical.byContradiction (fun hne => ?_)
        have g := m5 b hbC hbin (fun e => hne e.symm) clo (by rw [hlab2 b hbQ]; exact x2)
        have ha2 : a ∈ l1 ++ b :: l2 := by rw [← x1]; exact haq
        rcases List.mem_append.mp ha2 with y | y
        · have y1 := x5 a y c (by rw [← hlab2 a haq]; exact m3)
          rcases g with g | ⟨g, -⟩
          · exact i_asym g y1
          · rw [g] at y1; exact i_asym y1 y1
        · rcases List.mem_cons.mp y with y | y
          · exact hne y
          · have y1 := x6 a y c (by rw [← hlab2 a haq]; exact m3)
            rcases g with g | ⟨g, g2⟩
            · exact y1 g
            · have qc' := qc
              unfold byOrd at qc'
              rw [x1, List.pairwise_append] at qc'
              exact g2 ((List.pairwise_cons.mp qc'.2.1).1 a y)
      subst hab
      have hb : a < 100 := by omega
      have hnd := qa.2.2.2.2.2
      have qa' := qa
      rw [x1] at qa' hlen
      obtain ⟨μ8, e8, fr8, z1, z2⟩ := take_any qa' (by omega) (by omega)
      have e8r : ∀ k a z, ¬ (36 ≤ k ∧ k ≤ 39) → μ8.1 k a z = μ.1 k a z := fun k a z hk => fr8.2 k a z (fun h => hk ⟨h.1, h.2.1⟩)
      obtain ⟨f1, f2, f3, f4⟩ := hlabs a hbC hbin
      rw [x1] at hnd
      have hnd2 := List.nodup_append.mp hnd
      have hnd3 := List.nodup_cons.mp hnd2.2.1
      have hnl : a ∉ l1 ++ l2 := fun y => by
        rcases List.mem_append.mp y with y | y
        · exact hnd2.2.2 a y a List.mem_cons_self rfl
        · exact hnd3.1 y
      obtain ⟨μ', v1, v2, v3⟩ := send_bag (μ9 := μ8) (w9 := w) (l := l1 ++ l2) (e := D 5 k 5) hS h hB p4 hbQ (by omega) p8 p9 hj hj2 p7 fr8 z1 (fun q' hq' hne => z2 q' _ hne (h.2.2.2.2.2.1 q' hq').1 (fun a' ha' => by rw [← x1]; exact que_disj hS h p4 hq' hne a' ha')) FrW.rf (fun k a z hk => rfl) (fun k z a c => rfl) (fun k z a c hz => rfl) (by rw [e8r _ _ _ (by omega), ← f2]; exact f1) (by rw [e8r _ _ _ (by omega)]; exact f2) (by rw [e8r _ _ _ (by omega)]; exact f3.1) (by rw [e8r _ _ _ (by omega)]; exact f3.2) (by rw [e8r _ _ _ (by omega)]; exact f4) (fun x hx => rfl) hnl (by rw [x1]; exact List.Sublist.append (List.Sublist.refl _) (List.sublist_cons_self _ _)) (fun b' y1 y2 => by
        rw [x1] at y1
        rcases List.mem_append.mp y1 with y | y
        · exact List.mem_append.mpr (Or.inl y)
        · exact List.mem_append.mpr (Or.inr ((List.mem_cons.mp y).resolve_left y2))) hG
      rw [x3, m4, zif_neg (nI_pos (by omega)), zif_neg (nI_pos (by omega)), x4, e8, zU_some, v1, zU_some, eX9_workStore_162, pM_ofDevice (x := 5) (z := 7) (s := 5) (k := k) (c := 7) (d := d) rfl rfl rfl (by decide) (by omega) (by decide) gd g1 g2, zI_some, pM_goes rfl hb, zU_some, eX11_storeWorks_148]
      exact ⟨_, _, rfl, rfl, v2, v3⟩
