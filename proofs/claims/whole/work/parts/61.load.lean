/-! ===== loadChute, undo ===== -/
theorem pX10_load_loop {k q L : Nat} (hq : q < 60) (hL : L < 2 ^ 31) : ∀ (l : List Nat) (s f : Nat) (μ : zM), s + l.length = L → l.length < f → QX μ 0 q l → ∃ μ', tX10_loadChute_51 f (nI k) (nI q) (nI L) (nI s) μ = some (some (.inl (nI L)), μ') ∧ FrW 0 μ μ' ∧ QX μ' 0 q [] ∧ (∀ q' l', q' ≠ q → QX μ 0 q' l' → QX μ' 0 q' l') ∧ (∀ z, z ∈ l → μ'.1 26 0 z = 3 ∧ μ'.1 27 0 z = nI k) ∧ (∀ z, z ∉ l → μ'.1 26 0 z = μ.1 26 0 z ∧ μ'.1 27 0 z = μ.1 27 0 z) ∧ ∀ k a z, ¬ (36 ≤ k ∧ k ≤ 39) → k ≠ 26 → k ≠ 27 → μ'.1 k a z = μ.1 k a z
  | [], s, f, μ, hs, hf, h => by
    obtain ⟨f, rfl⟩ : ∃ q, f = q + 1 := ⟨f - 1, by simp at hf; omega⟩
    refine ⟨μ, ?_, FrW.rf, h, fun _ _ _ z => z, fun z hz => (by cases hz), fun _ _ => ⟨rfl, rfl⟩, fun _ _ _ _ _ _ => rfl⟩
    rw [eX10_loadChute_51, zif_neg (nI_nlt (by simp at hs; omega) (by simp at hs; omega))]
  | b :: l, s, f, μ, hs, hf, h => by
    obtain ⟨f, rfl⟩ : ∃ q, f = q + 1 := ⟨f - 1, by simp at hf; omega⟩
    have hb : b < 100 := h.2.2.2.2.1 b List.mem_cons_self
    have hlen := len100 h.2.2.2.2.2 h.2.2.2.2.1
    have hnd := List.nodup_cons.mp h.2.2.2.2.2
    obtain ⟨m, e1, fr, h1, h2⟩ := pX3_takeFirst_some h (x := nI q) rfl hq (by simp at hlen; omega)
    have em : ∀ k a z, ¬ (36 ≤ k ∧ k ≤ 39) → m.1 k a z = μ.1 k a z := fun k a z hk => fr.2 k a z (fun h => hk ⟨h.1, h.2.1⟩)
    have hQ1 : ∀ q' l', QX m 0 q' l' → QX (mS (mS m 26 0 b 3) 27 0 b (nI k)) 0 q' l' := fun q' l' h => QX_congr (fun k z k1 k2 => by rw [mS_k _ _ _ _ _ _ _ _ (by omega), mS_k _ _ _ _ _ _ _ _ (by omega)]) h
    obtain ⟨μ', g1, g2, g3, g4, g5, g6, g7⟩ := pX10_load_loop (k := k) hq hL l (s + 1) f (mS (mS m 26 0 b 3) 27 0 b (nI k)) (by simp at hs; omega) (by simp at hf; omega) (hQ1 q l h1)
    refine ⟨μ', ?_, ?_, g3, fun q' l' hne hQ' => g4 q' l' hne (hQ1 q' l' (h2 q' l' hne hQ')), fun z hz => ?_, fun z hz => ?_, fun k' a z k1 k2 k3 => ?_⟩
    · rw [eX10_loadChute_51, zif_pos (nI_lt (by simp at hs; omega) hL), e1, zI_some, eX10_loadChute_70, zif_neg (nI_pos (by omega)), pX0_put rfl hb, zU_some, eX10_loadChute_89, eX10_loadChute_92, nI_1, g1]
    · refine FrW.tr (FrW.mS (FrW.mS (FrW.ofQ fr) ?_) ?_) g2 <;> unfold isW <;> omega
    · rcases List.mem_cons.mp hz with e | e
      · subst e
        obtain ⟨y1, y2⟩ := g6 z hnd.1
        rw [y1, y2]
        exact ⟨by simp [mS_1], by simp [mS_1]⟩
      · exact g5 z e
    · have hzb : z ≠ b := fun e => hz (by rw [e]; exact List.mem_cons_self)
      have hzl : z ∉ l := fun e => hz (List.mem_cons_of_mem _ e)
      obtain ⟨y1, y2⟩ := g6 z hzl
      rw [y1, y2, ← em 26 0 z (by omega), ← em 27 0 z (by omega)]
      exact ⟨by simp [mS_1, hzb], by simp [mS_1, hzb]⟩
    · rw [g7 k' a z k1 k2 k3, mS_k _ _ _ _ _ _ _ _ k3, mS_k _ _ _ _ _ _ _ _ k2, em _ _ _ k1]
noncomputable def ldF (w : Nat → Int32) (k : Nat) : Nat → Nat → Int32
  | 0 => w
  | m + 1 => zif (inM w 2 (nI k) m) (upd (ldF w k m) (400 + 8 * m) 3) (ldF w k m)
theorem ldF_succ (w : Nat → Int32) (k m : Nat) : ldF w k (m + 1) = zif (inM w 2 (nI k) m) (upd (ldF w k m) (400 + 8 * m) 3) (ldF w k m) := rfl
theorem ldF_off (w : Nat → Int32) (k : Nat) : ∀ (m z : Nat), (∀ b, b < m → z ≠ 400 + 8 * b) → ldF w k m z = w z
  | 0, _, _ => rfl
  | m + 1, z, h => by
    have ih := ldF_off w k m z (fun b hb => h b (by omega))
    rw [ldF_succ]
    by_cases a : inM w 2 (nI k) m
    · rw [zif_pos a, upd_ne _ _ (h m (by omega))]; exact ih
    · rw [zif_neg a]; exact ih
theorem ldF_at (w : Nat → Int32) (k : Nat) : ∀ (m b : Nat), b < m → ldF w k m (400 + 8 * b) = zif (inM w 2 (nI k) b) 3 (w (400 + 8 * b))
  | 0, b, h => by omega
  | m + 1, b, h => by
    rw [ldF_succ]
    by_cases e : b = m
    · subst e
      have ih := ldF_off w k b (400 + 8 * b) (fun b' hb' => by omega)
      by_cases a : inM w 2 (nI k) b
      · rw [zif_pos a, zif_pos a, upd_at]
      · rw [zif_neg a, zif_neg a]; exact ih
    · have ih := ldF_at w k m b (by omega)
      by_cases a : inM w 2 (nI k) m
      · rw [zif_pos a, upd_ne _ _ (by omega)]; exact ih
      · rw [zif_neg a]; exact ih
theorem pM_load_loop {ν : zM} {w : Nat → Int32} {C k : Nat} {v : Int32} (hC : w 1 = nI C) (hC1 : C ≤ 100) : ∀ (m b f : Nat), b + m = C → m < f → tX11_loadChute_31 f (nI k) v (nI b) (mW ν (ldF w k b)) = some (some (.inl v), mW ν (ldF w k C))
  | 0, b, f, hb, hf => by
    obtain ⟨f, rfl⟩ : ∃ q, f = q + 1 := ⟨f - 1, by omega⟩
    rw [eX11_loadChute_31, qW (x := 1) (p := 1) rfl (by decide), Option.bind_some, ldF_off _ _ _ _ (fun b' _ => by omega), hC, zif_neg (nI_nlt (by omega) (by omega)), show b = C by omega]
  | m + 1, b, f, hb, hf => by
    obtain ⟨f, rfl⟩ : ∃ q, f = q + 1 := ⟨f - 1, by omega⟩
    have ih := pM_load_loop (ν := ν) (k := k) (v := v) hC hC1 m (b + 1) f (by omega) (by omega)
    rw [ldF_succ] at ih
    have e77 : ∀ m', tX11_loadChute_77 f (nI k) v (nI b) m' = tX11_loadChute_31 f (nI k) v (nI (b + 1)) m' := fun m' => by rw [eX11_loadChute_77, eX11_loadChute_80, nI_1]
    have e0 : ldF w k b (400 + 8 * b + 0) = w (400 + 8 * b) := ldF_off _ _ _ _ (fun b' _ => by omega)
    have e1 : ldF w k b (400 + 8 * b + 1) = w (400 + 8 * b + 1) := ldF_off _ _ _ _ (fun b' _ => by omega)
    rw [eX11_loadChute_31, qW (x := 1) (p := 1) rfl (by decide), Option.bind_some, ldF_off _ _ _ 1 (fun b' _ => by omega), hC, zif_pos (nI_lt (by omega) (by omega)), pM_ofBagW (y := 0) (c := 0) rfl (show b < 100 by omega) rfl (by decide), zI_some, e0, pM_ofBagW (y := 1) (c := 1) rfl (show b < 100 by omega) rfl (by decide), zI_some, e1, wW (b0 rfl) (by omega), Option.bind_some, e77, e77]
    by_cases q1 : w (400 + 8 * b) = 2
    · rw [zif_pos q1]
      by_cases q2 : w (400 + 8 * b + 1) = nI k
      · rw [zif_pos (show inM w 2 (nI k) b from ⟨q1, q2⟩)] at ih
        rw [zif_pos q2]
        exact ih
      · rw [zif_neg (show ¬ inM w 2 (nI k) b from fun z => q2 z.2)] at ih
        rw [zif_neg q2]
        exact ih
    · rw [zif_neg (show ¬ inM w 2 (nI k) b from fun z => q1 z.1)] at ih
      rw [zif_neg q1]
      exact ih
set_option maxHeartbeats 2000000 in
theorem load_RW {μ μ' ν : zM} {i j : Nat} {S : zSt} {w : Nat → Int32} {B t hd C now O : Nat} {st : Nat → Nat} {Q : Nat → List Nat} {k : Nat} (hS : okS S) (hR : RW μ ν i j S w B t hd C now O st Q) (hk : k < scnt S 3) (fr : FrW i μ μ') (x1 : QX μ' i (spos S 3 k) []) (x2 : ∀ q' l', q' ≠ spos S 3 k → QX μ i q' l' → QX μ' i q' l') (x3 : ∀ z, z ∈ Q (spos S 3 k) → μ'.1 26 i z = 3 ∧ μ'.1 27 i z = nI k) (x4 : ∀ z, z ∉ Q (spos S 3 k) → μ'.1 26 i z = μ.1 26 i z ∧ μ'.1 27 i z = μ.1 27 i z) (x5 : ∀ k a z, ¬ (36 ≤ k ∧ k ≤ 39) → k ≠ 26 → k ≠ 27 → μ'.1 k a z = μ.1 k a z) :
    RQ μ' ν i j S (ldF w k C) B t hd C now noG := by
  obtain ⟨a1, a2, a3⟩ := hS.2.2.2.2.2.2.2.2.1 3 k (by decide) (by decide) hk
  have hkp : keeps S (spos S 3 k) := ⟨a1, by omega, by omega⟩
  have hpl : plOf S (spos S 3 k) = k := by rw [show plOf S (spos S 3 k) = snum S (spos S 3 k) from if_neg (by omega), a3]
  have hs2 : stOf (ssrt S (spos S 3 k)) = 2 := by rw [a2]; rfl
  have hstq : ∀ b, b ∈ Q (spos S 3 k) → b < C ∧ st b = 2 := fun b hb => by
    have := st_que hS hR hkp hb
    rw [hs2] at this
    exact this
  have hdis : ∀ q', keeps S q' → q' ≠ spos S 3 k → ∀ b, b ∈ Q q' → b ∉ Q (spos S 3 k) := fun q' hq' hne b hb => que_disj hS hR hkp hq' hne b hb
  obtain ⟨⟨h1, h2, h3, h4, h5, h6, h7, h8, h9, h10, h11, h12, h13⟩, hring, hcon, hbag, hlb, hque, ⟨hrd, hw6, hw4⟩, hO, hO2, hord⟩ := hR
  have hin : ∀ b, b ∈ Q (spos S 3 k) ↔ b < C ∧ inM w 2 (nI k) b := fun b => by
    have := (hque _ hkp).2.1 b
    rw [hs2, hpl] at this
    exact this
  generalize spos S 3 k = q at *
  have hn6 := hS.2.1
  have hk6 := hS.2.2.2.2.2.2.2.1 3
  have wn : ∀ z, (∀ b, z ≠ 400 + 8 * b) → ldF w k C z = w z := fun z hz => ldF_off _ _ _ _ (fun b _ => hz b)
  have wi : ∀ b, b ∈ Q q → ldF w k C (400 + 8 * b) = nI 3 := fun b hb => by
    have := (hin b).mp hb
    rw [ldF_at _ _ _ _ this.1, zif_pos this.2]
    rfl
  have wo : ∀ b, b < C → b ∉ Q q → ldF w k C (400 + 8 * b) = w (400 + 8 * b) := fun b hb hn => by
    rw [ldF_at _ _ _ _ hb, zif_neg (fun z => hn ((hin b).mpr ⟨hb, z⟩))]
  have ek := x5
  generalize hw' : ldF w k C = w' at *
  have hst : ∃ st' : Nat → Nat, (∀ b, b ∈ Q q → st' b = 3) ∧ ∀ b, b ∉ Q q → st' b = st b := ⟨fun b => if b ∈ Q q then 3 else st b, fun b hb => if_pos hb, fun b hb => if_neg hb⟩
  obtain ⟨st', hst1, hst2⟩ := hst
  have hne2 : ∀ q', stOf (ssrt S q') ≠ 3 := fun q' => by
    have := hS.2.2.2.2.2.1 q'
    unfold stOf
    split
    · omega
    · split
      · omega
      · omega
  refine ⟨O, st', quUp Q q [], ⟨⟨by rw [fr.1]; exact h1, h2, by rw [ek _ _ _ (by omega) (by decide) (by decide)]; exact h3, h4, by rw [ek _ _ _ (by omega) (by decide) (by decide)]; exact h5, by rw [wn 0 (fun b => by omega)]; exact h6, h7, by rw [ek _ _ _ (by omega) (by decide) (by decide)]; exact h8, fun k hk => by rw [wn _ (fun b => by omega)]; exact h9 k hk, fun k hk => by rw [wn _ (fun b => by omega), ek _ _ _ (by omega) (by decide) (by decide)]; exact h10 k hk, h11, by rw [ek _ _ _ (by omega) (by decide) (by decide)]; exact h12, by rw [wn 1 (fun b => by omega)]; exact h13⟩, fun p hp => ?_, fun p hp r hr hpr => ?_, fun b hb => ?_, fun b hb => ?_, fun q' hq' => ?_, ⟨fun p hp => ?_, fun k' hk' => ?_, fun k' hk' => ?_⟩, hO, by rw [wn 2 (fun b => by omega)]; exact hO2, fun b hb => ?_⟩, fun _ z => z.elim⟩
  · rw [ek 58 _ _ (by omega) (by decide) (by decide), ek 40 _ _ (by omega) (by decide) (by decide), ek 41 _ _ (by omega) (by decide) (by decide), ek 42 _ _ (by omega) (by decide) (by decide), wn (90 + p) (fun b => by omega), wn (150 + p) (fun b => by omega), wn (210 + p) (fun b => by omega), wn (270 + p) (fun b => by omega), wn (330 + p) (fun b => by omega)]
    exact hring p hp
  · rw [wn (90 + p) (fun b => by omega)] at hpr
    obtain ⟨c1, c2, c3⟩ := hcon p hp r hr hpr
    have : r ∉ Q q := fun z => by have := (hstq r z).2; omega
    exact ⟨c1, by rw [hst2 r this]; exact c2, by rw [wn _ (fun b => by omega)]; exact c3⟩
  · obtain ⟨g0, g1, g2, g3, g4, g5, g6, g7, g8⟩ := hbag b hb
    by_cases e : b ∈ Q q
    · obtain ⟨y1, y2⟩ := x3 b e
      have hs := (hstq b e).2
      have hpl2 := ((hin b).mp e).2.2
      rw [hst1 b e]
      refine ⟨by decide, y1, wi b e, fun z => by omega, fun z => by omega, fun _ _ _ => ⟨by rw [wn _ (fun b => by omega), y2]; exact hpl2, k, by omega, y2⟩, fun z => by omega, fun z => by omega, fun _ => ?_⟩
      rw [wn (400 + 8 * b + 6) (fun b => by omega), wn (400 + 8 * b + 7) (fun b => by omega), ek 28 _ _ (by omega) (by decide) (by decide), ek 29 _ _ (by omega) (by decide) (by decide)]
      exact g8 (Or.inl hs)
    · obtain ⟨y1, y2⟩ := x4 b e
      rw [hst2 b e]
      refine ⟨g0, y1.trans g1, by rw [wo b hb e]; exact g2, fun hs => ?_, fun hs => by rw [wn _ (fun b => by omega)]; exact g4 hs, fun a1 a2 a3 => by rw [wn _ (fun b => by omega), y2]; exact g5 a1 a2 a3, fun hs => ?_, fun hs => ?_, fun hs => ?_⟩
      · obtain ⟨p, f1, f2, f3, f4⟩ := g3 hs
        exact ⟨p, f1, by rw [wn _ (fun b => by omega)]; exact f2, y2.trans f3, by rw [wn _ (fun b => by omega)]; exact f4⟩
      · rw [ek 40 _ _ (by omega) (by decide) (by decide), ek 41 _ _ (by omega) (by decide) (by decide), ek 42 _ _ (by omega) (by decide) (by decide), wn (400 + 8 * b + 3) (fun b => by omega), wn (400 + 8 * b + 4) (fun b => by omega), wn (400 + 8 * b + 5) (fun b => by omega)]; exact g6 hs
      · rw [ek 40 _ _ (by omega) (by decide) (by decide), ek 41 _ _ (by omega) (by decide) (by decide), ek 42 _ _ (by omega) (by decide) (by decide)]; exact g7 hs
      · rw [wn (400 + 8 * b + 6) (fun b => by omega), wn (400 + 8 * b + 7) (fun b => by omega), ek 28 _ _ (by omega) (by decide) (by decide), ek 29 _ _ (by omega) (by decide) (by decide)]; exact g8 hs
  · obtain ⟨f1, f2, f3⟩ := hlb b hb
    exact ⟨fun c hc => by rw [ek _ _ _ (by omega) (by omega) (by omega)]; exact f1 c hc, by rw [ek _ _ _ (by omega) (by decide) (by decide)]; exact f2, by rw [ek _ _ _ (by omega) (by decide) (by decide)]; exact f3⟩
  · have hor : ∀ b, ordM w' b = ordM w b := fun b => by unfold ordM; rw [wn _ (fun b => by omega)]
    by_cases e : q' = q
    · subst e
      rw [show quUp Q q' [] q' = [] from if_pos rfl]
      refine ⟨x1, fun b => ⟨fun z => (by cases z), fun z => ?_⟩, List.Pairwise.nil⟩
      rw [hs2, hpl] at z
      have z1 := z.2.1
      by_cases eb : b ∈ Q q'
      · rw [wi b eb] at z1
        exact absurd z1 (by decide)
      · rw [wo b z.1 eb] at z1
        have z2 := z.2.2
        rw [wn _ (fun b => by omega)] at z2
        exact absurd ((hin b).mpr ⟨z.1, z1, z2⟩) eb
    · rw [show quUp Q q [] q' = Q q' from if_neg e]
      obtain ⟨ra, rb, rc⟩ := hque q' hq'
      refine ⟨x2 q' _ e ra, fun b => ?_, ?_⟩
      · rw [rb b]
        refine and_congr_right (fun hb => ?_)
        unfold inM
        rw [wn (400 + 8 * b + 1) (fun b => by omega)]
        by_cases eb : b ∈ Q q
        · have hl := stOf_le hS q'
          have n1 : ¬ w' (400 + 8 * b) = nI (stOf (ssrt S q')) := by
            rw [wi b eb]
            exact nI_ne (by decide) (by omega) (fun z => hne2 q' z.symm)
          have n2 : ¬ (w (400 + 8 * b) = nI (stOf (ssrt S q')) ∧ w (400 + 8 * b + 1) = nI (plOf S q')) := fun z => hdis q' hq' e b ((rb b).mpr ⟨hb, z⟩) eb
          exact ⟨fun z => absurd z n2, fun z => absurd z.1 n1⟩
        · rw [wo b hb eb]
      · refine rc.imp (fun {a c} hac => ?_)
        rw [hor, hor]
        exact hac
  · rw [ek _ _ _ (by omega) (by decide) (by decide), wn (15 + p) (fun b => by omega)]; exact hrd p hp
  · rw [ek _ _ _ (by omega) (by decide) (by decide), wn (79 + k') (fun b => by have := cnt_two hS; omega)]; exact hw6 k' hk'
  · have := cnt_two hS
    rw [ek _ _ _ (by omega) (by decide) (by decide), ek _ _ _ (by omega) (by decide) (by decide), wn (75 + k') (fun b => by omega), wn (77 + k') (fun b => by omega)]; exact hw4 k' hk'
  · obtain ⟨o, f1, f2⟩ := hord b hb
    refine ⟨o, f1, ?_⟩
    unfold ordM at f2 ⊢
    rw [wn _ (fun b => by omega)]
    exact f2
theorem a_loadChute {μ : zM} {c : Nat} (h : REL μ c) (x : Int32) : CALL (tX10_loadChute_0 x) (tX11_loadChute_0 x) μ (c + 1) := by
  obtain ⟨j, S, D, lim, t, hd, C, now, nx, cn, Cf, h1, h2, h3, h4, h5, h6, h7, h8⟩ := h.all
  have h4' := h4
  obtain ⟨O, st, Q, hR, -⟩ := h4'
  have hn6 := h3.1.2.1
  obtain ⟨a1, a2, a3⟩ := cnt_X h3 (s := 3) (by decide) (by decide)
  rcases ix_of x (n := scnt S 3) (by omega) with ⟨k, hk, rfl⟩ | hx
  · obtain ⟨b1, b2, b3, b4⟩ := sz_yes h3 hR (s := 3) (by decide) (by decide) (by decide) hk
    have hlen := RQ_bound hR b2
    have eX : tX10_loadChute_0 (nI k) μ = tX10_loadChute_30 (nI k) (nI (spos S 3 k)) (nI (Q (spos S 3 k)).length) μ := by
      rw [eX10_loadChute_0, h1.1, zif_pos h1.2.1, pX5_place_yes (y := 3) h3 rfl (by decide) (by decide) rfl hk, zI_some, eX10_loadChute_10, zif_neg (show ¬ nI (spos S 3 k) = -1 from fX_neg (by omega)), qI_in (zS_38 0) rfl (show spos S 3 k < 60 by omega) (by decide), Option.bind_some, b3.2.2.1]
    obtain ⟨a1', a2', a3'⟩ := h3.1.2.2.2.2.2.2.2.2.1 3 k (by decide) (by decide) hk
    have hpl : plOf S (spos S 3 k) = k := by rw [show plOf S (spos S 3 k) = snum S (spos S 3 k) from if_neg (by omega), a3']
    have eM : ∀ μ1, keepM μ μ1 → tX11_loadChute_0 (nI k) μ1 = tX11_loadChute_18 (nI k) (nI (Q (spos S 3 k)).length) μ1 := fun μ1 hm => by
      have hm63 : μ1.1 63 0 (10 + 3) = nI (scnt S 3) := by rw [hm _ _ _ (by omega)]; exact a2
      have hm65 : μ1.1 65 0 = μ.1 65 0 := funext (fun z => hm _ _ _ (by omega))
      obtain ⟨qa, qb, qc⟩ := hR.2.2.2.2.2.1 _ b2
      rw [eX11_loadChute_0, pM_isDevice (y := 3) rfl (by decide) hm63 (by omega), zI_some, ok_yes hk (by omega), zif_neg one_ne0, pM_manyIn (μ := μ1) (C := C) (by rw [hm65]; exact hR.1.2.2.2.2.2.2.2.2.2.2.2.2) hR.1.2.2.2.2.2.2.2.2.2.2.1 2 (nI k) qa.2.2.2.2.2 (fun b => by rw [hm65, qb b, a2', hpl]; rfl), zI_some]
    by_cases q : (Q (spos S 3 k)).length = 0
    · refine CALL.ask h (v := -2) ?_ ?_
      · rw [eX, q, eX10_loadChute_30, zif_pos nI_0]
      · rw [eM μ (fun _ _ _ _ => rfl), q, eX11_loadChute_18, zif_pos nI_0]
    · have q0 : ¬ nI (Q (spos S 3 k)).length = 0 := fun z => q ((nI_0iff (by omega)).mp z)
      refine op_call2 (FX := fun m => tX10_loadChute_51 zN (nI k) (nI (spos S 3 k)) (nI (Q (spos S 3 k)).length) 0 m) (FM := fun m => tX11_loadChute_31 zN (nI k) (nI (Q (spos S 3 k)).length) 0 m) h1 h3 h2 h4 h5 h6 h7 h8 (fun μ1 ν hE hj hR1 => ?_) ?_ (fun μ1 hm => ?_)
      · obtain ⟨O1, st1, Q1, hR1, hG1⟩ := hR1
        have hQQ : Q1 (spos S 3 k) = Q (spos S 3 k) := by
          have m1 := (hR1.2.2.2.2.2.1 _ b2)
          have m2 := (hR.2.2.2.2.2.1 _ b2)
          have hperm : ∀ b, b ∈ Q1 (spos S 3 k) ↔ b ∈ Q (spos S 3 k) := fun b => by rw [m1.2.1 b, m2.2.1 b]
          exact List.Perm.eq_of_pairwise (le := fun a b => ordM (μ.1 65 0) a < ordM (μ.1 65 0) b) (fun a b _ _ z1 z2 => absurd z2 (i_asym z1)) m1.2.2 m2.2.2 ((List.perm_ext_iff_of_nodup m1.1.2.2.2.2.2 m2.1.2.2.2.2.2).mpr hperm)
        obtain ⟨μ', g1, g2, g3, g4, g5, g6, g7⟩ := pX10_load_loop (k := k) (L := (Q (spos S 3 k)).length) (show spos S 3 k < 60 by omega) (by omega) (Q1 (spos S 3 k)) 0 zN μ1 (by rw [hQQ]; omega) (by rw [hQQ, zN_eq]; omega) (hR1.2.2.2.2.2.1 _ b2).1
        refine ⟨nI (Q (spos S 3 k)).length, μ', ν, ldF (μ.1 65 0) k C, t, hd, C, now, g1, ?_, g2, (load_RW h3.1 hR1 hk g2 g3 g4 g5 g6 g7).up (by omega), Nat.le_refl _, h2, rfl, fun _ _ _ _ => rfl⟩
        exact pM_load_loop hR1.1.2.2.2.2.2.2.2.2.2.2.2.2 hR1.1.2.2.2.2.2.2.2.2.2.2.1 C 0 zN (by omega) (by rw [zN_eq]; have := hR1.1.2.2.2.2.2.2.2.2.2.2.1; omega)
      · rw [eX, eX10_loadChute_30, zif_neg q0]
      · rw [eM μ1 hm, eX11_loadChute_18, zif_neg q0]
  · refine CALL.ask h (v := -1) ?_ ?_
    · rw [eX10_loadChute_0, h1.1, zif_pos h1.2.1, pX5_place_no (y := 3) h3 rfl (by decide) (by decide) hx, zI_some, eX10_loadChute_10, zif_pos rfl]
    · rw [eX11_loadChute_0, pM_isDevice (y := 3) rfl (by decide) a2 (by omega), zI_some, ok_no hx, zif_pos rfl]
/-! undo -/
theorem pM_undo_loop {μ : zM} {u : Nat} (hu : μ.1 11 0 14 = nI u) (hu9 : u ≤ 9) : ∀ (m k f : Nat), k + m = 1200 → m < f → tX11_undo_21 f (nI k) (mR μ 65 0 (cpF (fun z => μ.1 67 0 (1200 * u + z)) (μ.1 65 0) 0 k)) = some (some (.inl (nI u)), mR μ 65 0 (cpF (fun z => μ.1 67 0 (1200 * u + z)) (μ.1 65 0) 0 1200))
  | 0, k, f, hk, hf => by
    obtain ⟨f, rfl⟩ : ∃ q, f = q + 1 := ⟨f - 1, by omega⟩
    rw [eX11_undo_21, zif_neg (show ¬ nI k < 1200 from nI_nlt (b := 1200) (by omega) (by omega)), show k = 1200 by omega, mR_ne _ _ _ _ _ _ _ (by omega), hu]
  | m + 1, k, f, hk, hf => by
    obtain ⟨f, rfl⟩ : ∃ q, f = q + 1 := ⟨f - 1, by omega⟩
    have ih := pM_undo_loop hu hu9 m (k + 1) f (by omega) (by omega)
    have e := cpF_step (fun z => μ.1 67 0 (1200 * u + z)) (μ.1 65 0) 0 k
    rw [Nat.zero_add] at e
    rw [eX11_undo_21, zif_pos (show nI k < 1200 from nI_lt (b := 1200) (by omega) (by decide)), qI_in (p := 1200 * u + k) (zS_67 0) (i1200 (by rw [mR_ne _ _ _ _ _ _ _ (by omega)]; exact hu) rfl) (by omega) (by decide), Option.bind_some, mR_ne _ _ _ _ _ _ _ (by omega), wI_in (zS_65 0) rfl (show k < 1200 by omega) (by decide), Option.bind_some, mS_mR, e, eX11_undo_52, nI_1, ih]
set_option maxHeartbeats 2000000 in
theorem a_undo {μ : zM} {c : Nat} (h : REL μ c) : CALL tX10_undo_0 tX11_undo_0 μ (c + 1) := by
  obtain ⟨j, S, D, lim, t, hd, C, now, nx, cn, Cf, h1, h2, h3, h4, h5, h6, h7, h8⟩ := h.all
  obtain ⟨g1, g2, g3, g4, g5, g6, g7, g8⟩ := h5
  have hS := h3.1
  by_cases q : cn = 0
  · subst q
    refine CALL.ask h (v := -1) ?_ ?_
    · rw [eX10_undo_0, g4, zif_pos nI_0]
    · rw [eX11_undo_0, g5, zif_pos nI_0]
  · have q0 : ¬ nI cn = 0 := fun z => q ((nI_0iff (by omega)).mp z)
    obtain ⟨tu, hdu, nowu, z1, z2⟩ := g8 (cn - 1) (by omega)
    have hl : (nx + 10 - cn + (cn - 1)) % 10 = (nx + 9) % 10 := by omega
    rw [hl] at z2
    have hju : μ.2.1 9 (2 + (nx + 9) % 10) 0 = j := z2.elim fun _ z => z.elim fun _ z => z.elim fun _ z => z.1.1.1
    obtain ⟨m, e1, ⟨f1, f2, f3⟩, e3⟩ := pX9_copyFrom (μ := μ) (a := 0) (b := 2 + (nx + 9) % 10) (j := j) (by omega) hju h1.2.1
    have m1 : m.1 2 0 1 = nI nx := by rw [f3 _ _ _ (by unfold isW; omega)]; exact g3
    have m2 : m.1 2 0 2 = nI cn := by rw [f3 _ _ _ (by unfold isW; omega)]; exact g4
    have ecn : nI cn - 1 = nI (cn - 1) := by
      have := nI_pred (cn - 1)
      rwa [show cn - 1 + 1 = cn by omega] at this
    generalize hμ1 : mS (mS m 2 0 1 (nI ((nx + 9) % 10))) 2 0 2 (nI (cn - 1)) = μ1
    have eX : tX10_undo_0 μ = some (some (.inl (nI (cn - 1))), μ1) := by
      have e18 : tX2_restoreInto_0 0 μ = tX2_restoreInto_26 0 (nI ((nx + 9) % 10)) (2 + (nx + 9) % 10) μ := by
        have eq : ∀ x, x = nI ((nx + 9) % 10) → tX2_restoreInto_18 0 x μ = tX2_restoreInto_26 0 (nI ((nx + 9) % 10)) (2 + (nx + 9) % 10) μ := fun x hx => by
          rw [eX2_restoreInto_18, eX2_restoreInto_19, qX_in (N := 10) hx (by omega) (by decide), Option.bind_some, hx]
        rw [eX2_restoreInto_0, g3]
        by_cases y : nx = 0
        · subst y
          rw [zif_neg (show ¬ 0 < nI 0 by decide)]
          exact eq 9 rfl
        · rw [zif_pos (show 0 < nI nx by rw [← nI_0]; exact nI_lt (by omega) (by omega))]
          refine eq _ ?_
          have := nI_pred (nx - 1)
          rw [show nx - 1 + 1 = nx by omega] at this
          rw [this, show (nx + 9) % 10 = nx - 1 by omega]
      rw [eX10_undo_0, g4, zif_neg q0, e18, eX2_restoreInto_26, g4, zif_neg q0, e1, zU_some, zlet_eq, zlet_eq, mS_n _ _ _ _ _ _ _ _ (by decide), m2, ecn, hμ1, zU_some, ← hμ1, mS_same]
    have ak : ∀ k x s, ¬ isW 0 k x → ¬ (k = 2 ∧ x = 0) → μ1.1 k x s = μ.1 k x s := fun k x s n1 n2 => by
      rw [← hμ1, mS_1, if_neg (fun y => n2 ⟨y.1, y.2.1⟩), mS_1, if_neg (fun y => n2 ⟨y.1, y.2.1⟩)]
      exact f3 k x s n1
    have a2 : ∀ k x n, ¬ (k = 9 ∧ x = 0 ∧ n = 0) → μ1.2.1 k x n = μ.2.1 k x n := fun k x n hn => by rw [← hμ1]; exact f1 k x n hn
    generalize hμ2 : mS μ1 11 0 14 (nI (cn - 1)) = μ2
    have hu : μ2.1 11 0 14 = nI (cn - 1) := by rw [← hμ2, mS_same]
    have hl2 := pM_undo_loop hu (by omega) 1200 0 zN (by omega) (by rw [zN_eq]; omega)
    rw [cpF_0, mR_self] at hl2
    have h14 : μ1.1 11 0 14 = nI cn := by rw [ak _ _ _ (by unfold isW; omega) (by omega)]; exact g5
    refine ⟨nI (cn - 1), μ1, _, eX, by rw [eX11_undo_0, h14, zif_neg q0, zlet_eq, ecn, hμ2]; exact hl2, ?_⟩
    generalize hμ3 : mR μ2 65 0 (cpF (fun z => μ2.1 67 0 (1200 * (cn - 1) + z)) (μ2.1 65 0) 0 1200) = μ3
    have c1 : ∀ k x s, k ≠ 65 → ¬ (k = 11 ∧ x = 0 ∧ s = 14) → μ3.1 k x s = μ1.1 k x s := fun k x s n1 n2 => by rw [← hμ3, mR_ne _ _ _ _ _ _ _ (fun y => n1 y.1), ← hμ2, mS_1, if_neg n2]
    have c2 : μ3.2 = μ1.2 := by rw [← hμ3, ← hμ2]; rfl
    have c65 : ∀ z, z < 1200 → μ3.1 65 0 z = μ.1 67 0 (1200 * (cn - 1) + z) := fun z hz => by
      rw [← hμ3, mR_at]
      unfold cpF
      rw [if_pos (by omega), Nat.sub_zero, ← hμ2]
      show (mS μ1 11 0 14 (nI (cn - 1))).1 67 0 (1200 * (cn - 1) + z) = _
      rw [mS_k _ _ _ _ _ _ _ _ (by decide), ak _ _ _ (by unfold isW; omega) (by omega)]
    have c3 : ∀ k x s, ¬ isW 0 k x → k ≠ 2 → k ≠ 65 → ¬ (k = 11 ∧ x = 0 ∧ s = 14) → μ3.1 k x s = μ.1 k x s := fun k x s n1 n2 n3 n4 => by rw [c1 k x s n3 n4, ak k x s n1 (fun y => n2 y.1)]
    have hcp : cpR μ μ3 0 (2 + (nx + 9) % 10) := by
      obtain ⟨d1, d2, d3, d4, d5, d6, d7, d8⟩ := e3
      have e : ∀ k x z, k ≠ 2 → k ≠ 11 → k ≠ 65 → μ3.1 k x z = m.1 k x z := fun k x z n1 n2 n3 => by rw [c1 k x z n3 (fun y => n2 y.1), ← hμ1, mS_k _ _ _ _ _ _ _ _ n1, mS_k _ _ _ _ _ _ _ _ n1]
      exact ⟨by rw [c2, ← hμ1]; exact d1, by rw [e _ _ _ (by decide) (by decide) (by decide)]; exact d2, fun z y1 y2 => by rw [e _ _ _ (by decide) (by decide) (by decide)]; exact d3 z y1 y2, fun z y1 => by rw [e _ _ _ (by decide) (by decide) (by decide)]; exact d4 z y1, fun k z y1 y2 => by rw [e _ _ _ (by omega) (by omega) (by omega)]; exact d5 k z y1 y2, fun k z y1 y2 => by rw [e _ _ _ (by omega) (by omega) (by omega)]; exact d6 k z y1 y2, fun k z y1 y2 y3 => by rw [e _ _ _ (by omega) (by omega) (by omega)]; exact d7 k z y1 y2 y3, fun k z y1 y2 y3 => by rw [e _ _ _ (by omega) (by omega) (by omega)]; exact d8 k z y1 y2 y3⟩
    have hCf := g7 (cn - 1) (by omega)
    refine ⟨j, S, D, lim, tu, hdu, Cf (cn - 1), nowu, (nx + 9) % 10, cn - 1, Cf, ⟨by rw [c2, a2 _ _ _ (by omega)]; exact h1.1, h1.2.1, by rw [c2, a2 _ _ _ (by omega)]; exact h1.2.2⟩, z1, h3.of (fun k a s hk => c3 _ _ _ (by unfold isS at hk; unfold isW; omega) (by unfold isS at hk; omega) (by unfold isS at hk; omega) (by unfold isS at hk; omega)) (fun z => c3 _ _ _ (by unfold isW; omega) (by omega) (by omega) (by omega)), ?_, ⟨by omega, by omega, ?_, ?_, ?_, fun u u' y1 y2 => g6 u u' y1 (by omega), fun u y1 => g6 u (cn - 1) (by omega) (by omega), fun u y1 => ?_⟩, h6.of (fun k z hk => c3 _ _ _ (by unfold isW; omega) (by omega) (by omega) (by omega)) (c3 _ _ _ (by unfold isW; omega) (by omega) (by omega) (by omega)), h7.of (fun k z hk => c3 _ _ _ (by unfold isW; omega) (by omega) (by omega) (by omega)), ?_⟩
    · refine RQ.wc hS (((z2.cp hS hcp).nu (fun k z y1 y2 y3 => c3 _ _ _ (by unfold isW; omega) (by omega) (by omega) (by omega))).up (by omega)) (fun z hz => c65 z hz)
    · rw [c1 _ _ _ (by decide) (by omega), ← hμ1, mS_n _ _ _ _ _ _ _ _ (by decide), mS_same]
    · rw [c1 _ _ _ (by decide) (by omega), ← hμ1, mS_same]
    · rw [← hμ3, mR_ne _ _ _ _ _ _ _ (by omega)]; exact hu
    · obtain ⟨t', hd', now', y2, y3⟩ := g8 u (by omega)
      refine ⟨t', hd', now', y2, ?_⟩
      rw [show ((nx + 9) % 10 + 10 - (cn - 1) + u) % 10 = (nx + 10 - cn + u) % 10 by omega]
      have e67 : (fun z => μ3.1 67 0 (1200 * u + z)) = (fun z => μ.1 67 0 (1200 * u + z)) := funext (fun z => c3 _ _ _ (by unfold isW; omega) (by omega) (by omega) (by omega))
      rw [e67]
      refine ((y3.nu (fun k z y1 y2 y3 => c3 _ _ _ (by unfold isW; omega) (by omega) (by omega) (by omega))).mu hS (fun k x z hw => ?_) (by rw [c2, a2 _ _ _ (by omega)])).up (by omega)
      have := isW_lt hw
      exact c3 _ _ _ (isW_ne hw (by omega)) (by omega) (by omega) (by omega)
    · rw [c3 _ _ _ (by unfold isW; omega) (by omega) (by omega) (by omega), c3 _ _ _ (by unfold isW; omega) (by omega) (by omega) (by omega)]; exact h8
