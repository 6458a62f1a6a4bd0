/-! ===== so many ticks ===== -/
def stN (i : Nat) : Nat → zM → zM → Prop
  | 0, μ, μ' => μ' = μ
  | m + 1, μ, μ' => ∃ μ1, tX9_step_0 i μ = some (none, μ1) ∧ stN i m μ1 μ'
def tkN : Nat → zM → zM → Prop
  | 0, μ, μ' => μ' = μ
  | m + 1, μ, μ' => ∃ μ1, tX11_ticks_0 μ = some (none, μ1) ∧ tkN m μ1 μ'
theorem steps {ν : zM} {i j : Nat} {S : zSt} {D : zDv} {lim : Int32} {hd C : Nat} {G : Nat → Prop} : ∀ (m : Nat) (μ : zM) (w : Nat → Int32) (B t now : Nat), ENV μ ν j S D lim → RQ μ ν i j S w B t hd C now G → B + 70 * m < 1000000000 → now + m ≤ 101000 → ∃ μ' w' t', stN i m μ μ' ∧ tkN m (mW ν w) (mW ν w') ∧ FrW i μ μ' ∧ RQ μ' ν i j S w' (B + 70 * m) t' hd C (now + m) G
  | 0, μ, w, B, t, now, hE, h, hB, hn => ⟨μ, w, t, rfl, rfl, FrW.rf, h⟩
  | m + 1, μ, w, B, t, now, hE, h, hB, hn => by
    obtain ⟨μ1, w1, a1, a2, a3, a4⟩ := step_pair hE h (by omega) (by omega)
    obtain ⟨μ', w', t', b1, b2, b3, b4⟩ := steps m μ1 w1 (B + 70) _ (now + 1) (hE.fr a3) a4 (by omega) (by omega)
    refine ⟨μ', w', t', ⟨μ1, a1, b1⟩, ⟨_, a2, b2⟩, a3.tr b3, ?_⟩
    rw [show B + 70 * (m + 1) = B + 70 + 70 * m by omega, show now + (m + 1) = now + 1 + m by omega]
    exact b4
theorem pX9_deliv_loop {i k : Nat} {b : Int32} (hk : k < 2 ^ 31) : ∀ (m s f : Nat) (μ μ' : zM), s + m = k → m < f → stN i m μ μ' → tX9_deliveriesWithin_10 f i (nI k) b (nI s) μ = some (some (.inl (μ'.1 57 i 7 - b)), μ')
  | 0, s, f, μ, μ', hs, hf, h => by
    obtain ⟨f, rfl⟩ : ∃ q, f = q + 1 := ⟨f - 1, by omega⟩
    have h : μ' = μ := h
    subst h
    rw [eX9_deliveriesWithin_10, zif_neg (nI_nlt (by omega) (by omega)), qI_in (x := 7) (p := 7) (zS_57 i) rfl (by decide) (by decide), Option.bind_some]
  | m + 1, s, f, μ, μ', hs, hf, h => by
    obtain ⟨f, rfl⟩ : ∃ q, f = q + 1 := ⟨f - 1, by omega⟩
    obtain ⟨μ1, h1, h2⟩ := h
    rw [eX9_deliveriesWithin_10, zif_pos (nI_lt (by omega) hk), h1, zU_some, eX9_deliveriesWithin_22, nI_1]
    exact pX9_deliv_loop hk m (s + 1) f μ1 μ' (by omega) (by omega) h2
theorem pX9_deliv {i k : Nat} {μ μ' : zM} (hk : k < 100000) (h : stN i k μ μ') : tX9_deliveriesWithin_0 i (nI k) μ = some (some (.inl (μ'.1 57 i 7 - μ.1 57 i 7)), μ') := by
  rw [eX9_deliveriesWithin_0, qI_in (x := 7) (p := 7) (zS_57 i) rfl (by decide) (by decide), Option.bind_some, eX9_deliveriesWithin_8]
  exact pX9_deliv_loop (by omega) k 0 zN μ μ' (by omega) (by rw [zN_eq]; omega) h
theorem pM_run_loop {ν : zM} {k : Nat} {b : Int32} {w' : Nat → Int32} (hk : k < 2 ^ 31) : ∀ (m s f : Nat) (μ : zM), s + m = k → m < f → tkN m μ (mW ν w') → tX11_run_42 f (nI k) b (nI s) μ = some (some (.inl (w' 10 - b)), mW ν w')
  | 0, s, f, μ, hs, hf, h => by
    obtain ⟨f, rfl⟩ : ∃ q, f = q + 1 := ⟨f - 1, by omega⟩
    have h : mW ν w' = μ := h
    subst h
    rw [eX11_run_42, zif_neg (nI_nlt (by omega) (by omega)), qW (x := 10) (p := 10) rfl (by decide), Option.bind_some]
  | m + 1, s, f, μ, hs, hf, h => by
    obtain ⟨f, rfl⟩ : ∃ q, f = q + 1 := ⟨f - 1, by omega⟩
    obtain ⟨μ1, h1, h2⟩ := h
    rw [eX11_run_42, zif_pos (nI_lt (by omega) hk), h1, zU_some, eX11_run_54, nI_1]
    exact pM_run_loop hk m (s + 1) f μ1 (by omega) (by omega) h2
theorem REL.all {μ : zM} {c : Nat} (h : REL μ c) : ∃ (j : Nat) (S : zSt) (D : zDv) (lim : Int32) (t hd C now nx cn : Nat) (Cf : Nat → Nat), (μ.2.1 10 0 6 = j ∧ j < 2 ∧ μ.2.1 10 0 7 = 1 - j) ∧ now ≤ 100000 ∧ ENV μ μ j S D lim ∧ RQ μ μ 0 j S (μ.1 65 0) (30000 * c) t hd C now noG ∧ HIS μ μ j S (30000 * c) C nx cn Cf ∧ TAP μ ∧ TXT μ ∧ μ.1 10 0 8 = μ.1 11 0 2 := h
theorem CALL.of {X M X' M' : zM → Option (Option zV × zM)} {μ : zM} {c : Nat} (h : CALL X' M' μ c) (e1 : X μ = X' μ) (e2 : ∀ μ1, X μ = some (none, μ1) ∨ (∃ v, X μ = some (some (.inl v), μ1)) → M μ1 = M' μ1) : CALL X M μ c := by
  obtain ⟨v, μ1, μ2, a1, a2, a3⟩ := h
  exact ⟨v, μ1, μ2, e1.trans a1, (e2 μ1 (Or.inr ⟨v, e1.trans a1⟩)).trans a2, a3⟩
section OPS
variable {μ : zM} {c : Nat}
/-- what the class's operations leave alone -/
def keepM (μ μ1 : zM) : Prop := ∀ k i z, k = 11 ∨ (62 ≤ k ∧ k ≤ 73) → μ1.1 k i z = μ.1 k i z
/-- the reference's answers before it keeps the world rest on its own rows -/
theorem op_call2 {FX FM X M : zM → Option (Option zV × zM)} {j : Nat} {S : zSt} {D : zDv} {lim : Int32} {t hd C now nx cn : Nat} {Cf : Nat → Nat} (h1 : μ.2.1 10 0 6 = j ∧ j < 2 ∧ μ.2.1 10 0 7 = 1 - j) (h3 : ENV μ μ j S D lim) (h2 : now ≤ 100000) (h4 : RQ μ μ 0 j S (μ.1 65 0) (30000 * c) t hd C now noG) (h5 : HIS μ μ j S (30000 * c) C nx cn Cf) (h6 : TAP μ) (h7 : TXT μ) (h8 : μ.1 10 0 8 = μ.1 11 0 2)
    (hP : ∀ μ1 ν, ENV μ1 ν j S D lim → μ1.2.1 10 0 6 = j → RQ μ1 ν 0 j S (μ.1 65 0) (30000 * c) t hd C now noG → ∃ v μ2 ν2 w' t' hd' C' now', FX μ1 = some (some (.inl v), μ2) ∧ FM (mW ν (μ.1 65 0)) = some (some (.inl v), mW ν2 w') ∧ FrW 0 μ1 μ2 ∧ RQ μ2 ν2 0 j S w' (30000 * (c + 1)) t' hd' C' now' noG ∧ C ≤ C' ∧ now' ≤ 100000 ∧ ν2.2 = ν.2 ∧ ∀ k i z, ¬ (68 ≤ k ∧ k ≤ 72 ∧ C ≤ z) → ν2.1 k i z = ν.1 k i z)
    (eX : X μ = zU (tX2_save_0 0 μ) FX) (eM : ∀ μ1, keepM μ μ1 → M μ1 = zU (tX11_keeps_0 μ1) FM) : CALL X M μ (c + 1) := by
  have hj9 : μ.2.1 9 0 0 = j := h4.elim fun _ z => z.elim fun _ z => z.elim fun _ z => z.1.1.1
  have h5' := h5
  obtain ⟨g1, g2, g3, g4, -⟩ := h5'
  obtain ⟨μ1, e1, cp, n1, n2, s1, s2, s3⟩ := pX2_save g1 g2 g3 g4 hj9 h1.2.1
  obtain ⟨v, μa, μb, a1, a2, a3⟩ := op_call h1 h3 h2 h4 h5 h6 h7 h8 hP
  refine ⟨v, μa, μb, eX.trans a1, (eM μa (fun k i z hk => ?_)).trans a2, a3⟩
  have a1' : zU (tX2_save_0 0 μ) FX = some (some (.inl v), μa) := a1
  rw [e1, zU_some] at a1'
  have hE1 : ENV μ1 μ1 j S D lim := h3.of (fun k a s hk => s3 _ _ _ (by unfold isS at hk; unfold isW; omega) (by unfold isS at hk; omega)) (fun z => s3 _ _ _ (by unfold isW; omega) (by omega))
  have hR1 : RQ μ1 μ1 0 j S (μ.1 65 0) (30000 * c) t hd C now noG := (h4.nu (fun k z k1 k2 _ => s3 _ _ _ (by unfold isW; omega) (by omega))).mu h3.1 (fun k x z hw => s3 k x z (isW_ne hw (by omega)) (by have := isW_lt hw; omega)) (s1 _ _ _ (by omega))
  obtain ⟨v', μ2, ν2, w', t', hd', C', now', f1, -, f3, -⟩ := hP μ1 μ1 hE1 (by rw [s1 _ _ _ (by omega)]; exact h1.1) hR1
  rw [a1'] at f1
  cases f1
  rw [f3.2 k i z (by unfold isW; omega), s3 k i z (by unfold isW; omega) (by omega)]
theorem a_run (h : REL μ c) (hc : c ≤ 600) (x : Int32) : CALL (tX10_run_0 x) (tX11_run_0 x) μ (c + 1) := by
  obtain ⟨j, S, D, lim, t, hd, C, now, nx, cn, Cf, h1, h2, h3, h4, h5, h6, h7, h8⟩ := h.all
  have h4' := h4
  obtain ⟨O, st, Q, hR, -⟩ := h4'
  by_cases hx : x < 1 ∨ (300 : Int32) < x
  · refine CALL.ask h (v := -1) ?_ ?_
    · rw [eX10_run_0, pX10_isWithin, zI_some, zif_pos hx, zif_pos rfl, eX10_run_25]
    · rw [eX11_run_0, pM_in (a := x) (lo := 1) (hi := 300) rfl (by decide) (by decide), zI_some, zif_pos hx, zif_pos rfl, eX11_run_26]
  · obtain ⟨k, k1, k2, rfl⟩ := rng_of (a := 1) (b := 300) rfl rfl (by decide) (by decide) hx
    by_cases hy : 100000 < now + k
    · refine CALL.ask h (v := -1) ?_ ?_
      · rw [eX10_run_0, pX10_isWithin, zI_some, zif_neg hx, zif_neg one_ne0, hR.1.2.2.2.2.1, nI_add, zif_pos (show (100000 : Int32) < nI (now + k) from nI_lt (a := 100000) hy (by omega)), eX10_run_25]
      · rw [eX11_run_0, pM_in (a := nI k) (lo := 1) (hi := 300) rfl (by decide) (by decide), zI_some, zif_neg hx, zif_neg one_ne0, qI_in (x := 0) (p := 0) (zS_65 0) rfl (by decide) (by decide), Option.bind_some, hR.1.2.2.2.2.2.1, nI_add, zif_pos (show (100000 : Int32) < nI (now + k) from nI_lt (a := 100000) hy (by omega)), eX11_run_26]
    · have hy' : ¬ (100000 : Int32) < nI (now + k) := nI_nlt (a := 100000) (by omega) (by decide)
      refine op_call2 (FX := fun m => zI (tX9_deliveriesWithin_0 0 (nI k) m) fun v5 μ4 => some (some (.inl v5), μ4)) (FM := fun m => (qI m (65, 0) 10).bind fun v5 => tX11_run_40 (nI k) v5 m) h1 h3 h2 h4 h5 h6 h7 h8 (fun μ1 ν hE hj hR1 => ?_) ?_ (fun μ1 hm => ?_)
      · obtain ⟨μ', w', t', b1, b2, b3, b4⟩ := steps k μ1 (μ.1 65 0) (30000 * c) t now hE hR1 (by omega) (by omega)
        have hcX : ∀ μ1 w B t now, RQ μ1 ν 0 j S w B t hd C now noG → w 10 = μ1.1 57 0 7 := fun μ1 w B t now z => z.elim fun _ z => z.elim fun _ z => z.elim fun _ z => z.1.1.2.2.2.2.2.2.2.2.2.1 7 (by decide)
        refine ⟨μ'.1 57 0 7 - μ1.1 57 0 7, μ', ν, w', t', hd, C, now + k, ?_, ?_, b3, b4.up (by omega), Nat.le_refl _, by omega, rfl, fun _ _ _ _ => rfl⟩
        · rw [pX9_deliv (by omega) b1, zI_some]
        · rw [qW (x := 10) (p := 10) rfl (by decide), Option.bind_some, eX11_run_40]
          have e := pM_run_loop (ν := ν) (w' := w') (b := μ.1 65 0 10) (show k < 2 ^ 31 by omega) k 0 zN (mW ν (μ.1 65 0)) (by omega) (by rw [zN_eq]; omega) b2
          refine Eq.trans e ?_
          rw [hcX _ _ _ _ _ hR1, hcX _ _ _ _ _ b4]
      · rw [eX10_run_0, pX10_isWithin, zI_some, zif_neg hx, zif_neg one_ne0, hR.1.2.2.2.2.1, nI_add, zif_neg hy']
      · have e0 : μ1.1 65 0 0 = nI now := by rw [hm _ _ _ (by omega)]; exact hR.1.2.2.2.2.2.1
        rw [eX11_run_0, pM_in (a := nI k) (lo := 1) (hi := 300) rfl (by decide) (by decide), zI_some, zif_neg hx, zif_neg one_ne0, qI_in (x := 0) (p := 0) (zS_65 0) rfl (by decide) (by decide), Option.bind_some, e0, nI_add, zif_neg hy']
/-! heads -/
theorem hd_bits : ∀ hd, hd < 16 → ∀ h, h < 4 → ((nI hd &&& ((1 : Int32) <<< (nI h &&& 31)) = 0 ↔ hd / 2 ^ h % 2 = 0) ∧ ∃ hd', hd' < 16 ∧ nI hd ^^^ ((1 : Int32) <<< (nI h &&& 31)) = nI hd' ∧ (∀ g, g < 4 → nI (hd' / 2 ^ g % 2) = if g = h then nI (1 - hd / 2 ^ h % 2) else nI (hd / 2 ^ g % 2))) := by
  intro hd h1 h h2
  refine ⟨?_, if hd / 2 ^ h % 2 = 0 then hd + 2 ^ h else hd - 2 ^ h, ?_⟩
  · revert h1 h2 hd h; decide
  · revert h1 h2 hd h; decide
theorem head_RW {μ ν : zM} {i j : Nat} {S : zSt} {w : Nat → Int32} {B t hd C now O : Nat} {st : Nat → Nat} {Q : Nat → List Nat} {h hd' : Nat} {x : Int32} (hS : okS S) (hR : RW μ ν i j S w B t hd C now O st Q) (hh : h < 4) (hd16 : hd' < 16) (hx : ∀ g, g < 4 → nI (hd' / 2 ^ g % 2) = if g = h then x else nI (hd / 2 ^ g % 2)) :
    RW (mS μ 9 i 3 (nI hd')) ν i j S (upd w (11 + h) x) B t hd' C now O st Q := by
  obtain ⟨⟨h1, h2, h3, h4, h5, h6, h7, h8, h9, h10, h11, h12, h13⟩, hring, hcon, hbag, hlb, hque, ⟨hrd, hw6, hw4⟩, hO, hO2, hord⟩ := hR
  have hn6 := hS.2.1
  have hw : ∀ z, ¬ (11 ≤ z ∧ z < 15) → upd w (11 + h) x z = w z := fun z hz => upd_ne _ _ (by omega)
  have ek : ∀ k a z, k ≠ 9 → (mS μ 9 i 3 (nI hd')).1 k a z = μ.1 k a z := fun k a z hk => mS_k _ _ _ _ _ _ _ _ hk
  have wb : ∀ b c, upd w (11 + h) x (400 + 8 * b + c) = w (400 + 8 * b + c) := fun b c => hw _ (by omega)
  have wb0 : ∀ b, upd w (11 + h) x (400 + 8 * b) = w (400 + 8 * b) := fun b => hw _ (by omega)
  refine ⟨⟨h1, h2, by rw [mS_n _ _ _ _ _ _ _ _ (by decide)]; exact h3, h4, by rw [mS_n _ _ _ _ _ _ _ _ (by decide)]; exact h5, by rw [hw 0 (by omega)]; exact h6, hd16, mS_same _ _ _ _ _, fun g hg => ?_, fun k hk => by rw [hw _ (by omega), ek _ _ _ (by decide)]; exact h10 k hk, h11, by rw [ek _ _ _ (by decide)]; exact h12, by rw [hw 1 (by omega)]; exact h13⟩, fun p hp => ?_, fun p hp r hr hpr => ?_, fun b hb => ?_, fun b hb => ?_, fun q hq => ?_, ⟨fun p hp => ?_, fun k hk => ?_, fun k hk => ?_⟩, hO, by rw [hw 2 (by omega)]; exact hO2, fun b hb => ?_⟩
  · rw [hx g hg]
    by_cases e : g = h
    · subst e
      rw [if_pos rfl, upd_at]
    · rw [if_neg e, upd_ne _ _ (by omega)]
      exact h9 g hg
  · rw [ek _ _ _ (by decide), ek _ _ _ (by decide), ek _ _ _ (by decide), ek _ _ _ (by decide), hw (90 + p) (by omega), hw (150 + p) (by omega), hw (210 + p) (by omega), hw (270 + p) (by omega), hw (330 + p) (by omega)]
    exact hring p hp
  · rw [hw (90 + p) (by omega)] at hpr
    rw [wb r 1]
    exact hcon p hp r hr hpr
  · obtain ⟨g0, g1, g2, g3, g4, g5, g6, g7, g8⟩ := hbag b hb
    refine ⟨g0, by rw [ek _ _ _ (by decide)]; exact g1, by rw [wb0]; exact g2, fun hs => ?_, fun hs => by rw [wb b 1]; exact g4 hs, fun a1 a2 a3 => by rw [wb b 1, ek _ _ _ (by decide)]; exact g5 a1 a2 a3, fun hs => ?_, fun hs => ?_, fun hs => ?_⟩
    · obtain ⟨p, f1, f2, f3, f4⟩ := g3 hs
      exact ⟨p, f1, by rw [wb b 1]; exact f2, by rw [ek _ _ _ (by decide)]; exact f3, by rw [hw (90 + p) (by omega)]; exact f4⟩
    · rw [ek _ _ _ (by decide), ek _ _ _ (by decide), ek _ _ _ (by decide), wb b 3, wb b 4, wb b 5]; exact g6 hs
    · rw [ek _ _ _ (by decide), ek _ _ _ (by decide), ek _ _ _ (by decide)]; exact g7 hs
    · rw [wb b 6, wb b 7, ek _ _ _ (by decide), ek _ _ _ (by decide)]; exact g8 hs
  · obtain ⟨f1, f2, f3⟩ := hlb b hb
    exact ⟨fun c hc => by rw [ek _ _ _ (by omega)]; exact f1 c hc, by rw [ek _ _ _ (by decide)]; exact f2, by rw [ek _ _ _ (by decide)]; exact f3⟩
  · obtain ⟨ra, rb, rc⟩ := hque q hq
    refine ⟨QX_congr (fun k s k1 k2 => ek _ _ _ (by omega)) ra, fun b => ?_, ?_⟩
    · unfold inM
      rw [wb0, wb b 1]
      exact rb b
    · refine rc.imp (fun {a c} hac => ?_)
      unfold ordM at hac ⊢
      rw [wb a 2, wb c 2]
      exact hac
  · rw [ek _ _ _ (by decide), hw (15 + p) (by omega)]; exact hrd p hp
  · rw [ek _ _ _ (by decide), hw (79 + k) (by omega)]; exact hw6 k hk
  · rw [ek _ _ _ (by decide), ek _ _ _ (by decide), hw (75 + k) (by omega), hw (77 + k) (by omega)]; exact hw4 k hk
  · obtain ⟨o, f1, f2⟩ := hord b hb
    refine ⟨o, f1, ?_⟩
    unfold ordM at f2 ⊢
    rw [wb b 2]
    exact f2
theorem a11 {p : Nat} {x : Int32} (hx : x = nI p) : (11 : Int32) + x = nI (11 + p) := i_add 11 p hx rfl
theorem nI_01 {b : Nat} (h : b < 2) : nI b = 0 ∨ nI b = 1 := by
  rcases (by omega : b = 0 ∨ b = 1) with rfl | rfl
  · exact Or.inl rfl
  · exact Or.inr rfl
theorem a_setHead (h : REL μ c) (x : Int32) (y : Int32) (hy : y = 0 ∨ y = 1) : CALL (tX10_setHead_0 x y) (tX11_setHead_0 x y) μ (c + 1) := by
  obtain ⟨j, S, D, lim, t, hd, C, now, nx, cn, Cf, h1, h2, h3, h4, h5, h6, h7, h8⟩ := h.all
  have h4' := h4
  obtain ⟨O, st, Q, hR, -⟩ := h4'
  have eMy : ∀ m : zM, tX11_setHead_0 x y m = tX11_setHead_10 x y m := fun m => by
    rw [eX11_setHead_0, eX11_setHead_9, eX11_setHead_9]
    rcases hy with rfl | rfl
    · rw [zif_pos rfl]
    · rw [zif_neg one_ne0]
  by_cases hx : x < 0 ∨ (3 : Int32) < x
  · refine CALL.ask h (v := 0) ?_ ?_
    · rw [eX10_setHead_0, pX10_isWithin, zI_some, zif_pos hx, zif_pos rfl, zif_pos nar_0]
    · rw [eMy, eX11_setHead_10, pM_in (a := x) (lo := 0) (hi := 3) rfl (by decide) (by decide), zI_some, zif_pos hx, zif_pos rfl, eX11_setHead_35, zif_pos nar_0]
  · obtain ⟨k, k1, k2, rfl⟩ := rng_of (a := 0) (b := 3) rfl rfl (by decide) (by decide) hx
    have hd16 := hR.1.2.2.2.2.2.2.1
    have hX3 := hR.1.2.2.2.2.2.2.2.1
    have hW := hR.1.2.2.2.2.2.2.2.2.1 k (by omega)
    obtain ⟨b1, hd', b2, b3, b4⟩ := hd_bits hd hd16 k (by omega)
    have eX : tX10_setHead_0 (nI k) y μ = tX10_setHead_34 y ((1 : Int32) <<< (nI k &&& 31)) (nI (hd / 2 ^ k % 2)) μ := by
      rw [eX10_setHead_0, pX10_isWithin, zI_some, zif_neg hx, zif_neg one_ne0, eX10_setHead_15, hX3, eX10_setHead_32, eX10_setHead_32]
      by_cases q : hd / 2 ^ k % 2 = 0
      · rw [zif_pos (b1.mpr q), q]; rfl
      · rw [zif_neg (fun z => q (b1.mp z)), show hd / 2 ^ k % 2 = 1 by omega]; rfl
    by_cases q : nI (hd / 2 ^ k % 2) = y
    · refine CALL.ask h (v := 0) ?_ ?_
      · rw [eX, eX10_setHead_34, zif_pos q, zif_pos nar_0]
      · rw [eMy, eX11_setHead_10, pM_in (a := nI k) (lo := 0) (hi := 3) rfl (by decide) (by decide), zI_some, zif_neg hx, zif_neg one_ne0, qI_in (zS_65 0) (a11 rfl) (by omega) (by decide), Option.bind_some, hW, zif_pos q, eX11_setHead_35, zif_pos nar_0]
    · have hy1 : y = nI (1 - hd / 2 ^ k % 2) := by
        rcases (by omega : hd / 2 ^ k % 2 = 0 ∨ hd / 2 ^ k % 2 = 1) with e | e
        · rw [e] at q ⊢
          rcases hy with rfl | rfl
          · exact absurd rfl q
          · rfl
        · rw [e] at q ⊢
          rcases hy with rfl | rfl
          · rfl
          · exact absurd rfl q
      refine op_call2 (FX := fun m => zlet (mS m 9 0 3 ((m.1 9 0 3) ^^^ ((1 : Int32) <<< (nI k &&& 31)))) fun μ2 => zif (vp_nar .boolean 1 = 1) (some (some (.inl 1), μ2)) none) (FM := fun m => (wI m (65, 0) (11 + nI k) y).bind fun μ5 => zif (vp_nar .boolean 1 = 1) (some (some (.inl 1), μ5)) none) h1 h3 h2 h4 h5 h6 h7 h8 (fun μ1 ν hE hj hR1 => ?_) ?_ (fun μ1 hm => ?_)
      · obtain ⟨O1, st1, Q1, hR1, hG1⟩ := hR1
        have hH := head_RW (h := k) (hd' := hd') (x := y) h3.1 hR1 (by omega) b2 (fun g hg => by rw [b4 g hg, hy1])
        refine ⟨1, _, ν, _, t, hd', C, now, ?_, ?_, FrW.mS FrW.rf (by unfold isW; omega), hH.rq (by omega) hG1, Nat.le_refl _, h2, rfl, fun _ _ _ _ => rfl⟩
        · rw [zlet_eq, hR1.1.2.2.2.2.2.2.2.1, b3, zif_pos nar_1]
        · rw [wW (a11 rfl) (by omega), Option.bind_some, zif_pos nar_1]
      · rw [eX, eX10_setHead_34, zif_neg q]
      · have e0 : μ1.1 65 0 (11 + k) = nI (hd / 2 ^ k % 2) := by rw [hm _ _ _ (by omega)]; exact hW
        rw [eMy, eX11_setHead_10, pM_in (a := nI k) (lo := 0) (hi := 3) rfl (by decide) (by decide), zI_some, zif_neg hx, zif_neg one_ne0, qI_in (zS_65 0) (a11 rfl) (by omega) (by decide), Option.bind_some, e0, zif_neg q]
end OPS
