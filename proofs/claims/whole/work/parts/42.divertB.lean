/-! ===== diverters: both sides ===== -/
theorem zS_43 (i : Nat) : zS 43 i = .inr (0, 60, (0, 0)) := rfl
theorem zS_44 (i : Nat) : zS 44 i = .inr (0, 60, (0, 0)) := rfl
theorem zS_45 (i : Nat) : zS 45 i = .inr (0, 60, (0, 0)) := rfl
theorem zS_46 (i : Nat) : zS 46 i = .inr (0, 60, (0, 0)) := rfl
theorem zS_47 (i : Nat) : zS 47 i = .inr (0, 60, (0, 0)) := rfl
theorem zS_59 (i : Nat) : zS 59 i = .inr (0, 60, (0, 0)) := rfl
theorem zS_28 (i : Nat) : zS 28 i = .inr (0, 100, (0, 0)) := rfl
theorem zS_29 (i : Nat) : zS 29 i = .inr (0, 100, (0, 0)) := rfl
theorem dev_any {μ ν : zM} {j : Nat} {S : zSt} {D : zDv} {lim : Int32} (hE : ENV μ ν j S D lim) {q : Nat} (h1 : 1 ≤ ssrt S q) (h6 : ssrt S q ≤ 6) : μ.1 44 j q = nI (snum S q) ∧ ν.1 63 0 (80 + q) = nI (snum S q) ∧ snum S q < scnt S (ssrt S q) ∧ snum S q < 6 := by
  have hS := hE.1
  obtain ⟨a1, a2⟩ := hS.2.2.2.2.2.2.2.2.2.1 q h1 h6
  have a3 := hS.2.2.2.2.2.2.2.1 (ssrt S q)
  have b := (hE.2.2.1.2.2.2.2.2.2.2.1 (ssrt S q) (snum S q) h1 h6 a1).2
  rw [a2] at b
  exact ⟨b, hE.2.2.2.2.1.2.2.2.2.2.1 q h1 h6, a1, by omega⟩
theorem dev_out {μ ν : zM} {j : Nat} {S : zSt} {D : zDv} {lim : Int32} (hE : ENV μ ν j S D lim) {q : Nat} (h3 : 3 ≤ ssrt S q) (h6 : ssrt S q ≤ 6) : μ.1 45 j q = nI (D (ssrt S q) (snum S q) 0) ∧ μ.1 46 j q = nI (D (ssrt S q) (snum S q) 1) ∧ D (ssrt S q) (snum S q) 0 ≤ 20 ∧ D (ssrt S q) (snum S q) 1 ≤ 9 ∧
    ∃ d, d < 18 ∧ ν.1 63 0 (340 + 6 * ssrt S q + snum S q) = nI d ∧ ν.1 63 0 (140 + 8 * d + 2) = nI (D (ssrt S q) (snum S q) 0) ∧ ν.1 63 0 (140 + 8 * d + 3) = nI (D (ssrt S q) (snum S q) 1) := by
  have hS := hE.1
  obtain ⟨a1, a2⟩ := hS.2.2.2.2.2.2.2.2.2.1 q (by omega) h6
  have b := hE.2.2.1.2.2.2.2.2.2.2.2 (ssrt S q) (snum S q) h3 h6 a1
  rw [a2] at b
  have c := hE.2.1 (ssrt S q) (snum S q) h3 h6 a1
  obtain ⟨dv, hdv⟩ := hE.2.2.2.2.1.2.2.2.2.2.2
  obtain ⟨g1, g2, g3, -⟩ := hdv (ssrt S q) (snum S q) (by omega) h6 a1
  exact ⟨b.1, b.2.1, c.2.1, c.2.2.2.1, dv (ssrt S q) (snum S q), g1, g2, (g3 h3).1, (g3 h3).2⟩
theorem dev_srt {μ ν : zM} {j : Nat} {S : zSt} {D : zDv} {lim : Int32} (hE : ENV μ ν j S D lim) {q : Nat} (hq : q < 60) : μ.1 43 j q = nI (ssrt S q) ∧ ν.1 63 0 (20 + q) = nI (ssrt S q) := ⟨hE.2.2.1.2.2.2.2.2.1 q hq, hE.2.2.2.2.1.2.2.2.1 q hq⟩
theorem pM_stateIn {ν : zM} {s : Nat} (h3 : 3 ≤ s) (h6 : s ≤ 6) : tX11_stateIn_0 (nI s) ν = some (some (.inl (nI (stOf s))), ν) := by
  rw [eX11_stateIn_0]
  simp only [eX11_stateIn_29]
  rcases (by omega : s = 3 ∨ s = 4 ∨ s = 5 ∨ s = 6) with rfl | rfl | rfl | rfl
  · rw [zif_pos (show nI 3 = 3 from rfl)]; rfl
  · rw [zif_neg (show ¬ nI 4 = 3 by decide), zif_pos (show nI 4 = 4 from rfl)]; rfl
  · rw [zif_neg (show ¬ nI 5 = 3 by decide), zif_neg (show ¬ nI 5 = 4 by decide), zif_pos (show nI 5 = 5 from rfl)]; rfl
  · rw [zif_neg (show ¬ nI 6 = 3 by decide), zif_neg (show ¬ nI 6 = 4 by decide), zif_neg (show ¬ nI 6 = 5 by decide)]; rfl
/-- the reference's array when a bag is taken in -/
def tkF (w : Nat → Int32) (r p : Nat) (x y : Int32) : Nat → Int32 := upd (upd (upd (goesF (upd w (90 + p) (-2)) r x y) (400 + 8 * r + 3) (w (210 + p))) (400 + 8 * r + 4) (w (270 + p))) (400 + 8 * r + 5) (w (330 + p))
theorem pM_takesIn {ν : zM} {w : Nat → Int32} {r p s k : Nat} (hr : r < 100) (hp : p < 60) (h3 : 3 ≤ s) (h6 : s ≤ 6) : tX11_takesIn_0 (nI r) (nI p) (nI s) (nI k) (mW ν w) = zif (nI s = 3) (zI (tX11_properOf_0 (nI r) (mW ν (upd (tkF w r p (nI (stOf s)) (nI k)) (400 + 8 * r + 6) (w 0)))) fun v m => tX11_takesIn_118 (nI k) (400 + (8 * nI r)) v m) (some (none, mW ν (tkF w r p (nI (stOf s)) (nI k)))) := by
  have e1 : ∀ a, a = 210 + p ∨ a = 270 + p ∨ a = 330 + p → goesF (upd w (90 + p) (-2)) r (nI (stOf s)) (nI k) a = w a := fun a ha => by
    unfold goesF
    rw [upd_ne _ _ (by omega), upd_ne _ _ (by omega), upd_ne _ _ (by omega), upd_ne _ _ (by omega), upd_ne _ _ (by omega)]
  rw [eX11_takesIn_0, wW (a90 rfl) (by omega), Option.bind_some, pM_stateIn h3 h6, zI_some, pM_goes rfl hr, zU_some, eX11_takesIn_32, qW (a210 rfl) (by omega), Option.bind_some, wW (b3 rfl) (by omega), Option.bind_some, qW (a270 rfl) (by omega), Option.bind_some, wW (b4 rfl) (by omega), Option.bind_some, qW (a330 rfl) (by omega), Option.bind_some, wW (b5 rfl) (by omega), Option.bind_some, qW (x := 0) (p := 0) rfl (by decide), Option.bind_some, wW (b6 rfl) (by omega), Option.bind_some]
  have f1 := e1 (210 + p) (by omega)
  have f2 : upd (goesF (upd w (90 + p) (-2)) r (nI (stOf s)) (nI k)) (400 + 8 * r + 3) (w (210 + p)) (270 + p) = w (270 + p) := by rw [upd_ne _ _ (by omega)]; exact e1 _ (by omega)
  have f3 : upd (upd (goesF (upd w (90 + p) (-2)) r (nI (stOf s)) (nI k)) (400 + 8 * r + 3) (w (210 + p))) (400 + 8 * r + 4) (w (270 + p)) (330 + p) = w (330 + p) := by rw [upd_ne _ _ (by omega), upd_ne _ _ (by omega)]; exact e1 _ (by omega)
  rw [f1, f2, f3]
  have f0 : upd (upd (upd (goesF (upd w (90 + p) (-2)) r (nI (stOf s)) (nI k)) (400 + 8 * r + 3) (w (210 + p))) (400 + 8 * r + 4) (w (270 + p))) (400 + 8 * r + 5) (w (330 + p)) 0 = w 0 := by
    unfold goesF
    repeat rw [upd_ne _ _ (by omega)]
  rw [f0]
  rfl
/-- the flight for which a bag in a chute counts -/
def dl (T : Nat → Nat → Int32) (y : Int32) (o : Option Nat) : Option Nat := match o with
  | none => none
  | some f => if T 1 f = y then some f else none
theorem pX9_deliver58 {μ : zM} {i j F b : Nat} {T : Nat → Nat → Int32} {o : Option Nat} {y : Int32} (hj : μ.2.1 9 i 0 = j) (hj2 : j < 2) (h : FlX μ j F T) (ho : ∀ f, o = some f → f < F) (hb : b < 100) : tX9_deliver_58 i (nI b) y (fX o) μ = some (none, mS μ 29 i b (oN (-1) id (dl T y o))) := by
  have hF := h.1
  rw [eX9_deliver_58, eX9_deliver_83, eX9_deliver_84, eX9_deliver_84, eX9_deliver_86, eX9_deliver_86, zif_pos rfl, zif_neg one_ne0, eX9_deliver_104, eX9_deliver_104, wI_in (zS_29 i) rfl hb (by decide), Option.bind_some, wI_in (zS_29 i) rfl hb (by decide), Option.bind_some, hj, zif_pos hj2]
  cases o with
  | none => rw [zif_pos (show fX none = -1 from rfl)]; rfl
  | some f =>
    have hf := ho f rfl
    rw [zif_neg (show ¬ fX (some f) = -1 from fX_neg (by omega)), show fX (some f) = nI f from rfl, qI_in (zS_32 j) rfl (show f < 10 by omega) (by decide), Option.bind_some, show μ.1 32 j f = T 1 f from h.2.2 1 f (by decide) hf]
    unfold dl
    by_cases e : T 1 f = y
    · rw [zif_pos e, show (match some f with | none => none | some f => if T 1 f = y then some f else none) = some f from if_pos e]; rfl
    · rw [zif_neg e, show (match some f with | none => none | some f => if T 1 f = y then some f else none) = none from if_neg e]; rfl
theorem pM_takes138 {ν : zM} {w : Nat → Int32} {F b : Nat} {T : Nat → Nat → Int32} {o : Option Nat} {y : Int32} (h : FlM ν F T) (ho : ∀ f, o = some f → f < F) (hb : b < 100) : tX11_takesIn_138 y (400 + (8 * nI b)) (fMo o) (mW ν w) = some (none, mW ν (cntF (upd w (400 + 8 * b + 7) (oN (-2) id (dl T y o))) 7)) := by
  have hF := h.1
  have hw : ∀ v, tX11_takesIn_171 ((400 + (8 * nI b)) + 7) v (mW ν w) = some (none, mW ν (cntF (upd w (400 + 8 * b + 7) v) 7)) := fun v => by
    rw [eX11_takesIn_171, wW (b7 rfl) (by omega), Option.bind_some, pM_counts (z := 7) (k := 7) rfl (by decide), zU_some]
  rw [eX11_takesIn_138, eX11_takesIn_169]
  cases o with
  | none => rw [zif_pos (show fMo none < 0 from m2_lt), hw]; rfl
  | some f =>
    have hf := ho f rfl
    rw [zif_neg (show ¬ fMo (some f) < 0 from nI_pos (by omega)), show fMo (some f) = nI f from rfl, pM_ofFlight (x := nI f) (y := 1) h.mW hf (show 1 < 4 by decide) rfl rfl, zI_some, eX11_takesIn_169]
    unfold dl
    by_cases e : T 1 f = y
    · rw [zif_pos e, show (match some f with | none => none | some f => if T 1 f = y then some f else none) = some f from if_pos e]; exact hw _
    · rw [zif_neg e, show (match some f with | none => none | some f => if T 1 f = y then some f else none) = none from if_neg e]; exact hw _
theorem flOf_0 {F : Nat} {T : Nat → Nat → Int32} (hT : FlT F T) : flOf T F 0 = none := flOf_small hT (Or.inl rfl) (by decide)
theorem lbUse_lb {T : Nat → Nat → Int32} {F : Nat} {now a b x : Int32} (ha : isLb a) (hb : isLb b) (h : lbUse T F now a b = some x) : isLb x := by
  unfold lbUse at h
  by_cases e : lbGood T F now a
  · rw [zif_pos e] at h; cases h; exact ha
  · rw [zif_neg e] at h
    by_cases e2 : lbGood T F now b
    · rw [zif_pos e2] at h; cases h; exact hb
    · rw [zif_neg e2] at h; cases h
theorem pM_takes118 {ν : zM} {w : Nat → Int32} {F b : Nat} {T : Nat → Nat → Int32} {now a c y : Int32} (h : FlM ν F T) (hT : FlT F T) (ha : isLb a) (hc : isLb c) (hb : b < 100) : tX11_takesIn_118 y (400 + (8 * nI b)) ((lbUse T F now a c).getD (-2)) (mW ν w) = some (none, mW ν (cntF (upd w (400 + 8 * b + 7) (oN (-2) id (dl T y (flOf T F ((lbUse T F now a c).getD 0))))) 7)) := by
  rw [eX11_takesIn_118]
  simp only [eX11_takesIn_136]
  cases e : lbUse T F now a c with
  | none =>
    rw [zif_pos (show (none : Option Int32).getD (-2) = -2 from rfl), show (none : Option Int32).getD 0 = 0 from rfl, flOf_0 hT]
    exact pM_takes138 h (o := none) (fun f hf => by cases hf) hb
  | some x =>
    have hx := lbUse_lb ha hc e
    rw [show (some x).getD (-2) = x from rfl, show (some x).getD 0 = x from rfl, zif_neg (lb_ne2 hx), pM_flightBy h.mW hT hx, zI_some]
    exact pM_takes138 h (fun f hf => flOf_lt hf) hb
set_option maxHeartbeats 1000000 in
theorem pX9_deliver {μ : zM} {i j F b : Nat} {T : Nat → Nat → Int32} {y : Int32} (hj : μ.2.1 9 i 0 = j) (hj2 : j < 2) (h : FlX μ j F T) (hb : b < 100) : tX9_deliver_0 i (nI b) y μ = some (none, mS (mS (mS (mS (mS (mS μ 26 i b 2) 27 i b y) 40 (2 * i + 1) b (-2)) 57 i 7 (μ.1 57 i 7 + 1)) 28 i b (μ.1 9 i 1)) 29 i b (oN (-1) id (dl T y (flOf T F ((lbUse T F (μ.1 9 i 1) (μ.1 21 i b) (μ.1 23 i b)).getD 0))))) := by
  rw [eX9_deliver_0, pX0_put rfl hb, zU_some, pX4_removeH hb, zU_some, qI_in (x := 7) (p := 7) (zS_57 i) rfl (by decide) (by decide), Option.bind_some, wI_in (x := 7) (p := 7) (zS_57 i) rfl (by decide) (by decide), Option.bind_some, wI_in (zS_28 i) rfl hb (by decide), Option.bind_some]
  have e57 : (mS (mS (mS μ 26 i b 2) 27 i b y) 40 (2 * i + 1) b (-2)).1 57 i 7 = μ.1 57 i 7 := by
    rw [mS_k _ _ _ _ _ _ _ _ (by decide), mS_k _ _ _ _ _ _ _ _ (by decide), mS_k _ _ _ _ _ _ _ _ (by decide)]
  rw [e57]
  have e9 : (mS (mS (mS (mS μ 26 i b 2) 27 i b y) 40 (2 * i + 1) b (-2)) 57 i 7 (μ.1 57 i 7 + 1)).1 9 i 1 = μ.1 9 i 1 := by
    rw [mS_k _ _ _ _ _ _ _ _ (by decide), mS_k _ _ _ _ _ _ _ _ (by decide), mS_k _ _ _ _ _ _ _ _ (by decide), mS_k _ _ _ _ _ _ _ _ (by decide)]
  rw [e9]
  generalize hm : mS (mS (mS (mS (mS μ 26 i b 2) 27 i b y) 40 (2 * i + 1) b (-2)) 57 i 7 (μ.1 57 i 7 + 1)) 28 i b (μ.1 9 i 1) = m
  have em : ∀ k a z, k ≠ 26 → k ≠ 27 → k ≠ 40 → k ≠ 57 → k ≠ 28 → m.1 k a z = μ.1 k a z := fun k a z k1 k2 k3 k4 k5 => by
    rw [← hm, mS_k _ _ _ _ _ _ _ _ k5, mS_k _ _ _ _ _ _ _ _ k4, mS_k _ _ _ _ _ _ _ _ k3, mS_k _ _ _ _ _ _ _ _ k2, mS_k _ _ _ _ _ _ _ _ k1]
  have hmj : m.2.1 9 i 0 = j := by rw [← hm]; exact hj
  have hmF : FlX m j F T := ⟨h.1, by rw [em 1 _ _ (by decide) (by decide) (by decide) (by decide) (by decide)]; exact h.2.1, fun c f hc hf => by rw [em (31 + c) _ _ (by omega) (by omega) (by omega) (by omega) (by omega)]; exact h.2.2 c f hc hf⟩
  rw [hmj, zif_pos hj2, pX9_usableLabel hmj hj2 hmF rfl hb, zI_some, pX1_ofLabel hmF, zI_some, pX9_deliver58 hmj hj2 hmF (fun f hf => flOf_lt hf) hb, em 9 _ _ (by decide) (by decide) (by decide) (by decide) (by decide), em 21 _ _ (by decide) (by decide) (by decide) (by decide) (by decide), em 23 _ _ (by decide) (by decide) (by decide) (by decide) (by decide)]
