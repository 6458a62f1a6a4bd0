/-! ===== worlds kept: both sides ===== -/
theorem RW.wc {μ ν : zM} {i j : Nat} {S : zSt} {w w' : Nat → Int32} {B t hd C now O : Nat} {st : Nat → Nat} {Q : Nat → List Nat} (hS : okS S) (h : RW μ ν i j S w B t hd C now O st Q) (e : ∀ z, z < 1200 → w' z = w z) : RW μ ν i j S w' B t hd C now O st Q := by
  obtain ⟨⟨h1, h2, h3, h4, h5, h6, h7, h8, h9, h10, h11, h12, h13⟩, hring, hcon, hbag, hlb, hque, ⟨hrd, hw6, hw4⟩, hO, hO2, hord⟩ := h
  have hn3 := hS.1
  have hn6 := hS.2.1
  have hb : ∀ b c, b < C → c < 8 → w' (400 + 8 * b + c) = w (400 + 8 * b + c) := fun b c a d => e _ (by omega)
  have hb0 : ∀ b, b < C → w' (400 + 8 * b) = w (400 + 8 * b) := fun b a => e _ (by omega)
  refine ⟨⟨h1, h2, h3, h4, h5, (e 0 (by decide)).trans h6, h7, h8, fun k hk => (e _ (by omega)).trans (h9 k hk), fun k hk => (e _ (by omega)).trans (h10 k hk), h11, h12, (e 1 (by decide)).trans h13⟩, fun p hp => ?_, fun p hp r hr hpr => ?_, fun b hbC => ?_, hlb, fun q hq => ?_, ⟨fun p hp => ?_, fun k hk => ?_, fun k hk => ?_⟩, hO, (e 2 (by decide)).trans hO2, fun b hbC => ?_⟩
  · rw [e (90 + p) (by omega), e (150 + p) (by omega), e (210 + p) (by omega), e (270 + p) (by omega), e (330 + p) (by omega)]
    exact hring p hp
  · rw [e (90 + p) (by omega)] at hpr
    obtain ⟨c1, c2, c3⟩ := hcon p hp r hr hpr
    exact ⟨c1, c2, by rw [hb r 1 c1 (by decide)]; exact c3⟩
  · obtain ⟨g0, g1, g2, g3, g4, g5, g6, g7, g8⟩ := hbag b hbC
    refine ⟨g0, g1, by rw [hb0 b hbC]; exact g2, fun hs => ?_, fun hs => by rw [hb b 1 hbC (by decide)]; exact g4 hs, fun a1 a2 a3 => by rw [hb b 1 hbC (by decide)]; exact g5 a1 a2 a3, fun hs => ?_, g7, fun hs => ?_⟩
    · obtain ⟨p, f1, f2, f3, f4⟩ := g3 hs
      exact ⟨p, f1, by rw [hb b 1 hbC (by decide)]; exact f2, f3, by rw [e (90 + p) (by omega)]; exact f4⟩
    · rw [hb b 3 hbC (by decide), hb b 4 hbC (by decide), hb b 5 hbC (by decide)]; exact g6 hs
    · rw [hb b 6 hbC (by decide), hb b 7 hbC (by decide)]; exact g8 hs
  · obtain ⟨ra, rb, rc⟩ := hque q hq
    refine ⟨ra, fun b => ?_, ?_⟩
    · rw [rb b]
      refine and_congr_right (fun hbC => ?_)
      unfold inM
      rw [hb0 b hbC, hb b 1 hbC (by decide)]
    · refine rc.imp_of_mem (fun {a c} ha hc hac => ?_)
      have ha' := ((rb a).mp ha).1
      have hc' := ((rb c).mp hc).1
      unfold ordM at hac ⊢
      rw [hb a 2 ha' (by decide), hb c 2 hc' (by decide)]
      exact hac
  · rw [e (15 + p) (by omega)]; exact hrd p hp
  · have := cnt_two hS
    rw [e (79 + k) (by omega)]; exact hw6 k hk
  · have := cnt_two hS
    rw [e (75 + k) (by omega), e (77 + k) (by omega)]; exact hw4 k hk
  · obtain ⟨o, f1, f2⟩ := hord b hbC
    refine ⟨o, f1, ?_⟩
    unfold ordM at f2 ⊢
    rw [hb b 2 hbC (by decide)]
    exact f2
theorem RQ.wc {μ ν : zM} {i j : Nat} {S : zSt} {w w' : Nat → Int32} {B t hd C now : Nat} {G : Nat → Prop} (hS : okS S) (h : RQ μ ν i j S w B t hd C now G) (e : ∀ z, z < 1200 → w' z = w z) : RQ μ ν i j S w' B t hd C now G := h.elim fun O z => z.elim fun st z => z.elim fun Q z => ⟨O, st, Q, z.1.wc hS e, z.2⟩
theorem mS_mR (μ : zM) (k i : Nat) (f : Nat → Int32) (n : Nat) (v : Int32) : mS (mR μ k i f) k i n v = mR μ k i (upd f n v) := by
  refine Prod.ext ?_ rfl
  funext a b z
  rw [mS_1, mR_1, mR_1]
  unfold upd
  by_cases h : a = k ∧ b = i
  · by_cases hz : z = n
    · rw [if_pos ⟨h.1, h.2, hz⟩, if_pos h, if_pos hz]
    · rw [if_neg (fun q => hz q.2.2), if_pos h, if_pos h, if_neg hz]
  · rw [if_neg (fun q => h ⟨q.1, q.2.1⟩), if_neg h, if_neg h]
theorem mR_self (μ : zM) (k i : Nat) : mR μ k i (μ.1 k i) = μ := by
  refine Prod.ext ?_ rfl
  funext a b z
  rw [mR_1]
  by_cases h : a = k ∧ b = i
  · rw [if_pos h, h.1, h.2]
  · rw [if_neg h]
def cpF (f g : Nat → Int32) (b k : Nat) : Nat → Int32 := fun z => if b ≤ z ∧ z < b + k then f (z - b) else g z
theorem cpF_0 (f g : Nat → Int32) (b : Nat) : cpF f g b 0 = g := by
  funext z
  exact if_neg (by omega)
theorem cpF_step (f g : Nat → Int32) (b k : Nat) : upd (cpF f g b k) (b + k) (f k) = cpF f g b (k + 1) := by
  funext z
  unfold upd cpF
  by_cases h : z = b + k
  · rw [if_pos h, if_pos ⟨by omega, by omega⟩, h, Nat.add_sub_cancel_left]
  · rw [if_neg h]
    by_cases h2 : b ≤ z ∧ z < b + k
    · rw [if_pos h2, if_pos ⟨h2.1, by omega⟩]
    · rw [if_neg h2, if_neg (by omega)]
theorem zS_66 (i : Nat) : zS 66 i = .inr (0, 1200, (0, 0)) := rfl
theorem zS_67 (i : Nat) : zS 67 i = .inr (0, 12000, (0, 0)) := rfl
theorem pM_lays_loop {μ : zM} : ∀ (m k f : Nat), k + m = 1200 → m < f → tX11_laysAside_2 f (nI k) (mR μ 66 0 (cpF (μ.1 65 0) (μ.1 66 0) 0 k)) = some (none, mR μ 66 0 (cpF (μ.1 65 0) (μ.1 66 0) 0 1200))
  | 0, k, f, hk, hf => by
    obtain ⟨f, rfl⟩ : ∃ q, f = q + 1 := ⟨f - 1, by omega⟩
    rw [eX11_laysAside_2, zif_neg (show ¬ nI k < 1200 from nI_nlt (b := 1200) (by omega) (by omega)), show k = 1200 by omega]
  | m + 1, k, f, hk, hf => by
    obtain ⟨f, rfl⟩ : ∃ q, f = q + 1 := ⟨f - 1, by omega⟩
    have ih := pM_lays_loop (μ := μ) m (k + 1) f (by omega) (by omega)
    have e := cpF_step (μ.1 65 0) (μ.1 66 0) 0 k
    rw [Nat.zero_add] at e
    rw [eX11_laysAside_2, zif_pos (show nI k < 1200 from nI_lt (b := 1200) (by omega) (by decide)), qI_in (zS_65 0) rfl (show k < 1200 by omega) (by decide), Option.bind_some, mR_ne _ _ _ _ _ _ _ (by omega), wI_in (zS_66 0) rfl (show k < 1200 by omega) (by decide), Option.bind_some, mS_mR, e, eX11_laysAside_24, nI_1, ih]
theorem pM_laysAside (μ : zM) : tX11_laysAside_0 μ = some (none, mR μ 66 0 (cpF (μ.1 65 0) (μ.1 66 0) 0 1200)) := by
  have h := pM_lays_loop (μ := μ) 1200 0 zN (by omega) (by rw [zN_eq]; omega)
  rw [cpF_0, mR_self] at h
  rw [eX11_laysAside_0]
  exact h
theorem pM_comes_loop {μ : zM} : ∀ (m k f : Nat), k + m = 1200 → m < f → tX11_comesBack_2 f (nI k) (mR μ 65 0 (cpF (μ.1 66 0) (μ.1 65 0) 0 k)) = some (none, mR μ 65 0 (cpF (μ.1 66 0) (μ.1 65 0) 0 1200))
  | 0, k, f, hk, hf => by
    obtain ⟨f, rfl⟩ : ∃ q, f = q + 1 := ⟨f - 1, by omega⟩
    rw [eX11_comesBack_2, zif_neg (show ¬ nI k < 1200 from nI_nlt (b := 1200) (by omega) (by omega)), show k = 1200 by omega]
  | m + 1, k, f, hk, hf => by
    obtain ⟨f, rfl⟩ : ∃ q, f = q + 1 := ⟨f - 1, by omega⟩
    have ih := pM_comes_loop (μ := μ) m (k + 1) f (by omega) (by omega)
    have e := cpF_step (μ.1 66 0) (μ.1 65 0) 0 k
    rw [Nat.zero_add] at e
    rw [eX11_comesBack_2, zif_pos (show nI k < 1200 from nI_lt (b := 1200) (by omega) (by decide)), qI_in (zS_66 0) rfl (show k < 1200 by omega) (by decide), Option.bind_some, mR_ne _ _ _ _ _ _ _ (by omega), wI_in (zS_65 0) rfl (show k < 1200 by omega) (by decide), Option.bind_some, mS_mR, e, eX11_comesBack_24, nI_1, ih]
theorem pM_comesBack (μ : zM) : tX11_comesBack_0 μ = some (none, mR μ 65 0 (cpF (μ.1 66 0) (μ.1 65 0) 0 1200)) := by
  have h := pM_comes_loop (μ := μ) 1200 0 zN (by omega) (by rw [zN_eq]; omega)
  rw [cpF_0, mR_self] at h
  rw [eX11_comesBack_0]
  exact h
theorem i1200 {c k : Nat} {x y : Int32} (hx : x = nI c) (hy : y = nI k) : (1200 * x) + y = nI (1200 * c + k) := by
  rw [hx, hy, show (1200 : Int32) = nI 1200 from rfl, pk_mul, nI_add]
theorem pM_keep54 {μ : zM} {c : Nat} (hc : μ.1 11 0 14 = nI c) (hc9 : c ≤ 9) : ∀ (m k f : Nat), k + m = 1200 → m < f → tX11_keeps_54 f (nI k) (mR μ 67 0 (cpF (μ.1 65 0) (μ.1 67 0) (1200 * c) k)) = some (none, mS (mR μ 67 0 (cpF (μ.1 65 0) (μ.1 67 0) (1200 * c) 1200)) 11 0 14 (nI (c + 1)))
  | 0, k, f, hk, hf => by
    obtain ⟨f, rfl⟩ : ∃ q, f = q + 1 := ⟨f - 1, by omega⟩
    rw [eX11_keeps_54, zif_neg (show ¬ nI k < 1200 from nI_nlt (b := 1200) (by omega) (by omega)), show k = 1200 by omega, zlet_eq, mR_ne _ _ _ _ _ _ _ (by omega), hc, nI_1]
  | m + 1, k, f, hk, hf => by
    obtain ⟨f, rfl⟩ : ∃ q, f = q + 1 := ⟨f - 1, by omega⟩
    have ih := pM_keep54 hc hc9 m (k + 1) f (by omega) (by omega)
    rw [eX11_keeps_54, zif_pos (show nI k < 1200 from nI_lt (b := 1200) (by omega) (by decide)), qI_in (zS_65 0) rfl (show k < 1200 by omega) (by decide), Option.bind_some, mR_ne _ _ _ _ 65 _ _ (by omega), wI_in (p := 1200 * c + k) (zS_67 0) (i1200 (by rw [mR_ne _ _ _ _ _ _ _ (by omega)]; exact hc) rfl) (by omega) (by decide), Option.bind_some, mS_mR, cpF_step, eX11_keeps_85, nI_1, ih]
def shF (g : Nat → Int32) (k : Nat) : Nat → Int32 := fun z => if z < k then g (z + 1200) else g z
theorem shF_step (g : Nat → Int32) (k : Nat) : upd (shF g k) k (g (1200 + k)) = shF g (k + 1) := by
  funext z
  unfold upd shF
  by_cases h : z = k
  · rw [if_pos h, if_pos (by omega), h, Nat.add_comm]
  · rw [if_neg h]
    by_cases h2 : z < k
    · rw [if_pos h2, if_pos (by omega)]
    · rw [if_neg h2, if_neg (by omega)]
theorem pM_keep13 {μ : zM} (hc : μ.1 11 0 14 = nI 10) : ∀ (m k f : Nat), k + m = 10800 → m < f → tX11_keeps_13 f (nI (1200 + k)) (mR μ 67 0 (shF (μ.1 67 0) k)) = tX11_keeps_52 (mS (mR μ 67 0 (shF (μ.1 67 0) 10800)) 11 0 14 (nI 9))
  | 0, k, f, hk, hf => by
    obtain ⟨f, rfl⟩ : ∃ q, f = q + 1 := ⟨f - 1, by omega⟩
    rw [eX11_keeps_13, zif_neg (show ¬ nI (1200 + k) < 12000 from nI_nlt (b := 12000) (by omega) (by omega)), show k = 10800 by omega, zlet_eq, mR_ne _ _ _ _ _ _ _ (by omega), hc, show nI 10 - 1 = nI 9 from nI_pred 9]
  | m + 1, k, f, hk, hf => by
    obtain ⟨f, rfl⟩ : ∃ q, f = q + 1 := ⟨f - 1, by omega⟩
    have ih := pM_keep13 hc m (k + 1) f (by omega) (by omega)
    have e1 : nI (1200 + k) - 1200 = nI k := by
      rw [show (1200 : Int32) = nI 1200 from rfl, pk_sub (by omega), Nat.add_sub_cancel_left]
    have e2 : shF (μ.1 67 0) k (1200 + k) = μ.1 67 0 (1200 + k) := if_neg (by omega)
    rw [eX11_keeps_13, zif_pos (show nI (1200 + k) < 12000 from nI_lt (b := 12000) (by omega) (by decide)), qI_in (zS_67 0) rfl (show 1200 + k < 12000 by omega) (by decide), Option.bind_some, mR_at, e2, wI_in (p := k) (zS_67 0) e1 (by omega) (by decide), Option.bind_some, mS_mR, shF_step, eX11_keeps_39, nI_1, show 1200 + k + 1 = 1200 + (k + 1) by omega, ih]
/-- what keeps does: row u of what was kept, a row more -/
theorem pM_keeps {μ : zM} {c : Nat} (hc : μ.1 11 0 14 = nI c) (hc10 : c ≤ 10) : ∃ μ' c' d, tX11_keeps_0 μ = some (none, μ') ∧ ((c < 10 ∧ c' = c + 1 ∧ d = 0) ∨ (c = 10 ∧ c' = 10 ∧ d = 1)) ∧ μ'.1 11 0 14 = nI c' ∧ (∀ u z, u + 1 < c' → z < 1200 → μ'.1 67 0 (1200 * u + z) = μ.1 67 0 (1200 * (u + d) + z)) ∧ (∀ z, z < 1200 → μ'.1 67 0 (1200 * (c' - 1) + z) = μ.1 65 0 z) ∧ μ'.2 = μ.2 ∧ ∀ k i z, ¬ (k = 11 ∧ i = 0 ∧ z = 14) → ¬ (k = 67 ∧ i = 0) → μ'.1 k i z = μ.1 k i z := by
  by_cases e : c = 10
  · subst e
    have h1 := pM_keep13 hc 10800 0 zN (by omega) (by rw [zN_eq]; omega)
    have e0 : shF (μ.1 67 0) 0 = μ.1 67 0 := funext (fun z => if_neg (by omega))
    rw [e0, mR_self] at h1
    generalize hm : mS (mR μ 67 0 (shF (μ.1 67 0) 10800)) 11 0 14 (nI 9) = m at h1
    have hm14 : m.1 11 0 14 = nI 9 := by rw [← hm, mS_same]
    have h2 := pM_keep54 hm14 (by omega) 1200 0 zN (by omega) (by rw [zN_eq]; omega)
    rw [cpF_0, mR_self] at h2
    have m67 : ∀ z, m.1 67 0 z = shF (μ.1 67 0) 10800 z := fun z => by rw [← hm, mS_k _ _ _ _ _ _ _ _ (by decide), mR_at]
    have m65 : ∀ z, m.1 65 0 z = μ.1 65 0 z := fun z => by rw [← hm, mS_k _ _ _ _ _ _ _ _ (by decide), mR_ne _ _ _ _ _ _ _ (by omega)]
    refine ⟨mS (mR m 67 0 (cpF (m.1 65 0) (m.1 67 0) (1200 * 9) 1200)) 11 0 14 (nI (9 + 1)), 10, 1, ?_, Or.inr ⟨rfl, rfl, rfl⟩, mS_same _ _ _ _ _, fun u z hu hz => ?_, fun z hz => ?_, ?_, fun k i z n1 n2 => ?_⟩
    · rw [eX11_keeps_0, zif_pos (show μ.1 11 0 14 = 10 from hc)]
      refine Eq.trans h1 ?_
      rw [eX11_keeps_52]
      exact h2
    · rw [mS_k _ _ _ _ _ _ _ _ (by decide), mR_at]
      unfold cpF
      rw [if_neg (by omega), m67]
      unfold shF
      rw [if_pos (by omega), show 1200 * u + z + 1200 = 1200 * (u + 1) + z by omega]
    · rw [mS_k _ _ _ _ _ _ _ _ (by decide), mR_at]
      unfold cpF
      rw [if_pos (by omega), m65, Nat.add_sub_cancel_left]
    · rw [mS_2, mR_2, ← hm, mS_2, mR_2]
    · rw [mS_1, if_neg n1, mR_ne _ _ _ _ _ _ _ n2, ← hm, mS_1, if_neg n1, mR_ne _ _ _ _ _ _ _ n2]
  · have h2 := pM_keep54 hc (by omega) 1200 0 zN (by omega) (by rw [zN_eq]; omega)
    rw [cpF_0, mR_self] at h2
    refine ⟨mS (mR μ 67 0 (cpF (μ.1 65 0) (μ.1 67 0) (1200 * c) 1200)) 11 0 14 (nI (c + 1)), c + 1, 0, ?_, Or.inl ⟨by omega, rfl, rfl⟩, mS_same _ _ _ _ _, fun u z hu hz => ?_, fun z hz => ?_, ?_, fun k i z n1 n2 => ?_⟩
    · rw [eX11_keeps_0, zif_neg (show ¬ μ.1 11 0 14 = 10 by rw [hc]; exact nI_ne (b := 10) (by omega) (by decide) e), eX11_keeps_52]
      exact h2
    · rw [mS_k _ _ _ _ _ _ _ _ (by decide), mR_at]
      unfold cpF
      rw [if_neg (by omega), Nat.add_zero]
    · rw [mS_k _ _ _ _ _ _ _ _ (by decide), mR_at]
      unfold cpF
      rw [if_pos (by omega), Nat.add_sub_cancel, Nat.add_sub_cancel_left]
    · rw [mS_2, mR_2]
    · rw [mS_1, if_neg n1, mR_ne _ _ _ _ _ _ _ n2]
/-- the class's side -/
theorem pX2_save {μ : zM} {j nx c : Nat} (hnx : nx < 10) (hc : c ≤ 10) (h1 : μ.1 2 0 1 = nI nx) (h2 : μ.1 2 0 2 = nI c) (hj : μ.2.1 9 0 0 = j) (hj2 : j < 2) : ∃ μ', tX2_save_0 0 μ = some (none, μ') ∧ cpR μ μ' (2 + nx) 0 ∧ μ'.1 2 0 1 = nI ((nx + 1) % 10) ∧ μ'.1 2 0 2 = nI (if c < 10 then c + 1 else 10) ∧ (∀ k x n, ¬ (k = 9 ∧ x = 2 + nx ∧ n = 0) → μ'.2.1 k x n = μ.2.1 k x n) ∧ μ'.2.2 = μ.2.2 ∧ ∀ k x s, ¬ isW (2 + nx) k x → ¬ (k = 2 ∧ x = 0) → μ'.1 k x s = μ.1 k x s := by
  obtain ⟨m, e1, ⟨f1, f2, f3⟩, e3⟩ := pX9_copyFrom (μ := μ) (a := 2 + nx) (b := 0) (j := j) (by omega) hj hj2
  have m1 : m.1 2 0 1 = nI nx := by rw [f3 _ _ _ (by unfold isW; omega)]; exact h1
  have m2 : m.1 2 0 2 = nI c := by rw [f3 _ _ _ (by unfold isW; omega)]; exact h2
  have e42 : ∀ s, tX2_save_42 s m = some (none, mS (mS m 2 0 1 s) 2 0 2 (nI (if c < 10 then c + 1 else 10))) := fun s => by
    rw [eX2_save_42, zlet_eq, zlet_eq, mS_n _ _ _ _ _ _ _ _ (by decide), m2, nI_1]
    by_cases e : c < 10
    · rw [if_pos e, zif_neg (show ¬ (10 : Int32) < nI (c + 1) from nI_nlt (a := 10) (by omega) (by decide))]
    · rw [if_neg e, zif_pos (show (10 : Int32) < nI (c + 1) from nI_lt (a := 10) (by omega) (by omega))]
      rfl
  refine ⟨mS (mS m 2 0 1 (nI ((nx + 1) % 10))) 2 0 2 (nI (if c < 10 then c + 1 else 10)), ?_, ?_, ?_, mS_same _ _ _ _ _, ?_, ?_, fun k x s n1 n2 => ?_⟩
  · rw [eX2_save_0, qX_in (N := 10) h1 hnx (by decide), Option.bind_some, eX2_save_10, e1, zU_some, m1, nI_1, e42, e42]
    by_cases e : nx + 1 < 10
    · rw [zif_pos (show nI (nx + 1) < 10 from nI_lt (b := 10) e (by decide)), Nat.mod_eq_of_lt e]
    · rw [zif_neg (show ¬ nI (nx + 1) < 10 from nI_nlt (b := 10) (by omega) (by omega)), show (nx + 1) % 10 = 0 by omega]
      rfl
  · obtain ⟨c1, c2, c3, c4, c5, c6, c7, c8⟩ := e3
    have ek : ∀ k x z, k ≠ 2 → (mS (mS m 2 0 1 (nI ((nx + 1) % 10))) 2 0 2 (nI (if c < 10 then c + 1 else 10))).1 k x z = m.1 k x z := fun k x z hk => by rw [mS_k _ _ _ _ _ _ _ _ hk, mS_k _ _ _ _ _ _ _ _ hk]
    exact ⟨c1, by rw [ek _ _ _ (by decide)]; exact c2, fun z a b => by rw [ek _ _ _ (by decide)]; exact c3 z a b, fun z a => by rw [ek _ _ _ (by decide)]; exact c4 z a, fun k z a b => by rw [ek _ _ _ (by omega)]; exact c5 k z a b, fun k z a b => by rw [ek _ _ _ (by omega)]; exact c6 k z a b, fun k z a b d => by rw [ek _ _ _ (by omega)]; exact c7 k z a b d, fun k z a b d => by rw [ek _ _ _ (by omega)]; exact c8 k z a b d⟩
  · rw [mS_n _ _ _ _ _ _ _ _ (by decide), mS_same]
  · exact f1
  · exact f2
  · rw [mS_1, if_neg (fun q => n2 ⟨q.1, q.2.1⟩), mS_1, if_neg (fun q => n2 ⟨q.1, q.2.1⟩)]
    exact f3 k x s n1
