/-! ===== the nearest lone record or bag ===== -/
def wI1 (b : Bool) : Int32 := if b then 1 else 0
/-- on a slot of the class's world, on a position of the reference's -/
def loneX (μ : zM) (i : Nat) (w : Bool) (s : Nat) : Prop := (¬ μ.1 40 (2 * i) s = -2 ↔ w = true) ∧ (¬ μ.1 58 i s < 0 ↔ w = false)
def loneM (μ : zM) (w : Bool) (q : Nat) : Prop := (μ.1 65 0 (150 + q) = 1 ↔ w = true) ∧ (¬ μ.1 65 0 (90 + q) < 0 ↔ w = false)
theorem zS_58 (i : Nat) : zS 58 i = .inr (0, 60, (0, 0)) := rfl
theorem pX9_isLone {μ : zM} {i s : Nat} {w : Bool} {x : Int32} (hx : x = nI s) (hs : s < 60) : tX9_isLone_0 i x (wI1 w) μ = some (some (.inl (zif (loneX μ i w s) 1 0)), μ) := by
  have h1 : tX9_isLone_52 1 μ = some (some (.inl 1), μ) := by rw [eX9_isLone_52, zif_pos nar_1]
  have h0 : tX9_isLone_51 μ = some (some (.inl 0), μ) := by rw [eX9_isLone_51, eX9_isLone_52, zif_pos nar_0]
  have k : ∀ a, tX9_isLone_14 i x (wI1 w) a μ = zif (μ.1 40 (2 * i) s = -2) (tX9_isLone_36 (wI1 w) a 0 μ) (tX9_isLone_36 (wI1 w) a 1 μ) := by
    intro a
    rw [eX9_isLone_14, eX9_isLone_15, qI_in (bel_40 i) hx hs (by decide), Option.bind_some, eX9_isLone_34, eX9_isLone_34]
  rw [eX9_isLone_0, qI_in (zS_58 i) hx hs (by decide), Option.bind_some, k, k]
  simp only [eX9_isLone_36, h1, h0]
  unfold loneX
  by_cases a : μ.1 58 i s < 0 <;> by_cases b : μ.1 40 (2 * i) s = -2 <;> cases w <;> simp [a, b, zif_eq, wI1]
def nearF (lone : Nat → Prop) (n p : Nat) : Nat → Nat → Option Nat → Prop
  | 0, _, o => o = none
  | m + 1, d, o => (lone ((p + n - d) % n) ∧ o = some ((p + n - d) % n)) ∨ (¬ lone ((p + n - d) % n) ∧ lone ((p + d) % n) ∧ o = some ((p + d) % n)) ∨ (¬ lone ((p + n - d) % n) ∧ ¬ lone ((p + d) % n) ∧ nearF lone n p m (d + 1) o)
theorem nearF_ex (lone : Nat → Prop) (n p : Nat) : ∀ m d, ∃ o, nearF lone n p m d o
  | 0, _ => ⟨none, rfl⟩
  | m + 1, d => by
    by_cases a : lone ((p + n - d) % n)
    · exact ⟨_, Or.inl ⟨a, rfl⟩⟩
    · by_cases b : lone ((p + d) % n)
      · exact ⟨_, Or.inr (Or.inl ⟨a, b, rfl⟩)⟩
      · obtain ⟨o, h⟩ := nearF_ex lone n p m (d + 1)
        exact ⟨o, Or.inr (Or.inr ⟨a, b, h⟩)⟩
theorem nearF_lone {lone : Nat → Prop} {n p : Nat} (hn : 0 < n) : ∀ m d q, nearF lone n p m d (some q) → lone q ∧ q < n
  | 0, _, q, h => by cases h
  | m + 1, d, q, h => by
    rcases h with ⟨a, e⟩ | ⟨-, b, e⟩ | ⟨-, -, h⟩
    · cases e; exact ⟨a, Nat.mod_lt _ hn⟩
    · cases e; exact ⟨b, Nat.mod_lt _ hn⟩
    · exact nearF_lone hn m (d + 1) q h
theorem zslot_lt {n t p : Nat} (h : 0 < n) : zslot n t p < n := Nat.mod_lt _ h
theorem slot_back {n t p d : Nat} (ht : t < n) (hp : p < n) (hd : d ≤ n) : zslot n t ((p + n - d) % n) = (zslot n t p + n - d) % n := by
  unfold zslot
  have h1 : (p + n - t) % n + n - d = (p + n - t) % n + (n - d) := by omega
  have h2 : (p + n - d) % n + n - t = (p + n - d) % n + (n - t) := by omega
  rw [h1, h2, Nat.mod_add_mod, Nat.mod_add_mod]
  congr 1
  omega
theorem slot_fwd {n t p d : Nat} (ht : t < n) (hp : p < n) : zslot n t ((p + d) % n) = (zslot n t p + d) % n := by
  unfold zslot
  have h2 : (p + d) % n + n - t = (p + d) % n + (n - t) := by omega
  rw [h2, Nat.mod_add_mod, Nat.mod_add_mod]
  congr 1
  omega
def oN (d : Int32) (g : Nat → Nat) (o : Option Nat) : Int32 := match o with
  | none => d
  | some q => nI (g q)
theorem wI1_ne (w : Bool) : (wI1 w = 1 ↔ w = true) ∧ (wI1 w = 0 ↔ w = false) := by cases w <;> decide
theorem pX9_near_loop {μ : zM} {i j n t p wd : Nat} {w : Bool} {lone : Nat → Prop} (hj : μ.2.1 9 i 0 = j) (hj2 : j < 2) (hn : μ.1 5 j 0 = nI n) (hn6 : n ≤ 60) (hn3 : 10 ≤ n) (ht : t < n) (hp : p < n) (hw : μ.1 5 j 1 = nI wd) (hwd : wd ≤ 3) (hl : ∀ q, q < n → (loneX μ i w (zslot n t q) ↔ lone q)) : ∀ (m d f : Nat) (o : Option Nat), 1 ≤ d → d + m = wd + 1 → m < f → nearF lone n p m d o → tX9_loneNear_2 f i (nI (zslot n t p)) (wI1 w) (nI d) μ = some (some (.inl (oN (-1) (zslot n t) o)), μ)
  | 0, d, f, o, hd1, hd, hf, h => by
    obtain ⟨f, rfl⟩ : ∃ k, f = k + 1 := ⟨f - 1, by omega⟩
    cases h
    rw [eX9_loneNear_2, zif_pos (by rw [hj]; exact hj2), hj, hw, zif_pos (nI_lt (by omega) (by omega))]
    rfl
  | m + 1, d, f, o, hd1, hd, hf, h => by
    obtain ⟨f, rfl⟩ : ∃ k, f = k + 1 := ⟨f - 1, by omega⟩
    have hj' : μ.2.1 9 i 0 < 2 := by rw [hj]; exact hj2
    have hn' : μ.1 5 (μ.2.1 9 i 0) 0 = nI n := by rw [hj]; exact hn
    have hz : zslot n t p < n := zslot_lt (by omega)
    have e1 : (zslot n t p + n - d) % n = zslot n t ((p + n - d) % n) := (slot_back ht hp (by omega)).symm
    have e2 : (zslot n t p + d) % n = zslot n t ((p + d) % n) := (slot_fwd ht hp).symm
    have g1 : tX9_wrapped_0 i (nI (zslot n t p) - nI d) μ = some (some (.inl (nI (zslot n t ((p + n - d) % n)))), μ) := by
      rw [pX9_wrapped μ i _ hj', hn', wrap_sub hn6 (by omega) hz, ← e1]
      rfl
    have g2 : tX9_wrapped_0 i (nI (zslot n t p) + nI d) μ = some (some (.inl (nI (zslot n t ((p + d) % n)))), μ) := by
      rw [pX9_wrapped μ i _ hj', hn', wrap_add hn6 (by omega) hz, ← e2]
    have hb : (p + n - d) % n < n := Nat.mod_lt _ (by omega)
    have ha : (p + d) % n < n := Nat.mod_lt _ (by omega)
    have s1 : zslot n t ((p + n - d) % n) < n := zslot_lt (by omega)
    have s2 : zslot n t ((p + d) % n) < n := zslot_lt (by omega)
    rw [eX9_loneNear_2, zif_pos hj', hj, hw, zif_neg (nI_nlt (by omega) (by omega)), g1, zI_some, eX9_loneNear_22, pX9_isLone rfl (by omega), zI_some]
    rcases h with ⟨a, e⟩ | ⟨a, b, e⟩ | ⟨a, b, h⟩
    · rw [zif_pos ((hl _ hb).mpr a), zif_neg one_ne0, e]
      rfl
    · rw [zif_neg (fun z => a ((hl _ hb).mp z)), zif_pos rfl, g2, zI_some, eX9_loneNear_44, pX9_isLone rfl (by omega), zI_some, zif_pos ((hl _ ha).mpr b), zif_neg one_ne0, e]
      rfl
    · rw [zif_neg (fun z => a ((hl _ hb).mp z)), zif_pos rfl, g2, zI_some, eX9_loneNear_44, pX9_isLone rfl (by omega), zI_some, zif_neg (fun z => b ((hl _ ha).mp z)), zif_pos rfl, eX9_loneNear_60, nI_1]
      exact pX9_near_loop hj hj2 hn hn6 hn3 ht hp hw hwd hl m (d + 1) f o (by omega) (by omega) (by omega) h
theorem pX9_loneNear {μ : zM} {i j n t p wd : Nat} {w : Bool} {lone : Nat → Prop} {o : Option Nat} (hj : μ.2.1 9 i 0 = j) (hj2 : j < 2) (hn : μ.1 5 j 0 = nI n) (hn6 : n ≤ 60) (hn3 : 10 ≤ n) (ht : t < n) (hp : p < n) (hw : μ.1 5 j 1 = nI wd) (hwd : wd ≤ 3) (hl : ∀ q, q < n → (loneX μ i w (zslot n t q) ↔ lone q)) (h : nearF lone n p wd 1 o) : tX9_loneNear_0 i (nI (zslot n t p)) (wI1 w) μ = some (some (.inl (oN (-1) (zslot n t) o)), μ) := by
  rw [eX9_loneNear_0]
  exact pX9_near_loop hj hj2 hn hn6 hn3 ht hp hw hwd hl wd 1 zN o (by omega) (by omega) (by rw [zN_eq]; omega) h
theorem i2_ne : ¬ (2 : Int32) = 0 := by decide
/-- the reference's side of one place looked at -/
theorem pM_near57 {μ : zM} {n p q k f : Nat} {w : Bool} (hq : q < 60) : tX11_nearest_57 f (nI p) (wI1 w) (nI n) (nI k) (nI q) μ = zif (loneM μ w q) (some (some (.inl (nI q)), μ)) (tX11_nearest_10 f (nI p) (wI1 w) (nI n) (nI (k + 1)) μ) := by
  have q90 : qI μ (65, 0) (90 + nI q) = some (μ.1 65 0 (90 + q)) := qI_in (zS_65 0) (i_add 90 q rfl rfl) (by omega) (by decide)
  have q150 : qI μ (65, 0) (150 + nI q) = some (μ.1 65 0 (150 + q)) := qI_in (zS_65 0) (i_add 150 q rfl rfl) (by omega) (by decide)
  have k1 : ∀ a, tX11_nearest_75 f (nI p) (wI1 w) (nI n) (nI k) (nI q) a μ = zif (μ.1 65 0 (150 + q) = 1) (tX11_nearest_99 f (nI p) (wI1 w) (nI n) (nI k) (nI q) a 1 μ) (tX11_nearest_99 f (nI p) (wI1 w) (nI n) (nI k) (nI q) a 0 μ) := by
    intro a
    rw [eX11_nearest_75, eX11_nearest_77, q150, Option.bind_some, eX11_nearest_97, eX11_nearest_97]
  rw [eX11_nearest_57, q90, Option.bind_some, k1, k1]
  simp only [eX11_nearest_99, eX11_nearest_115, eX11_nearest_118, nI_1]
  unfold loneM
  by_cases a : μ.1 65 0 (90 + q) < 0 <;> by_cases b : μ.1 65 0 (150 + q) = 1 <;> cases w <;> simp [a, b, zif_eq, wI1]
theorem pM_near31 {μ : zM} {n p d f k : Nat} {w : Bool} (hn : n ≤ 60) (hn3 : 10 ≤ n) (hp : p < n) (hd : d ≤ 3) (hk : k = 2 * d ∨ k = 2 * d + 1) : tX11_nearest_31 f (nI p) (wI1 w) (nI n) (nI k) (nI d) μ = tX11_nearest_57 f (nI p) (wI1 w) (nI n) (nI k) (nI (if k = 2 * d then (p + n - d) % n else (p + d) % n)) μ := by
  have hn0 : ¬ nI n = 0 := nI_ne0 (by omega) (by omega)
  have e2 : nI k - nI k / 2 * 2 = nI (k % 2) := pk_rem (a := k) (d := 2) (by omega) (by decide) (by decide)
  have e3 : ((nI p + nI n) - nI d) - ((nI p + nI n) - nI d) / nI n * nI n = nI ((p + n - d) % n) := by rw [nI_add, pk_sub (by omega), pk_rem (by omega) (by omega) (by omega)]
  have e4 : (nI p + nI d) - (nI p + nI d) / nI n * nI n = nI ((p + d) % n) := by rw [nI_add, pk_rem (by omega) (by omega) (by omega)]
  rw [eX11_nearest_31, zif_neg i2_ne, e2, e3, e4, zif_neg hn0, zif_neg hn0, eX11_nearest_55, eX11_nearest_55]
  rcases hk with rfl | rfl
  · rw [show 2 * d % 2 = 0 by omega, zif_pos nI_0, if_pos rfl]
  · rw [show (2 * d + 1) % 2 = 1 by omega, zif_neg (by decide), if_neg (by omega)]
theorem pM_near_loop {μ : zM} {n p wd : Nat} {w : Bool} (hn6 : n ≤ 60) (hn3 : 10 ≤ n) (hp : p < n) (hw : μ.1 63 0 2 = nI wd) (hwd : wd ≤ 3) : ∀ (m d f : Nat) (o : Option Nat), 1 ≤ d → d + m = wd + 1 → 2 * m < f → nearF (loneM μ w) n p m d o → tX11_nearest_10 f (nI p) (wI1 w) (nI n) (nI (2 * d)) μ = some (some (.inl (oN (-2) id o)), μ)
  | 0, d, f, o, hd1, hd, hf, h => by
    obtain ⟨f, rfl⟩ : ∃ k, f = k + 1 := ⟨f - 1, by omega⟩
    cases h
    have e : (2 : Int32) + 2 * nI wd = nI (2 + 2 * wd) := by rw [show (2 : Int32) = nI 2 from rfl, pk_mul, nI_add]
    rw [eX11_nearest_10, qI_in (x := 2) (p := 2) (zS_63 0) rfl (by decide) (by decide), Option.bind_some, hw, e, zif_neg (nI_nlt (by omega) (by omega))]
    rfl
  | m + 1, d, f, o, hd1, hd, hf, h => by
    obtain ⟨f, rfl⟩ : ∃ k, f = k + 1 + 1 := ⟨f - 2, by omega⟩
    have e : (2 : Int32) + 2 * nI wd = nI (2 + 2 * wd) := by rw [show (2 : Int32) = nI 2 from rfl, pk_mul, nI_add]
    have g : ∀ k f', (k = 2 * d ∨ k = 2 * d + 1) → tX11_nearest_10 (f' + 1) (nI p) (wI1 w) (nI n) (nI k) μ = tX11_nearest_57 f' (nI p) (wI1 w) (nI n) (nI k) (nI (if k = 2 * d then (p + n - d) % n else (p + d) % n)) μ := by
      intro k f' hk
      have e5 : nI k / 2 = nI d := by
        rw [show (2 : Int32) = nI 2 from rfl, pk_div (by omega) (by decide) (by decide)]
        congr 1
        omega
      rw [eX11_nearest_10, qI_in (x := 2) (p := 2) (zS_63 0) rfl (by decide) (by decide), Option.bind_some, hw, e, zif_pos (nI_lt (by omega) (by omega)), zif_neg i2_ne, e5, pM_near31 hn6 hn3 hp (by omega) hk]
    have hb : (p + n - d) % n < n := Nat.mod_lt _ (by omega)
    have ha : (p + d) % n < n := Nat.mod_lt _ (by omega)
    rw [g (2 * d) (f + 1) (Or.inl rfl), if_pos rfl, pM_near57 (by omega)]
    rcases h with ⟨a, e⟩ | ⟨a, b, e⟩ | ⟨a, b, h⟩
    · rw [zif_pos a, e]; rfl
    · rw [zif_neg a, g (2 * d + 1) f (Or.inr rfl), if_neg (by omega), pM_near57 (by omega), zif_pos b, e]; rfl
    · rw [zif_neg a, g (2 * d + 1) f (Or.inr rfl), if_neg (by omega), pM_near57 (by omega), zif_neg b]
      exact pM_near_loop hn6 hn3 hp hw hwd m (d + 1) f o (by omega) (by omega) (by omega) h
theorem pM_nearest {μ : zM} {n p wd : Nat} {w : Bool} {o : Option Nat} {x : Int32} (hx : x = nI p) (hn : μ.1 63 0 0 = nI n) (hn6 : n ≤ 60) (hn3 : 10 ≤ n) (hp : p < n) (hw : μ.1 63 0 2 = nI wd) (hwd : wd ≤ 3) (h : nearF (loneM μ w) n p wd 1 o) : tX11_nearest_0 x (wI1 w) μ = some (some (.inl (oN (-2) id o)), μ) := by
  subst hx
  rw [eX11_nearest_0, qI_in (x := 0) (p := 0) (zS_63 0) rfl (by decide) (by decide), Option.bind_some, hn, eX11_nearest_7]
  exact pM_near_loop hn6 hn3 hp hw hwd wd 1 zN o (by omega) (by omega) (by rw [zN_eq]; omega) h
