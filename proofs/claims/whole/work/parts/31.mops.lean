/-! ===== the reference's moves, as functions of its world array ===== -/
/-- the memory with another world array -/
def mW (μ : zM) (f : Nat → Int32) : zM := (fun k i s => if k = 65 ∧ i = 0 then f s else μ.1 k i s, μ.2)
theorem mW_65 (μ : zM) (f : Nat → Int32) : (mW μ f).1 65 0 = f := by funext s; simp [mW]
theorem mW_k (μ : zM) (f : Nat → Int32) (k i s : Nat) (h : k ≠ 65) : (mW μ f).1 k i s = μ.1 k i s := if_neg (fun q => h q.1)
theorem mW_mW (μ : zM) (f g : Nat → Int32) : mW (mW μ f) g = mW μ g := by
  unfold mW
  refine Prod.ext ?_ rfl
  funext k i s
  by_cases h : k = 65 ∧ i = 0
  · simp [h]
  · simp [h]
theorem mW_self (μ : zM) : mW μ (μ.1 65 0) = μ := by
  unfold mW
  refine Prod.ext ?_ rfl
  funext k i s
  by_cases h : k = 65 ∧ i = 0
  · obtain ⟨rfl, rfl⟩ := h; simp
  · simp [h]
theorem mS_mW (μ : zM) (f : Nat → Int32) (n : Nat) (v : Int32) : mS (mW μ f) 65 0 n v = mW μ (upd f n v) := by
  unfold mS mW zup upd
  refine Prod.ext ?_ rfl
  funext k i s
  by_cases h : k = 65 ∧ i = 0
  · obtain ⟨rfl, rfl⟩ := h; simp
  · by_cases h2 : k = 65 ∧ i = 0 ∧ s = n
    · exact absurd ⟨h2.1, h2.2.1⟩ h
    · simp [h, h2]
theorem qW {μ : zM} {f : Nat → Int32} {p : Nat} {x : Int32} (hx : x = nI p) (hp : p < 1200) : qI (mW μ f) (65, 0) x = some (f p) := by rw [qI_in (zS_65 0) hx hp (by decide), mW_65]
theorem wW {μ : zM} {f : Nat → Int32} {p : Nat} {x v : Int32} (hx : x = nI p) (hp : p < 1200) : wI (mW μ f) (65, 0) x v = some (mW μ (upd f p v)) := by rw [wI_in (zS_65 0) hx hp (by decide), mS_mW]
theorem upd_at (f : Nat → Int32) (k : Nat) (v : Int32) : upd f k v k = v := if_pos rfl
theorem upd_ne (f : Nat → Int32) {k j : Nat} (v : Int32) (h : j ≠ k) : upd f k v j = f j := if_neg h
theorem i8 (b c : Nat) {x : Int32} (hx : x = nI b) {y : Int32} (hy : y = nI c) : (400 + (8 * x)) + y = nI (400 + 8 * b + c) := by
  rw [hx, hy, show (8 : Int32) = nI 8 from rfl, show (400 : Int32) = nI 400 from rfl, pk_mul, nI_add, nI_add]
theorem a3 {p : Nat} {x : Int32} (hx : x = nI p) : (3 : Int32) + x = nI (3 + p) := i_add 3 p hx rfl
theorem a10 {p : Nat} {x : Int32} (hx : x = nI p) : (10 : Int32) + x = nI (10 + p) := i_add 10 p hx rfl
theorem a15 {p : Nat} {x : Int32} (hx : x = nI p) : (15 : Int32) + x = nI (15 + p) := i_add 15 p hx rfl
theorem a20 {p : Nat} {x : Int32} (hx : x = nI p) : (20 : Int32) + x = nI (20 + p) := i_add 20 p hx rfl
theorem a75 {p : Nat} {x : Int32} (hx : x = nI p) : (75 : Int32) + x = nI (75 + p) := i_add 75 p hx rfl
theorem a77 {p : Nat} {x : Int32} (hx : x = nI p) : (77 : Int32) + x = nI (77 + p) := i_add 77 p hx rfl
theorem a79 {p : Nat} {x : Int32} (hx : x = nI p) : (79 : Int32) + x = nI (79 + p) := i_add 79 p hx rfl
theorem a80 {p : Nat} {x : Int32} (hx : x = nI p) : (80 : Int32) + x = nI (80 + p) := i_add 80 p hx rfl
theorem a90 {p : Nat} {x : Int32} (hx : x = nI p) : (90 : Int32) + x = nI (90 + p) := i_add 90 p hx rfl
theorem a150 {p : Nat} {x : Int32} (hx : x = nI p) : (150 : Int32) + x = nI (150 + p) := i_add 150 p hx rfl
theorem a210 {p : Nat} {x : Int32} (hx : x = nI p) : (210 : Int32) + x = nI (210 + p) := i_add 210 p hx rfl
theorem a270 {p : Nat} {x : Int32} (hx : x = nI p) : (270 : Int32) + x = nI (270 + p) := i_add 270 p hx rfl
theorem a330 {p : Nat} {x : Int32} (hx : x = nI p) : (330 : Int32) + x = nI (330 + p) := i_add 330 p hx rfl
theorem b0 {b : Nat} {x : Int32} (hx : x = nI b) : (400 + (8 * x)) + 0 = nI (400 + 8 * b + 0) := i8 b 0 hx rfl
theorem b1 {b : Nat} {x : Int32} (hx : x = nI b) : (400 + (8 * x)) + 1 = nI (400 + 8 * b + 1) := i8 b 1 hx rfl
theorem b2 {b : Nat} {x : Int32} (hx : x = nI b) : (400 + (8 * x)) + 2 = nI (400 + 8 * b + 2) := i8 b 2 hx rfl
theorem b3 {b : Nat} {x : Int32} (hx : x = nI b) : (400 + (8 * x)) + 3 = nI (400 + 8 * b + 3) := i8 b 3 hx rfl
theorem b4 {b : Nat} {x : Int32} (hx : x = nI b) : (400 + (8 * x)) + 4 = nI (400 + 8 * b + 4) := i8 b 4 hx rfl
theorem b5 {b : Nat} {x : Int32} (hx : x = nI b) : (400 + (8 * x)) + 5 = nI (400 + 8 * b + 5) := i8 b 5 hx rfl
theorem b6 {b : Nat} {x : Int32} (hx : x = nI b) : (400 + (8 * x)) + 6 = nI (400 + 8 * b + 6) := i8 b 6 hx rfl
theorem b7 {b : Nat} {x : Int32} (hx : x = nI b) : (400 + (8 * x)) + 7 = nI (400 + 8 * b + 7) := i8 b 7 hx rfl
def goesF (w : Nat → Int32) (b : Nat) (x y : Int32) : Nat → Int32 := upd (upd (upd (upd w (400 + 8 * b) x) (400 + 8 * b + 1) y) (400 + 8 * b + 2) (w 2)) 2 (w 2 + 1)
theorem pM_goes {μ : zM} {w : Nat → Int32} {b : Nat} {z x y : Int32} (hz : z = nI b) (hb : b < 100) : tX11_goes_0 z x y (mW μ w) = some (none, mW μ (goesF w b x y)) := by
  rw [eX11_goes_0, wW (p := 400 + 8 * b) (b0 hz) (by omega), Option.bind_some, wW (p := 400 + 8 * b + 1) (b1 hz) (by omega), Option.bind_some, qW (x := 2) (p := 2) rfl (by decide), Option.bind_some, wW (p := 400 + 8 * b + 2) (b2 hz) (by omega), Option.bind_some, qW (x := 2) (p := 2) rfl (by decide), Option.bind_some, wW (x := 2) (p := 2) rfl (by decide), Option.bind_some]
  unfold goesF
  rw [upd_ne _ _ (show 2 ≠ 400 + 8 * b + 2 by omega), upd_ne _ _ (show 2 ≠ 400 + 8 * b + 1 by omega), upd_ne _ _ (show 2 ≠ 400 + 8 * b by omega)]
def cntF (w : Nat → Int32) (k : Nat) : Nat → Int32 := upd w (3 + k) (w (3 + k) + 1)
theorem pM_counts {μ : zM} {w : Nat → Int32} {k : Nat} {z : Int32} (hz : z = nI k) (hk : k < 8) : tX11_counts_0 z (mW μ w) = some (none, mW μ (cntF w k)) := by
  rw [eX11_counts_0, qW (a3 hz) (by omega), Option.bind_some, wW (a3 hz) (by omega), Option.bind_some]
  rfl
def newF (w : Nat → Int32) (p : Nat) : Nat → Int32 := upd (upd (upd (upd w (150 + p) 1) (210 + p) 0) (270 + p) 0) (330 + p) 0
def dropF (w : Nat → Int32) (p : Nat) : Nat → Int32 := upd (newF w p) (150 + p) 0
theorem pM_newRecord {μ : zM} {w : Nat → Int32} {p : Nat} {x : Int32} (hx : x = nI p) (hp : p < 60) : tX11_newRecord_0 x (mW μ w) = some (none, mW μ (newF w p)) := by
  rw [eX11_newRecord_0, wW (a150 hx) (by omega), Option.bind_some, wW (a210 hx) (by omega), Option.bind_some, wW (a270 hx) (by omega), Option.bind_some, wW (a330 hx) (by omega), Option.bind_some]
  rfl
theorem pM_dropRecord {μ : zM} {w : Nat → Int32} {p : Nat} {x : Int32} (hx : x = nI p) (hp : p < 60) : tX11_dropRecord_0 x (mW μ w) = some (none, mW μ (dropF w p)) := by
  rw [eX11_dropRecord_0, pM_newRecord hx hp, zU_some, wW (a150 hx) (by omega), Option.bind_some]
  rfl
def movF (w : Nat → Int32) (p q : Nat) : Nat → Int32 := dropF (upd (upd (upd (upd w (150 + q) 1) (210 + q) (w (210 + p))) (270 + q) (w (270 + p))) (330 + q) (w (330 + p))) p
theorem pM_moveRecord {μ : zM} {w : Nat → Int32} {p q : Nat} {x y : Int32} (hx : x = nI p) (hp : p < 60) (hy : y = nI q) (hq : q < 60) : tX11_moveRecord_0 x y (mW μ w) = some (none, mW μ (movF w p q)) := by
  rw [eX11_moveRecord_0, wW (a150 hy) (by omega), Option.bind_some, qW (a210 hx) (by omega), Option.bind_some, wW (a210 hy) (by omega), Option.bind_some, qW (a270 hx) (by omega), Option.bind_some, wW (a270 hy) (by omega), Option.bind_some, qW (a330 hx) (by omega), Option.bind_some, wW (a330 hy) (by omega), Option.bind_some, pM_dropRecord hx hp, zU_some]
  unfold movF
  rw [upd_ne _ _ (show 210 + p ≠ 150 + q by omega), upd_ne _ _ (show 270 + p ≠ 210 + q by omega), upd_ne _ _ (show 270 + p ≠ 150 + q by omega), upd_ne _ _ (show 330 + p ≠ 270 + q by omega), upd_ne _ _ (show 330 + p ≠ 210 + q by omega), upd_ne _ _ (show 330 + p ≠ 150 + q by omega)]
def entF (w : Nat → Int32) (b p : Nat) : Nat → Int32 := goesF (upd w (90 + p) (nI b)) b 1 (nI p)
theorem pM_entersRing {μ : zM} {w : Nat → Int32} {b p : Nat} {x y : Int32} (hx : x = nI b) (hb : b < 100) (hy : y = nI p) (hp : p < 60) : tX11_entersRing_0 x y (mW μ w) = some (none, mW μ (entF w b p)) := by
  rw [eX11_entersRing_0, wW (a90 hy) (by omega), Option.bind_some, pM_goes hx hb, zU_some, hx, hy]
  rfl
theorem pM_isClear {μ : zM} {w : Nat → Int32} {p : Nat} {x : Int32} (hx : x = nI p) (hp : p < 60) : tX11_isClear_0 x (mW μ w) = some (some (.inl (zif (w (90 + p) < 0 ∧ w (150 + p) = 0) 1 0)), mW μ w) := by
  have h1 : ∀ ν, tX11_isClear_30 1 ν = some (some (.inl 1), ν) := fun ν => by rw [eX11_isClear_30, zif_pos nar_1]
  have h0 : ∀ ν, tX11_isClear_29 ν = some (some (.inl 0), ν) := fun ν => by rw [eX11_isClear_29, eX11_isClear_30, zif_pos nar_0]
  rw [eX11_isClear_0, qW (a90 hx) (by omega), Option.bind_some, qW (a150 hx) (by omega), Option.bind_some, h1, h0]
  by_cases a : w (90 + p) < 0
  · rw [zif_pos a]
    by_cases b : w (150 + p) = 0
    · rw [zif_pos b, zif_pos ⟨a, b⟩]
    · rw [zif_neg b, zif_neg (fun z => b z.2)]
  · rw [zif_neg a, zif_neg (fun z => a z.1)]
/-- a row of the ring turned by one -/
def rotF (w : Nat → Int32) (r n : Nat) : Nat → Int32 := fun k => if r ≤ k ∧ k < r + n then w (r + (k - r + n - 1) % n) else w k
def rotG (w : Nat → Int32) (r n m : Nat) : Nat → Int32 := fun k => if r + m < k ∧ k < r + n then w (k - 1) else w k
theorem rotG_step {w : Nat → Int32} {r n m : Nat} (hm : m + 1 < n) : upd (rotG w r n (m + 1)) (r + (m + 1)) (w (r + m)) = rotG w r n m := by
  funext k
  unfold upd rotG
  by_cases h : k = r + (m + 1)
  · subst h
    rw [if_pos rfl, if_pos ⟨by omega, by omega⟩]
    congr 1
  · rw [if_neg h]
    by_cases h2 : r + m < k ∧ k < r + n
    · rw [if_pos h2, if_pos ⟨by omega, h2.2⟩]
    · rw [if_neg h2, if_neg (fun z => h2 ⟨by omega, z.2⟩)]
theorem rot_end {w : Nat → Int32} {r n : Nat} (hn : 0 < n) : upd (rotG w r n 0) r (w (r + n - 1)) = rotF w r n := by
  funext k
  unfold upd rotG rotF
  by_cases h : k = r
  · subst h
    rw [if_pos rfl, if_pos ⟨Nat.le_refl _, by omega⟩, Nat.sub_self, Nat.zero_add, Nat.mod_eq_of_lt (by omega)]
    congr 1
    omega
  · rw [if_neg h]
    by_cases h2 : r + 0 < k ∧ k < r + n
    · rw [if_pos h2, if_pos ⟨by omega, h2.2⟩, show k - r + n - 1 = (k - r - 1) + n by omega, Nat.add_mod_right, Nat.mod_eq_of_lt (by omega)]
      congr 1
      omega
    · rw [if_neg h2, if_neg (fun z => h2 ⟨by omega, z.2⟩)]
theorem pM_turn_loop {μ : zM} {w : Nat → Int32} {r n : Nat} {z : Int32} (hr : r + n ≤ 1200) (hz : z = w (r + n - 1)) (hn : 0 < n) : ∀ (m f : Nat), m < n → m < f → tX11_turns_23 f (nI r) z (nI m) (mW μ (rotG w r n m)) = some (none, mW μ (rotF w r n))
  | 0, f, hm, hf => by
    obtain ⟨f, rfl⟩ : ∃ q, f = q + 1 := ⟨f - 1, by omega⟩
    rw [eX11_turns_23, zif_neg (show ¬ 0 < nI 0 by decide), wW rfl (by omega), Option.bind_some, hz, rot_end hn]
  | m + 1, f, hm, hf => by
    obtain ⟨f, rfl⟩ : ∃ q, f = q + 1 := ⟨f - 1, by omega⟩
    have e1 : nI r + nI (m + 1) - 1 = nI (r + m) := by rw [nI_add, show r + (m + 1) = (r + m) + 1 by omega, nI_pred]
    have e2 : nI r + nI (m + 1) = nI (r + (m + 1)) := nI_add _ _
    have e3 : rotG w r n (m + 1) (r + m) = w (r + m) := if_neg (fun z => by omega)
    rw [eX11_turns_23, zif_pos (by rw [← nI_0]; exact nI_lt (by omega) (by omega)), qW e1 (by omega), Option.bind_some, wW e2 (by omega), Option.bind_some, e3, rotG_step hm, eX11_turns_51, pk_m1]
    exact pM_turn_loop hr hz hn m f (by omega) (by omega)
theorem pM_turns {μ : zM} {w : Nat → Int32} {r n : Nat} {x : Int32} (hx : x = nI r) (hr : r + n ≤ 1200) (hn : 0 < n) (hn6 : n ≤ 60) (hu : μ.1 63 0 0 = nI n) : tX11_turns_0 x (mW μ w) = some (none, mW μ (rotF w r n)) := by
  have e1 : nI r + nI n - 1 = nI (r + n - 1) := by rw [nI_add, show r + n = (r + n - 1) + 1 by omega, nI_pred]; rfl
  have e2 : nI n - 1 = nI (n - 1) := by
    have := nI_pred (n - 1)
    rwa [show n - 1 + 1 = n by omega] at this
  have e3 : rotG w r n (n - 1) = w := by
    funext k
    unfold rotG
    rw [if_neg (fun z => by omega)]
  subst hx
  rw [eX11_turns_0, qI_in (x := 0) (p := 0) (zS_63 0) rfl (by decide) (by decide), Option.bind_some, mW_k _ _ _ _ _ (by decide), hu, eX11_turns_7, qW e1 (by omega), Option.bind_some, eX11_turns_18, e2]
  have h := pM_turn_loop (μ := μ) (w := w) (z := w (r + n - 1)) hr rfl hn (n - 1) zN (by omega) (by rw [zN_eq]; omega)
  rw [e3] at h
  exact h
