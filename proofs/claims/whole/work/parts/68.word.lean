/-! ===== words: the class's strings, the reference's packed longs ===== -/
theorem zS_76 (i : Nat) : zS 76 i = .inr (5, zTxL i, (0, 0)) := rfl
theorem qL_76 (i : Nat) : qL (76, i) = some (nI (zTxL i)) := by
  rw [qL_eq]
  unfold zlen
  simp only [zS_76]
  rfl
theorem zTxL_lt (i : Nat) : zTxL i < 8 := by
  by_cases h : i < 18
  · have : ∀ i, i < 18 → zTxL i < 8 := by decide
    exact this i h
  · unfold zTxL
    rw [List.getD_eq_getElem?_getD, List.getElem?_eq_none (by simpa using h)]
    decide
theorem pJ_length (i : Nat) (μ : zM) : tJ0_length_8abf5_0 i μ = some (some (.inl (nI (zTxL i))), μ) := by
  rw [eJ0_length_8abf5_0, qL_76, Option.bind_some, eJ0_coder_7d493_0, zif_neg (by decide), eJ0_coder_7d493_14, zif_pos (by decide), zI_some]
  have h : ∀ n, n < 8 → (nI n >>> ((0 : Int32) &&& 31)) = nI n := by decide
  rw [h _ (zTxL_lt i)]
theorem tx_dec : ∀ i, i < 18 → ∀ p, p < zTxL i → (((zTxB i).getD p 0 &&& 255).toUInt32 % 65536).toInt32 = (zTxB i).getD p 0 ∧ vp_nar .char ((zTxB i).getD p 0) = (zTxB i).getD p 0 ∧ ((zTxB i).getD p 0).toInt8.toInt32 = (zTxB i).getD p 0 := by decide
theorem pJ_charAt {i p : Nat} (hi : i < 18) (hp : p < zTxL i) (μ : zM) : tJ0_charAt_5068e_0 i (nI p) μ = some (some (.inl ((zTxB i).getD p 0)), μ) := by
  have h8 := zTxL_lt i
  obtain ⟨d1, d2, -⟩ := tx_dec i hi p hp
  rw [eJ0_charAt_5068e_0, eJ0_isLatin1_aae02_0, zif_neg (by decide), zif_pos rfl, eJ0_isLatin1_aae02_18, zif_pos nar_1, zI_some, zif_neg (by decide), eJ1_charAt_3b067_0, qL_76, Option.bind_some, eJ0_checkIndex_df160_0, eJ3_checkIndex_8e157_0, zif_neg (nI_pos (by omega)), zif_pos (nI_lt hp (by omega)), zI_some, zU_some, qT_in rfl hp (by omega), Option.bind_some, d1, zif_pos d2, zI_some, zif_pos d2]
def xW (b : Nat → Int32) (s e i : Nat) : Prop := e - s = zTxL i ∧ ∀ z, z < zTxL i → b (s + z) = (zTxB i).getD z 0
theorem X_isAt_loop {b : Nat → Int32} {L s e i : Nat} {μ : zM} (hb : ∀ z, z < L → μ.1 55 0 z = b z) (hl : μ.1 7 0 1 = nI L) (hL : L ≤ 900) (h2 : μ.1 7 0 2 = nI s) (hse : s ≤ e) (he : e ≤ L) (hi : i < 18) (hlen : e - s = zTxL i) : ∀ d k f, k + d = zTxL i → d < f → (∀ z, z < k → b (s + z) = (zTxB i).getD z 0) → tX7_isAtWord_20 f i (nI k) μ = some (some (.inl (zif (xW b s e i) 1 0)), μ) := by
  intro d
  induction d with
  | zero =>
    intro k f h1 hf hk
    obtain ⟨f, rfl⟩ : ∃ f', f = f' + 1 := ⟨f - 1, by omega⟩
    rw [eX7_isAtWord_20, pJ_length, zI_some, zif_neg (nI_nlt (by omega) (by omega)), zif_pos nar_1, zif_pos (show xW b s e i from ⟨hlen, fun z hz => hk z (by omega)⟩)]
  | succ d ih =>
    intro k f h1 hf hk
    obtain ⟨f, rfl⟩ : ∃ f', f = f' + 1 := ⟨f - 1, by omega⟩
    rw [eX7_isAtWord_20, pJ_length, zI_some, zif_pos (nI_lt (show k < zTxL i by omega) (by omega)), h2, hl, nI_add, zif_pos (nI_lt (show s + k < L by omega) (by omega)), qB_in (zS_55 0) rfl (by omega) (by decide), Option.bind_some, hb _ (by omega), pJ_charAt hi (by omega), zI_some]
    by_cases g : b (s + k) = (zTxB i).getD k 0
    · rw [zif_pos g, eX7_isAtWord_65, nI_1]
      refine ih (k + 1) f (by omega) (by omega) (fun z hz => ?_)
      by_cases q : z = k
      · rw [q]; exact g
      · exact hk z (by omega)
    · rw [zif_neg g, eX7_isAtWord_60, zif_pos nar_0, zif_neg (show ¬ xW b s e i from fun z => g (z.2 k (by omega)))]
theorem X_isAt {b : Nat → Int32} {L s e i : Nat} {μ : zM} (hb : ∀ z, z < L → μ.1 55 0 z = b z) (hl : μ.1 7 0 1 = nI L) (hL : L ≤ 900) (h2 : μ.1 7 0 2 = nI s) (h3 : μ.1 7 0 3 = nI e) (hse : s ≤ e) (he : e ≤ L) (hi : i < 18) : tX7_isAtWord_0 i μ = some (some (.inl (zif (xW b s e i) 1 0)), μ) := by
  have h8 := zTxL_lt i
  rw [eX7_isAtWord_0, pJ_length, zI_some, h2, h3, pk_sub hse]
  by_cases g : e - s = zTxL i
  · rw [zif_pos (by rw [g]), zN_eq]
    exact X_isAt_loop hb hl hL h2 hse he hi g (zTxL i) 0 100000 (by omega) (by omega) (fun z hz => absurd hz (by omega))
  · rw [zif_neg (nI_ne (by omega) (by omega) g), zif_pos nar_0, zif_neg (show ¬ xW b s e i from fun z => g z.1)]
/-! packed words -/
def PN (f : Nat → Nat) : Nat → Nat
  | 0 => 0
  | m + 1 => 32 * PN f m + f m
theorem PN_inj {f g : Nat → Nat} : ∀ m m', (∀ z, z < m → 1 ≤ f z ∧ f z < 32) → (∀ z, z < m' → 1 ≤ g z ∧ g z < 32) → PN f m = PN g m' → m = m' ∧ ∀ z, z < m → f z = g z := by
  intro m
  induction m with
  | zero =>
    intro m' _ hg h
    cases m' with
    | zero => exact ⟨rfl, fun z hz => absurd hz (by omega)⟩
    | succ m' =>
      have := hg m' (by omega)
      have : PN g (m' + 1) = 32 * PN g m' + g m' := rfl
      have : PN f 0 = 0 := rfl
      omega
  | succ m ih =>
    intro m' hf hg h
    have e1 : PN f (m + 1) = 32 * PN f m + f m := rfl
    have a1 := hf m (by omega)
    cases m' with
    | zero =>
      have : PN g 0 = 0 := rfl
      omega
    | succ m' =>
      have e2 : PN g (m' + 1) = 32 * PN g m' + g m' := rfl
      have a2 := hg m' (by omega)
      have hm : PN f m = PN g m' := by omega
      obtain ⟨i1, i2⟩ := ih m' (fun z hz => hf z (by omega)) (fun z hz => hg z (by omega)) hm
      refine ⟨by omega, fun z hz => ?_⟩
      by_cases q : z = m
      · rw [q]
        have : g m = g m' := by rw [i1]
        omega
      · exact i2 z (by omega)
theorem PN_lt {f : Nat → Nat} : ∀ m, (∀ z, z < m → f z < 32) → PN f m < 32 ^ m := by
  intro m
  induction m with
  | zero => exact fun _ => Nat.one_pos
  | succ m ih =>
    intro h
    have e1 : PN f (m + 1) = 32 * PN f m + f m := rfl
    have := ih (fun z hz => h z (by omega))
    have := h m (by omega)
    rw [e1, Nat.pow_succ]
    omega
theorem lt_nI {v : Int32} (h : isLt v) : ∃ c, 97 ≤ c ∧ c ≤ 122 ∧ v = nI c := by
  have h0 : ¬ v < 0 := by
    have := h.1
    rw [Int32.lt_iff_toInt_lt] at *
    have e1 : (97 : Int32).toInt = 97 := by decide
    have e2 : (0 : Int32).toInt = 0 := by decide
    omega
  obtain ⟨p, hp, rfl⟩ := nI_of h0
  refine ⟨p, ?_, ?_, rfl⟩
  · have := fun z => h.1 ((nI_ltI hp (b := 97) (by decide)).mpr z)
    exact Nat.le_of_not_lt this
  · have := fun z => h.2 ((nI_ltI (a := 122) (by decide) hp).mpr z)
    exact Nat.le_of_not_lt this
theorem i64_pack (x c : Nat) (hc : 96 ≤ c) (hc2 : c < 2 ^ 31) : 32 * Int64.ofNat x + (nI c).toInt64 - 96 = Int64.ofNat (32 * x + (c - 96)) := by
  have e1 : (nI c).toInt64 = Int64.ofNat c := by
    rw [← Int64.toInt_inj, Int32.toInt_toInt64, nI_toInt hc2, Int64.toInt_ofNat_of_lt (by omega)]
  have e2 : Int64.ofNat c = Int64.ofNat (c - 96) + 96 := by
    conv => lhs; rw [show c = (c - 96) + 96 by omega, Int64.ofNat_add]
    rfl
  have e3 : (32 : Int64) = Int64.ofNat 32 := rfl
  rw [e1, e2, ← Int64.add_assoc, Int64.add_sub_cancel, e3, ← Int64.ofNat_mul, ← Int64.ofNat_add]
theorem WW_PN {b : Nat → Int32} {s : Nat} {f : Nat → Nat} : ∀ m, m ≤ 8 → (∀ z, z < m → 97 ≤ f z + 96 ∧ f z + 96 ≤ 122 ∧ b (s + z) = nI (f z + 96)) → WW b s m = Int64.ofNat (PN f m) := by
  intro m
  induction m with
  | zero => exact fun _ _ => rfl
  | succ m ih =>
    intro hm h
    obtain ⟨a1, a2, a3⟩ := h m (by omega)
    show (if m < 8 then 32 * WW b s m + (b (s + m)).toInt64 - 96 else 0) = _
    rw [if_pos (by omega), ih (by omega) (fun z hz => h z (by omega)), a3, i64_pack _ _ (by omega) (by omega)]
    rw [show f m + 96 - 96 = f m by omega]
    rfl
def wCode (i : Nat) : Nat := [9908404, 20503279794, 3430021, 641275054, 20594245, 21073896942, 599495, 781652471, 538561715, 605677, 661966952, 21279923, 664997, 188724, 214211860, 508078, 3554917].getD i 0
def gW (i z : Nat) : Nat := ((zTxB i).getD z 0).toNatClampNeg - 96
theorem gW_dec : ∀ i, i < 17 → (∀ z, z < zTxL i → 97 ≤ gW i z + 96 ∧ gW i z + 96 ≤ 122 ∧ (zTxB i).getD z 0 = nI (gW i z + 96)) ∧ PN (gW i) (zTxL i) = wCode i ∧ wCode i < 2 ^ 40 ∧ 0 < wCode i ∧ 0 < zTxL i := by decide
theorem word_iff {b : Nat → Int32} {L s e κ i : Nat} (hi : i < 17) (tk : TK b L s e κ) : xW b s e i ↔ κ = 1 ∧ WW b s (e - s) = Int64.ofNat (wCode i) := by
  obtain ⟨d1, d2, d3, d4, d5⟩ := gW_dec i hi
  have h8 := zTxL_lt i
  obtain ⟨t1, t2, t3⟩ := tk
  have ltc : ∀ c, 97 ≤ c → c ≤ 122 → isLt (nI c) := fun c c1 c2 => ⟨nI_nlt (b := 97) c1 (by omega), nI_nlt (a := 122) c2 (by decide)⟩
  constructor
  · rintro ⟨x1, x2⟩
    have hl0 : isLt (b s) := by
      have h0 := x2 0 d5
      obtain ⟨q1, q2, q3⟩ := d1 0 d5
      rw [show s + 0 = s from rfl, q3] at h0
      rw [h0]
      exact ltc _ q1 q2
    have hk : κ = 1 := by
      rcases t3 with ⟨k, hsL, heL⟩ | ⟨k, hse, hlt, hst⟩ | ⟨k, hse, hnl, hdg, hst, h5⟩ | ⟨k, hsL, he, hnl, hnd, h9⟩
      · omega
      · exact k
      · exact absurd hl0 hnl
      · exact absurd hl0 hnl
    refine ⟨hk, ?_⟩
    rw [x1, ← d2]
    refine WW_PN _ (by omega) (fun z hz => ?_)
    obtain ⟨q1, q2, q3⟩ := d1 z hz
    exact ⟨q1, q2, (x2 z hz).trans q3⟩
  · rintro ⟨rfl, hw⟩
    have hlt : ∀ z, s ≤ z → z < e → isLt (b z) := by
      rcases t3 with ⟨k, -⟩ | ⟨k, hse, hlt, hst⟩ | ⟨k, -⟩ | ⟨k, -⟩
      · omega
      · exact hlt
      · omega
      · omega
    have inj : ∀ x y : Nat, x < 2 ^ 63 → y < 2 ^ 63 → Int64.ofNat x = Int64.ofNat y → x = y := fun x y hx hy h => by
      have := congrArg Int64.toInt h
      rw [Int64.toInt_ofNat_of_lt hx, Int64.toInt_ofNat_of_lt hy] at this
      omega
    by_cases g : e - s ≤ 8
    · have hf : ∃ f : Nat → Nat, ∀ z, z < e - s → 97 ≤ f z + 96 ∧ f z + 96 ≤ 122 ∧ b (s + z) = nI (f z + 96) := by
        refine ⟨fun z => (b (s + z)).toNatClampNeg - 96, fun z hz => ?_⟩
        obtain ⟨c, c1, c2, c3⟩ := lt_nI (hlt (s + z) (by omega) (by omega))
        have : (b (s + z)).toNatClampNeg = c := by rw [c3, nI_clamp (by omega)]
        show 97 ≤ (b (s + z)).toNatClampNeg - 96 + 96 ∧ (b (s + z)).toNatClampNeg - 96 + 96 ≤ 122 ∧ b (s + z) = nI ((b (s + z)).toNatClampNeg - 96 + 96)
        rw [this]
        exact ⟨by omega, by omega, by rw [c3]; congr 1; omega⟩
      obtain ⟨f, hf⟩ := hf
      rw [WW_PN _ g hf] at hw
      have hlt2 : PN f (e - s) < 2 ^ 40 := by
        have h1 := PN_lt (f := f) (e - s) (fun z hz => by have := hf z hz; omega)
        have h2 : 32 ^ (e - s) ≤ 32 ^ 8 := Nat.pow_le_pow_right (by decide) g
        have h3 : (32 : Nat) ^ 8 = 2 ^ 40 := by decide
        omega
      have hp := inj _ _ (by omega) (by omega) hw
      rw [← d2] at hp
      obtain ⟨p1, p2⟩ := PN_inj _ _ (fun z hz => by have := hf z hz; omega) (fun z hz => by have := d1 z hz; omega) hp
      refine ⟨p1, fun z hz => ?_⟩
      rw [(hf z (by omega)).2.2, (d1 z hz).2.2, p2 z (by omega)]
    · exfalso
      obtain ⟨m, hm⟩ : ∃ m, e - s = m + 1 := ⟨e - s - 1, by omega⟩
      rw [hm] at hw
      have : WW b s (m + 1) = 0 := by
        show (if m < 8 then _ else _) = _
        rw [if_neg (by omega)]
      rw [this] at hw
      have := inj 0 (wCode i) (by omega) (by omega) hw
      omega
theorem semi_iff {b : Nat → Int32} {L s e κ : Nat} (tk : TK b L s e κ) : xW b s e 17 ↔ κ = 3 := by
  obtain ⟨t1, t2, t3⟩ := tk
  have l1 : zTxL 17 = 1 := rfl
  have l2 : (zTxB 17).getD 0 0 = 59 := rfl
  constructor
  · rintro ⟨x1, x2⟩
    have h0 := x2 0 (by omega)
    rw [show s + 0 = s from rfl, l2] at h0
    rcases t3 with ⟨k, hsL, heL⟩ | ⟨k, hse, hlt, hst⟩ | ⟨k, hse, hnl, hdg, hst, h5⟩ | ⟨k, hsL, he, hnl, hnd, h9⟩
    · omega
    · have := (hlt s (Nat.le_refl _) hse).1
      rw [h0] at this
      exact absurd (show (59 : Int32) < 97 by decide) this
    · have := (hdg s (Nat.le_refl _) hse).2
      rw [h0] at this
      exact absurd (show (57 : Int32) < 59 by decide) this
    · exact h9.mpr h0
  · intro hk
    rcases t3 with ⟨k, -⟩ | ⟨k, -⟩ | ⟨k, -⟩ | ⟨k, hsL, he, hnl, hnd, h9⟩
    · omega
    · omega
    · omega
    · refine ⟨by omega, fun z hz => ?_⟩
      have : z = 0 := by omega
      subst this
      exact h9.mp hk
