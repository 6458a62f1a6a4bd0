/-! ===== the tape: append, truncate ===== -/
def tB (a : Int32) (s : Int32) : Int32 := (a >>> (s &&& 31)).toInt8.toInt32
theorem tB_idem (a s : Int32) : (tB a s).toInt8.toInt32 = tB a s := by
  unfold tB
  rw [Int8.toInt8_toInt32]
theorem sh_bit (a : BitVec 32) (s i : Nat) (hs : s ≤ 24) (hi : i < 8) : (BitVec.signExtend 8 (a >>> s)).getLsbD i = (BitVec.signExtend 8 (BitVec.sshiftRight a s)).getLsbD i := by
  rw [BitVec.getLsbD_signExtend, BitVec.getLsbD_signExtend, if_pos (by omega), if_pos (by omega), BitVec.getLsbD_ushiftRight, BitVec.getLsbD_sshiftRight, if_pos (by omega)]
  rw [show decide (32 ≤ i) = false from decide_eq_false (by omega)]
  rfl
theorem sh_low (a : Int32) (s : Nat) (hs : s ≤ 24) (u : UInt32) (v : Int32) (hu : u.toBitVec.toNat % 32 = s) (hv : (v.toBitVec.smod 32).toNat = s) : (a.toUInt32 >>> u).toInt32.toInt8.toInt32 = (a >>> v).toInt8.toInt32 := by
  congr 1
  apply Int8.toBitVec_inj.mp
  rw [Int32.toBitVec_toInt8, Int32.toBitVec_toInt8]
  have e1 : (a.toUInt32 >>> u).toInt32.toBitVec = a.toBitVec >>> s := by
    show (a.toUInt32 >>> u).toBitVec = _
    rw [UInt32.toBitVec_shiftRight]
    show a.toBitVec >>> (u.toBitVec % 32) = _
    rw [BitVec.ushiftRight_eq', BitVec.toNat_umod]
    show a.toBitVec >>> (u.toBitVec.toNat % 32) = _
    rw [hu]
  have e2 : (a >>> v).toBitVec = a.toBitVec.sshiftRight s := by
    rw [Int32.toBitVec_shiftRight]
    show a.toBitVec.sshiftRight (v.toBitVec.smod 32).toNat = _
    rw [hv]
  rw [e1, e2]
  apply BitVec.eq_of_getLsbD_eq
  intro i hi
  exact sh_bit _ _ _ hs hi
theorem tB_X (a s : Int32) (h : s = 24 ∨ s = 16 ∨ s = 8 ∨ s = 0) : ((a.toUInt32 >>> (s.toUInt32 &&& Int32.toUInt32 31)).toInt32).toInt8.toInt32 = tB a s := by
  unfold tB
  rcases h with rfl | rfl | rfl | rfl
  · exact sh_low a 24 (by decide) _ _ (by decide) (by decide)
  · exact sh_low a 16 (by decide) _ _ (by decide) (by decide)
  · exact sh_low a 8 (by decide) _ _ (by decide) (by decide)
  · exact sh_low a 0 (by decide) _ _ (by decide) (by decide)
def put1 (kd kl : Nat) (μ : zM) (L : Nat) (v : Int32) : zM := mS (mS μ kd 0 L v) kl 0 1 (nI (L + 1))
def put4 (kd kl : Nat) (μ : zM) (L : Nat) (a : Int32) : zM := put1 kd kl (put1 kd kl (put1 kd kl (put1 kd kl μ L (tB a 24)) (L + 1) (tB a 16)) (L + 2) (tB a 8)) (L + 3) (tB a 0)
theorem put1_len {kd kl : Nat} (μ : zM) (L : Nat) (v : Int32) : (put1 kd kl μ L v).1 kl 0 1 = nI (L + 1) := mS_same _ _ _ _ _
theorem zS_55 (i : Nat) : zS 55 i = .inr (1, 900, (0, 0)) := rfl
theorem zS_62 (i : Nat) : zS 62 i = .inr (1, 900, (0, 0)) := rfl
theorem X_put {μ : zM} {a s : Int32} {L n : Nat} (hL : L < 900) (h : μ.1 7 0 1 = nI L) (hs : s = 24 ∨ s = 16 ∨ s = 8 ∨ s = 0) : tX7_addWord_3 (n + 1) a s μ = tX7_addWord_3 n a (s + (-8)) (put1 55 7 μ L (tB a s)) := by
  have hs0 : ¬ s < 0 := by rcases hs with rfl | rfl | rfl | rfl <;> decide
  rw [eX7_addWord_3, zif_neg hs0, h, zif_pos (show nI L < 900 from nI_lt hL (by decide)), wB_in (zS_55 0) rfl hL (by decide), Option.bind_some, zlet_eq, eX7_addWord_40, eX7_addWord_43, mS_k _ _ _ _ _ _ _ _ (by decide), h, nI_1, tB_X a s hs, tB_idem]
  rfl
theorem X_addWord {μ : zM} {a : Int32} {L : Nat} (hL : L + 4 ≤ 900) (h : μ.1 7 0 1 = nI L) : tX7_addWord_0 a μ = some (none, put4 55 7 μ L a) := by
  rw [eX7_addWord_0, zN_eq, show (100000 : Nat) = 99995 + 5 from rfl, X_put (by omega) h (Or.inl rfl), X_put (by omega) (put1_len _ _ _) (by decide), X_put (by omega) (put1_len _ _ _) (by decide), X_put (by omega) (put1_len _ _ _) (by decide), eX7_addWord_3, zif_pos (by decide)]
  rfl
theorem M_put {μ : zM} {a s : Int32} {L n : Nat} (hL : L < 900) (h : μ.1 11 0 1 = nI L) (hs : s = 24 ∨ s = 16 ∨ s = 8 ∨ s = 0) : tX11_puts_3 (n + 1) a s μ = tX11_puts_3 n a (s + (-8)) (put1 62 11 μ L (tB a s)) := by
  have hs0 : ¬ s < 0 := by rcases hs with rfl | rfl | rfl | rfl <;> decide
  rw [eX11_puts_3, zif_neg hs0, h, wB_in (zS_62 0) rfl hL (by decide), Option.bind_some, zlet_eq, eX11_puts_33, mS_k _ _ _ _ _ _ _ _ (by decide), h, nI_1]
  rw [show (a >>> (s &&& 31)).toInt8.toInt32 = tB a s from rfl, tB_idem]
  rfl
theorem M_puts {μ : zM} {a : Int32} {L : Nat} (hL : L + 4 ≤ 900) (h : μ.1 11 0 1 = nI L) : tX11_puts_0 a μ = some (none, put4 62 11 μ L a) := by
  rw [eX11_puts_0, zN_eq, show (100000 : Nat) = 99995 + 5 from rfl, M_put (by omega) h (Or.inl rfl), M_put (by omega) (put1_len _ _ _) (by decide), M_put (by omega) (put1_len _ _ _) (by decide), M_put (by omega) (put1_len _ _ _) (by decide), eX11_puts_3, zif_pos (by decide)]
  rfl
/-- what changes and what stays -/
def TFr (μ μ' : zM) : Prop := μ'.2 = μ.2 ∧ ∀ k i z, ¬ (k = 7 ∧ i = 0 ∧ z = 1) → ¬ (k = 55 ∧ i = 0) → ¬ (k = 11 ∧ i = 0 ∧ z = 1) → ¬ (k = 62 ∧ i = 0) → μ'.1 k i z = μ.1 k i z
theorem TFr.r (μ : zM) : TFr μ μ := ⟨rfl, fun _ _ _ _ _ _ _ => rfl⟩
theorem TFr.t {a b c : zM} (h : TFr a b) (g : TFr b c) : TFr a c := ⟨g.1.trans h.1, fun k i z p q r s => (g.2 k i z p q r s).trans (h.2 k i z p q r s)⟩
theorem TFr.x (μ : zM) (L : Nat) (v : Int32) : TFr μ (put1 55 7 μ L v) := ⟨rfl, fun k i z p q r s => by unfold put1; rw [mS_1, if_neg p, mS_1, if_neg (fun y => q ⟨y.1, y.2.1⟩)]⟩
theorem TFr.m (μ : zM) (L : Nat) (v : Int32) : TFr μ (put1 62 11 μ L v) := ⟨rfl, fun k i z p q r s => by unfold put1; rw [mS_1, if_neg r, mS_1, if_neg (fun y => s ⟨y.1, y.2.1⟩)]⟩
theorem TFr.x4 (μ : zM) (L : Nat) (v : Int32) : TFr μ (put4 55 7 μ L v) := (((TFr.x _ _ _).t (TFr.x _ _ _)).t (TFr.x _ _ _)).t (TFr.x _ _ _)
theorem TFr.m4 (μ : zM) (L : Nat) (v : Int32) : TFr μ (put4 62 11 μ L v) := (((TFr.m _ _ _).t (TFr.m _ _ _)).t (TFr.m _ _ _)).t (TFr.m _ _ _)
/-- the tape, of two memories -/
def TP (μ ν : zM) (L : Nat) : Prop := μ.1 7 0 1 = nI L ∧ ν.1 11 0 1 = nI L ∧ ∀ z, z < L → μ.1 55 0 z = ν.1 62 0 z ∧ (ν.1 62 0 z).toInt8.toInt32 = ν.1 62 0 z
theorem TP.put {μ ν : zM} {L : Nat} (h : TP μ ν L) (a s : Int32) : TP (put1 55 7 μ L (tB a s)) (put1 62 11 ν L (tB a s)) (L + 1) := by
  refine ⟨put1_len _ _ _, put1_len _ _ _, fun z hz => ?_⟩
  have e1 : (put1 55 7 μ L (tB a s)).1 55 0 z = if z = L then tB a s else μ.1 55 0 z := by
    unfold put1
    rw [mS_k _ _ _ _ _ _ _ _ (by decide), mS_1]
    by_cases e : z = L
    · rw [if_pos ⟨rfl, rfl, e⟩, if_pos e]
    · rw [if_neg (fun q => e q.2.2), if_neg e]
  have e2 : (put1 62 11 ν L (tB a s)).1 62 0 z = if z = L then tB a s else ν.1 62 0 z := by
    unfold put1
    rw [mS_k _ _ _ _ _ _ _ _ (by decide), mS_1]
    by_cases e : z = L
    · rw [if_pos ⟨rfl, rfl, e⟩, if_pos e]
    · rw [if_neg (fun q => e q.2.2), if_neg e]
  rw [e1, e2]
  by_cases e : z = L
  · rw [if_pos e, if_pos e]
    exact ⟨rfl, tB_idem _ _⟩
  · rw [if_neg e, if_neg e]
    exact h.2.2 z (by omega)
theorem TP.put4 {μ ν : zM} {L : Nat} (h : TP μ ν L) (a : Int32) : TP (put4 55 7 μ L a) (put4 62 11 ν L a) (L + 4) := (((h.put a 24).put a 16).put a 8).put a 0
theorem REL.tape {μ μ' : zM} {c : Nat} (h : REL μ c) (o : TFr μ μ') (hT : TAP μ') : REL μ' c := by
  obtain ⟨j, S, D, lim, t, hd, C, now, nx, cn, Cf, h1, h2, h3, h4, h5, h6, h7, h8⟩ := h
  obtain ⟨o2, o3⟩ := o
  have ek : ∀ k i z, k ≠ 11 → k ≠ 7 → k ≠ 55 → k ≠ 62 → μ'.1 k i z = μ.1 k i z := fun k i z a b c d => o3 k i z (fun q => b q.1) (fun q => c q.1) (fun q => a q.1) (fun q => d q.1)
  have e11 : ∀ z, z ≠ 1 → μ'.1 11 0 z = μ.1 11 0 z := fun z hz => o3 _ _ _ (by omega) (by omega) (by omega) (by omega)
  have ew : ∀ i k x z, isW i k x → μ'.1 k x z = μ.1 k x z := fun i k x z hw => by
    have := isW_lt hw
    exact ek _ _ _ (by omega) (by omega) (by omega) (by omega)
  have e65 : μ'.1 65 0 = μ.1 65 0 := funext (fun z => ek _ _ _ (by decide) (by decide) (by decide) (by decide))
  refine ⟨j, S, D, lim, t, hd, C, now, nx, cn, Cf, by rw [o2]; exact h1, h2, h3.of (fun k a s hk => by unfold isS at hk; exact ek _ _ _ (by omega) (by omega) (by omega) (by omega)) (fun z => ek _ _ _ (by decide) (by decide) (by decide) (by decide)), ?_, h5.of h3.1 (fun i k x z _ hw => ew i k x z hw) (fun i _ => by rw [o2]) (fun z => ek _ _ _ (by decide) (by decide) (by decide) (by decide)) (e11 14 (by decide)) (fun z => ek _ _ _ (by decide) (by decide) (by decide) (by decide)) (fun k z k1 k2 _ => ek _ _ _ (by omega) (by omega) (by omega) (by omega)), hT, h7.of (fun k z hk => ek _ _ _ (by omega) (by omega) (by omega) (by omega)), by rw [ek _ _ _ (by decide) (by decide) (by decide) (by decide), e11 2 (by decide)]; exact h8⟩
  rw [e65]
  exact (h4.nu (fun k z k1 k2 _ => ek _ _ _ (by omega) (by omega) (by omega) (by omega))).mu h3.1 (fun k x z hw => ew _ k x z hw) (by rw [o2])
theorem TP.tap {μ ν : zM} {L : Nat} (h : TP μ ν L) (hL : L ≤ 900) (e : ν.1 7 0 1 = μ.1 7 0 1) (e2 : ∀ z, ν.1 55 0 z = μ.1 55 0 z) : TAP ν := ⟨L, hL, e.trans h.1, h.2.1, fun z hz => by rw [e2]; exact h.2.2 z hz⟩
theorem put1_k {kd kl : Nat} (μ : zM) (L : Nat) (v : Int32) (k i z : Nat) (h : k ≠ kd) (h2 : k ≠ kl) : (put1 kd kl μ L v).1 k i z = μ.1 k i z := by
  unfold put1
  rw [mS_k _ _ _ _ _ _ _ _ h2, mS_k _ _ _ _ _ _ _ _ h]
theorem put4_k {kd kl : Nat} (μ : zM) (L : Nat) (v : Int32) (k i z : Nat) (h : k ≠ kd) (h2 : k ≠ kl) : (put4 kd kl μ L v).1 k i z = μ.1 k i z := by
  unfold put4
  rw [put1_k _ _ _ _ _ _ h h2, put1_k _ _ _ _ _ _ h h2, put1_k _ _ _ _ _ _ h h2, put1_k _ _ _ _ _ _ h h2]
theorem a_append {μ : zM} {c : Nat} (h : REL μ c) (a1 a2 a3 a4 a5 : Int32) : CALL (tX10_append_0 a1 a2 a3 a4 a5) (tX11_append_0 a1 a2 a3 a4 a5) μ (c + 1) := by
  have hT := h
  obtain ⟨j, S, D, lim, t, hd, C, now, nx, cn, Cf, h1, h2, h3, h4, h5, h6, h7, h8⟩ := hT
  obtain ⟨L, hL, l1, l2, l3⟩ := h6
  have ec : ∀ m, m = nI L → ((900 : Int32) < m + 20 ↔ 900 < L + 20) := fun m e => by
    rw [e, show (20 : Int32) = nI 20 from rfl, nI_add, show (900 : Int32) = nI 900 from rfl, nI_ltI (by decide) (by omega)]
  by_cases g : 900 < L + 20
  · exact CALL.ask h (by rw [eX10_append_0, zif_pos ((ec _ l1).mpr g)]) (by rw [eX11_append_0, zif_pos ((ec _ l2).mpr g)])
  have n1 : ∀ (kd kl : Nat) (m : zM) (L : Nat) (v : Int32), (put4 kd kl m L v).1 kl 0 1 = nI (L + 4) := fun kd kl m L v => put1_len _ _ _
  have tp : TP μ μ L := ⟨l1, l2, l3⟩
  let x1 := put4 55 7 μ L a1
  let x2 := put4 55 7 x1 (L + 4) a2
  let x3 := put4 55 7 x2 (L + 4 + 4) a3
  let x4 := put4 55 7 x3 (L + 4 + 4 + 4) a4
  let x5 := put4 55 7 x4 (L + 4 + 4 + 4 + 4) a5
  let y1 := put4 62 11 x5 L a1
  let y2 := put4 62 11 y1 (L + 4) a2
  let y3 := put4 62 11 y2 (L + 4 + 4) a3
  let y4 := put4 62 11 y3 (L + 4 + 4 + 4) a4
  let y5 := put4 62 11 y4 (L + 4 + 4 + 4 + 4) a5
  have kx : ∀ k i z, k ≠ 55 → k ≠ 7 → x5.1 k i z = μ.1 k i z := fun k i z p q => by
    show (put4 55 7 (put4 55 7 (put4 55 7 (put4 55 7 (put4 55 7 μ _ _) _ _) _ _) _ _) _ _).1 k i z = _
    rw [put4_k _ _ _ _ _ _ p q, put4_k _ _ _ _ _ _ p q, put4_k _ _ _ _ _ _ p q, put4_k _ _ _ _ _ _ p q, put4_k _ _ _ _ _ _ p q]
  have ky : ∀ k i z, k ≠ 62 → k ≠ 11 → y5.1 k i z = x5.1 k i z := fun k i z p q => by
    show (put4 62 11 (put4 62 11 (put4 62 11 (put4 62 11 (put4 62 11 x5 _ _) _ _) _ _) _ _) _ _).1 k i z = _
    rw [put4_k _ _ _ _ _ _ p q, put4_k _ _ _ _ _ _ p q, put4_k _ _ _ _ _ _ p q, put4_k _ _ _ _ _ _ p q, put4_k _ _ _ _ _ _ p q]
  have tp0 : TP μ x5 L := ⟨l1, (kx _ _ _ (by decide) (by decide)).trans l2, fun z hz => by rw [kx 62 _ _ (by decide) (by decide)]; exact l3 z hz⟩
  have tp5 : TP x5 y5 (L + 4 + 4 + 4 + 4 + 4) := ((((tp0.put4 a1).put4 a2).put4 a3).put4 a4).put4 a5
  refine ⟨nI (L + 4 + 4 + 4 + 4 + 4), x5, y5, ?_, ?_, ?_⟩
  · rw [eX10_append_0, zif_neg (fun z => g ((ec _ l1).mp z)), X_addWord (by omega) l1, zU_some, X_addWord (by omega) (n1 _ _ _ _ _), zU_some, X_addWord (by omega) (n1 _ _ _ _ _), zU_some, X_addWord (by omega) (n1 _ _ _ _ _), zU_some, X_addWord (by omega) (n1 _ _ _ _ _), zU_some, n1]
  · have l2' := (kx 11 0 1 (by decide) (by decide)).trans l2
    rw [eX11_append_0, zif_neg (fun z => g ((ec _ l2').mp z)), M_puts (by omega) l2', zU_some, M_puts (by omega) (n1 _ _ _ _ _), zU_some, M_puts (by omega) (n1 _ _ _ _ _), zU_some, M_puts (by omega) (n1 _ _ _ _ _), zU_some, M_puts (by omega) (n1 _ _ _ _ _), zU_some, n1]
  · have fx : TFr μ x5 := ((((TFr.x4 _ _ _).t (TFr.x4 _ _ _)).t (TFr.x4 _ _ _)).t (TFr.x4 _ _ _)).t (TFr.x4 _ _ _)
    have fy : TFr x5 y5 := ((((TFr.m4 _ _ _).t (TFr.m4 _ _ _)).t (TFr.m4 _ _ _)).t (TFr.m4 _ _ _)).t (TFr.m4 _ _ _)
    exact (h.tape (fx.t fy) (tp5.tap (by omega) (ky _ _ _ (by decide) (by decide)) (fun z => ky _ _ _ (by decide) (by decide)))).up (by omega)
theorem a_truncate {μ : zM} {c : Nat} (h : REL μ c) (a : Int32) : CALL (tX10_truncate_0 a) (tX11_truncate_0 a) μ (c + 1) := by
  have hT := h
  obtain ⟨j, S, D, lim, t, hd, C, now, nx, cn, Cf, h1, h2, h3, h4, h5, h6, h7, h8⟩ := hT
  obtain ⟨L, hL, l1, l2, l3⟩ := h6
  by_cases g1 : a < 0
  · exact CALL.ask h (by rw [eX10_truncate_0, zif_pos g1, eX10_truncate_15]) (by rw [eX11_truncate_0, pM_in (lo := 0) (y := 0) rfl (by decide) rfl, zI_some, zif_pos (Or.inl g1), zif_pos rfl])
  by_cases g2 : nI L < a
  · exact CALL.ask h (by rw [eX10_truncate_0, zif_neg g1, l1, zif_pos g2, eX10_truncate_15]) (by rw [eX11_truncate_0, pM_in (lo := 0) (y := 0) rfl (by decide) rfl, zI_some, l2, zif_pos (Or.inr g2), zif_pos rfl])
  obtain ⟨p, hp, rfl⟩ := nI_of g1
  have hpL : p ≤ L := by
    have g3 : ¬ L < p := fun z => g2 ((nI_ltI (by omega) hp).mpr z)
    omega
  let x := mS μ 7 0 1 (nI (L - p))
  let y := mS x 11 0 1 (nI (L - p))
  refine ⟨nI (L - p), x, y, ?_, ?_, ?_⟩
  · rw [eX10_truncate_0, zif_neg g1, l1, zif_neg g2, zlet_eq, pk_sub hpL, mS_same]
  · have l2' : x.1 11 0 1 = nI L := (mS_k _ _ _ _ _ _ _ _ (by decide)).trans l2
    rw [eX11_truncate_0, pM_in (lo := 0) (y := 0) rfl (by decide) rfl, zI_some, l2', zif_neg (show ¬ (nI p < 0 ∨ nI L < nI p) from fun z => z.elim g1 g2), zif_neg (by decide), zlet_eq, pk_sub hpL, mS_same]
  · refine (h.tape (μ' := y) ⟨rfl, fun k i z p q r s => ?_⟩ ⟨L - p, by omega, ?_, mS_same _ _ _ _ _, fun z hz => ?_⟩).up (by omega)
    · show (mS (mS μ 7 0 1 _) 11 0 1 _).1 k i z = _
      rw [mS_1, if_neg r, mS_1, if_neg p]
    · show (mS (mS μ 7 0 1 _) 11 0 1 _).1 7 0 1 = _
      rw [mS_k _ _ _ _ _ _ _ _ (by decide), mS_same]
    · show (mS (mS μ 7 0 1 _) 11 0 1 _).1 55 0 z = (mS (mS μ 7 0 1 _) 11 0 1 _).1 62 0 z ∧ ((mS (mS μ 7 0 1 _) 11 0 1 _).1 62 0 z).toInt8.toInt32 = (mS (mS μ 7 0 1 _) 11 0 1 _).1 62 0 z
      rw [mS_k _ _ _ _ _ _ _ _ (by decide), mS_k _ _ _ _ _ _ _ _ (by decide), mS_k _ _ _ _ _ _ _ _ (by decide), mS_k _ _ _ _ _ _ _ _ (by decide)]
      exact l3 z (by omega)
