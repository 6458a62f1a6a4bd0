/-! ===== scanners: both sides ===== -/
def recF (w : Nat → Int32) (p : Nat) (l c q : Int32) : Nat → Int32 := upd (upd (upd (upd w (150 + p) 1) (210 + p) l) (270 + p) c) (330 + p) q
theorem newF_rec (w : Nat → Int32) (p : Nat) : newF w p = recF w p 0 0 0 := rfl
theorem movF_rec (w : Nat → Int32) (p q : Nat) : movF w p q = dropF (recF w q (w (210 + p)) (w (270 + p)) (w (330 + p))) p := rfl
theorem recF_off {w : Nat → Int32} {p k : Nat} {l c q : Int32} (h1 : k ≠ 150 + p) (h2 : k ≠ 210 + p) (h3 : k ≠ 270 + p) (h4 : k ≠ 330 + p) : recF w p l c q k = w k := by
  unfold recF
  rw [upd_ne _ _ h4, upd_ne _ _ h3, upd_ne _ _ h2, upd_ne _ _ h1]
theorem recF_on {w : Nat → Int32} {p : Nat} (hp : p < 60) {l c q : Int32} : recF w p l c q (150 + p) = 1 ∧ recF w p l c q (210 + p) = l ∧ recF w p l c q (270 + p) = c ∧ recF w p l c q (330 + p) = q := by
  unfold recF
  refine ⟨?_, ?_, ?_, ?_⟩ <;> repeat (first | rw [upd_at] | rw [upd_ne _ _ (by omega)])
theorem dropF_off {w : Nat → Int32} {p k : Nat} (h1 : k ≠ 150 + p) (h2 : k ≠ 210 + p) (h3 : k ≠ 270 + p) (h4 : k ≠ 330 + p) : dropF w p k = w k := by
  unfold dropF
  rw [upd_ne _ _ h1, newF_rec, recF_off h1 h2 h3 h4]
theorem dropF_on {w : Nat → Int32} {p : Nat} : dropF w p (150 + p) = 0 := by unfold dropF; rw [upd_at]
theorem zslot_ne {n t p q : Nat} (ht : t < n) (hp : p < n) (hq : q < n) (h : p ≠ q) : zslot n t p ≠ zslot n t q := fun z => h (zslot_inj ht hp hq z)
theorem rec_RW {μ ν : zM} {i j : Nat} {S : zSt} {w : Nat → Int32} {B t hd C now O : Nat} {st : Nat → Nat} {Q : Nat → List Nat} {p : Nat} {l c q : Int32} (hS : okS S) (h : RW μ ν i j S w B t hd C now O st Q) (hp : p < sn S) (hl : isLb l) (hc : is01 c) :
    RW (mS (mS (mS μ 40 (2 * i) (zslot (sn S) t p) l) 41 (2 * i) (zslot (sn S) t p) q) 42 (2 * i) (zslot (sn S) t p) c) ν i j S (recF w p l c q) B t hd C now O st Q := by
  have hn6 := hS.2.1
  have ht : t < sn S := h.1.2.1
  refine soft_RW hS h (FrW.mS (FrW.mS (FrW.mS FrW.rf ?_) ?_) ?_) (fun k z a b c => ?_) (fun k z a b => ?_) (fun p' hp' => ?_) (fun k hk => ?_) (fun p' hp' => ?_) (fun k a b c => ?_)
  · unfold isW; omega
  · unfold isW; omega
  · unfold isW; omega
  · rw [mS_k _ _ _ _ _ _ _ _ (by omega), mS_k _ _ _ _ _ _ _ _ (by omega), mS_k _ _ _ _ _ _ _ _ (by omega)]
  · rw [mS_i _ _ _ _ _ _ _ _ (by omega), mS_i _ _ _ _ _ _ _ _ (by omega), mS_i _ _ _ _ _ _ _ _ (by omega)]
  · by_cases e : p' = p
    · subst e
      obtain ⟨e1, e2, e3, e4⟩ := recF_on (w := w) (l := l) (c := c) (q := q) (show p' < 60 by omega)
      rw [e1, e2, e3, e4]
      refine Or.inr ⟨?_, ?_, rfl, ?_, ?_, ?_⟩
      · rw [mS_k _ _ _ _ _ _ _ _ (by decide), mS_k _ _ _ _ _ _ _ _ (by decide), mS_same]; exact lb_ne2 hl
      · rw [mS_k _ _ _ _ _ _ _ _ (by decide), mS_k _ _ _ _ _ _ _ _ (by decide), mS_same]; exact hl
      · rw [mS_k _ _ _ _ _ _ _ _ (by decide), mS_k _ _ _ _ _ _ _ _ (by decide), mS_same]
      · rw [mS_same]; exact ⟨rfl, hc⟩
      · rw [mS_k _ _ _ _ _ _ _ _ (by decide), mS_same]
    · have hz := zslot_ne ht hp' hp e
      rw [recF_off (by omega) (by omega) (by omega) (by omega), recF_off (by omega) (by omega) (by omega) (by omega), recF_off (by omega) (by omega) (by omega) (by omega), recF_off (by omega) (by omega) (by omega) (by omega)]
      simp only [mS_n _ _ _ _ _ _ _ _ hz]
      exact (h.2.1 p' hp').2
  · rw [recF_off (by omega) (by omega) (by omega) (by omega), mS_k _ _ _ _ _ _ _ _ (by decide), mS_k _ _ _ _ _ _ _ _ (by decide), mS_k _ _ _ _ _ _ _ _ (by decide)]
    exact h.1.2.2.2.2.2.2.2.2.2.1 k hk
  · rw [recF_off (by omega) (by omega) (by omega) (by omega), mS_k _ _ _ _ _ _ _ _ (by decide), mS_k _ _ _ _ _ _ _ _ (by decide), mS_k _ _ _ _ _ _ _ _ (by decide)]
    exact h.2.2.2.2.2.2.1.1 p' hp'
  · exact recF_off (by omega) (by omega) (by omega) (by omega)
theorem drop_RW {μ ν : zM} {i j : Nat} {S : zSt} {w : Nat → Int32} {B t hd C now O : Nat} {st : Nat → Nat} {Q : Nat → List Nat} {p : Nat} (hS : okS S) (h : RW μ ν i j S w B t hd C now O st Q) (hp : p < sn S) :
    RW (mS μ 40 (2 * i) (zslot (sn S) t p) (-2)) ν i j S (dropF w p) B t hd C now O st Q := by
  have hn6 := hS.2.1
  have ht : t < sn S := h.1.2.1
  refine soft_RW hS h (FrW.mS FrW.rf ?_) (fun k z a b c => ?_) (fun k z a b => ?_) (fun p' hp' => ?_) (fun k hk => ?_) (fun p' hp' => ?_) (fun k a b c => ?_)
  · unfold isW; omega
  · rw [mS_k _ _ _ _ _ _ _ _ (by omega)]
  · rw [mS_i _ _ _ _ _ _ _ _ (by omega)]
  · by_cases e : p' = p
    · subst e
      exact Or.inl ⟨by rw [mS_same], dropF_on⟩
    · have hz := zslot_ne ht hp' hp e
      rw [dropF_off (by omega) (by omega) (by omega) (by omega), dropF_off (by omega) (by omega) (by omega) (by omega), dropF_off (by omega) (by omega) (by omega) (by omega), dropF_off (by omega) (by omega) (by omega) (by omega)]
      simp only [mS_n _ _ _ _ _ _ _ _ hz]
      exact (h.2.1 p' hp').2
  · rw [dropF_off (by omega) (by omega) (by omega) (by omega), mS_k _ _ _ _ _ _ _ _ (by decide)]
    exact h.1.2.2.2.2.2.2.2.2.2.1 k hk
  · rw [dropF_off (by omega) (by omega) (by omega) (by omega), mS_k _ _ _ _ _ _ _ _ (by decide)]
    exact h.2.2.2.2.2.2.1.1 p' hp'
  · exact dropF_off (by omega) (by omega) (by omega) (by omega)
theorem count_RW {μ ν : zM} {i j : Nat} {S : zSt} {w : Nat → Int32} {B t hd C now O : Nat} {st : Nat → Nat} {Q : Nat → List Nat} {k : Nat} (hS : okS S) (h : RW μ ν i j S w B t hd C now O st Q) (hk : k < 8) :
    RW (mS μ 57 i k (μ.1 57 i k + 1)) ν i j S (cntF w k) B t hd C now O st Q := by
  have hn6 := hS.2.1
  have off : ∀ z, z ≠ 3 + k → cntF w k z = w z := fun z hz => upd_ne _ _ hz
  have hcn := h.1.2.2.2.2.2.2.2.2.2.1
  refine soft_RW hS h (FrW.mS FrW.rf ?_) (fun k' z a b c => ?_) (fun k' z a b => ?_) (fun p' hp' => ?_) (fun k' hk' => ?_) (fun p' hp' => ?_) (fun k' a b c => ?_)
  · unfold isW; omega
  · rw [mS_k _ _ _ _ _ _ _ _ (by omega)]
  · rw [mS_k _ _ _ _ _ _ _ _ (by omega)]
  · rw [off _ (by omega), off _ (by omega), off _ (by omega), off _ (by omega), mS_k _ _ _ _ _ _ _ _ (by decide), mS_k _ _ _ _ _ _ _ _ (by decide), mS_k _ _ _ _ _ _ _ _ (by decide)]
    exact (h.2.1 p' hp').2
  · by_cases e : k' = k
    · subst e
      rw [mS_same, ← hcn k' hk]
      exact upd_at _ _ _
    · rw [mS_n _ _ _ _ _ _ _ _ e, off _ (by omega)]
      exact hcn k' hk'
  · rw [off _ (by omega), mS_k _ _ _ _ _ _ _ _ (by decide)]
    exact h.2.2.2.2.2.2.1.1 p' hp'
  · exact off _ (by omega)
/-- one number of a record that is there -/
theorem pass_RW {μ ν : zM} {i j : Nat} {S : zSt} {w : Nat → Int32} {B t hd C now O : Nat} {st : Nat → Nat} {Q : Nat → List Nat} {p : Nat} (hS : okS S) (h : RW μ ν i j S w B t hd C now O st Q) (hp : p < sn S) (hr : w (150 + p) = 1) (v : Int32) :
    RW (mS μ 41 (2 * i) (zslot (sn S) t p) v) ν i j S (upd w (330 + p) v) B t hd C now O st Q := by
  have hn6 := hS.2.1
  have ht : t < sn S := h.1.2.1
  refine soft_RW hS h (FrW.mS FrW.rf ?_) (fun k z a b c => ?_) (fun k z a b => ?_) (fun p' hp' => ?_) (fun k hk => ?_) (fun p' hp' => ?_) (fun k a b c => ?_)
  · unfold isW; omega
  · rw [mS_k _ _ _ _ _ _ _ _ (by omega)]
  · rw [mS_i _ _ _ _ _ _ _ _ (by omega)]
  · have hh := (h.2.1 p' hp').2
    rw [mS_k _ _ _ _ _ _ _ _ (by decide), mS_k _ _ _ _ _ _ _ _ (by decide), upd_ne _ _ (by omega), upd_ne _ _ (by omega), upd_ne _ _ (by omega)]
    by_cases e : p' = p
    · subst e
      rw [mS_same, upd_at]
      rcases hh with ⟨a1, a2⟩ | ⟨a1, a2, a3, a4, a5, a6⟩
      · exact absurd (a2.symm.trans hr) zo_ne
      · exact Or.inr ⟨a1, a2, a3, a4, a5, rfl⟩
    · rw [mS_n _ _ _ _ _ _ _ _ (zslot_ne ht hp' hp e), upd_ne _ _ (by omega)]
      exact hh
  · rw [upd_ne _ _ (by omega), mS_k _ _ _ _ _ _ _ _ (by decide)]
    exact h.1.2.2.2.2.2.2.2.2.2.1 k hk
  · rw [upd_ne _ _ (by omega), mS_k _ _ _ _ _ _ _ _ (by decide)]
    exact h.2.2.2.2.2.2.1.1 p' hp'
  · exact upd_ne _ _ (by omega)
theorem label_RW {μ ν : zM} {i j : Nat} {S : zSt} {w : Nat → Int32} {B t hd C now O : Nat} {st : Nat → Nat} {Q : Nat → List Nat} {p : Nat} {v : Int32} (hS : okS S) (h : RW μ ν i j S w B t hd C now O st Q) (hp : p < sn S) (hr : w (150 + p) = 1) (hv : isLb v) :
    RW (mS μ 40 (2 * i) (zslot (sn S) t p) v) ν i j S (upd w (210 + p) v) B t hd C now O st Q := by
  have hn6 := hS.2.1
  have ht : t < sn S := h.1.2.1
  refine soft_RW hS h (FrW.mS FrW.rf ?_) (fun k z a b c => ?_) (fun k z a b => ?_) (fun p' hp' => ?_) (fun k hk => ?_) (fun p' hp' => ?_) (fun k a b c => ?_)
  · unfold isW; omega
  · rw [mS_k _ _ _ _ _ _ _ _ (by omega)]
  · rw [mS_i _ _ _ _ _ _ _ _ (by omega)]
  · have hh := (h.2.1 p' hp').2
    rw [mS_k _ 40 _ _ _ 42 _ _ (by decide), mS_k _ 40 _ _ _ 41 _ _ (by decide), upd_ne _ _ (show 150 + p' ≠ 210 + p by omega), upd_ne _ _ (show 270 + p' ≠ 210 + p by omega), upd_ne _ _ (show 330 + p' ≠ 210 + p by omega)]
    by_cases e : p' = p
    · subst e
      rw [mS_same, upd_at]
      rcases hh with ⟨a1, a2⟩ | ⟨a1, a2, a3, a4, a5, a6⟩
      · exact absurd (a2.symm.trans hr) zo_ne
      · exact Or.inr ⟨lb_ne2 hv, hv, a3, rfl, a5, a6⟩
    · rw [mS_n _ _ _ _ _ _ _ _ (zslot_ne ht hp' hp e), upd_ne _ _ (by omega)]
      exact hh
  · rw [upd_ne _ _ (by omega), mS_k _ _ _ _ _ _ _ _ (by decide)]
    exact h.1.2.2.2.2.2.2.2.2.2.1 k hk
  · rw [upd_ne _ _ (by omega), mS_k _ _ _ _ _ _ _ _ (by decide)]
    exact h.2.2.2.2.2.2.1.1 p' hp'
  · exact upd_ne _ _ (by omega)
theorem zS_57 (i : Nat) : zS 57 i = .inr (0, 8, (0, 0)) := rfl
theorem pX4_makeAt {μ : zM} {i s : Nat} (hs : s < 60) : tX4_makeAt_0 (2 * i) (nI s) μ = some (none, mS (mS (mS μ 40 (2 * i) s 0) 41 (2 * i) s 0) 42 (2 * i) s 0) := by
  rw [eX4_makeAt_0, wI_in (bel_40 i) rfl hs (by decide), Option.bind_some, wI_in (bel_41 i) rfl hs (by decide), Option.bind_some, wI_in (bel_42 i) rfl hs (by decide), Option.bind_some]
theorem pX4_removeAt {μ : zM} {i s : Nat} (hs : s < 60) : tX4_removeAt_0 (2 * i) (nI s) μ = some (none, mS μ 40 (2 * i) s (-2)) := by
  rw [eX4_removeAt_0, wI_in (bel_40 i) rfl hs (by decide), Option.bind_some]
theorem pX4_removeH {μ : zM} {i b : Nat} (hb : b < 100) : tX4_removeAt_0 (2 * i + 1) (nI b) μ = some (none, mS μ 40 (2 * i + 1) b (-2)) := by
  rw [eX4_removeAt_0, wI_in (hel_40 i) rfl hb (by decide), Option.bind_some]
theorem pX4_moveB {μ : zM} {i s s' : Nat} (hs : s < 60) (hs' : s' < 60) : tX4_moveIn_0 (2 * i) (nI s) (2 * i) (nI s') μ = some (none, mS (mS (mS (mS μ 40 (2 * i) s (μ.1 40 (2 * i) s')) 41 (2 * i) s (μ.1 41 (2 * i) s')) 42 (2 * i) s (μ.1 42 (2 * i) s')) 40 (2 * i) s' (-2)) := by
  rw [eX4_moveIn_0, qI_in (bel_40 i) rfl hs' (by decide), Option.bind_some, wI_in (bel_40 i) rfl hs (by decide), Option.bind_some, qI_in (bel_41 i) rfl hs' (by decide), Option.bind_some, wI_in (bel_41 i) rfl hs (by decide), Option.bind_some, qI_in (bel_42 i) rfl hs' (by decide), Option.bind_some, wI_in (bel_42 i) rfl hs (by decide), Option.bind_some, wI_in (bel_40 i) rfl hs' (by decide), Option.bind_some, mS_k _ _ _ _ _ _ _ _ (by decide), mS_k _ _ _ _ _ _ _ _ (by decide), mS_k _ _ _ _ _ _ _ _ (by decide)]
/-- a record moves on the belt -/
theorem moveB_RW {μ ν : zM} {i j : Nat} {S : zSt} {w : Nat → Int32} {B t hd C now O : Nat} {st : Nat → Nat} {Q : Nat → List Nat} {p q : Nat} (hS : okS S) (h : RW μ ν i j S w B t hd C now O st Q) (hp : p < sn S) (hq : q < sn S) (hr : w (150 + p) = 1) :
    RW (mS (mS (mS (mS μ 40 (2 * i) (zslot (sn S) t q) (μ.1 40 (2 * i) (zslot (sn S) t p))) 41 (2 * i) (zslot (sn S) t q) (μ.1 41 (2 * i) (zslot (sn S) t p))) 42 (2 * i) (zslot (sn S) t q) (μ.1 42 (2 * i) (zslot (sn S) t p))) 40 (2 * i) (zslot (sn S) t p) (-2)) ν i j S (movF w p q) B t hd C now O st Q := by
  rcases (h.2.1 p hp).2 with ⟨a1, a2⟩ | ⟨a1, a2, a3, a4, a5, a6⟩
  · exact absurd (a2.symm.trans hr) zo_ne
  · rw [movF_rec, a4, a5.1, a6]
    exact drop_RW hS (rec_RW hS h hq a2 a5.2) hp
theorem zcode_lb {T : Nat → Nat → Int32} {F : Nat} {a b : Int32} (ha : isLb a) (hb : isLb b) : isLb (zcode T F a b) := by
  unfold zcode zif
  repeat' split
  all_goals first | exact ha | exact hb | exact Or.inr (Or.inl rfl)
theorem lb_1000 {x : Int32} (h : isLb x) : x < 1000 ↔ ¬ 0 < x := by
  rcases h with rfl | rfl | ⟨q, h1, h2, rfl⟩
  · decide
  · decide
  · rw [show (1000 : Int32) = nI 1000 from rfl, show (0 : Int32) = nI 0 from rfl]
    exact ⟨fun z => absurd z (nI_nlt (by omega) (by omega)), fun z => absurd (nI_lt (by omega) (by omega)) z⟩
theorem lb_m1 {x : Int32} (h : isLb x) (h0 : ¬ 0 < x) : x < 0 ↔ x = -1 := by
  rcases (lb_pos h).mp h0 with rfl | rfl <;> decide
