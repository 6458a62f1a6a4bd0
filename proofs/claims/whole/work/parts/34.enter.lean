/-! ===== an inlet or an exit gives a bag to the ring ===== -/
/-- the cells of world i -/
def isW (i k a : Nat) : Prop := ((k = 9 ∨ (57 ≤ k ∧ k ≤ 61) ∨ k = 3 ∨ (36 ≤ k ∧ k ≤ 39) ∨ k = 0 ∨ (21 ≤ k ∧ k ≤ 29)) ∧ a = i) ∨ ((k = 4 ∨ (40 ≤ k ∧ k ≤ 42)) ∧ (a = 2 * i ∨ a = 2 * i + 1))
def FrW (i : Nat) (μ μ' : zM) : Prop := μ'.2 = μ.2 ∧ ∀ k a s, ¬ isW i k a → μ'.1 k a s = μ.1 k a s
theorem FrW.rf {i : Nat} {μ : zM} : FrW i μ μ := ⟨rfl, fun _ _ _ _ => rfl⟩
theorem FrW.tr {i : Nat} {μ μ1 μ2 : zM} (h1 : FrW i μ μ1) (h2 : FrW i μ1 μ2) : FrW i μ μ2 := ⟨h2.1.trans h1.1, fun k a s h => (h2.2 k a s h).trans (h1.2 k a s h)⟩
theorem FrW.mS {i k a n : Nat} {v : Int32} {μ μ' : zM} (h : FrW i μ μ') (hk : isW i k a) : FrW i μ (mS μ' k a n v) := by
  refine ⟨h.1, fun k' a' s hn => ?_⟩
  rw [mS_1, if_neg (fun q => hn (by rw [q.1, q.2.1]; exact hk))]
  exact h.2 k' a' s hn
theorem FrW.ofQ {i : Nat} {μ μ' : zM} (h : FrQ i μ μ') : FrW i μ μ' := ⟨h.1, fun k a s hn => h.2 k a s (fun q => hn (Or.inl ⟨by omega, q.2.2⟩))⟩
theorem pX4_has {μ : zM} {i s : Nat} {x : Int32} (hx : x = nI s) (hs : s < 60) : tX4_has_0 (2 * i) x μ = some (some (.inl (zif (μ.1 40 (2 * i) s = -2) 0 1)), μ) := by
  rw [eX4_has_0, qI_in (bel_40 i) hx hs (by decide), Option.bind_some, eX4_has_16, eX4_has_16, zif_pos nar_0, zif_pos nar_1]
  by_cases a : μ.1 40 (2 * i) s = -2
  · rw [zif_pos a, zif_pos a]
  · rw [zif_neg a, zif_neg a]
theorem zS_26 (i : Nat) : zS 26 i = .inr (0, 100, (0, 0)) := rfl
theorem zS_27 (i : Nat) : zS 27 i = .inr (0, 100, (0, 0)) := rfl
theorem pX0_put {μ : zM} {i b : Nat} {x y z : Int32} (hx : x = nI b) (hb : b < 100) : tX0_put_0 i x y z μ = some (none, mS (mS μ 26 i b y) 27 i b z) := by
  rw [eX0_put_0, wI_in (zS_26 i) hx hb (by decide), Option.bind_some, wI_in (zS_27 i) hx hb (by decide), Option.bind_some]
/-- a record goes from a bag to the belt -/
theorem pX4_toBelt {μ : zM} {i s b : Nat} {x y : Int32} (hx : x = nI s) (hs : s < 60) (hy : y = nI b) (hb : b < 100) : tX4_moveIn_0 (2 * i) x (2 * i + 1) y μ = some (none, mS (mS (mS (mS μ 40 (2 * i) s (μ.1 40 (2 * i + 1) b)) 41 (2 * i) s (μ.1 41 (2 * i + 1) b)) 42 (2 * i) s (μ.1 42 (2 * i + 1) b)) 40 (2 * i + 1) b (-2)) := by
  rw [eX4_moveIn_0, qI_in (hel_40 i) hy hb (by decide), Option.bind_some, wI_in (bel_40 i) hx hs (by decide), Option.bind_some, qI_in (hel_41 i) hy hb (by decide), Option.bind_some, wI_in (bel_41 i) hx hs (by decide), Option.bind_some, qI_in (hel_42 i) hy hb (by decide), Option.bind_some, wI_in (bel_42 i) hx hs (by decide), Option.bind_some, wI_in (hel_40 i) hy hb (by decide), Option.bind_some, mS_k _ _ _ _ _ _ _ _ (by decide), mS_k _ _ _ _ _ _ _ _ (by decide), mS_k _ _ _ _ _ _ _ _ (by decide)]
theorem mS_row (μ : zM) (k i n : Nat) (v : Int32) : (mS μ k i n v).1 k i = upd (μ.1 k i) n v := by
  funext s
  rw [mS_1]
  unfold upd
  by_cases h : s = n
  · rw [if_pos ⟨rfl, rfl, h⟩, if_pos h]
  · rw [if_neg (fun q => h q.2.2), if_neg h]
/-- what stands behind enter when a bag enters -/
theorem pX9_enter_take {μ : zM} {i q s b : Nat} {l : List Nat} {x y : Int32} (hx : x = nI q) (hq : q < 60) (hy : y = nI s) (hs : s < 60) (hr : μ.1 58 i s < 0) (hrec : μ.1 40 (2 * i) s = -2) (hQ : QX μ i q (b :: l)) (hlen : l.length < 200) :
    ∃ μ', tX9_enter_0 i x y μ = some (none, μ') ∧ FrW i μ μ' ∧ QX μ' i q l ∧ (∀ q' l', q' ≠ q → QX μ i q' l' → QX μ' i q' l') ∧
      (∀ z, μ'.1 58 i z = upd (μ.1 58 i) s (nI b) z) ∧ (∀ z, μ'.1 26 i z = upd (μ.1 26 i) b 1 z) ∧ (∀ z, μ'.1 27 i z = upd (μ.1 27 i) b (nI s) z) ∧
      (∀ z, μ'.1 40 (2 * i) z = upd (μ.1 40 (2 * i)) s (μ.1 40 (2 * i + 1) b) z) ∧ (∀ z, μ'.1 41 (2 * i) z = upd (μ.1 41 (2 * i)) s (μ.1 41 (2 * i + 1) b) z) ∧ (∀ z, μ'.1 42 (2 * i) z = upd (μ.1 42 (2 * i)) s (μ.1 42 (2 * i + 1) b) z) ∧
      (∀ z, z ≠ b → μ'.1 40 (2 * i + 1) z = μ.1 40 (2 * i + 1) z) ∧ (∀ k z, k = 41 ∨ k = 42 → μ'.1 k (2 * i + 1) z = μ.1 k (2 * i + 1) z) ∧
      (∀ k z, k ≠ 58 → k ≠ 26 → k ≠ 27 → ¬ (36 ≤ k ∧ k ≤ 42) → μ'.1 k i z = μ.1 k i z) := by
  have hb : b < 100 := hQ.2.2.2.2.1 b List.mem_cons_self
  obtain ⟨ν, e1, fr, hq1, hq2⟩ := pX3_takeFirst_some hQ rfl hq hlen
  have eν : ∀ k a z, ¬ (36 ≤ k ∧ k ≤ 39) → ν.1 k a z = μ.1 k a z := fun k a z hk => fr.2 k a z (fun h => hk ⟨h.1, h.2.1⟩)
  refine ⟨mS (mS (mS (mS (mS (mS (mS ν 40 (2 * i) s (ν.1 40 (2 * i + 1) b)) 41 (2 * i) s (ν.1 41 (2 * i + 1) b)) 42 (2 * i) s (ν.1 42 (2 * i + 1) b)) 40 (2 * i + 1) b (-2)) 58 i s (nI b)) 26 i b 1) 27 i b (nI s), ?_, ?_, ?_, fun q' l' hne hQ' => ?_, fun z => ?_, fun z => ?_, fun z => ?_, fun z => ?_, fun z => ?_, fun z => ?_, fun z hz => ?_, fun k z hk => ?_, fun k z k1 k2 k3 k4 => ?_⟩
  · rw [eX9_enter_0, qI_in (zS_58 i) hy hs (by decide), Option.bind_some, zif_pos hr, pX4_has hy hs, zI_some, zif_pos hrec, zif_pos rfl, hx, e1, zI_some, eX9_enter_30, zif_neg (nI_pos (by omega)), pX4_toBelt hy hs rfl hb, zU_some, wI_in (zS_58 i) hy hs (by decide), Option.bind_some, pX0_put rfl hb, zU_some, hy]
  · refine FrW.mS (FrW.mS (FrW.mS (FrW.mS (FrW.mS (FrW.mS (FrW.mS (FrW.ofQ fr) ?_) ?_) ?_) ?_) ?_) ?_) ?_ <;> unfold isW <;> omega
  · refine QX_congr (fun k z k1 k2 => ?_) hq1
    rw [mS_k _ _ _ _ _ _ _ _ (by omega), mS_k _ _ _ _ _ _ _ _ (by omega), mS_k _ _ _ _ _ _ _ _ (by omega), mS_k _ _ _ _ _ _ _ _ (by omega), mS_k _ _ _ _ _ _ _ _ (by omega), mS_k _ _ _ _ _ _ _ _ (by omega), mS_k _ _ _ _ _ _ _ _ (by omega)]
  · refine QX_congr (fun k z k1 k2 => ?_) (hq2 q' l' hne hQ')
    rw [mS_k _ _ _ _ _ _ _ _ (by omega), mS_k _ _ _ _ _ _ _ _ (by omega), mS_k _ _ _ _ _ _ _ _ (by omega), mS_k _ _ _ _ _ _ _ _ (by omega), mS_k _ _ _ _ _ _ _ _ (by omega), mS_k _ _ _ _ _ _ _ _ (by omega), mS_k _ _ _ _ _ _ _ _ (by omega)]
  · rw [mS_k _ _ _ _ _ _ _ _ (by decide), mS_k _ _ _ _ _ _ _ _ (by decide), mS_row]
    unfold upd
    rw [mS_k _ _ _ _ _ _ _ _ (by decide), mS_k _ _ _ _ _ _ _ _ (by decide), mS_k _ _ _ _ _ _ _ _ (by decide), mS_k _ _ _ _ _ _ _ _ (by decide), eν _ _ _ (by omega)]
  · rw [mS_k _ _ _ _ _ _ _ _ (by decide), mS_row]
    unfold upd
    rw [mS_k _ _ _ _ _ _ _ _ (by decide), mS_k _ _ _ _ _ _ _ _ (by decide), mS_k _ _ _ _ _ _ _ _ (by decide), mS_k _ _ _ _ _ _ _ _ (by decide), mS_k _ _ _ _ _ _ _ _ (by decide), eν _ _ _ (by omega)]
  · rw [mS_row]
    unfold upd
    rw [mS_k _ _ _ _ _ _ _ _ (by decide), mS_k _ _ _ _ _ _ _ _ (by decide), mS_k _ _ _ _ _ _ _ _ (by decide), mS_k _ _ _ _ _ _ _ _ (by decide), mS_k _ _ _ _ _ _ _ _ (by decide), mS_k _ _ _ _ _ _ _ _ (by decide), eν _ _ _ (by omega)]
  · rw [mS_k _ _ _ _ _ _ _ _ (by decide), mS_k _ _ _ _ _ _ _ _ (by decide), mS_k _ _ _ _ _ _ _ _ (by decide), mS_i _ _ _ _ _ _ _ _ (by omega), mS_k _ _ _ _ _ _ _ _ (by decide), mS_k _ _ _ _ _ _ _ _ (by decide), mS_row]
    unfold upd
    rw [eν _ _ _ (by omega), eν _ _ _ (by omega)]
  · rw [mS_k _ _ _ _ _ _ _ _ (by decide), mS_k _ _ _ _ _ _ _ _ (by decide), mS_k _ _ _ _ _ _ _ _ (by decide), mS_k _ _ _ _ _ _ _ _ (by decide), mS_k _ _ _ _ _ _ _ _ (by decide), mS_row]
    unfold upd
    rw [mS_k _ _ _ _ _ _ _ _ (by decide), eν _ _ _ (by omega), eν _ _ _ (by omega)]
  · rw [mS_k _ _ _ _ _ _ _ _ (by decide), mS_k _ _ _ _ _ _ _ _ (by decide), mS_k _ _ _ _ _ _ _ _ (by decide), mS_k _ _ _ _ _ _ _ _ (by decide), mS_row]
    unfold upd
    rw [mS_k _ _ _ _ _ _ _ _ (by decide), mS_k _ _ _ _ _ _ _ _ (by decide), eν _ _ _ (by omega), eν _ _ _ (by omega)]
  · rw [mS_k _ _ _ _ _ _ _ _ (by decide), mS_k _ _ _ _ _ _ _ _ (by decide), mS_k _ _ _ _ _ _ _ _ (by decide), mS_n _ _ _ _ _ _ _ _ hz, mS_k _ _ _ _ _ _ _ _ (by decide), mS_k _ _ _ _ _ _ _ _ (by decide), mS_i _ _ _ _ _ _ _ _ (by omega), eν _ _ _ (by omega)]
  · rcases hk with rfl | rfl
    · rw [mS_k _ _ _ _ _ _ _ _ (by decide), mS_k _ _ _ _ _ _ _ _ (by decide), mS_k _ _ _ _ _ _ _ _ (by decide), mS_k _ _ _ _ _ _ _ _ (by decide), mS_k _ _ _ _ _ _ _ _ (by decide), mS_i _ _ _ _ _ _ _ _ (by omega), mS_k _ _ _ _ _ _ _ _ (by decide), eν _ _ _ (by omega)]
    · rw [mS_k _ _ _ _ _ _ _ _ (by decide), mS_k _ _ _ _ _ _ _ _ (by decide), mS_k _ _ _ _ _ _ _ _ (by decide), mS_k _ _ _ _ _ _ _ _ (by decide), mS_i _ _ _ _ _ _ _ _ (by omega), mS_k _ _ _ _ _ _ _ _ (by decide), mS_k _ _ _ _ _ _ _ _ (by decide), eν _ _ _ (by omega)]
  · rw [mS_k _ _ _ _ _ _ _ _ k3, mS_k _ _ _ _ _ _ _ _ k2, mS_k _ _ _ _ _ _ _ _ k1, mS_k _ _ _ _ _ _ _ _ (by omega), mS_k _ _ _ _ _ _ _ _ (by omega), mS_k _ _ _ _ _ _ _ _ (by omega), mS_k _ _ _ _ _ _ _ _ (by omega), eν _ _ _ (by omega)]
