/-! ===== the class's queues as lists ===== -/
def oI (o : Option Nat) : Int32 := match o with
  | none => -1
  | some a => nI a
def hdI (l : List Nat) (z : Int32) : Int32 := match l with
  | [] => z
  | b :: _ => nI b
/-- each bag of the list points to the one behind it, the last one to z -/
def chn (g : Nat → Int32) : List Nat → Int32 → Prop
  | [], _ => True
  | a :: l, z => g a = hdI l z ∧ chn g l z
theorem chn_congr {g g' : Nat → Int32} : ∀ {l : List Nat} {z : Int32}, (∀ a ∈ l, g' a = g a) → chn g l z → chn g' l z
  | [], _, _, _ => trivial
  | a :: l, z, h, hc => ⟨(h a List.mem_cons_self).trans hc.1, chn_congr (fun b hb => h b (List.mem_cons_of_mem _ hb)) hc.2⟩
theorem chn_app {g : Nat → Int32} {b : Nat} {z : Int32} : ∀ {l : List Nat}, chn g l (nI b) → g b = z → chn g (l ++ [b]) z
  | [], _, hb => ⟨hb, trivial⟩
  | [a], h, hb => ⟨h.1, hb, trivial⟩
  | a :: c :: l, h, hb => ⟨h.1, chn_app (l := c :: l) h.2 hb⟩
/-- the last one's pointer changed -/
theorem chn_last {g g' : Nat → Int32} {e : Nat} {z z' : Int32} : ∀ {l : List Nat}, (∀ a ∈ l, g' a = g a) → g' e = z' → chn g (l ++ [e]) z → chn g' (l ++ [e]) z'
  | [], _, he, _ => ⟨he, trivial⟩
  | [a], h, he, hc => ⟨(h a List.mem_cons_self).trans hc.1, he, trivial⟩
  | a :: c :: l, h, he, hc => ⟨(h a List.mem_cons_self).trans hc.1, chn_last (l := c :: l) (fun b hb => h b (List.mem_cons_of_mem _ hb)) he hc.2⟩
theorem chn_tail {g : Nat → Int32} {z : Int32} : ∀ {l l2 : List Nat}, chn g (l ++ l2) z → chn g l2 z
  | [], _, h => h
  | _ :: l, l2, h => chn_tail (l := l) h.2
/-- the pointer of the bag before a gap -/
theorem chn_cut {g g' : Nat → Int32} {e : Nat} {z : Int32} {l2 l3 : List Nat} : ∀ {l : List Nat}, (∀ a ∈ l, g' a = g a) → g' e = hdI l3 z → chn g' l3 z → chn g (l ++ e :: l2) z → chn g' (l ++ e :: l3) z
  | [], _, he, h3, _ => ⟨he, h3⟩
  | [a], h, he, h3, hc => ⟨(h a List.mem_cons_self).trans hc.1, he, h3⟩
  | a :: c :: l, h, he, h3, hc => ⟨(h a List.mem_cons_self).trans hc.1, chn_cut (l := c :: l) (fun b hb => h b (List.mem_cons_of_mem _ hb)) he h3 hc.2⟩
/-- the queue at a position of world i holds the list -/
def QX (μ : zM) (i q : Nat) (l : List Nat) : Prop := μ.1 36 i q = oI l.head? ∧ μ.1 37 i q = oI l.getLast? ∧ μ.1 38 i q = nI l.length ∧ chn (μ.1 39 i) l (-1) ∧ (∀ a ∈ l, a < 100) ∧ l.Nodup
theorem zS_36 (i : Nat) : zS 36 i = .inr (0, 60, (0, 0)) := rfl
theorem zS_37 (i : Nat) : zS 37 i = .inr (0, 60, (0, 0)) := rfl
theorem zS_38 (i : Nat) : zS 38 i = .inr (0, 60, (0, 0)) := rfl
theorem zS_39 (i : Nat) : zS 39 i = .inr (0, 100, (0, 0)) := rfl
/-- only the queues of world i changed -/
def FrQ (i : Nat) (μ μ' : zM) : Prop := μ'.2 = μ.2 ∧ ∀ k a s, ¬ (36 ≤ k ∧ k ≤ 39 ∧ a = i) → μ'.1 k a s = μ.1 k a s
theorem FrQ.mS {i k n : Nat} {v : Int32} {μ μ' : zM} (h : FrQ i μ μ') (hk : 36 ≤ k ∧ k ≤ 39) : FrQ i μ (mS μ' k i n v) := by
  refine ⟨h.1, fun k' a s hn => ?_⟩
  rw [mS_1, if_neg (fun q => hn ⟨by omega, by omega, q.2.1⟩)]
  exact h.2 k' a s hn
theorem FrQ.rf {i : Nat} {μ : zM} : FrQ i μ μ := ⟨rfl, fun _ _ _ _ => rfl⟩
theorem oI_pos {a : Nat} (h : a < 100) : ¬ oI (some a) < 0 := nI_pos (by omega)
theorem last_app (l : List Nat) (hl : l ≠ []) : ∃ l' e, l = l' ++ [e] := ⟨l.dropLast, l.getLast hl, (List.dropLast_concat_getLast hl).symm⟩
theorem hdI_last (l' : List Nat) (e : Nat) : (l' ++ [e]).getLast? = some e := by simp
/-- a bag put behind the others -/
theorem pX3_add {μ : zM} {i q b : Nat} {l : List Nat} {x y : Int32} (h : QX μ i q l) (hx : x = nI q) (hq : q < 60) (hy : y = nI b) (hb : b < 100) (hbl : b ∉ l) (hlen : l.length < 200) :
    ∃ μ', tX3_add_0 i x y μ = some (none, μ') ∧ FrQ i μ μ' ∧ QX μ' i q (l ++ [b]) ∧ ∀ q' l', q' ≠ q → QX μ i q' l' → (∀ a ∈ l', a ∉ l ∧ a ≠ b) → QX μ' i q' l' := by
  obtain ⟨h1, h2, h3, h4, h5, h6⟩ := h
  subst hx; subst hy
  have tail : ∀ ν : zM, ν.1 38 i q = nI l.length → tX3_add_28 i (nI q) (nI b) ν = some (none, mS (mS (mS ν 39 i b (-1)) 37 i q (nI b)) 38 i q (nI (l.length + 1))) := by
    intro ν hν
    rw [eX3_add_28, wI_in (zS_39 i) rfl hb (by decide), Option.bind_some, wI_in (zS_37 i) rfl hq (by decide), Option.bind_some, qI_in (zS_38 i) rfl hq (by decide), Option.bind_some, wI_in (zS_38 i) rfl hq (by decide), Option.bind_some, mS_k _ _ _ _ _ _ _ _ (by decide), mS_k _ _ _ _ _ _ _ _ (by decide), hν, nI_1]
  by_cases hl : l = []
  · subst hl
    refine ⟨mS (mS (mS (mS μ 36 i q (nI b)) 39 i b (-1)) 37 i q (nI b)) 38 i q (nI 1), ?_, ((((FrQ.rf).mS (by omega)).mS (by omega)).mS (by omega)).mS (by omega), ⟨?_, ?_, ?_, ⟨?_, trivial⟩, by simpa using hb, by simp⟩, fun q' l' hne hQ hd => ?_⟩
    · rw [eX3_add_0, qI_in (zS_37 i) rfl hq (by decide), Option.bind_some, h2, eX3_add_7, zif_pos (show oI ([] : List Nat).getLast? < 0 from m1_lt), wI_in (zS_36 i) rfl hq (by decide), Option.bind_some, tail _ (by rw [mS_k _ _ _ _ _ _ _ _ (by decide)]; exact h3)]
      rfl
    · rw [mS_k _ _ _ _ _ _ _ _ (by decide), mS_k _ _ _ _ _ _ _ _ (by decide), mS_k _ _ _ _ _ _ _ _ (by decide), mS_same]; rfl
    · rw [mS_k _ _ _ _ _ _ _ _ (by decide), mS_same]; rfl
    · rw [mS_same]; rfl
    · rw [mS_k _ _ _ _ _ _ _ _ (by decide), mS_k _ _ _ _ _ _ _ _ (by decide), mS_same]; rfl
    · obtain ⟨g1, g2, g3, g4, g5, g6⟩ := hQ
      refine ⟨?_, ?_, ?_, chn_congr (fun a ha => ?_) g4, g5, g6⟩
      · rw [mS_k _ _ _ _ _ _ _ _ (by decide), mS_k _ _ _ _ _ _ _ _ (by decide), mS_k _ _ _ _ _ _ _ _ (by decide), mS_n _ _ _ _ _ _ _ _ hne]; exact g1
      · rw [mS_k _ _ _ _ _ _ _ _ (by decide), mS_n _ _ _ _ _ _ _ _ hne, mS_k _ _ _ _ _ _ _ _ (by decide), mS_k _ _ _ _ _ _ _ _ (by decide)]; exact g2
      · rw [mS_n _ _ _ _ _ _ _ _ hne, mS_k _ _ _ _ _ _ _ _ (by decide), mS_k _ _ _ _ _ _ _ _ (by decide), mS_k _ _ _ _ _ _ _ _ (by decide)]; exact g3
      · rw [mS_k _ _ _ _ _ _ _ _ (by decide), mS_k _ _ _ _ _ _ _ _ (by decide), mS_n _ _ _ _ _ _ _ _ (hd a ha).2, mS_k _ _ _ _ _ _ _ _ (by decide)]
  · obtain ⟨l', e, rfl⟩ := last_app l hl
    have he : e < 100 := h5 e (by simp)
    have hbe : b ≠ e := fun z => hbl (by rw [z]; simp)
    have hel : e ∉ l' := by
      have := List.nodup_append.mp h6
      intro hm
      exact this.2.2 e hm e (by simp) rfl
    refine ⟨mS (mS (mS (mS μ 39 i e (nI b)) 39 i b (-1)) 37 i q (nI b)) 38 i q (nI ((l' ++ [e]).length + 1)), ?_, ((((FrQ.rf).mS (by omega)).mS (by omega)).mS (by omega)).mS (by omega), ⟨?_, ?_, ?_, ?_, ?_, ?_⟩, fun q' l2 hne hQ hd => ?_⟩
    · rw [eX3_add_0, qI_in (zS_37 i) rfl hq (by decide), Option.bind_some, h2, hdI_last, eX3_add_7, zif_neg (oI_pos he), wI_in (zS_39 i) (show oI (some e) = nI e from rfl) he (by decide), Option.bind_some, tail _ (by rw [mS_k _ _ _ _ _ _ _ _ (by decide)]; exact h3)]
    · rw [mS_k _ _ _ _ _ _ _ _ (by decide), mS_k _ _ _ _ _ _ _ _ (by decide), mS_k _ _ _ _ _ _ _ _ (by decide), mS_k _ _ _ _ _ _ _ _ (by decide), h1]
      congr 1
      cases l' <;> rfl
    · rw [mS_k _ _ _ _ _ _ _ _ (by decide), mS_same, hdI_last]; rfl
    · rw [mS_same]; simp
    · refine chn_app (chn_last (g := μ.1 39 i) (z := -1) (fun a ha => ?_) ?_ h4) ?_
      · have ha1 : a ≠ b := fun z => hbl (by rw [← z]; simp [ha])
        have ha2 : a ≠ e := fun z => hel (by rw [← z]; exact ha)
        rw [mS_k _ _ _ _ _ _ _ _ (by decide), mS_k _ _ _ _ _ _ _ _ (by decide), mS_n _ _ _ _ _ _ _ _ ha1, mS_n _ _ _ _ _ _ _ _ ha2]
      · rw [mS_k _ _ _ _ _ _ _ _ (by decide), mS_k _ _ _ _ _ _ _ _ (by decide), mS_n _ _ _ _ _ _ _ _ (Ne.symm hbe), mS_same]
      · rw [mS_k _ _ _ _ _ _ _ _ (by decide), mS_k _ _ _ _ _ _ _ _ (by decide), mS_same]
    · intro a ha
      rcases List.mem_append.mp ha with z | z
      · exact h5 a z
      · simp at z; omega
    · refine List.nodup_append.mpr ⟨h6, by simp, fun a ha c hc => ?_⟩
      simp at hc
      subst hc
      exact fun z => hbl (by rw [← z]; exact ha)
    · obtain ⟨g1, g2, g3, g4, g5, g6⟩ := hQ
      refine ⟨?_, ?_, ?_, chn_congr (fun a ha => ?_) g4, g5, g6⟩
      · rw [mS_k _ _ _ _ _ _ _ _ (by decide), mS_k _ _ _ _ _ _ _ _ (by decide), mS_k _ _ _ _ _ _ _ _ (by decide), mS_k _ _ _ _ _ _ _ _ (by decide)]; exact g1
      · rw [mS_k _ _ _ _ _ _ _ _ (by decide), mS_n _ _ _ _ _ _ _ _ hne, mS_k _ _ _ _ _ _ _ _ (by decide), mS_k _ _ _ _ _ _ _ _ (by decide)]; exact g2
      · rw [mS_n _ _ _ _ _ _ _ _ hne, mS_k _ _ _ _ _ _ _ _ (by decide), mS_k _ _ _ _ _ _ _ _ (by decide), mS_k _ _ _ _ _ _ _ _ (by decide)]; exact g3
      · have ha2 : a ≠ e := fun z => (hd a ha).1 (by rw [z]; simp)
        rw [mS_k _ _ _ _ _ _ _ _ (by decide), mS_k _ _ _ _ _ _ _ _ (by decide), mS_n _ _ _ _ _ _ _ _ (hd a ha).2, mS_n _ _ _ _ _ _ _ _ ha2]
