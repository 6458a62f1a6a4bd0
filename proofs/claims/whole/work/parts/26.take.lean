/-! ===== a bag taken out of a queue ===== -/
theorem hdI_neg {l : List Nat} (h : ∀ a ∈ l, a < 100) : hdI l (-1) < 0 ↔ l = [] := by
  cases l with
  | nil => exact ⟨fun _ => rfl, fun _ => m1_lt⟩
  | cons a l =>
    have := h a List.mem_cons_self
    exact ⟨fun z => absurd z (nI_pos (by omega)), fun z => by cases z⟩
theorem hdI_head (l : List Nat) : hdI l (-1) = oI l.head? := by cases l <;> rfl
theorem last_cons {a : Nat} {l : List Nat} (h : l ≠ []) : (a :: l).getLast? = l.getLast? := by
  cases l with
  | nil => exact absurd rfl h
  | cons b l => simp [List.getLast?_cons_cons]
theorem last_app2 {l l2 : List Nat} (h : l2 ≠ []) : (l ++ l2).getLast? = l2.getLast? := by
  cases l2 with
  | nil => exact absurd rfl h
  | cons b l2 => rw [List.getLast?_append]; simp [List.getLast?_cons]
/-- the first one -/
theorem pX3_takeFront {μ : zM} {i q b : Nat} {l : List Nat} {x y z : Int32} (h : QX μ i q (b :: l)) (hx : x = nI q) (hq : q < 60) (hz : z = -1) (hy : y = nI b) (hlen : l.length < 200) :
    ∃ μ', tX3_takeBehind_0 i x z y μ = some (none, μ') ∧ FrQ i μ μ' ∧ QX μ' i q l ∧ ∀ q' l', q' ≠ q → QX μ i q' l' → QX μ' i q' l' := by
  obtain ⟨h1, h2, h3, h4, h5, h6⟩ := h
  subst hx; subst hy; subst hz
  have hb : b < 100 := h5 b List.mem_cons_self
  have h5' : ∀ a ∈ l, a < 100 := fun a ha => h5 a (List.mem_cons_of_mem _ ha)
  have tail : ∀ ν : zM, ν.1 38 i q = nI (l.length + 1) → tX3_takeBehind_43 i (nI q) ν = some (none, mS ν 38 i q (nI l.length)) := by
    intro ν hν
    rw [eX3_takeBehind_43, qI_in (zS_38 i) rfl hq (by decide), Option.bind_some, wI_in (zS_38 i) rfl hq (by decide), Option.bind_some, hν, nI_pred]
  have hh : tX3_takeBehind_0 i (nI q) (-1) (nI b) μ = tX3_takeBehind_31 i (nI q) (-1) (hdI l (-1)) (mS μ 36 i q (hdI l (-1))) := by
    rw [eX3_takeBehind_0, qI_in (zS_39 i) rfl hb (by decide), Option.bind_some, h4.1, eX3_takeBehind_8, zif_pos m1_lt, wI_in (zS_36 i) rfl hq (by decide), Option.bind_some]
  rw [hh, eX3_takeBehind_31]
  by_cases hl : l = []
  · subst hl
    refine ⟨mS (mS (mS μ 36 i q (-1)) 37 i q (-1)) 38 i q (nI 0), ?_, (((FrQ.rf).mS (by omega)).mS (by omega)).mS (by omega), ⟨?_, ?_, ?_, trivial, by simp, by simp⟩, fun q' l' hne hQ => ?_⟩
    · rw [zif_pos (show hdI [] (-1) < 0 from m1_lt), wI_in (zS_37 i) rfl hq (by decide), Option.bind_some, tail _ (by rw [mS_k _ _ _ _ _ _ _ _ (by decide), mS_k _ _ _ _ _ _ _ _ (by decide)]; exact h3)]
      rfl
    · rw [mS_k _ _ _ _ _ _ _ _ (by decide), mS_k _ _ _ _ _ _ _ _ (by decide), mS_same]; rfl
    · rw [mS_k _ _ _ _ _ _ _ _ (by decide), mS_same]; rfl
    · rw [mS_same]; rfl
    · obtain ⟨g1, g2, g3, g4, g5, g6⟩ := hQ
      refine ⟨?_, ?_, ?_, chn_congr (fun a ha => ?_) g4, g5, g6⟩
      · rw [mS_k _ _ _ _ _ _ _ _ (by decide), mS_k _ _ _ _ _ _ _ _ (by decide), mS_n _ _ _ _ _ _ _ _ hne]; exact g1
      · rw [mS_k _ _ _ _ _ _ _ _ (by decide), mS_n _ _ _ _ _ _ _ _ hne, mS_k _ _ _ _ _ _ _ _ (by decide)]; exact g2
      · rw [mS_n _ _ _ _ _ _ _ _ hne, mS_k _ _ _ _ _ _ _ _ (by decide), mS_k _ _ _ _ _ _ _ _ (by decide)]; exact g3
      · rw [mS_k _ _ _ _ _ _ _ _ (by decide), mS_k _ _ _ _ _ _ _ _ (by decide), mS_k _ _ _ _ _ _ _ _ (by decide)]
  · refine ⟨mS (mS μ 36 i q (hdI l (-1))) 38 i q (nI l.length), ?_, ((FrQ.rf).mS (by omega)).mS (by omega), ⟨?_, ?_, ?_, chn_congr (fun a _ => ?_) h4.2, h5', (List.nodup_cons.mp h6).2⟩, fun q' l' hne hQ => ?_⟩
    · rw [zif_neg (fun z => hl ((hdI_neg h5').mp z)), tail _ (by rw [mS_k _ _ _ _ _ _ _ _ (by decide)]; exact h3)]
    · rw [mS_k _ _ _ _ _ _ _ _ (by decide), mS_same, hdI_head]
    · rw [mS_k _ _ _ _ _ _ _ _ (by decide), mS_k _ _ _ _ _ _ _ _ (by decide), h2, last_cons hl]
    · rw [mS_same]
    · rw [mS_k _ _ _ _ _ _ _ _ (by decide), mS_k _ _ _ _ _ _ _ _ (by decide)]
    · obtain ⟨g1, g2, g3, g4, g5, g6⟩ := hQ
      refine ⟨?_, ?_, ?_, chn_congr (fun a ha => ?_) g4, g5, g6⟩
      · rw [mS_k _ _ _ _ _ _ _ _ (by decide), mS_n _ _ _ _ _ _ _ _ hne]; exact g1
      · rw [mS_k _ _ _ _ _ _ _ _ (by decide), mS_k _ _ _ _ _ _ _ _ (by decide)]; exact g2
      · rw [mS_n _ _ _ _ _ _ _ _ hne, mS_k _ _ _ _ _ _ _ _ (by decide)]; exact g3
      · rw [mS_k _ _ _ _ _ _ _ _ (by decide), mS_k _ _ _ _ _ _ _ _ (by decide)]
/-- one behind another -/
theorem pX3_takeMid {μ : zM} {i q b e : Nat} {l' l : List Nat} {x y z : Int32} (h : QX μ i q (l' ++ e :: b :: l)) (hx : x = nI q) (hq : q < 60) (hz : z = nI e) (hy : y = nI b) (hlen : (l' ++ e :: b :: l).length < 200) :
    ∃ μ', tX3_takeBehind_0 i x z y μ = some (none, μ') ∧ FrQ i μ μ' ∧ QX μ' i q (l' ++ e :: l) ∧ ∀ q' l2, q' ≠ q → QX μ i q' l2 → (∀ a ∈ l2, a ∉ l' ++ e :: b :: l) → QX μ' i q' l2 := by
  obtain ⟨h1, h2, h3, h4, h5, h6⟩ := h
  subst hx; subst hy; subst hz
  have hb : b < 100 := h5 b (by simp)
  have he : e < 100 := h5 e (by simp)
  have h5' : ∀ a ∈ l, a < 100 := fun a ha => h5 a (by simp [ha])
  have hc := chn_tail h4
  have hnd : (l' ++ e :: l).Nodup := by
    refine List.Nodup.sublist ?_ h6
    exact List.Sublist.append (List.Sublist.refl _) (List.Sublist.cons₂ _ (List.Sublist.cons _ (List.Sublist.refl _)))
  have hnd2 := List.nodup_append.mp h6
  have hel : e ∉ l' := fun hm => hnd2.2.2 e hm e (by simp) rfl
  have hel2 : e ∉ l := by
    have := List.nodup_cons.mp hnd2.2.1
    exact fun hm => this.1 (by simp [hm])
  have hln : (l' ++ e :: b :: l).length = (l' ++ e :: l).length + 1 := by simp; omega
  have tail : ∀ ν : zM, ν.1 38 i q = nI (l' ++ e :: b :: l).length → tX3_takeBehind_43 i (nI q) ν = some (none, mS ν 38 i q (nI (l' ++ e :: l).length)) := by
    intro ν hν
    rw [eX3_takeBehind_43, qI_in (zS_38 i) rfl hq (by decide), Option.bind_some, wI_in (zS_38 i) rfl hq (by decide), Option.bind_some, hν, hln, nI_pred]
  have hh : tX3_takeBehind_0 i (nI q) (nI e) (nI b) μ = tX3_takeBehind_31 i (nI q) (nI e) (hdI l (-1)) (mS μ 39 i e (hdI l (-1))) := by
    rw [eX3_takeBehind_0, qI_in (zS_39 i) rfl hb (by decide), Option.bind_some, hc.2.1, eX3_takeBehind_8, zif_neg (nI_pos (by omega)), wI_in (zS_39 i) rfl he (by decide), Option.bind_some]
  have hcut : ∀ ν : zM, (∀ a, a ≠ e → ν.1 39 i a = μ.1 39 i a) → ν.1 39 i e = hdI l (-1) → chn (ν.1 39 i) (l' ++ e :: l) (-1) := by
    intro ν hν hνe
    refine chn_cut (fun a ha => hν a (fun z => hel (by rw [← z]; exact ha))) hνe (chn_congr (fun a ha => hν a (fun z => hel2 (by rw [← z]; exact ha))) hc.2.2) h4
  rw [hh, eX3_takeBehind_31]
  have hhead : (l' ++ e :: b :: l).head? = (l' ++ e :: l).head? := by cases l' <;> rfl
  have h5'' : ∀ a ∈ l' ++ e :: l, a < 100 := by
    intro a ha
    apply h5
    simp only [List.mem_append, List.mem_cons] at ha ⊢
    rcases ha with z | z | z
    · exact Or.inl z
    · exact Or.inr (Or.inl z)
    · exact Or.inr (Or.inr (Or.inr z))
  by_cases hl : l = []
  · subst hl
    refine ⟨mS (mS (mS μ 39 i e (-1)) 37 i q (nI e)) 38 i q (nI (l' ++ [e]).length), ?_, (((FrQ.rf).mS (by omega)).mS (by omega)).mS (by omega), ⟨?_, ?_, ?_, hcut _ (fun a ha => ?_) ?_, h5'', hnd⟩, fun q' l2 hne hQ hd => ?_⟩
    · rw [zif_pos (show hdI [] (-1) < 0 from m1_lt), wI_in (zS_37 i) rfl hq (by decide), Option.bind_some, tail _ (by rw [mS_k _ _ _ _ _ _ _ _ (by decide), mS_k _ _ _ _ _ _ _ _ (by decide)]; exact h3)]
      rfl
    · rw [mS_k _ _ _ _ _ _ _ _ (by decide), mS_k _ _ _ _ _ _ _ _ (by decide), mS_k _ _ _ _ _ _ _ _ (by decide), h1, hhead]
    · rw [mS_k _ _ _ _ _ _ _ _ (by decide), mS_same, hdI_last]; rfl
    · rw [mS_same]
    · rw [mS_k _ _ _ _ _ _ _ _ (by decide), mS_k _ _ _ _ _ _ _ _ (by decide), mS_n _ _ _ _ _ _ _ _ ha]
    · rw [mS_k _ _ _ _ _ _ _ _ (by decide), mS_k _ _ _ _ _ _ _ _ (by decide), mS_same]; rfl
    · obtain ⟨g1, g2, g3, g4, g5, g6⟩ := hQ
      refine ⟨?_, ?_, ?_, chn_congr (fun a ha => ?_) g4, g5, g6⟩
      · rw [mS_k _ _ _ _ _ _ _ _ (by decide), mS_k _ _ _ _ _ _ _ _ (by decide), mS_k _ _ _ _ _ _ _ _ (by decide)]; exact g1
      · rw [mS_k _ _ _ _ _ _ _ _ (by decide), mS_n _ _ _ _ _ _ _ _ hne, mS_k _ _ _ _ _ _ _ _ (by decide)]; exact g2
      · rw [mS_n _ _ _ _ _ _ _ _ hne, mS_k _ _ _ _ _ _ _ _ (by decide), mS_k _ _ _ _ _ _ _ _ (by decide)]; exact g3
      · have ha2 : a ≠ e := fun z => hd a ha (by rw [z]; simp)
        rw [mS_k _ _ _ _ _ _ _ _ (by decide), mS_k _ _ _ _ _ _ _ _ (by decide), mS_n _ _ _ _ _ _ _ _ ha2]
  · refine ⟨mS (mS μ 39 i e (hdI l (-1))) 38 i q (nI (l' ++ e :: l).length), ?_, ((FrQ.rf).mS (by omega)).mS (by omega), ⟨?_, ?_, ?_, hcut _ (fun a ha => ?_) ?_, h5'', hnd⟩, fun q' l2 hne hQ hd => ?_⟩
    · rw [zif_neg (fun z => hl ((hdI_neg h5').mp z)), tail _ (by rw [mS_k _ _ _ _ _ _ _ _ (by decide)]; exact h3)]
    · rw [mS_k _ _ _ _ _ _ _ _ (by decide), mS_k _ _ _ _ _ _ _ _ (by decide), h1, hhead]
    · rw [mS_k _ _ _ _ _ _ _ _ (by decide), mS_k _ _ _ _ _ _ _ _ (by decide), h2, last_app2 (by simp), last_app2 (by simp), last_cons (by simp), last_cons hl, last_cons hl]
    · rw [mS_same]
    · rw [mS_k _ _ _ _ _ _ _ _ (by decide), mS_n _ _ _ _ _ _ _ _ ha]
    · rw [mS_k _ _ _ _ _ _ _ _ (by decide), mS_same]
    · obtain ⟨g1, g2, g3, g4, g5, g6⟩ := hQ
      refine ⟨?_, ?_, ?_, chn_congr (fun a ha => ?_) g4, g5, g6⟩
      · rw [mS_k _ _ _ _ _ _ _ _ (by decide), mS_k _ _ _ _ _ _ _ _ (by decide)]; exact g1
      · rw [mS_k _ _ _ _ _ _ _ _ (by decide), mS_k _ _ _ _ _ _ _ _ (by decide)]; exact g2
      · rw [mS_n _ _ _ _ _ _ _ _ hne, mS_k _ _ _ _ _ _ _ _ (by decide)]; exact g3
      · have ha2 : a ≠ e := fun z => hd a ha (by rw [z]; simp)
        rw [mS_k _ _ _ _ _ _ _ _ (by decide), mS_n _ _ _ _ _ _ _ _ ha2]
theorem pX3_takeFirst_some {μ : zM} {i q b : Nat} {l : List Nat} {x : Int32} (h : QX μ i q (b :: l)) (hx : x = nI q) (hq : q < 60) (hlen : l.length < 200) :
    ∃ μ', tX3_takeFirst_0 i x μ = some (some (.inl (nI b)), μ') ∧ FrQ i μ μ' ∧ QX μ' i q l ∧ ∀ q' l', q' ≠ q → QX μ i q' l' → QX μ' i q' l' := by
  have hb : b < 100 := h.2.2.2.2.1 b List.mem_cons_self
  obtain ⟨μ', e1, e2⟩ := pX3_takeFront h hx hq rfl rfl hlen
  refine ⟨μ', ?_, e2⟩
  rw [eX3_takeFirst_0, qI_in (zS_36 i) hx hq (by decide), Option.bind_some, h.1, eX3_takeFirst_7, zif_neg (show ¬ oI (b :: l).head? < 0 from oI_pos hb)]
  show zU (tX3_takeBehind_0 i x (-1) (nI b) μ) (fun μ1 => tX3_takeFirst_18 (nI b) μ1) = _
  rw [e1, zU_some, eX3_takeFirst_18]
theorem pX3_takeFirst_none {μ : zM} {i q : Nat} {x : Int32} (h : QX μ i q []) (hx : x = nI q) (hq : q < 60) : tX3_takeFirst_0 i x μ = some (some (.inl (-1)), μ) := by
  rw [eX3_takeFirst_0, qI_in (zS_36 i) hx hq (by decide), Option.bind_some, h.1, eX3_takeFirst_7, zif_pos (show oI ([] : List Nat).head? < 0 from m1_lt), eX3_takeFirst_18]
  rfl
