/-! ===== what the reference says: out ===== -/
def OUT (μ0 μ : zM) (l : List Int32) : Prop := μ.1 11 0 21 = nI l.length ∧ (∀ z, z < l.length → μ.1 73 0 z = l.getD z 0) ∧ μ.2 = μ0.2 ∧ ∀ k i z, ¬ (k = 11 ∧ i = 0 ∧ z = 21) → ¬ (k = 73 ∧ i = 0) → μ.1 k i z = μ0.1 k i z
theorem zS_73 (i : Nat) : zS 73 i = .inr (0, 2400, (0, 0)) := rfl
theorem OUT.start (μ : zM) : OUT μ (mS μ 11 0 21 0) [] := ⟨mS_same _ _ _ _ _, fun z hz => absurd hz (by simp), rfl, fun k i z h _ => by rw [mS_1, if_neg h]⟩
theorem OUT.says {μ0 μ : zM} {l : List Int32} (h : OUT μ0 μ l) (hl : l.length < 2400) (v : Int32) : ∃ μ', tX11_says_0 v μ = some (none, μ') ∧ OUT μ0 μ' (l ++ [v]) := by
  obtain ⟨h1, h2, h3, h4⟩ := h
  refine ⟨mS (mS μ 73 0 l.length v) 11 0 21 ((mS μ 73 0 l.length v).1 11 0 21 + 1), by rw [eX11_says_0, wI_in (zS_73 0) h1 hl (by decide), Option.bind_some, zlet_eq], ?_, fun z hz => ?_, h3, fun k i z n1 n2 => ?_⟩
  · rw [mS_same, mS_k _ _ _ _ _ _ _ _ (by decide), h1, nI_1]
    simp
  · rw [mS_k _ _ _ _ _ _ _ _ (by decide)]
    simp at hz
    by_cases e : z = l.length
    · subst e
      rw [mS_same]
      simp [List.getD_eq_getElem?_getD]
    · rw [mS_n _ _ _ _ _ _ _ _ e, h2 z (by omega)]
      simp [List.getD_eq_getElem?_getD, List.getElem?_append_left (show z < l.length by omega)]
  · rw [mS_1, if_neg n1, mS_1, if_neg (fun q => n2 ⟨q.1, q.2.1⟩)]
    exact h4 k i z n1 n2
theorem TXT.of {μ μ' : zM} (h : TXT μ) (e : ∀ k z, k = 8 ∨ k = 56 ∨ k = 63 → μ'.1 k 0 z = μ.1 k 0 z) : TXT μ' := by
  obtain ⟨l, h1, h2, h3, h4⟩ := h
  have e63 : μ'.1 63 0 = μ.1 63 0 := funext (fun z => e 63 z (Or.inr (Or.inr rfl)))
  exact ⟨l, h1, by rw [e 8 _ (Or.inl rfl)]; exact h2, fun z hz => by rw [e 56 _ (Or.inr (Or.inl rfl))]; exact h3 z hz, by rw [e63]; exact h4⟩
theorem TAP.of {μ μ' : zM} (h : TAP μ) (e : ∀ k z, k = 7 ∨ k = 55 ∨ k = 62 → μ'.1 k 0 z = μ.1 k 0 z) (e2 : μ'.1 11 0 1 = μ.1 11 0 1) : TAP μ' := by
  obtain ⟨L, h1, h2, h3, h4⟩ := h
  exact ⟨L, h1, by rw [e 7 _ (Or.inl rfl)]; exact h2, by rw [e2]; exact h3, fun z hz => by rw [e 55 _ (Or.inr (Or.inl rfl)), e 62 _ (Or.inr (Or.inr rfl))]; exact h4 z hz⟩
theorem HIS.of {μ μ' ν ν' : zM} {j : Nat} {S : zSt} {B C nx c : Nat} {Cf : Nat → Nat} (hS : okS S) (h : HIS μ ν j S B C nx c Cf) (e : ∀ i k x z, 2 ≤ i → isW i k x → μ'.1 k x z = μ.1 k x z) (e2 : ∀ i, 2 ≤ i → μ'.2.1 9 i 0 = μ.2.1 9 i 0) (e3 : ∀ z, μ'.1 2 0 z = μ.1 2 0 z) (e4 : ν'.1 11 0 14 = ν.1 11 0 14) (e5 : ∀ z, ν'.1 67 0 z = ν.1 67 0 z) (e6 : ∀ k z, 68 ≤ k → k ≤ 72 → z < C → ν'.1 k 0 z = ν.1 k 0 z) : HIS μ' ν' j S B C nx c Cf := by
  obtain ⟨h1, h2, h3, h4, h5, h6, h7, h8⟩ := h
  refine ⟨h1, h2, by rw [e3]; exact h3, by rw [e3]; exact h4, by rw [e4]; exact h5, h6, h7, fun u hu => ?_⟩
  obtain ⟨t, hd, now, g1, g2⟩ := h8 u hu
  refine ⟨t, hd, now, g1, ?_⟩
  have : (fun z => ν'.1 67 0 (1200 * u + z)) = (fun z => ν.1 67 0 (1200 * u + z)) := funext (fun z => e5 _)
  rw [this]
  have hc := h7 u hu
  exact (g2.nu (fun k z k1 k2 hz => e6 k z k1 k2 (by omega))).mu hS (fun k x z hw => e _ k x z (by omega) hw) (e2 _ (by omega))
theorem REL.out {μ μ' : zM} {c : Nat} {l : List Int32} (h : REL μ c) (o : OUT μ μ' l) : REL μ' c := by
  obtain ⟨j, S, D, lim, t, hd, C, now, nx, cn, Cf, h1, h2, h3, h4, h5, h6, h7, h8⟩ := h
  obtain ⟨-, -, o2, o3⟩ := o
  have ek : ∀ k i z, k ≠ 11 → k ≠ 73 → μ'.1 k i z = μ.1 k i z := fun k i z a b => o3 k i z (fun q => a q.1) (fun q => b q.1)
  have e11 : ∀ z, z ≠ 21 → μ'.1 11 0 z = μ.1 11 0 z := fun z hz => o3 _ _ _ (fun q => hz q.2.2) (fun q => absurd q.1 (by decide))
  have e65 : μ'.1 65 0 = μ.1 65 0 := funext (fun z => ek _ _ _ (by decide) (by decide))
  refine ⟨j, S, D, lim, t, hd, C, now, nx, cn, Cf, by rw [o2]; exact h1, h2, h3.of (fun k a s hk => ek _ _ _ (by unfold isS at hk; omega) (by unfold isS at hk; omega)) (fun z => ek _ _ _ (by decide) (by decide)), ?_, h5.of h3.1 (fun i k x z _ hw => ek _ _ _ (isW_lt hw).2.1 (by have := (isW_lt hw).2.2.1; omega)) (fun i _ => by rw [o2]) (fun z => ek _ _ _ (by decide) (by decide)) (e11 14 (by decide)) (fun z => ek _ _ _ (by decide) (by decide)) (fun k z k1 k2 _ => ek _ _ _ (by omega) (by omega)), h6.of (fun k z hk => ek _ _ _ (by omega) (by omega)) (e11 1 (by decide)), h7.of (fun k z hk => ek _ _ _ (by omega) (by omega)), by rw [ek _ _ _ (by decide) (by decide), e11 2 (by decide)]; exact h8⟩
  rw [e65]
  exact (h4.nu (fun k z k1 k2 _ => ek _ _ _ (by omega) (by omega))).mu h3.1 (fun k x z hw => ek _ _ _ (isW_lt hw).2.1 (by have := (isW_lt hw).2.2.1; omega)) (by rw [o2])
theorem pM_said {μ0 μ : zM} {l : List Int32} (o : OUT μ0 μ l) (hl : l.length ≤ 2400) (x : Int32) : tX11_said_0 x μ = some (some (.inl (zif (x < 0) (-1) (zif (x < nI l.length) (l.getD x.toNatClampNeg 0) (-2)))), μ) := by
  rw [eX11_said_0, o.1, eX11_said_27, eX11_said_27]
  by_cases a : x < 0
  · rw [zif_pos a, zif_pos a]
  · rw [zif_neg a, zif_neg a]
    by_cases b : x < nI l.length
    · obtain ⟨p, hp, rfl⟩ := nI_of a
      have hpl := (nI_ltI hp (by omega)).mp b
      rw [zif_pos b, zif_pos b, qI_in (zS_73 0) rfl (by omega) (by decide), Option.bind_some, eX11_said_27, nI_clamp hp, o.2.1 p hpl]
    · rw [zif_neg b, zif_neg b]
/-! the map -/
noncomputable def sgM (w : Nat → Int32) (p : Nat) : Int32 := zif (w (150 + p) = 0) (zif (w (90 + p) < 0) 46 120) (zif (w (90 + p) < 0) 111 (zif (w (210 + p) = 0) 97 (zif (w (210 + p) < 0) 98 (zif (w (270 + p) = 0) 99 100))))
theorem pM_map_step {μ0 μ : zM} {l : List Int32} {f p : Nat} (hp : p < 60) (o : OUT μ0 μ l) (hl : l.length < 2400) : ∀ a2, (a2 = (0 : Int32) ∧ μ.1 65 0 (90 + p) < 0) ∨ (a2 = 1 ∧ ¬ μ.1 65 0 (90 + p) < 0) → ∃ μ', tX11_saysMap_35 f (nI p) a2 μ = tX11_saysMap_7 f (nI (p + 1)) μ' ∧ OUT μ0 μ' (l ++ [sgM (μ.1 65 0) p]) := by
  intro a2 ha
  have e132 : ∀ m, tX11_saysMap_132 f (nI p) m = tX11_saysMap_7 f (nI (p + 1)) m := fun m => by rw [eX11_saysMap_132, eX11_saysMap_135, nI_1]
  obtain ⟨μ', e1, e2⟩ := o.says hl (sgM (μ.1 65 0) p)
  refine ⟨μ', ?_, e2⟩
  have efin : (zU (tX11_says_0 (sgM (μ.1 65 0) p) μ) fun m => tX11_saysMap_132 f (nI p) m) = tX11_saysMap_7 f (nI (p + 1)) μ' := by rw [e1, zU_some, e132]
  rw [← efin, eX11_saysMap_35, qI_in (zS_65 0) (a150 rfl) (by omega) (by decide), Option.bind_some, qI_in (zS_65 0) (a210 rfl) (by omega) (by decide), Option.bind_some, eX11_saysMap_60, eX11_saysMap_60, eX11_saysMap_90, eX11_saysMap_129, eX11_saysMap_129, eX11_saysMap_129, eX11_saysMap_129, qI_in (zS_65 0) (a270 rfl) (by omega) (by decide), Option.bind_some]
  unfold sgM
  have ha0 : a2 = 0 ↔ μ.1 65 0 (90 + p) < 0 := by
    rcases ha with ⟨h1, h2⟩ | ⟨h1, h2⟩
    · exact ⟨fun _ => h2, fun _ => h1⟩
    · exact ⟨fun z => by rw [h1] at z; exact absurd z one_ne0, fun z => absurd z h2⟩
  by_cases q1 : μ.1 65 0 (150 + p) = 0
  · rw [zif_pos q1, zif_pos q1]
    by_cases q2 : μ.1 65 0 (90 + p) < 0
    · rw [zif_pos q2, zif_pos (ha0.mpr q2)]
    · rw [zif_neg q2, zif_neg (fun z => q2 (ha0.mp z))]
  · rw [zif_neg q1, zif_neg q1]
    by_cases q2 : μ.1 65 0 (90 + p) < 0
    · rw [zif_pos q2, zif_pos (ha0.mpr q2)]
    · rw [zif_neg q2, zif_neg (fun z => q2 (ha0.mp z))]
      by_cases q3 : μ.1 65 0 (210 + p) = 0
      · rw [zif_pos q3, zif_pos q3]
      · rw [zif_neg q3, zif_neg q3]
        by_cases q4 : μ.1 65 0 (210 + p) < 0
        · rw [zif_pos q4, zif_pos q4]
        · rw [zif_neg q4, zif_neg q4]
          by_cases q5 : μ.1 65 0 (270 + p) = 0
          · rw [zif_pos q5, zif_pos q5]
          · rw [zif_neg q5, zif_neg q5]
theorem pM_map_loop {μ0 : zM} {n : Nat} (hn : μ0.1 63 0 0 = nI n) (hn6 : n ≤ 60) : ∀ (m p f : Nat) (μ : zM), p + m = n → m < f → OUT μ0 μ ((List.range p).map (sgM (μ0.1 65 0))) → ∃ μ', tX11_saysMap_7 f (nI p) μ = some (none, μ') ∧ OUT μ0 μ' ((List.range n).map (sgM (μ0.1 65 0)) ++ [10])
  | 0, p, f, μ, hp, hf, o => by
    obtain ⟨f, rfl⟩ : ∃ q, f = q + 1 := ⟨f - 1, by omega⟩
    have hpn : p = n := by omega
    subst hpn
    obtain ⟨μ', e1, e2⟩ := o.says (by simp; omega) 10
    refine ⟨μ', ?_, e2⟩
    rw [eX11_saysMap_7, qI_in (x := 0) (p := 0) (zS_63 0) rfl (by decide) (by decide), Option.bind_some, o.2.2.2 63 0 0 (by decide) (by decide), hn, zif_neg (nI_nlt (by omega) (by omega)), e1, zU_some]
  | m + 1, p, f, μ, hp, hf, o => by
    obtain ⟨f, rfl⟩ : ∃ q, f = q + 1 := ⟨f - 1, by omega⟩
    have e65 : μ.1 65 0 = μ0.1 65 0 := funext (fun z => o.2.2.2 65 0 z (by omega) (by omega))
    have hrec : ∀ a2, (a2 = (0 : Int32) ∧ μ.1 65 0 (90 + p) < 0) ∨ (a2 = 1 ∧ ¬ μ.1 65 0 (90 + p) < 0) → ∃ μ', tX11_saysMap_35 f (nI p) a2 μ = some (none, μ') ∧ OUT μ0 μ' ((List.range n).map (sgM (μ0.1 65 0)) ++ [10]) := by
      intro a2 ha
      obtain ⟨μ1, e1, o1⟩ := pM_map_step (f := f) (show p < 60 by omega) o (by simp; omega) a2 ha
      rw [e65] at o1
      have el : (List.range p).map (sgM (μ0.1 65 0)) ++ [sgM (μ0.1 65 0) p] = (List.range (p + 1)).map (sgM (μ0.1 65 0)) := by rw [List.range_succ, List.map_append]; rfl
      rw [el] at o1
      obtain ⟨μ', e2, o2⟩ := pM_map_loop hn hn6 m (p + 1) f μ1 (by omega) (by omega) o1
      exact ⟨μ', e1.trans e2, o2⟩
    rw [eX11_saysMap_7, qI_in (x := 0) (p := 0) (zS_63 0) rfl (by decide) (by decide), Option.bind_some, o.2.2.2 63 0 0 (by decide) (by decide), hn, zif_pos (nI_lt (by omega) (by omega)), qI_in (zS_65 0) (a90 rfl) (by omega) (by decide), Option.bind_some, eX11_saysMap_34, eX11_saysMap_34]
    by_cases q : μ.1 65 0 (90 + p) < 0
    · rw [zif_pos q]
      exact hrec 0 (Or.inl ⟨rfl, q⟩)
    · rw [zif_neg q]
      exact hrec 1 (Or.inr ⟨rfl, q⟩)
theorem pM_saysMap {μ : zM} {n : Nat} (hn : μ.1 63 0 0 = nI n) (hn6 : n ≤ 60) : ∃ μ', tX11_saysMap_0 μ = some (none, μ') ∧ OUT μ μ' ((List.range n).map (sgM (μ.1 65 0)) ++ [10]) := by
  rw [eX11_saysMap_0, zlet_eq]
  exact pM_map_loop hn hn6 n 0 zN (mS μ 11 0 21 0) (by omega) (by rw [zN_eq]; omega) (OUT.start μ)
section ASK
variable {μ : zM} {c : Nat}
theorem a_mapLength (h : REL μ c) : CALL tX10_mapLength_0 tX11_mapLength_0 μ (c + 1) := by
  obtain ⟨j, S, D, lim, t, hd, C, now, O, st, Q, ⟨hj, hj2⟩, hE, hR⟩ := h.un
  have hn6 := hE.1.2.1
  obtain ⟨μ', e1, o⟩ := pM_saysMap hE.2.2.2.2.1.1 hn6
  refine ⟨nI (sn S + 1), μ, μ', ?_, ?_, (h.out o).up (by omega)⟩
  · rw [eX10_mapLength_0, hj, zif_pos hj2, hE.2.2.1.2.1, nI_1]
  · rw [eX11_mapLength_0, e1, zU_some, o.1]
    simp
theorem pX9_signOf {i j : Nat} {S : zSt} {B t hd C now O : Nat} {st : Nat → Nat} {Q : Nat → List Nat} {w : Nat → Int32} (hS : okS S) (hR : RW μ μ i j S w B t hd C now O st Q) {p : Nat} (hp : p < sn S) : tX9_signOf_0 i (nI (zslot (sn S) t p)) μ = some (some (.inl (sgM w p)), μ) := by
  have hn3 := hS.1
  have hn6 := hS.2.1
  have hs : zslot (sn S) t p < 60 := by have := zslot_lt (n := sn S) (t := t) (p := p) (by omega); omega
  obtain ⟨h1, h2⟩ := hR.2.1 p hp
  have hrd := rd_cases h1
  have e15 : ∀ a2, (a2 = (0 : Int32) ∧ w (90 + p) < 0) ∨ (a2 = 1 ∧ ¬ w (90 + p) < 0) → tX9_signOf_15 i (nI (zslot (sn S) t p)) a2 μ = some (some (.inl (sgM w p)), μ) := by
    intro a2 ha
    have ha0 : a2 = 0 ↔ w (90 + p) < 0 := by
      rcases ha with ⟨h1, h2⟩ | ⟨h1, h2⟩
      · exact ⟨fun _ => h2, fun _ => h1⟩
      · exact ⟨fun z => by rw [h1] at z; exact absurd z one_ne0, fun z => absurd z h2⟩
    rw [eX9_signOf_15, pX4_has rfl hs, zI_some, qI_in (bel_40 i) rfl hs (by decide), Option.bind_some, Option.bind_some, qI_in (bel_42 i) rfl hs (by decide), Option.bind_some, eX9_signOf_37, eX9_signOf_37, eX9_signOf_95, eX9_signOf_95]
    unfold sgM
    rcases h2 with ⟨a1, a2'⟩ | ⟨a1, a2', a3, a4, a5, a6⟩
    · rw [zif_pos a1, zif_pos rfl, zif_pos a2']
      by_cases q : w (90 + p) < 0
      · rw [zif_pos q, zif_pos (ha0.mpr q)]
      · rw [zif_neg q, zif_neg (fun z => q (ha0.mp z))]
    · rw [zif_neg a1, zif_neg one_ne0, a3, zif_neg one_ne0, a4, a5.1]
      by_cases q : w (90 + p) < 0
      · rw [zif_pos q, zif_pos (ha0.mpr q)]
      · rw [zif_neg q, zif_neg (fun z => q (ha0.mp z))]
        by_cases q3 : μ.1 40 (2 * i) (zslot (sn S) t p) = 0
        · rw [zif_pos q3, zif_pos q3]
        · rw [zif_neg q3, zif_neg q3]
          have hm : μ.1 40 (2 * i) (zslot (sn S) t p) = -1 ↔ μ.1 40 (2 * i) (zslot (sn S) t p) < 0 := by
            rcases a2' with y | y | ⟨y, y1, y2, y3⟩
            · exact absurd y q3
            · rw [y]; exact ⟨fun _ => m1_lt, fun _ => rfl⟩
            · rw [y3]
              exact ⟨fun z => absurd z (fX_neg (by omega)), fun z => absurd z (nI_pos (by omega))⟩
          by_cases q4 : μ.1 40 (2 * i) (zslot (sn S) t p) < 0
          · rw [zif_pos q4, zif_pos (hm.mpr q4)]
          · rw [zif_neg q4, zif_neg (fun z => q4 (hm.mp z))]
            by_cases q5 : μ.1 42 (2 * i) (zslot (sn S) t p) = 0
            · rw [zif_pos q5, zif_pos q5]
            · rw [zif_neg q5, zif_neg q5]
  rw [eX9_signOf_0, qI_in (zS_58 i) rfl hs (by decide), Option.bind_some, eX9_signOf_14, eX9_signOf_14]
  by_cases q : w (90 + p) < 0
  · rw [zif_pos (hrd.mpr q)]
    exact e15 0 (Or.inl ⟨rfl, q⟩)
  · rw [zif_neg (fun z => q (hrd.mp z))]
    exact e15 1 (Or.inr ⟨rfl, q⟩)
theorem a_mapByte (h : REL μ c) (x : Int32) : CALL (tX10_mapByte_0 x) (tX11_mapByte_0 x) μ (c + 1) := by
  obtain ⟨j, S, D, lim, t, hd, C, now, O, st, Q, ⟨hj, hj2⟩, hE, hR⟩ := h.un
  have hn6 := hE.1.2.1
  obtain ⟨μ', e1, o⟩ := pM_saysMap hE.2.2.2.2.1.1 hn6
  have hlen : ((List.range (sn S)).map (sgM (μ.1 65 0)) ++ [10]).length = sn S + 1 := by simp
  have eM := pM_said o (by rw [hlen]; omega) x
  rw [hlen] at eM
  have eM2 : tX11_mapByte_0 x μ = some (some (.inl (zif (x < 0) (-1) (zif (x < nI (sn S + 1)) (((List.range (sn S)).map (sgM (μ.1 65 0)) ++ [10]).getD x.toNatClampNeg 0) (-2)))), μ') := by
    rw [eX11_mapByte_0, e1, zU_some, eM, zI_some]
  refine ⟨_, μ, μ', ?_, eM2, (h.out o).up (by omega)⟩
  rw [eX10_mapByte_0, hj, zif_pos hj2, hE.2.2.1.2.1, zif_pos hj2]
  by_cases a : x < 0
  · rw [zif_pos a, zif_pos a]
  · obtain ⟨p, hp, rfl⟩ := nI_of a
    rw [zif_neg a, zif_neg a, nI_clamp hp]
    by_cases b : p < sn S + 1
    · rw [zif_neg (nI_nlt (by omega) (by omega)), zif_pos (nI_lt b (by omega))]
      by_cases e : p = sn S
      · rw [zif_pos (by rw [e]), eX10_mapByte_51, e]
        simp [List.getD_eq_getElem?_getD]
      · obtain ⟨s1, s2⟩ := un_slot hE hR (show p < sn S by omega)
        rw [zif_neg (nI_ne hp (by omega) e), s1, zI_some, pX9_signOf hE.1 hR (show p < sn S by omega), zI_some, eX10_mapByte_51]
        have : p < sn S := by omega
        simp [List.getD_eq_getElem?_getD, List.getElem?_append_left, this]
    · rw [zif_pos (nI_lt (by omega) hp), zif_neg (nI_nlt (by omega) hp)]
theorem a_setupLength (h : REL μ c) : CALL tX10_setupLength_0 tX11_setupLength_0 μ (c + 1) := by
  obtain ⟨l, l1, l2, l3, l4⟩ : TXT μ := by
    obtain ⟨j, S, D, lim, t, hd, C, now, nx, cn, Cf, h1, h2, h3, h4, h5, h6, h7, h8⟩ := h
    exact h7
  obtain ⟨μ', e1, o⟩ := l4 μ rfl
  have o' : OUT μ μ' l := o
  refine ⟨nI l.length, μ, μ', ?_, ?_, (h.out o').up (by omega)⟩
  · rw [eX10_setupLength_0, l2]
  · rw [eX11_setupLength_0, e1, zU_some, o'.1]
theorem a_setupByte (h : REL μ c) (x : Int32) : CALL (tX10_setupByte_0 x) (tX11_setupByte_0 x) μ (c + 1) := by
  obtain ⟨l, l1, l2, l3, l4⟩ : TXT μ := by
    obtain ⟨j, S, D, lim, t, hd, C, now, nx, cn, Cf, h1, h2, h3, h4, h5, h6, h7, h8⟩ := h
    exact h7
  obtain ⟨μ', e1, o⟩ := l4 μ rfl
  have o' : OUT μ μ' l := o
  have eM := pM_said o' (by omega) x
  refine ⟨_, μ, μ', ?_, by rw [eX11_setupByte_0, e1, zU_some, eM, zI_some], (h.out o').up (by omega)⟩
  rw [eX10_setupByte_0, l2, eX10_setupByte_31]
  by_cases a : x < 0
  · rw [zif_pos a, zif_pos a]
  · obtain ⟨p, hp, rfl⟩ := nI_of a
    rw [zif_neg a, zif_neg a, nI_clamp hp]
    by_cases b : nI p < nI l.length
    · have hpl := (nI_ltI hp (by omega)).mp b
      rw [zif_pos b, zif_pos b, qB_in (N := 1024) (p := p) (show zS 56 0 = .inr (1, 1024, (0, 0)) from rfl) rfl (by omega) (by decide), Option.bind_some, eX10_setupByte_31, l3 p hpl]
    · rw [zif_neg b, zif_neg b]
end ASK
