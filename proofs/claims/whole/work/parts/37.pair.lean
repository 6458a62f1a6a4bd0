/-! ===== pairs: what both do, from a related pair of worlds ===== -/
def ENV (μ ν : zM) (j : Nat) (S : zSt) (D : zDv) (lim : Int32) : Prop := okS S ∧ okD S D ∧ SX μ j S D lim ∧ SXb μ j S ∧ SM (ν.1 63 0) S D lim ∧ FlM ν (sF S) (sT S)
def RQ (μ ν : zM) (i j : Nat) (S : zSt) (w : Nat → Int32) (B t hd C now : Nat) (G : Nat → Prop) : Prop := ∃ (O : Nat) (st : Nat → Nat) (Q : Nat → List Nat), RW μ ν i j S w B t hd C now O st Q ∧ ∀ b, G b → st b = 8 ∨ st b = 9
theorem RW.up {μ ν : zM} {i j : Nat} {S : zSt} {w : Nat → Int32} {B B' t hd C now O : Nat} {st : Nat → Nat} {Q : Nat → List Nat} (h : RW μ ν i j S w B t hd C now O st Q) (hB : B ≤ B') : RW μ ν i j S w B' t hd C now O st Q :=
  ⟨h.1, h.2.1, h.2.2.1, h.2.2.2.1, h.2.2.2.2.1, h.2.2.2.2.2.1, h.2.2.2.2.2.2.1, Nat.le_trans h.2.2.2.2.2.2.2.1 hB, h.2.2.2.2.2.2.2.2⟩
theorem RW.rq {μ ν : zM} {i j : Nat} {S : zSt} {w : Nat → Int32} {B B' t hd C now O : Nat} {st : Nat → Nat} {Q : Nat → List Nat} {G : Nat → Prop} (h : RW μ ν i j S w B t hd C now O st Q) (hB : B ≤ B') (hG : ∀ b, G b → st b = 8 ∨ st b = 9) : RQ μ ν i j S w B' t hd C now G := ⟨O, st, Q, h.up hB, hG⟩
/-- who is gone stays so -/
theorem gone_up {st : Nat → Nat} {G : Nat → Prop} {b s1 : Nat} (hG : ∀ b, G b → st b = 8 ∨ st b = 9) (h8 : st b ≠ 8) (h9 : st b ≠ 9) : ∀ x, G x → stUp st b s1 x = 8 ∨ stUp st b s1 x = 9 := by
  intro x hx
  have h := hG x hx
  have e : x ≠ b := fun z => by rw [z] at h; omega
  rw [show stUp st b s1 x = st x from if_neg e]
  exact h
theorem SX.fr {i j : Nat} {S : zSt} {D : zDv} {lim : Int32} {μ μ' : zM} (f : FrW i μ μ') (h : SX μ j S D lim) : SX μ' j S D lim := by
  have e : ∀ k a s, (k = 5 ∨ k = 1 ∨ (31 ≤ k ∧ k ≤ 34) ∨ (43 ≤ k ∧ k ≤ 54)) → μ'.1 k a s = μ.1 k a s := fun k a s hk => f.2 k a s (by unfold isW; omega)
  obtain ⟨h1, h2, h3, h4, ⟨h5, h6, h7⟩, h8, h9, h10, h11⟩ := h
  refine ⟨h1, by rw [e _ _ _ (by omega)]; exact h2, by rw [e _ _ _ (by omega)]; exact h3, by rw [e _ _ _ (by omega)]; exact h4, ⟨h5, by rw [e _ _ _ (by omega)]; exact h6, fun c g hc hg => by rw [e _ _ _ (by omega)]; exact h7 c g hc hg⟩, fun p hp => by rw [e _ _ _ (by omega)]; exact h8 p hp, fun s a b => by rw [e _ _ _ (by omega)]; exact h9 s a b, fun s k a b c => by rw [e _ _ _ (by omega), e _ _ _ (by omega)]; exact h10 s k a b c, fun s k a b c => ?_⟩
  obtain ⟨g1, g2, g3, g4, g5⟩ := h11 s k a b c
  exact ⟨by rw [e _ _ _ (by omega)]; exact g1, by rw [e _ _ _ (by omega)]; exact g2, fun z l l1 l2 => by rw [e _ _ _ (by omega)]; exact g3 z l l1 l2, fun z => by rw [e _ _ _ (by omega)]; exact g4 z, fun z => by rw [e _ _ _ (by omega)]; exact g5 z⟩
theorem SXb.fr {i j : Nat} {S : zSt} {μ μ' : zM} (f : FrW i μ μ') (h : SXb μ j S) : SXb μ' j S :=
  ⟨by rw [f.2 5 j 15 (by unfold isW; omega)]; exact h.1, fun k p hp => by rw [f.2 52 j k (by unfold isW; omega)]; exact h.2 k p hp⟩
theorem ENV.fr {i j : Nat} {S : zSt} {D : zDv} {lim : Int32} {μ μ' ν : zM} (f : FrW i μ μ') (h : ENV μ ν j S D lim) : ENV μ' ν j S D lim := ⟨h.1, h.2.1, h.2.2.1.fr f, h.2.2.2.1.fr f, h.2.2.2.2⟩
theorem FlM.mW {ν : zM} {w : Nat → Int32} {F : Nat} {T : Nat → Nat → Int32} (h : FlM ν F T) : FlM (mW ν w) F T := ⟨h.1, by rw [mW_k _ _ _ _ _ (by decide)]; exact h.2.1, fun c f a b => by rw [mW_k _ _ _ _ _ (by decide)]; exact h.2.2 c f a b⟩
/-- both go through, the relation holds behind -/
def Pair (X M : zM → Option (Option zV × zM)) (μ ν : zM) (i j : Nat) (S : zSt) (w : Nat → Int32) (B t hd C now : Nat) (G : Nat → Prop) : Prop := ∃ μ' w', X μ = some (none, μ') ∧ M (mW ν w) = some (none, mW ν w') ∧ FrW i μ μ' ∧ RQ μ' ν i j S w' B t hd C now G
theorem pM_firstInW {ν : zM} {w : Nat → Int32} {C : Nat} (hC : w 1 = nI C) (hC1 : C ≤ 100) (x y : Int32) {l : List Nat} (hs : byOrd w l) (hl : ∀ b, b ∈ l ↔ b < C ∧ inM w x y b) : tX11_firstIn_0 x y (mW ν w) = some (some (.inl (oN (-2) id l.head?)), mW ν w) :=
  pM_firstIn (by rw [mW_65]; exact hC) hC1 x y (by rw [mW_65]; exact hs) (fun b => by rw [mW_65]; exact hl b)
theorem pM_manyInW {ν : zM} {w : Nat → Int32} {C : Nat} (hC : w 1 = nI C) (hC1 : C ≤ 100) (x y : Int32) {l : List Nat} (hn : l.Nodup) (hl : ∀ b, b ∈ l ↔ b < C ∧ inM w x y b) : tX11_manyIn_0 x y (mW ν w) = some (some (.inl (nI l.length)), mW ν w) :=
  pM_manyIn (by rw [mW_65]; exact hC) hC1 x y hn (fun b => by rw [mW_65]; exact hl b)
theorem pM_ofBagW {ν : zM} {w : Nat → Int32} {b c : Nat} {x y : Int32} (hx : x = nI b) (hb : b < 100) (hy : y = nI c) (hc : c < 8) : tX11_ofBag_0 x y (mW ν w) = some (some (.inl (w (400 + 8 * b + c))), mW ν w) := by rw [pM_ofBag hx hb hy hc, mW_65]
theorem qU {ν : zM} {w : Nat → Int32} {p : Nat} {x : Int32} (hx : x = nI p) (hp : p < 400) : qI (mW ν w) (63, 0) x = some (ν.1 63 0 p) := by rw [qI_in (zS_63 0) hx hp (by decide), mW_k _ _ _ _ _ (by decide)]
theorem pM_properOfW {ν : zM} {w : Nat → Int32} {F b : Nat} {T : Nat → Nat → Int32} {x : Int32} (h : FlM ν F T) (hT : FlT F T) (hx : x = nI b) (hb : b < 100) (ha : isLb (ν.1 68 0 b)) (hc : isLb (ν.1 70 0 b)) : tX11_properOf_0 x (mW ν w) = some (some (.inl ((lbUse T F (w 0) (ν.1 68 0 b) (ν.1 70 0 b)).getD (-2))), mW ν w) := by
  rw [pM_properOf h.mW hT hx hb (by rw [mW_k _ _ _ _ _ (by decide)]; exact ha) (by rw [mW_k _ _ _ _ _ (by decide)]; exact hc), mW_65, mW_k _ _ _ _ _ (by decide), mW_k _ _ _ _ _ (by decide)]
theorem pM_destW {ν : zM} {w : Nat → Int32} {F p : Nat} {T : Nat → Nat → Int32} {x : Int32} (h : FlM ν F T) (hT : FlT F T) (hx : x = nI p) (hp : p < 60) (hl : isLb (w (210 + p))) : tX11_destinationAt_0 x (mW ν w) = some (some (.inl (zgoal T F (ν.1 63 0 3) (w 0) (w (210 + p)) (w (270 + p)) (w (330 + p)))), mW ν w) := by
  rw [pM_destinationAt h.mW hT hx hp (by rw [mW_65]; exact hl), mW_65, mW_k _ _ _ _ _ (by decide)]
theorem pM_readOfW {ν : zM} {w : Nat → Int32} {F b hd : Nat} {T : Nat → Nat → Int32} {x : Int32} (h : FlM ν F T) (hT : FlT F T) (hh : hd < 16 ∧ ∀ h, h < 4 → w (11 + h) = nI (hd / 2 ^ h % 2)) (hx : x = nI b) (hb : b < 100) (h1 : isLb (ν.1 68 0 b)) (h2 : isLb (ν.1 70 0 b)) : tX11_readOf_0 x (mW ν w) = some (some (.inl (zcode T F (zseen (nI hd) (ν.1 69 0 b) (ν.1 68 0 b)) (zseen (nI hd) (ν.1 71 0 b) (ν.1 70 0 b)))), mW ν w) := by
  rw [pM_readOf (hd := hd) h.mW hT ⟨hh.1, fun h hh4 => by rw [mW_65]; exact hh.2 h hh4⟩ hx hb (by rw [mW_k _ _ _ _ _ (by decide)]; exact h1) (by rw [mW_k _ _ _ _ _ (by decide)]; exact h2), mW_k _ _ _ _ _ (by decide), mW_k _ _ _ _ _ (by decide), mW_k _ _ _ _ _ (by decide), mW_k _ _ _ _ _ (by decide)]
/-- the number of a device that the reference's setup holds -/
theorem pM_ofDevice {ν : zM} {w : Nat → Int32} {s k c d : Nat} {x y z v : Int32} (hx : x = nI s) (hy : y = nI k) (hz : z = nI c) (hs : s ≤ 6) (hk : k < 6) (hc : c < 8) (hd : d < 18) (h1 : ν.1 63 0 (340 + 6 * s + k) = nI d) (h2 : ν.1 63 0 (140 + 8 * d + c) = v) : tX11_ofDevice_0 x y z (mW ν w) = some (some (.inl v), mW ν w) := by
  have e1 : (340 + (6 * x)) + y = nI (340 + 6 * s + k) := by rw [hx, hy, show (6 : Int32) = nI 6 from rfl, show (340 : Int32) = nI 340 from rfl, pk_mul, nI_add, nI_add]
  have e2 : (140 + (8 * nI d)) + z = nI (140 + 8 * d + c) := by rw [hz, show (8 : Int32) = nI 8 from rfl, show (140 : Int32) = nI 140 from rfl, pk_mul, nI_add, nI_add]
  rw [eX11_ofDevice_0, qU e1 (by omega), Option.bind_some, h1, qU e2 (by omega), Option.bind_some, h2]
/-! ===== inlets and exits ===== -/
theorem rd_cases {a b : Int32} (h : rdR a b) : (a < 0 ↔ b < 0) := by
  rcases h with ⟨rfl, rfl⟩ | ⟨r, hr, rfl, rfl⟩
  · exact ⟨fun _ => m2_lt, fun _ => m1_lt⟩
  · exact Iff.rfl
theorem rc_cases {l c q f l' c' q' : Int32} (h : rcR l c q f l' c' q') : (l = -2 ↔ f = 0) ∧ (f = 0 ∨ f = 1) := by
  rcases h with ⟨h1, h2⟩ | ⟨h1, _, h2, _⟩
  · exact ⟨⟨fun _ => h2, fun _ => h1⟩, Or.inl h2⟩
  · refine ⟨⟨fun z => absurd z h1, fun z => ?_⟩, Or.inr h2⟩
    rw [h2] at z
    exact absurd z one_ne0
theorem len100 {l : List Nat} (h1 : l.Nodup) (h2 : ∀ a, a ∈ l → a < 100) : l.length ≤ 100 := by
  have h := cntP_list (fun b => b ∈ l) 100 l h1 (fun b => ⟨fun z => ⟨h2 b z, z⟩, fun z => z.2⟩)
  have h3 := cntP_le (fun b => b ∈ l) 100
  omega
