/-! ===== the relation of one memory: the class and the reference side by side ===== -/
theorem RW.nu {μ ν ν' : zM} {i j : Nat} {S : zSt} {w : Nat → Int32} {B t hd C now O : Nat} {st : Nat → Nat} {Q : Nat → List Nat} (h : RW μ ν i j S w B t hd C now O st Q) (e : ∀ k z, 68 ≤ k → k ≤ 72 → z < C → ν'.1 k 0 z = ν.1 k 0 z) : RW μ ν' i j S w B t hd C now O st Q :=
  ⟨h.1, h.2.1, h.2.2.1, h.2.2.2.1, fun b hb => ⟨fun c hc => ((h.2.2.2.2.1 b hb).1 c hc).trans (e (68 + c) b (by omega) (by omega) hb).symm, (h.2.2.2.2.1 b hb).2⟩, h.2.2.2.2.2⟩
theorem RQ.nu {μ ν ν' : zM} {i j : Nat} {S : zSt} {w : Nat → Int32} {B t hd C now : Nat} {G : Nat → Prop} (h : RQ μ ν i j S w B t hd C now G) (e : ∀ k z, 68 ≤ k → k ≤ 72 → z < C → ν'.1 k 0 z = ν.1 k 0 z) : RQ μ ν' i j S w B t hd C now G := h.elim fun O z => z.elim fun st z => z.elim fun Q z => ⟨O, st, Q, z.1.nu e, z.2⟩
theorem RQ.cp {μ μ' ν : zM} {a b j : Nat} {S : zSt} {w : Nat → Int32} {B t hd C now : Nat} {G : Nat → Prop} (hS : okS S) (h : RQ μ ν b j S w B t hd C now G) (c : cpR μ μ' a b) : RQ μ' ν a j S w B t hd C now G := h.elim fun O z => z.elim fun st z => z.elim fun Q z => ⟨O, st, Q, z.1.cp hS c, z.2⟩
theorem cpR_same {μ μ' : zM} {i : Nat} (h : ∀ k x z, isW i k x → μ'.1 k x z = μ.1 k x z) (h2 : μ'.2.1 9 i 0 = μ.2.1 9 i 0) : cpR μ μ' i i := by
  refine ⟨h2, h _ _ _ ?_, fun z _ _ => h _ _ _ ?_, fun z _ => h _ _ _ ?_, fun k z hk _ => h _ _ _ ?_, fun k z hk _ => h _ _ _ ?_, fun k z k1 k2 _ => h _ _ _ ?_, fun k z k1 k2 _ => h _ _ _ ?_⟩ <;> unfold isW <;> omega
/-- the class's other worlds stay -/
theorem RQ.mu {μ μ' ν : zM} {i j : Nat} {S : zSt} {w : Nat → Int32} {B t hd C now : Nat} {G : Nat → Prop} (hS : okS S) (h : RQ μ ν i j S w B t hd C now G) (e : ∀ k x z, isW i k x → μ'.1 k x z = μ.1 k x z) (e2 : μ'.2.1 9 i 0 = μ.2.1 9 i 0) : RQ μ' ν i j S w B t hd C now G := h.cp hS (cpR_same e e2)
theorem isW_ne {a i k x : Nat} (h : isW i k x) (hne : i ≠ a) : ¬ isW a k x := by
  unfold isW at *
  omega
theorem isW_lt {i k x : Nat} (h : isW i k x) : k ≠ 10 ∧ k ≠ 11 ∧ k < 62 ∧ k ≠ 5 ∧ k ≠ 1 ∧ k ≠ 2 ∧ k ≠ 7 ∧ k ≠ 8 ∧ ¬ (43 ≤ k ∧ k ≤ 56) ∧ ¬ (31 ≤ k ∧ k ≤ 34) := by
  unfold isW at h
  omega
/-- the cells of the class's setups -/
def isS (k : Nat) : Prop := k = 5 ∨ k = 1 ∨ (31 ≤ k ∧ k ≤ 34) ∨ (43 ≤ k ∧ k ≤ 54)
theorem SX.of {j : Nat} {S : zSt} {D : zDv} {lim : Int32} {μ μ' : zM} (e : ∀ k a s, isS k → μ'.1 k a s = μ.1 k a s) (h : SX μ j S D lim) : SX μ' j S D lim := by
  have e : ∀ k a s, (k = 5 ∨ k = 1 ∨ (31 ≤ k ∧ k ≤ 34) ∨ (43 ≤ k ∧ k ≤ 54)) → μ'.1 k a s = μ.1 k a s := e
  obtain ⟨h1, h2, h3, h4, ⟨h5, h6, h7⟩, h8, h9, h10, h11⟩ := h
  refine ⟨h1, by rw [e _ _ _ (by omega)]; exact h2, by rw [e _ _ _ (by omega)]; exact h3, by rw [e _ _ _ (by omega)]; exact h4, ⟨h5, by rw [e _ _ _ (by omega)]; exact h6, fun c g hc hg => by rw [e _ _ _ (by omega)]; exact h7 c g hc hg⟩, fun p hp => by rw [e _ _ _ (by omega)]; exact h8 p hp, fun s a b => by rw [e _ _ _ (by omega)]; exact h9 s a b, fun s k a b c => by rw [e _ _ _ (by omega), e _ _ _ (by omega)]; exact h10 s k a b c, fun s k a b c => ?_⟩
  obtain ⟨g1, g2, g3, g4, g5⟩ := h11 s k a b c
  exact ⟨by rw [e _ _ _ (by omega)]; exact g1, by rw [e _ _ _ (by omega)]; exact g2, fun z l l1 l2 => by rw [e _ _ _ (by omega)]; exact g3 z l l1 l2, fun z => by rw [e _ _ _ (by omega)]; exact g4 z, fun z => by rw [e _ _ _ (by omega)]; exact g5 z⟩
theorem ENV.of {μ μ' ν ν' : zM} {j : Nat} {S : zSt} {D : zDv} {lim : Int32} (h : ENV μ ν j S D lim) (e : ∀ k a s, isS k → μ'.1 k a s = μ.1 k a s) (e2 : ∀ z, ν'.1 63 0 z = ν.1 63 0 z) : ENV μ' ν' j S D lim := by
  have e3 : ν'.1 63 0 = ν.1 63 0 := funext e2
  refine ⟨h.1, h.2.1, h.2.2.1.of e, ⟨by rw [e _ _ _ (Or.inl rfl)]; exact h.2.2.2.1.1, fun k p hp => by rw [e _ _ _ (Or.inr (Or.inr (Or.inr ⟨by decide, by decide⟩)))]; exact h.2.2.2.1.2 k p hp⟩, by rw [e3]; exact h.2.2.2.2.1, ⟨h.2.2.2.2.2.1, by rw [e2]; exact h.2.2.2.2.2.2.1, fun c f hc hf => by rw [e2]; exact h.2.2.2.2.2.2.2 c f hc hf⟩⟩
/-- the text of a setup, as the reference says it -/
def sayR (u : Nat → Int32) (l : List Int32) : Prop := ∀ ν : zM, ν.1 63 0 = u → ∃ ν', tX11_saysSetup_0 ν = some (none, ν') ∧ ν'.1 11 0 21 = nI l.length ∧ (∀ z, z < l.length → ν'.1 73 0 z = l.getD z 0) ∧ ν'.2 = ν.2 ∧ ∀ k i z, ¬ (k = 11 ∧ i = 0 ∧ z = 21) → ¬ (k = 73 ∧ i = 0) → ν'.1 k i z = ν.1 k i z
def TXT (μ : zM) : Prop := ∃ l : List Int32, l.length ≤ 1024 ∧ μ.1 8 0 1 = nI l.length ∧ (∀ z, z < l.length → μ.1 56 0 z = l.getD z 0) ∧ sayR (μ.1 63 0) l
/-- the tape -/
def TAP (μ : zM) : Prop := ∃ L, L ≤ 900 ∧ μ.1 7 0 1 = nI L ∧ μ.1 11 0 1 = nI L ∧ ∀ z, z < L → μ.1 55 0 z = μ.1 62 0 z ∧ (μ.1 62 0 z).toInt8.toInt32 = μ.1 62 0 z
/-- what undo goes back to -/
def HIS (μ ν : zM) (j : Nat) (S : zSt) (B C nx c : Nat) (Cf : Nat → Nat) : Prop := nx < 10 ∧ c ≤ 10 ∧ μ.1 2 0 1 = nI nx ∧ μ.1 2 0 2 = nI c ∧ ν.1 11 0 14 = nI c ∧ (∀ u u', u ≤ u' → u' < c → Cf u ≤ Cf u') ∧ (∀ u, u < c → Cf u ≤ C) ∧
  ∀ u, u < c → ∃ t hd now, now ≤ 100000 ∧ RQ μ ν (2 + (nx + 10 - c + u) % 10) j S (fun z => ν.1 67 0 (1200 * u + z)) B t hd (Cf u) now (fun _ => False)
def REL (μ : zM) (c : Nat) : Prop := ∃ (j : Nat) (S : zSt) (D : zDv) (lim : Int32) (t hd C now nx cn : Nat) (Cf : Nat → Nat), (μ.2.1 10 0 6 = j ∧ j < 2 ∧ μ.2.1 10 0 7 = 1 - j) ∧ now ≤ 100000 ∧ ENV μ μ j S D lim ∧ RQ μ μ 0 j S (μ.1 65 0) (30000 * c) t hd C now (fun _ => False) ∧ HIS μ μ j S (30000 * c) C nx cn Cf ∧ TAP μ ∧ TXT μ ∧ μ.1 10 0 8 = μ.1 11 0 2
theorem HIS.up {μ ν : zM} {j : Nat} {S : zSt} {B B' C nx c : Nat} {Cf : Nat → Nat} (h : HIS μ ν j S B C nx c Cf) (hB : B ≤ B') : HIS μ ν j S B' C nx c Cf := ⟨h.1, h.2.1, h.2.2.1, h.2.2.2.1, h.2.2.2.2.1, h.2.2.2.2.2.1, h.2.2.2.2.2.2.1, fun u hu => (h.2.2.2.2.2.2.2 u hu).elim fun t z => z.elim fun hd z => z.elim fun now z => ⟨t, hd, now, z.1, z.2.up hB⟩⟩
theorem REL.up {μ : zM} {c c' : Nat} (h : REL μ c) (hc : c ≤ c') : REL μ c' := by
  obtain ⟨j, S, D, lim, t, hd, C, now, nx, cn, Cf, h1, h2, h3, h4, h5, h6⟩ := h
  exact ⟨j, S, D, lim, t, hd, C, now, nx, cn, Cf, h1, h2, h3, h4.up (by omega), h5.up (by omega), h6⟩
/-- a call: both answer alike, and the relation holds behind -/
def CALL (X M : zM → Option (Option zV × zM)) (μ : zM) (c : Nat) : Prop := ∃ v μ1 μ2, X μ = some (some (.inl v), μ1) ∧ M μ1 = some (some (.inl v), μ2) ∧ REL μ2 c
/-- a question: nothing changes -/
theorem CALL.ask {X M : zM → Option (Option zV × zM)} {μ : zM} {c : Nat} {v : Int32} (h : REL μ c) (h1 : X μ = some (some (.inl v), μ)) (h2 : M μ = some (some (.inl v), μ)) : CALL X M μ (c + 1) := ⟨v, μ, μ, h1, h2, h.up (by omega)⟩
/-! ranges, as the reference has them (in longs) -/
theorem i64_lt (a b : Int32) : a.toInt64 < b.toInt64 ↔ a < b := by
  rw [Int64.lt_iff_toInt_lt, Int32.lt_iff_toInt_lt, Int32.toInt_toInt64, Int32.toInt_toInt64]
theorem i64_eq (a b : Int32) : a.toInt64 = b.toInt64 ↔ a = b := by
  rw [← Int64.toInt_inj, ← Int32.toInt_inj, Int32.toInt_toInt64, Int32.toInt_toInt64]
theorem lgc_neg (a b : Int64) : lg_cmp a b < 0 ↔ a < b := by
  unfold lg_cmp
  by_cases h : a > b
  · rw [if_pos h]
    refine ⟨fun z => absurd z (by decide), fun z => ?_⟩
    have h' : b < a := h
    rw [Int64.lt_iff_toInt_lt] at h' z
    omega
  · rw [if_neg h]
    by_cases e : a = b
    · rw [if_pos e, e]
      refine ⟨fun z => absurd z (by decide), fun z => ?_⟩
      rw [Int64.lt_iff_toInt_lt] at z
      omega
    · rw [if_neg e]
      refine ⟨fun _ => ?_, fun _ => m1_lt⟩
      have h' : ¬ b < a := h
      rw [Int64.lt_iff_toInt_lt] at h' ⊢
      have e' : ¬ a.toInt = b.toInt := fun z => e (Int64.toInt_inj.mp z)
      omega
theorem lgc_pos (a b : Int64) : 0 < lg_cmp a b ↔ b < a := by
  unfold lg_cmp
  by_cases h : a > b
  · rw [if_pos h]
    exact ⟨fun _ => h, fun _ => by decide⟩
  · rw [if_neg h]
    by_cases e : a = b
    · rw [if_pos e]
      exact ⟨fun z => absurd z (by decide), fun z => absurd z h⟩
    · rw [if_neg e]
      exact ⟨fun z => absurd z (by decide), fun z => absurd z h⟩
theorem pM_in {μ : zM} {a lo hi : Int32} {x y z : Int64} (hx : x = a.toInt64) (hy : y = lo.toInt64) (hz : z = hi.toInt64) : tX11_in_0 x y z μ = some (some (.inl (zif (a < lo ∨ hi < a) 0 1)), μ) := by
  subst hx; subst hy; subst hz
  rw [eX11_in_0, eX11_in_17, eX11_in_18, eX11_in_18, zif_pos nar_0, zif_pos nar_1, lgc_neg, lgc_pos, i64_lt, i64_lt]
  by_cases h1 : a < lo
  · rw [zif_pos h1, zif_pos (Or.inl h1)]
  · rw [zif_neg h1]
    by_cases h2 : hi < a
    · rw [zif_pos h2, zif_pos (Or.inr h2)]
    · rw [zif_neg h2, zif_neg (fun z => z.elim h1 h2)]
/-- an index below n, or not -/
theorem ix_of (x : Int32) {n : Nat} (hn : n < 2 ^ 31) : (∃ p, p < n ∧ x = nI p) ∨ (x < 0 ∨ ¬ x < nI n) := by
  by_cases h : x < 0
  · exact Or.inr (Or.inl h)
  · obtain ⟨p, hp, e⟩ := nI_of h
    by_cases h2 : p < n
    · exact Or.inl ⟨p, h2, e⟩
    · refine Or.inr (Or.inr ?_)
      rw [e]
      exact nI_nlt (by omega) hp
theorem in_pred {x : Int32} {n : Nat} (hn : n < 2 ^ 31) : (x < 0 ∨ nI n - 1 < x) ↔ (x < 0 ∨ ¬ x < nI n) := by
  by_cases h : x < 0
  · exact ⟨fun _ => Or.inl h, fun _ => Or.inl h⟩
  · obtain ⟨p, hp, rfl⟩ := nI_of h
    have e : nI n - 1 < nI p ↔ ¬ nI p < nI n := by
      cases n with
      | zero =>
        refine ⟨fun _ => nI_nlt (by omega) hp, fun _ => ?_⟩
        have : (nI 0 - 1 : Int32) = -1 := by decide
        rw [this]
        rw [Int32.lt_iff_toInt_lt, nI_toInt hp]
        have : (-1 : Int32).toInt = -1 := by decide
        omega
      | succ n =>
        rw [nI_pred, nI_ltI (by omega) hp, nI_ltI hp hn]
        omega
    rw [e]
