theorem zslot_inj {n t p q : Nat} (ht : t < n) (hp : p < n) (hq : q < n) (h : zslot n t p = zslot n t q) : p = q := by
  unfold zslot at h
  have e : ∀ p, p < n → (p + n - t) % n = if p < t then p + n - t else p - t := by
    intro p hp
    by_cases a : p < t
    · rw [if_pos a, Nat.mod_eq_of_lt (by omega)]
    · rw [if_neg a, show p + n - t = (p - t) + n by omega, Nat.add_mod_right, Nat.mod_eq_of_lt (by omega)]
  rw [e p hp, e q hq] at h
  split at h <;> split at h <;> omega
theorem lb_ne2 {x : Int32} (h : isLb x) : ¬ x = -2 := by
  rcases h with rfl | rfl | ⟨q, h1, h2, rfl⟩
  · decide
  · decide
  · intro z
    have := nI_pos (n := q) (by omega)
    rw [z] at this
    exact this m2_lt
theorem stOf_le {S : zSt} (hS : okS S) (q : Nat) : stOf (ssrt S q) ≤ 7 := by
  have := hS.2.2.2.2.2.1 q
  unfold stOf
  split
  · omega
  · split <;> omega
theorem plOf_lt {S : zSt} (hS : okS S) {q : Nat} (hq : keeps S q) : plOf S q < 60 := by
  have h6 := hS.2.1
  obtain ⟨h1, h2, h3⟩ := hq
  have h7 := hS.2.2.2.2.2.1 q
  unfold plOf
  split
  · omega
  · next h =>
    have := (hS.2.2.2.2.2.2.2.2.2.1 q (by omega) (by omega)).1
    have := hS.2.2.2.2.2.2.2.1 (ssrt S q)
    omega
/-- the state and the place tell the position -/
theorem keep_inj {S : zSt} (hS : okS S) {q q' : Nat} (hq : keeps S q) (hq' : keeps S q') (h1 : stOf (ssrt S q) = stOf (ssrt S q')) (h2 : plOf S q = plOf S q') : q = q' := by
  obtain ⟨a1, a2, a3⟩ := hq
  obtain ⟨b1, b2, b3⟩ := hq'
  have a7 := hS.2.2.2.2.2.1 q
  have b7 := hS.2.2.2.2.2.1 q'
  have e : ssrt S q = ssrt S q' := by
    unfold stOf at h1
    split at h1 <;> split at h1 <;> (try split at h1) <;> (try split at h1) <;> omega
  unfold plOf at h2
  rw [e] at h2
  by_cases h : ssrt S q' = 7
  · rw [if_pos h, if_pos h] at h2; exact h2
  · rw [if_neg h, if_neg h] at h2
    have c1 := (hS.2.2.2.2.2.2.2.2.2.1 q (by omega) (by omega)).2
    have c2 := (hS.2.2.2.2.2.2.2.2.2.1 q' (by omega) (by omega)).2
    rw [e, h2, c2] at c1
    exact c1.symm
/-- what the reference's array holds when bag b has entered at q with a record -/
def entW (w w' : Nat → Int32) (b q : Nat) (lab clr pas : Int32) : Prop := w' (90 + q) = nI b ∧ w' (150 + q) = 1 ∧ w' (210 + q) = lab ∧ w' (270 + q) = clr ∧ w' (330 + q) = pas ∧ w' (400 + 8 * b) = 1 ∧ w' (400 + 8 * b + 1) = nI q ∧ w' (400 + 8 * b + 2) = w 2 ∧ w' 2 = w 2 + 1 ∧
  ∀ k, k ≠ 2 → k ≠ 90 + q → k ≠ 150 + q → k ≠ 210 + q → k ≠ 270 + q → k ≠ 330 + q → k ≠ 400 + 8 * b → k ≠ 400 + 8 * b + 1 → k ≠ 400 + 8 * b + 2 → w' k = w k
def stUp (st : Nat → Nat) (b s : Nat) : Nat → Nat := fun x => if x = b then s else st x
def quUp (Q : Nat → List Nat) (q : Nat) (l : List Nat) : Nat → List Nat := fun x => if x = q then l else Q x
set_option maxHeartbeats 2000000 in
theorem enter_RW {μ μ' ν : zM} {i j : Nat} {S : zSt} {w w' : Nat → Int32} {B t hd C now O : Nat} {st : Nat → Nat} {Q : Nat → List Nat} {q b : Nat} {l : List Nat} (hS : okS S) (h : RW μ ν i j S w B t hd C now O st Q) (hk : keeps S q) (hsq : ssrt S q = 1 ∨ ssrt S q = 7) (hQq : Q q = b :: l) (hcl : w (90 + q) < 0)
    (fr : FrW i μ μ') (x1 : QX μ' i q l) (x2 : ∀ q' l', q' ≠ q → QX μ i q' l' → QX μ' i q' l') (x3 : ∀ z, μ'.1 58 i z = upd (μ.1 58 i) (zslot (sn S) t q) (nI b) z) (x4 : ∀ z, μ'.1 26 i z = upd (μ.1 26 i) b 1 z) (x5 : ∀ z, μ'.1 27 i z = upd (μ.1 27 i) b (nI (zslot (sn S) t q)) z)
    (x6 : ∀ z, μ'.1 40 (2 * i) z = upd (μ.1 40 (2 * i)) (zslot (sn S) t q) (μ.1 40 (2 * i + 1) b) z) (x7 : ∀ z, μ'.1 41 (2 * i) z = upd (μ.1 41 (2 * i)) (zslot (sn S) t q) (μ.1 41 (2 * i + 1) b) z) (x8 : ∀ z, μ'.1 42 (2 * i) z = upd (μ.1 42 (2 * i)) (zslot (sn S) t q) (μ.1 42 (2 * i + 1) b) z)
    (x9 : ∀ z, z ≠ b → μ'.1 40 (2 * i + 1) z = μ.1 40 (2 * i + 1) z) (x10 : ∀ k z, k = 41 ∨ k = 42 → μ'.1 k (2 * i + 1) z = μ.1 k (2 * i + 1) z) (x11 : ∀ k z, k ≠ 58 → k ≠ 26 → k ≠ 27 → ¬ (36 ≤ k ∧ k ≤ 42) → μ'.1 k i z = μ.1 k i z)
    (hw : entW w w' b q (μ.1 40 (2 * i + 1) b) (μ.1 42 (2 * i + 1) b) (μ.1 41 (2 * i + 1) b)) : RW μ' ν i j S w' (B + 1) t hd C now (O + 1) (stUp st b 1) (quUp Q q l) := by
  obtain ⟨⟨h1, h2, h3, h4, h5, h6, h7, h8, h9, h10, h11, h12, h13⟩, hring, hcon, hbag, hlb, hque, ⟨hrd, hw6, hw4⟩, hO, hO2, hord⟩ := h
  have hn3 := hS.1
  have hn6 := hS.2.1
  have hqn : q < sn S := hk.1
  obtain ⟨w1, w2, w3, w4, w5, w6, w7, w8, w9, w10⟩ := hw
  obtain ⟨qa, qb, qc⟩ := hque q hk
  rw [hQq] at qa qb qc
  obtain ⟨hbC, hbin⟩ := (qb b).mp List.mem_cons_self
  have hb : b < 100 := by omega
  have hst7 := stOf_le hS q
  have hstb : st b = stOf (ssrt S q) := by
    have e1 := (hbag b hbC).2.2.1
    have e0 := (hbag b hbC).1
    exact (nI_eq (by omega) (by omega)).mp (e1.symm.trans hbin.1)
  have hst07 : st b = 0 ∨ st b = 7 := by
    rw [hstb]
    unfold stOf
    rcases hsq with e | e <;> rw [e] <;> simp
  have hlow : ∀ k, k ≠ 2 → k < 90 → w' k = w k := fun k a c => w10 k a (by omega) (by omega) (by omega) (by omega) (by omega) (by omega) (by omega) (by omega)
  have hbg : ∀ b' c, b' ≠ b → c < 8 → w' (400 + 8 * b' + c) = w (400 + 8 * b' + c) := fun b' c a c8 => w10 _ (by omega) (by omega) (by omega) (by omega) (by omega) (by omega) (by omega) (by omega) (by omega)
  have hbg0 : ∀ b', b' ≠ b → w' (400 + 8 * b') = w (400 + 8 * b') := fun b' a => hbg b' 0 a (by decide)
  have hrg : ∀ p, p < sn S → p ≠ q → w' (90 + p) = w (90 + p) := fun p a c => w10 _ (by omega) (by omega) (by omega) (by omega) (by omega) (by omega) (by omega) (by omega) (by omega)
  have hst' : ∀ b', b' ≠ b → stUp st b 1 b' = st b' := fun b' a => if_neg a
  have hstb' : stUp st b 1 b = 1 := if_pos rfl
  have hne1 : st b ≠ 1 := by omega
  have hheld := (hbag b hbC).2.2.2.2.2.2.1 (by omega)
  have hone : nI 1 = 1 := rfl
  refine ⟨⟨by rw [fr.1]; exact h1, h2, by rw [x11 9 2 (by decide) (by decide) (by decide) (by decide)]; exact h3, h4, by rw [x11 9 1 (by decide) (by decide) (by decide) (by decide)]; exact h5, by rw [hlow _ (by decide) (by decide)]; exact h6, h7, by rw [x11 9 3 (by decide) (by decide) (by decide) (by decide)]; exact h8, fun k hk => by rw [hlow _ (by omega) (by omega)]; exact h9 k hk, fun k hk => by rw [hlow _ (by omega) (by omega), x11 57 k (by decide) (by decide) (by decide) (by decide)]; exact h10 k hk, h11, by rw [x11 0 0 (by decide) (by decide) (by decide) (by decide)]; exact h12, by rw [hlow _ (by decide) (by decide)]; exact h13⟩, fun p hp => ?_, fun p hp r hr hpr => ?_, fun b' hb' => ?_, fun b' hb' => ?_, fun q' hq' => ?_, ⟨fun p hp => ?_, fun k hk => ?_, fun k hk => ?_⟩, by omega, ?_, fun b' hb' => ?_⟩
  · by_cases e : p = q
    · subst e
      rw [x3, x6, x7, x8, upd_at, upd_at, upd_at, upd_at, w1, w2, w3, w4, w5]
      exact ⟨Or.inr ⟨b, hb, rfl, rfl⟩, Or.inr ⟨lb_ne2 hheld.1, hheld.1, rfl, rfl, ⟨rfl, hheld.2.2.1.2⟩, rfl⟩⟩
    · have hz : zslot (sn S) t p ≠ zslot (sn S) t q := fun z => e (zslot_inj h2 hp hqn z)
      rw [x3, x6, x7, x8, upd_ne _ _ hz, upd_ne _ _ hz, upd_ne _ _ hz, upd_ne _ _ hz, hrg p hp e, w10 (150 + p) (by omega) (by omega) (by omega) (by omega) (by omega) (by omega) (by omega) (by omega) (by omega), w10 (210 + p) (by omega) (by omega) (by omega) (by omega) (by omega) (by omega) (by omega) (by omega) (by omega), w10 (270 + p) (by omega) (by omega) (by omega) (by omega) (by omega) (by omega) (by omega) (by omega) (by omega), w10 (330 + p) (by omega) (by omega) (by omega) (by omega) (by omega) (by omega) (by omega) (by omega) (by omega)]
      exact hring p hp
  · by_cases e : p = q
    · subst e
      rw [w1] at hpr
      have er : b = r := (nI_eq (by omega) (by omega)).mp hpr
      subst er
      exact ⟨hbC, hstb', w7⟩
    · rw [hrg p hp e] at hpr
      obtain ⟨c1, c2, c3⟩ := hcon p hp r hr hpr
      have hrb : r ≠ b := fun z => hne1 (by rw [← z]; exact c2)
      exact ⟨c1, by rw [hst' r hrb]; exact c2, by rw [hbg r 1 hrb (by decide)]; exact c3⟩
  · by_cases e : b' = b
    · subst e
      rw [hstb']
      refine ⟨by decide, by rw [x4, upd_at]; rfl, w6, fun _ => ⟨q, hqn, w7, by rw [x5, upd_at], w1⟩, fun z => by omega, fun z => absurd rfl z, fun z => by omega, fun z => by omega, fun z => by omega⟩
    · rw [hst' b' e]
      obtain ⟨g0, g1, g2, g3, g4, g5, g6, g7, g8⟩ := hbag b' hb'
      refine ⟨g0, by rw [x4, upd_ne _ _ e]; exact g1, by rw [hbg0 b' e]; exact g2, fun hs => ?_, fun hs => by rw [hbg b' 1 e (by decide)]; exact g4 hs, fun a1 a2 a3 => by rw [hbg b' 1 e (by decide), x5, upd_ne _ _ e]; exact g5 a1 a2 a3, fun hs => ?_, fun hs => ?_, fun hs => ?_⟩
      · obtain ⟨p, f1, f2, f3, f4⟩ := g3 hs
        have hpq : p ≠ q := fun z => by
          rw [z] at f4
          rw [f4] at hcl
          exact nI_pos (by omega) hcl
        exact ⟨p, f1, by rw [hbg b' 1 e (by decide)]; exact f2, by rw [x5, upd_ne _ _ e]; exact f3, by rw [hrg p f1 hpq]; exact f4⟩
      · rw [x9 b' e, x10 42 b' (by decide), x10 41 b' (by decide), hbg b' 3 e (by decide), hbg b' 4 e (by decide), hbg b' 5 e (by decide)]; exact g6 hs
      · rw [x9 b' e, x10 42 b' (by decide), x10 41 b' (by decide)]; exact g7 hs
      · rw [hbg b' 6 e (by decide), hbg b' 7 e (by decide), x11 28 b' (by decide) (by decide) (by decide) (by decide), x11 29 b' (by decide) (by decide) (by decide) (by decide)]; exact g8 hs
  · obtain ⟨f1, f2, f3⟩ := hlb b' hb'
    exact ⟨fun c hc => by rw [x11 (21 + c) b' (by omega) (by omega) (by omega) (by omega)]; exact f1 c hc, by rw [x11 21 b' (by decide) (by decide) (by decide) (by decide)]; exact f2, by rw [x11 23 b' (by decide) (by decide) (by decide) (by decide)]; exact f3⟩
  · have hbl : b ∉ l := (List.nodup_cons.mp qa.2.2.2.2.2).1
    have hin : ∀ b' x y, b' ≠ b → (inM w' x y b' ↔ inM w x y b') := fun b' x y e => by unfold inM; rw [hbg0 b' e, hbg b' 1 e (by decide)]
    have hst8 := stOf_le hS q'
    have hnb : ∀ y, ¬ inM w' (nI (stOf (ssrt S q'))) y b := fun y z => by
      have z1 := z.1
      rw [w6, ← hone] at z1
      exact stOf_ne1 hq' ((nI_eq (by decide) (by omega)).mp z1).symm
    by_cases e : q' = q
    · subst e
      rw [show quUp Q q' l q' = l from if_pos rfl]
      refine ⟨x1, fun b' => ?_, ?_⟩
      · by_cases eb : b' = b
        · subst eb
          exact ⟨fun z => absurd z hbl, fun z => absurd z.2 (hnb _)⟩
        · rw [hin b' _ _ eb, ← qb b']
          exact ⟨fun z => List.mem_cons_of_mem _ z, fun z => (List.mem_cons.mp z).resolve_left eb⟩
      · refine (List.pairwise_cons.mp qc).2.imp_of_mem (fun {a c} ha hc hac => ?_)
        have ha' : a ≠ b := fun z => hbl (by rw [← z]; exact ha)
        have hc' : c ≠ b := fun z => hbl (by rw [← z]; exact hc)
        unfold ordM at hac ⊢
        rw [hbg a 2 ha' (by decide), hbg c 2 hc' (by decide)]
        exact hac
    · rw [show quUp Q q l q' = Q q' from if_neg e]
      obtain ⟨ra, rb, rc⟩ := hque q' hq'
      have hbq' : b ∉ Q q' := fun z => by
        have z2 := ((rb b).mp z).2
        have e1 := (nI_eq (by omega) (by omega)).mp (hbin.1.symm.trans z2.1)
        have p1 := plOf_lt hS hk
        have p2 := plOf_lt hS hq'
        have e2 := (nI_eq (by omega) (by omega)).mp (hbin.2.symm.trans z2.2)
        exact e (keep_inj hS hk hq' e1 e2).symm
      refine ⟨x2 q' _ e ra, fun b' => ?_, ?_⟩
      · by_cases eb : b' = b
        · subst eb
          exact ⟨fun z => absurd z hbq', fun z => absurd z.2 (hnb _)⟩
        · rw [hin b' _ _ eb]
          exact rb b'
      · refine rc.imp_of_mem (fun {a c} ha hc hac => ?_)
        have ha' : a ≠ b := fun z => hbq' (by rw [← z]; exact ha)
        have hc' : c ≠ b := fun z => hbq' (by rw [← z]; exact hc)
        unfold ordM at hac ⊢
        rw [hbg a 2 ha' (by decide), hbg c 2 hc' (by decide)]
        exact hac
  · rw [x11 59 p (by decide) (by decide) (by decide) (by decide), hlow _ (by omega) (by omega)]; exact hrd p hp
  · have := hS.2.2.2.2.2.2.2.1 6
    rw [x11 60 _ (by decide) (by decide) (by decide) (by decide), hlow _ (by omega) (by omega)]; exact hw6 k hk
  · have := hS.2.2.2.2.2.2.2.1 4
    rw [x11 60 _ (by decide) (by decide) (by decide) (by decide), x11 61 _ (by decide) (by decide) (by decide) (by decide), hlow _ (by omega) (by omega), hlow _ (by omega) (by omega)]; exact hw4 k hk
  · rw [w9, hO2, nI_1]
  · by_cases e : b' = b
    · subst e
      exact ⟨O, by omega, by unfold ordM; rw [w8]; exact hO2⟩
    · obtain ⟨o, f1, f2⟩ := hord b' hb'
      refine ⟨o, by omega, ?_⟩
      unfold ordM at f2 ⊢
      rw [hbg b' 2 e (by decide)]
      exact f2
