/-! ===== a tick begins: the tick counts, the ring turns ===== -/
theorem QX_congr {μ μ' : zM} {i q : Nat} {l : List Nat} (h : ∀ k s, 36 ≤ k → k ≤ 39 → μ'.1 k i s = μ.1 k i s) (hq : QX μ i q l) : QX μ' i q l := by
  obtain ⟨g1, g2, g3, g4, g5, g6⟩ := hq
  exact ⟨(h 36 q (by decide) (by decide)).trans g1, (h 37 q (by decide) (by decide)).trans g2, (h 38 q (by decide) (by decide)).trans g3, chn_congr (fun a _ => h 39 a (by decide) (by decide)) g4, g5, g6⟩
theorem back_inj {n p q : Nat} (hp : p < n) (hq : q < n) (h : (p + n - 1) % n = (q + n - 1) % n) : p = q := by
  by_cases hp0 : p = 0
  · by_cases hq0 : q = 0
    · omega
    · rw [hp0, Nat.mod_eq_of_lt (by omega), show q + n - 1 = (q - 1) + n by omega, Nat.add_mod_right, Nat.mod_eq_of_lt (by omega)] at h
      omega
  · by_cases hq0 : q = 0
    · rw [hq0, show p + n - 1 = (p - 1) + n by omega, Nat.add_mod_right, Nat.mod_eq_of_lt (show p - 1 < n by omega), Nat.mod_eq_of_lt (by omega)] at h
      omega
    · rw [show p + n - 1 = (p - 1) + n by omega, show q + n - 1 = (q - 1) + n by omega, Nat.add_mod_right, Nat.add_mod_right, Nat.mod_eq_of_lt (by omega), Nat.mod_eq_of_lt (by omega)] at h
      omega
theorem back_fwd {n p : Nat} (hp : p < n) : ((p + 1) % n + n - 1) % n = p := by
  by_cases h : p + 1 < n
  · rw [Nat.mod_eq_of_lt h, show p + 1 + n - 1 = p + n by omega, Nat.add_mod_right, Nat.mod_eq_of_lt hp]
  · rw [show p + 1 = n by omega, Nat.mod_self, show 0 + n - 1 = p by omega, Nat.mod_eq_of_lt hp]
theorem stOf_ne1 {S : zSt} {q : Nat} (hq : keeps S q) : stOf (ssrt S q) ≠ 1 := by
  obtain ⟨h1, h2, h3⟩ := hq
  unfold stOf
  split
  · decide
  · split
    · decide
    · assumption
set_option maxHeartbeats 1000000 in
theorem turn_RW {μ ν : zM} {i j : Nat} {S : zSt} {w : Nat → Int32} {B t hd C now O : Nat} {st : Nat → Nat} {Q : Nat → List Nat} (hS : okS S) (h : RW μ ν i j S w B t hd C now O st Q) (hnow : now < 101000) :
    RW (mS (mS μ 9 i 1 (nI (now + 1))) 9 i 2 (nI ((t + 1) % sn S))) ν i j S (mvF (rot5 (upd w 0 (nI (now + 1))) (sn S)) (sn S)) B ((t + 1) % sn S) hd C (now + 1) O st Q := by
  obtain ⟨⟨h1, h2, h3, h4, h5, h6, h7, h8, h9, h10, h11, h12, h13⟩, hring, hcon, hbag, hlb, hque, ⟨hrd, hw6, hw4⟩, hO, hO2, hord⟩ := h
  have hn3 := hS.1
  have hn6 := hS.2.1
  unfold RW
  generalize hn : sn S = n at *
  generalize hw' : mvF (rot5 (upd w 0 (nI (now + 1))) n) n = w'
  generalize hμ' : mS (mS μ 9 i 1 (nI (now + 1))) 9 i 2 (nI ((t + 1) % n)) = μ'
  have ek : ∀ k a s, k ≠ 9 → μ'.1 k a s = μ.1 k a s := fun k a s hk => by rw [← hμ', mS_k _ _ _ _ _ _ _ _ hk, mS_k _ _ _ _ _ _ _ _ hk]
  have elow : ∀ k, k ≠ 0 → k < 90 → w' k = w k := fun k hk hk2 => by rw [← hw', mvF_off _ _ _ (fun b => by omega), rot5_off hn6 (by omega), upd_ne _ _ hk]
  have e90 : ∀ p, p < n → rot5 (upd w 0 (nI (now + 1))) n (90 + p) = w (90 + (p + n - 1) % n) := fun p hp => by rw [rot5_90 hn6 hp, upd_ne _ _ (by omega)]
  have w90 : ∀ p, p < n → w' (90 + p) = w (90 + (p + n - 1) % n) := fun p hp => by rw [← hw', mvF_off _ _ _ (fun b => by omega), e90 p hp]
  have ebag : ∀ b c, c < 8 → c ≠ 1 → w' (400 + 8 * b + c) = w (400 + 8 * b + c) := fun b c hc hc1 => by rw [← hw', mvF_off _ _ _ (fun b' => by omega), rot5_off hn6 (by omega), upd_ne _ _ (by omega)]
  have ebag0 : ∀ b, w' (400 + 8 * b) = w (400 + 8 * b) := fun b => ebag b 0 (by decide) (by decide)
  have hmod : ∀ p, (p + n - 1) % n < n := fun p => Nat.mod_lt _ (by omega)
  have eon : ∀ r p, r < 100 → p < n → w (90 + (p + n - 1) % n) = nI r → w' (400 + 8 * r + 1) = nI p := by
    intro r p hr hp hrp
    rw [← hw']
    refine mvF_on _ hr (by rw [e90 p hp]; exact hrp) n hp (fun q hq hqr => ?_)
    rw [e90 q hq] at hqr
    have c1 := (hcon _ (hmod p) r hr hrp).2.2
    have c2 := (hcon _ (hmod q) r hr hqr).2.2
    have hp' := hmod p
    have hq' := hmod q
    have c3 := (nI_eq (by omega) (by omega)).mp (c1.symm.trans c2)
    exact (back_inj hp hq c3).symm
  have enot : ∀ b, b < C → st b ≠ 1 → w' (400 + 8 * b + 1) = w (400 + 8 * b + 1) := by
    intro b hb hs
    rw [← hw', mvF_not _ (by omega) n (fun q hq hqr => ?_), rot5_off hn6 (by omega), upd_ne _ _ (by omega)]
    rw [e90 q hq] at hqr
    exact hs (hcon _ (hmod q) b (by omega) hqr).2.1
  refine ⟨⟨?_, Nat.mod_lt _ (by omega), ?_, by omega, ?_, ?_, h7, ?_, fun k hk => ?_, fun k hk => ?_, h11, ?_, ?_⟩, fun p hp => ?_, fun p hp r hr hpr => ?_, fun b hb => ?_, fun b hb => ?_, fun q hq => ?_, ⟨fun p hp => ?_, fun k hk => ?_, fun k hk => ?_⟩, hO, ?_, fun b hb => ?_⟩
  · rw [← hμ', mS_2, mS_2]; exact h1
  · rw [← hμ', mS_same]
  · rw [← hμ', mS_n _ _ _ _ _ _ _ _ (by decide), mS_same]
  · rw [← hw', mvF_off _ _ _ (fun b => by omega), rot5_off hn6 (by omega), upd_at]
  · rw [← hμ', mS_n _ _ _ _ _ _ _ _ (by decide), mS_n _ _ _ _ _ _ _ _ (by decide)]; exact h8
  · rw [elow _ (by omega) (by omega)]; exact h9 k hk
  · rw [elow _ (by omega) (by omega), ek _ _ _ (by decide)]; exact h10 k hk
  · rw [ek _ _ _ (by decide)]; exact h12
  · rw [elow _ (by omega) (by omega)]; exact h13
  · have hr := hring _ (hmod p)
    rw [slot_turn h2 hp, ek _ _ _ (by decide), ek _ _ _ (by decide), ek _ _ _ (by decide), ek _ _ _ (by decide), w90 p hp]
    have e1 : w' (150 + p) = w (150 + (p + n - 1) % n) := by rw [← hw', mvF_off _ _ _ (fun b => by omega), rot5_150 hn6 hp, upd_ne _ _ (by omega)]
    have e2 : w' (210 + p) = w (210 + (p + n - 1) % n) := by rw [← hw', mvF_off _ _ _ (fun b => by omega), rot5_210 hn6 hp, upd_ne _ _ (by omega)]
    have e3 : w' (270 + p) = w (270 + (p + n - 1) % n) := by rw [← hw', mvF_off _ _ _ (fun b => by omega), rot5_270 hn6 hp, upd_ne _ _ (by omega)]
    have e4 : w' (330 + p) = w (330 + (p + n - 1) % n) := by rw [← hw', mvF_off _ _ _ (fun b => by omega), rot5_330 hn6 hp, upd_ne _ _ (by omega)]
    rw [e1, e2, e3, e4]
    exact hr
  · rw [w90 p hp] at hpr
    obtain ⟨c1, c2, -⟩ := hcon _ (hmod p) r hr hpr
    exact ⟨c1, c2, eon r p hr hp hpr⟩
  · obtain ⟨g0, g1, g2, g3, g4, g5, g6, g7, g8⟩ := hbag b hb
    refine ⟨g0, by rw [ek _ _ _ (by decide)]; exact g1, by rw [ebag0]; exact g2, fun hs => ?_, fun hs => ?_, fun a1 a2 a3 => ?_, fun hs => ?_, fun hs => ?_, fun hs => ?_⟩
    · obtain ⟨p, f1, f2, f3, f4⟩ := g3 hs
      have hlt : (p + 1) % n < n := Nat.mod_lt _ (by omega)
      have hbf := back_fwd f1
      refine ⟨(p + 1) % n, hlt, eon b _ (by omega) hlt (by rw [hbf]; exact f4), ?_, ?_⟩
      · rw [ek _ _ _ (by decide), f3, slot_turn h2 hlt, hbf]
      · rw [w90 _ hlt, hbf]; exact f4
    · rw [enot b hb (by omega)]; exact g4 hs
    · rw [enot b hb a1, ek _ _ _ (by decide)]; exact g5 a1 a2 a3
    · rw [ebag b 3 (by decide) (by decide), ebag b 4 (by decide) (by decide), ebag b 5 (by decide) (by decide), ek _ _ _ (by decide), ek _ _ _ (by decide), ek _ _ _ (by decide)]; exact g6 hs
    · rw [ek _ _ _ (by decide), ek _ _ _ (by decide), ek _ _ _ (by decide)]; exact g7 hs
    · rw [ebag b 6 (by decide) (by decide), ebag b 7 (by decide) (by decide), ek _ _ _ (by decide), ek _ _ _ (by decide)]; exact g8 hs
  · obtain ⟨f1, f2, f3⟩ := hlb b hb
    refine ⟨fun c hc => by rw [ek _ _ _ (by omega)]; exact f1 c hc, by rw [ek _ _ _ (by decide)]; exact f2, by rw [ek _ _ _ (by decide)]; exact f3⟩
  · have hq0 : keeps S q := hq
    obtain ⟨f1, f2, f3⟩ := hque q hq0
    refine ⟨QX_congr (fun k s k1 k2 => ek _ _ _ (by omega)) f1, fun b => ?_, ?_⟩
    · rw [f2 b]
      refine and_congr_right (fun hb => ?_)
      unfold inM
      rw [ebag0]
      by_cases hs : st b = 1
      · have hne : ¬ w (400 + 8 * b) = nI (stOf (ssrt S q)) := by
          rw [(hbag b hb).2.2.1, hs]
          intro z
          have hle : stOf (ssrt S q) < 100 := by
            have := hS.2.2.2.2.2.1 q
            unfold stOf
            split
            · omega
            · split <;> omega
          exact stOf_ne1 hq0 ((nI_eq (by omega) (by omega)).mp z).symm
        exact ⟨fun z => absurd z.1 hne, fun z => absurd z.1 hne⟩
      · rw [enot b hb hs]
    · refine f3.imp (fun {a b} hab => ?_)
      unfold ordM at hab ⊢
      rw [ebag a 2 (by decide) (by decide), ebag b 2 (by decide) (by decide)]
      exact hab
  · rw [ek _ _ _ (by decide), elow _ (by omega) (by omega)]; exact hrd p hp
  · have := hS.2.2.2.2.2.2.2.1 6
    rw [ek _ _ _ (by decide), elow _ (by omega) (by omega)]; exact hw6 k hk
  · have := hS.2.2.2.2.2.2.2.1 4
    rw [ek _ _ _ (by decide), elow _ (by omega) (by omega), ek _ _ _ (by decide), elow _ (by omega) (by omega)]; exact hw4 k hk
  · rw [elow _ (by omega) (by omega)]; exact hO2
  · obtain ⟨o, f1, f2⟩ := hord b hb
    refine ⟨o, f1, ?_⟩
    unfold ordM at f2 ⊢
    rw [ebag b 2 (by decide) (by decide)]
    exact f2
