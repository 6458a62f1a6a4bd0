/-! ===== an operation: both keep the world, then both change it ===== -/
def noG : Nat → Prop := fun _ => False
set_option maxHeartbeats 2000000 in
theorem op_call {μ : zM} {c : Nat} {FX FM : zM → Option (Option zV × zM)} {j : Nat} {S : zSt} {D : zDv} {lim : Int32} {t hd C now nx cn : Nat} {Cf : Nat → Nat} (h1 : μ.2.1 10 0 6 = j ∧ j < 2 ∧ μ.2.1 10 0 7 = 1 - j) (h3 : ENV μ μ j S D lim) (h2 : now ≤ 100000) (h4 : RQ μ μ 0 j S (μ.1 65 0) (30000 * c) t hd C now noG) (h5 : HIS μ μ j S (30000 * c) C nx cn Cf) (h6 : TAP μ) (h7 : TXT μ) (h8 : μ.1 10 0 8 = μ.1 11 0 2)
    (hP : ∀ μ1 ν, ENV μ1 ν j S D lim → μ1.2.1 10 0 6 = j → RQ μ1 ν 0 j S (μ.1 65 0) (30000 * c) t hd C now noG → ∃ v μ2 ν2 w' t' hd' C' now', FX μ1 = some (some (.inl v), μ2) ∧ FM (mW ν (μ.1 65 0)) = some (some (.inl v), mW ν2 w') ∧ FrW 0 μ1 μ2 ∧ RQ μ2 ν2 0 j S w' (30000 * (c + 1)) t' hd' C' now' noG ∧ C ≤ C' ∧ now' ≤ 100000 ∧ ν2.2 = ν.2 ∧ ∀ k i z, ¬ (68 ≤ k ∧ k ≤ 72 ∧ C ≤ z) → ν2.1 k i z = ν.1 k i z) :
    CALL (fun m => zU (tX2_save_0 0 m) FX) (fun m => zU (tX11_keeps_0 m) FM) μ (c + 1) := by
  have hS := h3.1
  have hj9 : μ.2.1 9 0 0 = j := h4.elim fun _ z => z.elim fun _ z => z.elim fun _ z => z.1.1.1
  have h5' := h5
  obtain ⟨g1, g2, g3, g4, g5, g6, g7, g8⟩ := h5'
  obtain ⟨μ1, e1, cp, n1, n2, s1, s2, s3⟩ := pX2_save g1 g2 g3 g4 hj9 h1.2.1
  have a1 : ∀ k x s, (∀ i, 2 ≤ i → ¬ isW i k x) → k ≠ 2 → μ1.1 k x s = μ.1 k x s := fun k x s hw hk => s3 k x s (hw _ (by omega)) (fun q => hk q.1)
  have aW0 : ∀ k x, isW 0 k x → (∀ i, 2 ≤ i → ¬ isW i k x) ∧ k ≠ 2 := fun k x hw => ⟨fun i hi => isW_ne hw (by omega), (isW_lt hw).2.2.2.2.2.1⟩
  have aS : ∀ k x, isS k → (∀ i, ¬ isW i k x) ∧ k ≠ 2 ∧ k ≠ 11 ∧ k < 62 := fun k x hk => by
    unfold isS at hk
    refine ⟨fun i hw => ?_, by omega, by omega, by omega⟩
    unfold isW at hw
    omega
  have hE1 : ∀ ν : zM, (∀ z, ν.1 63 0 z = μ.1 63 0 z) → ENV μ1 ν j S D lim := fun ν e => h3.of (fun k a s hk => a1 k a s (fun i _ => (aS k a hk).1 i) (aS k a hk).2.1) e
  have hR1 : ∀ ν : zM, (∀ k z, 68 ≤ k → k ≤ 72 → ν.1 k 0 z = μ.1 k 0 z) → RQ μ1 ν 0 j S (μ.1 65 0) (30000 * c) t hd C now noG := fun ν e => (h4.nu (fun k z k1 k2 _ => e k z k1 k2)).mu hS (fun k x z hw => a1 k x z (aW0 k x hw).1 (aW0 k x hw).2) (s1 _ _ _ (by omega))
  have hj1 : μ1.2.1 10 0 6 = j := by rw [s1 _ _ _ (by omega)]; exact h1.1
  obtain ⟨v, μ2, ν0, w0, t0, hd0, C0, now0, f1, -, f3, -⟩ := hP μ1 μ1 (hE1 μ1 (fun z => a1 _ _ _ (fun i _ => by unfold isW; omega) (by decide))) hj1 (hR1 μ1 (fun k z k1 k2 => a1 _ _ _ (fun i _ => by unfold isW; omega) (by omega)))
  have a2 : ∀ k x s, (∀ i, ¬ isW i k x) → k ≠ 2 → μ2.1 k x s = μ.1 k x s := fun k x s hw hk => by rw [f3.2 k x s (hw 0), a1 k x s (fun i _ => hw i) hk]
  obtain ⟨ν1, c', d, k1, k2, k3, k4, k5, k6, k7⟩ := pM_keeps (μ := μ2) (c := cn) (by rw [a2 _ _ _ (fun i => by unfold isW; omega) (by decide)]; exact g5) g2
  have n65 : ν1.1 65 0 = μ.1 65 0 := funext (fun z => by rw [k7 _ _ _ (by omega) (by omega), a2 _ _ _ (fun i => by unfold isW; omega) (by decide)])
  have nk : ∀ k z, (k = 63 ∨ (68 ≤ k ∧ k ≤ 72)) → ν1.1 k 0 z = μ.1 k 0 z := fun k z hk => by rw [k7 _ _ _ (by omega) (by omega), a2 _ _ _ (fun i => by unfold isW; omega) (by omega)]
  obtain ⟨v', μ2', ν2, w', t', hd', C', now', m1, m2, m3, m4, m5, m6, m7, m8⟩ := hP μ1 ν1 (hE1 ν1 (fun z => nk _ _ (Or.inl rfl))) hj1 (hR1 ν1 (fun k z k1 k2 => nk _ _ (Or.inr ⟨k1, k2⟩)))
  rw [f1] at m1
  cases m1
  have eM : FM ν1 = some (some (.inl v), mW ν2 w') := by
    have : mW ν1 (μ.1 65 0) = ν1 := by rw [← n65]; exact mW_self ν1
    rw [this] at m2
    exact m2
  -- the memory behind
  have b1 : ∀ k x s, k ≠ 65 → k ≠ 67 → ¬ (68 ≤ k ∧ k ≤ 72) → ¬ (k = 11 ∧ x = 0 ∧ s = 14) → (mW ν2 w').1 k x s = μ2.1 k x s := fun k x s q1 q2 q3 q4 => by
    rw [mW_k _ _ _ _ _ q1, m8 k x s (fun q => q3 ⟨q.1, q.2.1⟩), k7 k x s q4 (fun q => q2 q.1)]
  have b2 : (mW ν2 w').2 = μ1.2 := by
    show ν2.2 = μ1.2
    rw [m7, k6, f3.1]
  have b3 : ∀ k x s, (∀ i, ¬ isW i k x) → k ≠ 2 → k ≠ 65 → k ≠ 67 → ¬ (68 ≤ k ∧ k ≤ 72) → ¬ (k = 11 ∧ x = 0 ∧ s = 14) → (mW ν2 w').1 k x s = μ.1 k x s := fun k x s hw q0 q1 q2 q3 q4 => by rw [b1 k x s q1 q2 q3 q4, a2 k x s hw q0]
  have b67 : ∀ z, (mW ν2 w').1 67 0 z = ν1.1 67 0 z := fun z => by rw [mW_k _ _ _ _ _ (by decide), m8 _ _ _ (by omega)]
  have b68 : ∀ k z, 68 ≤ k → k ≤ 72 → z < C → (mW ν2 w').1 k 0 z = μ.1 k 0 z := fun k z q1 q2 q3 => by rw [mW_k _ _ _ _ _ (by omega), m8 _ _ _ (by omega), nk _ _ (Or.inr ⟨q1, q2⟩)]
  have bW : ∀ i k x s, 2 ≤ i → isW i k x → (mW ν2 w').1 k x s = μ1.1 k x s := fun i k x s hi hw => by
    have := isW_lt hw
    rw [b1 k x s (by omega) (by omega) (by omega) (by omega), f3.2 k x s (isW_ne hw (by omega))]
  have hc' : c' ≤ 10 := by omega
  have hidx : ∀ u, u + 1 < c' → ((nx + 1) % 10 + 10 - c' + u) % 10 = (nx + 10 - cn + (u + d)) % 10 ∧ (nx + 10 - cn + (u + d)) % 10 ≠ nx ∧ u + d < cn := fun u hu => by omega
  have hlast : ((nx + 1) % 10 + 10 - c' + (c' - 1)) % 10 = nx := by omega
  obtain ⟨F, hF1, hF2⟩ : ∃ F : Nat → Nat, (∀ u, u + 1 < c' → F u = Cf (u + d)) ∧ ∀ u, ¬ u + 1 < c' → F u = C := ⟨fun u => if u + 1 < c' then Cf (u + d) else C, fun u y => if_pos y, fun u y => if_neg y⟩
  refine ⟨v, μ2, mW ν2 w', by show zU (tX2_save_0 0 μ) FX = _; rw [e1, zU_some, f1], by show zU (tX11_keeps_0 μ2) FM = _; rw [k1, zU_some, eM], ?_⟩
  refine ⟨j, S, D, lim, t', hd', C', now', (nx + 1) % 10, c', F, ⟨?_, h1.2.1, ?_⟩, m6, h3.of (fun k a s hk => ?_) (fun z => ?_), ?_, ⟨by omega, hc', ?_, ?_, ?_, fun u u' q1 q2 => ?_, fun u q1 => ?_, fun u q1 => ?_⟩, h6.of (fun k z hk => ?_) ?_, h7.of (fun k z hk => ?_), ?_⟩
  · rw [b2, s1 _ _ _ (by omega)]; exact h1.1
  · rw [b2, s1 _ _ _ (by omega)]; exact h1.2.2
  · have q := aS k a hk
    exact b3 k a s q.1 q.2.1 (by omega) (by omega) (by omega) (by omega)
  · exact b3 _ _ _ (fun i => by unfold isW; omega) (by decide) (by decide) (by decide) (by decide) (by omega)
  · rw [mW_65]
    refine (m4.nu (fun k z q1 q2 _ => mW_k _ _ _ _ _ (by omega))).mu hS (fun k x z hw => ?_) (by rw [b2, f3.1])
    have := isW_lt hw
    exact b1 k x z (by omega) (by omega) (by omega) (by omega)
  · rw [b1 _ _ _ (by decide) (by decide) (by decide) (by omega), f3.2 _ _ _ (by unfold isW; omega)]; exact n1
  · rw [b1 _ _ _ (by decide) (by decide) (by decide) (by omega), f3.2 _ _ _ (by unfold isW; omega), n2]
    congr 1
    rcases k2 with ⟨q1, q2, -⟩ | ⟨q1, q2, -⟩
    · rw [if_pos q1, q2]
    · rw [if_neg (by omega), q2]
  · rw [mW_k _ _ _ _ _ (by decide), m8 _ _ _ (by omega)]; exact k3
  · by_cases y' : u' + 1 < c'
    · rw [hF1 u (by omega), hF1 u' y']
      exact g6 _ _ (by omega) (hidx u' y').2.2
    · rw [hF2 u' y']
      by_cases y : u + 1 < c'
      · rw [hF1 u y]; exact g7 _ (hidx u y).2.2
      · rw [hF2 u y]; exact Nat.le_refl _
  · by_cases y : u + 1 < c'
    · rw [hF1 u y]; exact Nat.le_trans (g7 _ (hidx u y).2.2) m5
    · rw [hF2 u y]; exact m5
  · by_cases y : u + 1 < c'
    · obtain ⟨y1, y2, y3⟩ := hidx u y
      obtain ⟨tu, hdu, nowu, z1, z2⟩ := g8 (u + d) y3
      refine ⟨tu, hdu, nowu, z1, ?_⟩
      rw [hF1 u y, y1]
      have hCf := g7 _ y3
      refine RQ.wc hS (((z2.nu (ν' := mW ν2 w') (fun k z q1 q2 q3 => b68 k z q1 q2 (by omega))).mu hS (μ' := mW ν2 w') (fun k x z hw => ?_) ?_).up (by omega)) (fun z hz => ?_)
      · have q := isW_lt hw
        rw [bW _ k x z (by omega) hw, s3 k x z (isW_ne hw (by omega)) (by omega)]
      · rw [b2, s1 _ _ _ (by omega)]
      · rw [b67, k4 u z y hz, a2 _ _ _ (fun i => by unfold isW; omega) (by decide)]
    · have hu : u = c' - 1 := by omega
      subst hu
      refine ⟨t, hd, now, h2, ?_⟩
      rw [hF2 _ y, hlast]
      have q := (h4.cp hS cp)
      refine RQ.wc hS (((q.nu (ν' := mW ν2 w') (fun k z q1 q2 q3 => b68 k z q1 q2 q3)).mu hS (μ' := mW ν2 w') (fun k x z hw => bW _ k x z (by omega) hw) (by rw [b2])).up (by omega)) (fun z hz => ?_)
      rw [b67, k5 z hz, a2 _ _ _ (fun i => by unfold isW; omega) (by decide)]
  · exact b3 _ _ _ (fun i => by unfold isW; omega) (by omega) (by omega) (by omega) (by omega) (by omega)
  · exact b3 _ _ _ (fun i => by unfold isW; omega) (by omega) (by omega) (by omega) (by omega) (by omega)
  · exact b3 _ _ _ (fun i => by unfold isW; omega) (by omega) (by omega) (by omega) (by omega) (by omega)
  · rw [b3 _ _ _ (fun i => by unfold isW; omega) (by omega) (by omega) (by omega) (by omega) (by omega), b3 _ _ _ (fun i => by unfold isW; omega) (by omega) (by omega) (by omega) (by omega) (by omega)]
    exact h8
