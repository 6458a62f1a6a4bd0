/-! ===== stores: both sides ===== -/
/-- the closing of the flight of a label, if that flight is not early -/
def elg (T : Nat → Nat → Int32) (F : Nat) (now x : Int32) : Option Int32 := match flOf T F x with
  | none => none
  | some f => if now < T 2 f then none else some (T 3 f)
section STORE
variable {T : Nat → Nat → Int32} {F : Nat} {now : Int32}
/-- the class's best: the first of those that close first -/
def stX (T : Nat → Nat → Int32) (F : Nat) (now : Int32) (lab : Nat → Int32) (p : List Nat) (bst bef clo : Int32) : Prop := (bst = -1 ∧ ∀ a ∈ p, elg T F now (lab a) = none) ∨ ∃ p1 b p2, p = p1 ++ b :: p2 ∧ elg T F now (lab b) = some clo ∧ bst = nI b ∧ bef = oI p1.getLast? ∧ (∀ a ∈ p1, ∀ y, elg T F now (lab a) = some y → clo < y) ∧ (∀ a ∈ p2, ∀ y, elg T F now (lab a) = some y → ¬ y < clo)
theorem i_asym {x y : Int32} (h : x < y) : ¬ y < x := by
  rw [Int32.lt_iff_toInt_lt] at *
  omega
theorem i_tr {x y z : Int32} (h : x < y) (h2 : ¬ z < y) : x < z := by
  rw [Int32.lt_iff_toInt_lt] at *
  omega
theorem i_tr2 {x y z : Int32} (h : ¬ y < x) (h2 : y < z) : x < z := by
  rw [Int32.lt_iff_toInt_lt] at *
  omega
theorem i_tr3 {x y z : Int32} (h : ¬ y < x) (h2 : ¬ z < y) : ¬ z < x := by
  rw [Int32.lt_iff_toInt_lt] at *
  omega
theorem i_eq {x y : Int32} (h : ¬ x < y) (h2 : ¬ y < x) : x = y := by
  rw [Int32.lt_iff_toInt_lt] at *
  exact Int32.toInt_inj.mp (by omega)
theorem stX_skip {lab : Nat → Int32} {p : List Nat} {bst bef clo : Int32} {b : Nat} (h : stX T F now lab p bst bef clo) (hn : elg T F now (lab b) = none ∨ ∃ y, elg T F now (lab b) = some y ∧ ¬ bst < 0 ∧ ¬ y < clo) : stX T F now lab (p ++ [b]) bst bef clo := by
  rcases h with ⟨h1, h2⟩ | ⟨p1, c, p2, h1, h2, h3, h4, h5, h6⟩
  · rcases hn with hn | ⟨y, e1, e2, e3⟩
    · refine Or.inl ⟨h1, fun a ha => ?_⟩
      rcases List.mem_append.mp ha with z | z
      · exact h2 a z
      · rw [List.mem_singleton.mp z]; exact hn
    · rw [h1] at e2
      exact absurd m1_lt e2
  · refine Or.inr ⟨p1, c, p2 ++ [b], by rw [h1]; simp, h2, h3, h4, h5, fun a ha y hy => ?_⟩
    rcases List.mem_append.mp ha with z | z
    · exact h6 a z y hy
    · rw [List.mem_singleton.mp z] at hy
      rcases hn with hn | ⟨y', e1, e2, e3⟩
      · rw [hn] at hy; cases hy
      · rw [e1] at hy; cases hy; exact e3
theorem stX_take {lab : Nat → Int32} {p : List Nat} {bst bef clo y : Int32} {b : Nat} (h : stX T F now lab p bst bef clo) (hy : elg T F now (lab b) = some y) (hn : bst < 0 ∨ y < clo) (hp : ∀ a ∈ p, a < 100) : stX T F now lab (p ++ [b]) (nI b) (oI p.getLast?) y := by
  refine Or.inr ⟨p, b, [], rfl, hy, rfl, rfl, fun a ha z hz => ?_, fun a ha => by cases ha⟩
  rcases h with ⟨h1, h2⟩ | ⟨p1, c, p2, h1, h2, h3, h4, h5, h6⟩
  · rw [h2 a ha] at hz; cases hz
  · have hc : c < 100 := hp c (by rw [h1]; simp)
    have hyc : y < clo := by
      rcases hn with e | e
      · rw [h3] at e; exact absurd e (nI_pos (by omega))
      · exact e
    rw [h1] at ha
    rcases List.mem_append.mp ha with q | q
    · exact i_tr hyc (i_asym (h5 a q z hz))
    · rcases List.mem_cons.mp q with q | q
      · rw [q, h2] at hz; cases hz; exact hyc
      · exact i_tr hyc (h6 a q z hz)
theorem pX9_store_step {μ : zM} {i j b n c : Nat} {x bst bef clo prv : Int32} (hj : μ.2.1 9 i 0 = j) (hj2 : j < 2) (hF : FlX μ j F T) (hnow : μ.1 9 i 1 = now) (hb : b < 100) (hc : c < 100) :
    tX9_workStore_24 (n + 1) i x bst bef clo prv (nI b) (nI c) μ = (match elg T F now (μ.1 40 (2 * i + 1) b) with
      | none => tX9_workStore_24 n i x bst bef clo (nI b) (μ.1 39 i b) (nI (c + 1)) μ
      | some y => zif (bst < 0 ∨ y < clo) (tX9_workStore_24 n i x (nI b) prv y (nI b) (μ.1 39 i b) (nI (c + 1)) μ) (tX9_workStore_24 n i x bst bef clo (nI b) (μ.1 39 i b) (nI (c + 1)) μ)) := by
  have hF1 := hF.1
  have e120 : ∀ bst bef clo, tX9_workStore_120 n i x bst bef clo (nI b) (nI c) μ = tX9_workStore_24 n i x bst bef clo (nI b) (μ.1 39 i b) (nI (c + 1)) μ := fun bst bef clo => by
    rw [eX9_workStore_120, eX9_workStore_124, qI_in (zS_39 i) rfl hb (by decide), Option.bind_some, eX9_workStore_136, eX9_workStore_139, nI_1]
  rw [eX9_workStore_24, zif_pos (show nI c < 100 from nI_lt (b := 100) hc (by decide)), zif_neg (nI_pos (by omega)), hj, zif_pos hj2, qI_in (hel_40 i) rfl hb (by decide), Option.bind_some, pX1_ofLabel hF, zI_some, eX9_workStore_58, e120]
  unfold elg
  cases hf : flOf T F (μ.1 40 (2 * i + 1) b) with
  | none => rw [zif_pos (show fX none = -1 from rfl)]
  | some f =>
    have hfl := flOf_lt hf
    rw [zif_neg (show ¬ fX (some f) = -1 from fX_neg (by omega)), show fX (some f) = nI f from rfl, hj, zif_pos hj2, qI_in (zS_33 j) rfl (show f < 10 by omega) (by decide), Option.bind_some, show μ.1 33 j f = T 2 f from hF.2.2 2 f (by decide) hfl, hnow]
    by_cases hn : now < T 2 f
    · rw [zif_pos hn]
      show _ = (match (if now < T 2 f then none else some (T 3 f)) with | none => _ | some y => _)
      rw [if_pos hn]
    · rw [zif_neg hn, zif_pos hj2, qI_in (zS_34 j) rfl (show f < 10 by omega) (by decide), Option.bind_some, show μ.1 34 j f = T 3 f from hF.2.2 3 f (by decide) hfl, eX9_workStore_99, eX9_workStore_110, eX9_workStore_113, eX9_workStore_116, e120, e120]
      show _ = (match (if now < T 2 f then none else some (T 3 f)) with | none => _ | some y => _)
      rw [if_neg hn]
      show _ = zif (bst < 0 ∨ T 3 f < clo) _ _
      by_cases h1 : bst < 0
      · rw [zif_pos h1, zif_pos (Or.inl h1)]
      · rw [zif_neg h1]
        by_cases h2 : T 3 f < clo
        · rw [zif_pos h2, zif_pos (Or.inr h2)]
        · rw [zif_neg h2, zif_neg (fun z => z.elim h1 h2)]
theorem pX9_store_loop {μ : zM} {i j : Nat} {x : Int32} {l : List Nat} (hj : μ.2.1 9 i 0 = j) (hj2 : j < 2) (hF : FlX μ j F T) (hnow : μ.1 9 i 1 = now) (hch : chn (μ.1 39 i) l (-1)) (hl : ∀ a ∈ l, a < 100) (hlen : l.length ≤ 100) : ∀ (s p : List Nat) (n : Nat) (bst bef clo : Int32), l = p ++ s → s.length < n → stX T F now (μ.1 40 (2 * i + 1)) p bst bef clo → ∃ bst' bef' clo', tX9_workStore_24 n i x bst bef clo (oI p.getLast?) (hdI s (-1)) (nI p.length) μ = tX9_workStore_142 i x bst' bef' μ ∧ stX T F now (μ.1 40 (2 * i + 1)) l bst' bef' clo'
  | [], p, n, bst, bef, clo, he, hn, hs => by
    obtain ⟨n, rfl⟩ : ∃ k, n = k + 1 := ⟨n - 1, by simp at hn; omega⟩
    refine ⟨bst, bef, clo, ?_, by rw [he, List.append_nil]; exact hs⟩
    rw [eX9_workStore_24, show hdI [] (-1) = -1 from rfl, zif_pos m1_lt]
    by_cases h : nI p.length < 100
    · rw [zif_pos h]
    · rw [zif_neg h]
  | b :: s, p, n, bst, bef, clo, he, hn, hs => by
    obtain ⟨n, rfl⟩ : ∃ k, n = k + 1 := ⟨n - 1, by simp at hn; omega⟩
    have hb : b < 100 := hl b (by rw [he]; simp)
    have hp : p.length < 100 := by
      rw [he] at hlen
      simp at hlen
      omega
    have hc2 : chn (μ.1 39 i) (b :: s) (-1) := chn_tail (l := p) (by rw [← he]; exact hch)
    have hnx : μ.1 39 i b = hdI s (-1) := hc2.1
    have he2 : l = (p ++ [b]) ++ s := by rw [he]; simp
    have hpl : ∀ a ∈ p, a < 100 := fun a ha => hl a (by rw [he]; simp [ha])
    have hlast : oI (p ++ [b]).getLast? = nI b := by simp [oI]
    have hlen2 : (p ++ [b]).length = p.length + 1 := by simp
    have ih := fun bst bef clo h => pX9_store_loop (x := x) hj hj2 hF hnow hch hl hlen s (p ++ [b]) n bst bef clo he2 (by simp at hn; omega) h
    rw [hlast, hlen2] at ih
    rw [show hdI (b :: s) (-1) = nI b from rfl, pX9_store_step (T := T) (F := F) (now := now) hj hj2 hF hnow hb hp, hnx]
    cases hel : elg T F now (μ.1 40 (2 * i + 1) b) with
    | none => exact ih bst bef clo (stX_skip hs (Or.inl hel))
    | some y =>
      by_cases hc : bst < 0 ∨ y < clo
      · show ∃ bst' bef' clo', zif _ _ _ = _ ∧ _
        rw [zif_pos hc]
        exact ih _ _ _ (stX_take hs hel hc hpl)
      · show ∃ bst' bef' clo', zif _ _ _ = _ ∧ _
        rw [zif_neg hc]
        exact ih _ _ _ (stX_skip hs (Or.inr ⟨y, hel, fun z => hc (Or.inl z), fun z => hc (Or.inr z)⟩))
/-- the reference's best -/
def stM (T : Nat → Nat → Int32) (F : Nat) (now : Int32) (w : Nat → Int32) (y : Int32) (k : Nat) (z c : Int32) : Prop := (z = -2 ∧ ∀ b, b < k → inM w 5 y b → elg T F now (w (400 + 8 * b + 3)) = none) ∨ ∃ a, a < k ∧ inM w 5 y a ∧ elg T F now (w (400 + 8 * a + 3)) = some c ∧ z = nI a ∧ ∀ b, b < k → inM w 5 y b → b ≠ a → ∀ v, elg T F now (w (400 + 8 * b + 3)) = some v → c < v ∨ (c = v ∧ ¬ ordM w b < ordM w a)
theorem stM_skip {w : Nat → Int32} {y z c : Int32} {k : Nat} (h : stM T F now w y k z c) (hn : ¬ inM w 5 y k ∨ elg T F now (w (400 + 8 * k + 3)) = none ∨ ∃ v a, z = nI a ∧ a < 100 ∧ elg T F now (w (400 + 8 * k + 3)) = some v ∧ (c < v ∨ (c = v ∧ ¬ ordM w k < ordM w a))) (hk : k ≤ 100) : stM T F now w y (k + 1) z c := by
  rcases h with ⟨h1, h2⟩ | ⟨a, h1, h2, h3, h4, h5⟩
  · refine Or.inl ⟨h1, fun b hb hin => ?_⟩
    by_cases e : b = k
    · subst e
      rcases hn with hn | hn | ⟨v, a, e1, e2, -, -⟩
      · exact absurd hin hn
      · exact hn
      · rw [h1] at e1
        have := nI_pos (n := a) (by omega)
        rw [← e1] at this
        exact absurd m2_lt this
    · exact h2 b (by omega) hin
  · refine Or.inr ⟨a, by omega, h2, h3, h4, fun b hb hin hne v hv => ?_⟩
    by_cases e : b = k
    · subst e
      rcases hn with hn | hn | ⟨v', a', e1, e2, e3, e4⟩
      · exact absurd hin hn
      · rw [hn] at hv; cases hv
      · rw [h4] at e1
        have e5 := (nI_eq (by omega) (by omega)).mp e1
        subst e5
        rw [e3] at hv; cases hv
        exact e4
    · exact h5 b (by omega) hin hne v hv
theorem stM_take {w : Nat → Int32} {y z c v : Int32} {k : Nat} (h : stM T F now w y k z c) (hin : inM w 5 y k) (hv : elg T F now (w (400 + 8 * k + 3)) = some v) (hn : z < 0 ∨ v < c ∨ ∃ a, z = nI a ∧ a < 100 ∧ v = c ∧ ordM w k < ordM w a) (hk : k ≤ 100) : stM T F now w y (k + 1) (nI k) v := by
  refine Or.inr ⟨k, by omega, hin, hv, rfl, fun b hb hbin hne u hu => ?_⟩
  rcases h with ⟨h1, h2⟩ | ⟨a, h1, h2, h3, h4, h5⟩
  · rw [h2 b (by omega) hbin] at hu; cases hu
  · rcases hn with e | e | ⟨a', e1, e2, e3, e4⟩
    · rw [h4] at e; exact absurd e (nI_pos (by omega))
    · by_cases eb : b = a
      · subst eb
        rw [h3] at hu; cases hu
        exact Or.inl e
      · rcases h5 b (by omega) hbin eb u hu with g | ⟨g, -⟩
        · exact Or.inl (i_tr e (i_asym g))
        · rw [← g]; exact Or.inl e
    · rw [h4] at e1
      have e5 := (nI_eq (by omega) (by omega)).mp e1
      subst e5
      by_cases eb : b = a
      · subst eb
        rw [h3] at hu; cases hu
        exact Or.inr ⟨e3, i_asym e4⟩
      · rcases h5 b (by omega) hbin eb u hu with g | ⟨g, g2⟩
        · rw [e3]; exact Or.inl g
        · exact Or.inr ⟨e3.trans g, i_asym (i_tr e4 g2)⟩
theorem flSt_0 {f : Nat} : flSt T now f = 0 ↔ now < T 2 f := by
  unfold flSt
  by_cases h : now < T 2 f
  · rw [if_pos h]; exact ⟨fun _ => h, fun _ => rfl⟩
  · rw [if_neg h]
    refine ⟨fun z => ?_, fun z => absurd z h⟩
    split at z
    · exact absurd z one_ne0
    · exact absurd z (by decide)
theorem pM_store_loop {ν : zM} {w : Nat → Int32} {C kk : Nat} (hC : w 1 = nI C) (hC1 : C ≤ 100) (hF : FlM ν F T) (hT : FlT F T) (hw0 : w 0 = now) (hlab : ∀ b, b < C → inM w 5 (nI kk) b → isLb (w (400 + 8 * b + 3))) : ∀ (m k n : Nat) (z c : Int32), k + m = C → m < n → stM T F now w (nI kk) k z c → ∃ z' c', tX11_storeWorks_8 n (nI kk) z c (nI k) (mW ν w) = (zif (z' < 0) (tX11_storeWorks_148 (mW ν w)) (zI (tX11_ofDevice_0 5 (nI kk) 7 (mW ν w)) fun v11 μ10 => zU (tX11_goes_0 z' 7 v11 μ10) fun μ12 => tX11_storeWorks_148 μ12)) ∧ stM T F now w (nI kk) C z' c'
  | 0, k, n, z, c, hk, hn, hs => by
    obtain ⟨n, rfl⟩ : ∃ q, n = q + 1 := ⟨n - 1, by omega⟩
    refine ⟨z, c, ?_, by rw [← show k = C by omega]; exact hs⟩
    rw [eX11_storeWorks_8, qW (x := 1) (p := 1) rfl (by decide), Option.bind_some, hC, zif_neg (nI_nlt (by omega) (by omega))]
  | m + 1, k, n, z, c, hk, hn, hs => by
    obtain ⟨n, rfl⟩ : ∃ q, n = q + 1 := ⟨n - 1, by omega⟩
    have ih := fun z c h => pM_store_loop hC hC1 hF hT hw0 hlab m (k + 1) n z c (by omega) (by omega) h
    have hF1 := hF.1
    have e123 : ∀ z c, tX11_storeWorks_123 n (nI kk) z c (nI k) (mW ν w) = tX11_storeWorks_8 n (nI kk) z c (nI (k + 1)) (mW ν w) := fun z c => by rw [eX11_storeWorks_123, eX11_storeWorks_126, nI_1]
    have e117 : ∀ c, tX11_storeWorks_117 n (nI kk) (nI k) c (mW ν w) = tX11_storeWorks_8 n (nI kk) (nI k) c (nI (k + 1)) (mW ν w) := fun c => by rw [eX11_storeWorks_117, eX11_storeWorks_120, e123]
    have e55 : tX11_storeWorks_55 n (nI kk) z c (nI k) (mW ν w) = tX11_storeWorks_8 n (nI kk) z c (nI (k + 1)) (mW ν w) := by rw [eX11_storeWorks_55, eX11_storeWorks_57, eX11_storeWorks_59, zif_pos m2_lt, e123]
    rw [eX11_storeWorks_8, qW (x := 1) (p := 1) rfl (by decide), Option.bind_some, hC, zif_pos (nI_lt (by omega) (by omega)), pM_ofBagW (y := 0) (c := 0) rfl (show k < 100 by omega) rfl (by decide), zI_some, e55]
    by_cases h1 : w (400 + 8 * k + 0) = 5
    · rw [zif_pos h1, pM_ofBagW (y := 1) (c := 1) rfl (show k < 100 by omega) rfl (by decide), zI_some, e55]
      by_cases h2 : w (400 + 8 * k + 1) = nI kk
      · have hin : inM w 5 (nI kk) k := ⟨h1, h2⟩
        have hlb := hlab k (by omega) hin
        rw [zif_pos h2, pM_ofBagW (y := 3) (c := 3) rfl (show k < 100 by omega) rfl (by decide), zI_some, pM_flightBy hF.mW hT hlb, zI_some, eX11_storeWorks_57, eX11_storeWorks_59, e123]
        have hel : elg T F now (w (400 + 8 * k + 3)) = match flOf T F (w (400 + 8 * k + 3)) with
          | none => none
          | some f => if now < T 2 f then none else some (T 3 f) := rfl
        cases hf : flOf T F (w (400 + 8 * k + 3)) with
        | none =>
          rw [hf] at hel
          rw [zif_pos (show fMo none < 0 from m2_lt)]
          exact ih z c (stM_skip hs (Or.inr (Or.inl hel)) (by omega))
        | some f =>
          have hfl := flOf_lt hf
          rw [hf] at hel
          rw [zif_neg (show ¬ fMo (some f) < 0 from nI_pos (by omega)), show fMo (some f) = nI f from rfl, pM_flightIs hF.mW hfl rfl, zI_some, mW_65, hw0, e123]
          by_cases hn0 : now < T 2 f
          · rw [zif_pos (flSt_0.mpr hn0)]
            have hel2 : elg T F now (w (400 + 8 * k + 3)) = none := by rw [hel]; exact if_pos hn0
            exact ih z c (stM_skip hs (Or.inr (Or.inl hel2)) (by omega))
          · have hel2 : elg T F now (w (400 + 8 * k + 3)) = some (T 3 f) := by rw [hel]; exact if_neg hn0
            rw [zif_neg (fun q => hn0 (flSt_0.mp q)), pM_ofFlight (x := nI f) (y := 3) hF.mW hfl (show 3 < 4 by decide) rfl rfl, zI_some, eX11_storeWorks_85, e117, e123]
            by_cases hz : z < 0
            · rw [zif_pos hz]
              exact ih _ _ (stM_take hs hin hel2 (Or.inl hz) (by omega))
            · rw [zif_neg hz]
              by_cases hc : T 3 f < c
              · rw [zif_pos hc]
                exact ih _ _ (stM_take hs hin hel2 (Or.inr (Or.inl hc)) (by omega))
              · rw [zif_neg hc]
                obtain ⟨a, ha, hza⟩ : ∃ a, a < 100 ∧ z = nI a := by
                  rcases hs with ⟨g1, -⟩ | ⟨a, g1, -, -, g4, -⟩
                  · rw [g1] at hz; exact absurd m2_lt hz
                  · exact ⟨a, by omega, g4⟩
                by_cases hq : T 3 f = c
                · rw [zif_pos hq, pM_ofBagW (y := 2) (c := 2) rfl (show k < 100 by omega) rfl (by decide), zI_some, hza, pM_ofBagW (y := 2) (c := 2) rfl ha rfl (by decide), zI_some, e117, e123]
                  by_cases ho : w (400 + 8 * k + 2) < w (400 + 8 * a + 2)
                  · rw [zif_pos ho]
                    exact ih _ _ (stM_take hs hin hel2 (Or.inr (Or.inr ⟨a, hza, ha, hq, ho⟩)) (by omega))
                  · rw [zif_neg ho, ← hza]
                    exact ih _ _ (stM_skip hs (Or.inr (Or.inr ⟨_, a, hza, ha, hel2, Or.inr ⟨hq.symm, ho⟩⟩)) (by omega))
                · rw [zif_neg hq]
                  refine ih _ _ (stM_skip hs (Or.inr (Or.inr ⟨_, a, hza, ha, hel2, Or.inl ?_⟩)) (by omega))
                  exact Classical.byContradiction (fun q => hq (i_eq hc q))
      · rw [zif_neg h2]
        exact ih z c (stM_skip hs (Or.inl (fun q => h2 q.2)) (by omega))
    · rw [zif_neg h1]
      exact ih z c (stM_skip hs (Or.inl (fun q => h1 q.1)) (by omega))
end STORE
