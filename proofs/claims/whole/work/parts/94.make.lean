/-! ===== making: the memory grows ===== -/
theorem vaD_nd {A : Nat → Prop} {ws : va_W} : va_D A ws ↔ (ws.map Prod.fst).Nodup ∧ ∀ x ∈ ws, A x.1 := by
  constructor
  · intro h
    refine ⟨?_, fun x hx => ?_⟩
    · show List.Pairwise (fun a b => a ≠ b) _
      rw [List.pairwise_iff_getElem]
      intro i j hi hj hij e
      rw [List.length_map] at hi hj
      rw [List.getElem_map, List.getElem_map] at e
      have := h.1 i j ws[i] ws[j] (List.getElem?_eq_getElem hi) (List.getElem?_eq_getElem hj) e
      omega
    · obtain ⟨k, hk⟩ := List.getElem?_of_mem hx
      exact h.2 k x hk
  · rintro ⟨h1, h2⟩
    refine ⟨fun i j p q hi hj e => ?_, fun k q hk => h2 q (List.mem_of_getElem? hk)⟩
    have g := List.pairwise_iff_getElem.mp (show List.Pairwise (fun a b => a ≠ b) _ from h1)
    obtain ⟨i1, ei⟩ := List.getElem?_eq_some_iff.mp hi
    obtain ⟨j1, ej⟩ := List.getElem?_eq_some_iff.mp hj
    have i2 : i < (ws.map Prod.fst).length := by rw [List.length_map]; exact i1
    have j2 : j < (ws.map Prod.fst).length := by rw [List.length_map]; exact j1
    have e2 : (ws.map Prod.fst)[i] = (ws.map Prod.fst)[j] := by rw [List.getElem_map, List.getElem_map, ei, ej]; exact e
    rcases Nat.lt_trichotomy i j with z | z | z
    · exact absurd e2 (g i j i2 j2 z)
    · exact z
    · exact absurd e2.symm (g j i j2 i2 z)
/-- the constants, apart from A -/
def zEnA (A : Nat → Prop) (E : zE) (U : State) : Prop :=
  va_K E.1 vwCl (ztys E) U ∧
  (∀ i, i < 18 → va_O "java/lang/String" (E.2.1 (75, i)) A U U.heap ∧ va_OF "java/lang/String" "coder" "B" (.int 0) (E.2.1 (75, i)) A U U.heap ∧ va_OF "java/lang/String" "value" "[B" (.ref (E.2.1 (76, i))) (E.2.1 (75, i)) A U U.heap ∧ va_T .byte (E.2.1 (76, i)) (zTxL i) (fun j => .int ((zTxB i).getD j 0)) A U U.heap) ∧
  (∀ q ∈ zStrs, vk_R q.1 q.2.1 q.2.2.1 (E.2.1 (75, q.2.2.2)) U) ∧
  (∀ q ∈ zNestM, va_Nw (.methodLinkNest q.1 q.2.1 q.2.2 "BaggageHandling") U) ∧ va_Nw zNestF U ∧
  va_Z "BaggageHandling" "SORT_LIMITS" "[I" (.ref (E.2.1 (74, 0))) A U U.heap ∧ va_T .int (E.2.1 (74, 0)) 7 (fun j => .int (zLim j)) A U U.heap ∧
  va_Z "java/lang/String" "COMPACT_STRINGS" "Z" (.int 1) A U U.heap ∧ va_Z "jdk/internal/util/Preconditions" "SIOOBE_FORMATTER" "Ljava/util/function/BiFunction;" E.2.2.2.2 A U U.heap ∧ E.2.2.2.2.category = 1
theorem zEnA.go {A : Nat → Prop} {E : zE} {s U : State} (h : zEnA A E s) (hW : s.WarmedH U.vm) (hq : ∀ a : Nat, a < s.heap.size → ¬ A a → U.heap[a]? = s.heap[a]?) : zEnA A E U := by
  obtain ⟨h1, h2, h3, h4, h5, h6, h7, h8, h9, h10⟩ := h
  have hv := hW.alike
  exact ⟨va_K.moved hv h1, fun i hi => ⟨va_O.moved hv ((h2 i hi).1.kept hq), va_OF.moved hv ((h2 i hi).2.1.kept hq), va_OF.moved hv ((h2 i hi).2.2.1.kept hq), va_T.moved hv ((h2 i hi).2.2.2.kept hq)⟩,
    fun q hq => vk_R.warm hW (h3 q hq), fun q hq => va_Nw.warmM hW (h4 q hq), va_Nw.warmF hW h5, va_Z.moved hv (h6.kept hq), va_T.moved hv (h7.kept hq), va_Z.moved hv (h8.kept hq), va_Z.moved hv (h9.kept hq), h10⟩
theorem zEnA.same {A : Nat → Prop} {E : zE} {s U : State} (h : zEnA A E s) (hv : U.vm = s.vm) (hh : U.heap = s.heap) : zEnA A E U := by
  obtain ⟨h1, h2, h3, h4, h5, h6, h7, h8, h9, h10⟩ := h
  have ha : s.vm.Alike U.vm := by rw [hv]; exact Vm.Alike.refl _
  refine ⟨va_K.moved ha h1, fun i hi => ?_, fun q hq => vk_R.same hv (h3 q hq), fun q hq => va_Nw.same rfl hv.symm (h4 q hq), va_Nw.same rfl hv.symm h5, ?_, ?_, ?_, ?_, h10⟩
  · rw [hh]; exact ⟨va_O.moved ha (h2 i hi).1, va_OF.moved ha (h2 i hi).2.1, va_OF.moved ha (h2 i hi).2.2.1, va_T.moved ha (h2 i hi).2.2.2⟩
  · rw [hh]; exact va_Z.moved ha h6
  · rw [hh]; exact va_T.moved ha h7
  · rw [hh]; exact va_Z.moved ha h8
  · rw [hh]; exact va_Z.moved ha h9
theorem zEnA.env {A : Nat → Prop} {E : zE} {U : State} (h : zEnA A E U) (hA : ∀ q, zA E q → A q) : zEnv E U := by
  obtain ⟨h1, h2, h3, h4, h5, h6, h7, h8, h9, h10⟩ := h
  exact ⟨h1, fun i hi => ⟨(h2 i hi).1.narrow hA, (h2 i hi).2.1.narrow hA, (h2 i hi).2.2.1.narrow hA, (h2 i hi).2.2.2.narrow hA⟩, h3, h4, h5, h6.narrow hA, h7.narrow hA, h8.narrow hA, h9.narrow hA, h10⟩
/-- how the memory's fixed parts grow -/
def zGr (E E' : zE) (hs : List zH) : Prop := E'.1 = E.1 ∧ E'.2.2.2 = E.2.2.2 ∧ E'.2.2.1 = E.2.2.1 ++ hs ∧ ∀ h, h ∉ hs → E'.2.1 h = E.2.1 h
theorem zGr.rf {E : zE} : zGr E E [] := ⟨rfl, rfl, (List.append_nil _).symm, fun _ _ => rfl⟩
theorem zGr.trans {E E1 E2 : zE} {h1 h2 : List zH} (a : zGr E E1 h1) (b : zGr E1 E2 h2) : zGr E E2 (h1 ++ h2) := by
  obtain ⟨a1, a2, a3, a4⟩ := a
  obtain ⟨b1, b2, b3, b4⟩ := b
  exact ⟨b1.trans a1, b2.trans a2, by rw [b3, a3, List.append_assoc], fun h n => (b4 h (fun z => n (List.mem_append_right _ z))).trans (a4 h (fun z => n (List.mem_append_left _ z)))⟩
theorem zEnA.gr {A : Nat → Prop} {E E' : zE} {U : State} {hs : List zH} (h : zEnA A E U) (g : zGr E E' hs) (hh : ∀ h ∈ hs, h.1 < 74) : zEnA A E' U := by
  obtain ⟨D, ad, L, r⟩ := E
  obtain ⟨D', ad', L', r'⟩ := E'
  obtain ⟨g1, g2, -, g4⟩ := g
  dsimp only at g1 g2
  subst g1; subst g2
  have ga : ∀ h : zH, 74 ≤ h.1 → ad' h = ad h := fun h z => g4 h (fun m => by have := hh h m; omega)
  obtain ⟨h1, h2, h3, h4, h5, h6, h7, h8, h9, h10⟩ := h
  refine ⟨h1, fun i hi => ?_, fun q hq => ?_, h4, h5, ?_, ?_, h8, h9, h10⟩
  · dsimp only
    rw [ga (75, i) (Nat.le_of_ble_eq_true rfl), ga (76, i) (Nat.le_of_ble_eq_true rfl)]
    exact h2 i hi
  · dsimp only
    rw [ga (75, q.2.2.2) (Nat.le_of_ble_eq_true rfl)]
    exact h3 q hq
  · dsimp only
    rw [ga (74, 0) (Nat.le_refl _)]
    exact h6
  · dsimp only
    rw [ga (74, 0) (Nat.le_refl _)]
    exact h7
/-- the links to private constructors -/
def zNestI : List (String × Nat × MethodName) := [(RX10, 9, yX7_init), (RX10, 27, yX8_init), (RX5, 11, yX1_init), (RX9, 32, yX3_init), (RX9, 39, yX0_init)]
def zAA (E : zE) (U : State) : Prop := ∃ kA : Class, U.vm.classes[E.2.2.2.1 3]? = some kA ∧ kA.kind = .array (E.2.2.2.1 0) (.array .int)
def zEnC (N0 : Nat) (E : zE) (U : State) : Prop := zEnA (fun q => N0 ≤ q) E U ∧ va_AO "BaggageHandling$World" U ∧ zAA E U ∧ ∀ q ∈ zNestI, va_Nw (.methodLinkNest q.1 q.2.1 q.2.2 "BaggageHandling") U
theorem zAA.moved {E : zE} {s U : State} (hv : s.vm.Alike U.vm) (h : zAA E s) : zAA E U := by
  obtain ⟨k, h1, h2⟩ := h
  obtain ⟨k', h3, h4⟩ := hv.2.2 _ _ h1
  exact ⟨k', h3, by rw [h4]; exact h2⟩
theorem zEnC.go {N0 : Nat} {E : zE} {s U : State} (h : zEnC N0 E s) (hW : s.WarmedH U.vm) (hq : ∀ a : Nat, a < s.heap.size → a < N0 → U.heap[a]? = s.heap[a]?) : zEnC N0 E U :=
  ⟨h.1.go hW (fun a h1 h2 => hq a h1 (Nat.lt_of_not_le h2)), va_AO.moved hW.alike h.2.1, h.2.2.1.moved hW.alike, fun q hq => va_Nw.warmM hW (h.2.2.2 q hq)⟩
theorem zEnC.same {N0 : Nat} {E : zE} {s U : State} (h : zEnC N0 E s) (hv : U.vm = s.vm) (hh : U.heap = s.heap) : zEnC N0 E U := by
  have ha : s.vm.Alike U.vm := by rw [hv]; exact Vm.Alike.refl _
  exact ⟨h.1.same hv hh, va_AO.moved ha h.2.1, h.2.2.1.moved ha, fun q hq => va_Nw.same rfl hv.symm (h.2.2.2 q hq)⟩
theorem zEnC.gr {N0 : Nat} {E E' : zE} {U : State} {hs : List zH} (h : zEnC N0 E U) (g : zGr E E' hs) (hh : ∀ h ∈ hs, h.1 < 74) : zEnC N0 E' U := by
  refine ⟨h.1.gr g hh, h.2.1, ?_, h.2.2.2⟩
  obtain ⟨k, h1, h2⟩ := h.2.2.1
  exact ⟨k, by rw [g.2.1]; exact h1, by rw [g.2.1]; exact h2⟩
/-- contents that agree at a handle -/
def zag (μ μ' : zM) (h : zH) : Prop := μ'.1 h.1 h.2 = μ.1 h.1 h.2 ∧ μ'.2.1 h.1 h.2 = μ.2.1 h.1 h.2 ∧ μ'.2.2 h.1 h.2 = μ.2.2 h.1 h.2
theorem zag.rf {μ : zM} {h : zH} : zag μ μ h := ⟨rfl, rfl, rfl⟩
theorem zag.trans {μ μ1 μ2 : zM} {h : zH} (a : zag μ μ1 h) (b : zag μ1 μ2 h) : zag μ μ2 h := ⟨b.1.trans a.1, b.2.1.trans a.2.1, b.2.2.trans a.2.2⟩
theorem arrV_ext {cA : ClassId} {n : Nat} {f g : Nat → Value} (h : ∀ j, j < n → f j = g j) : arrV cA n f = arrV cA n g := by
  unfold arrV
  have : (fun j : Fin n => f j.val) = fun j : Fin n => g j.val := funext fun j => h j.val j.isLt
  rw [this]
theorem zS_ty {k i : Nat} {fs : List zFT} (h : zS k i = .inl fs) : ∀ f ∈ fs, f.1 ≤ 4 := by
  have hk := zS_obj h
  rcases (by omega : k = 0 ∨ k = 1 ∨ k = 2 ∨ k = 3 ∨ k = 4 ∨ k = 5 ∨ k = 6 ∨ k = 7 ∨ k = 8 ∨ k = 9 ∨ k = 10 ∨ k = 11) with z | z | z | z | z | z | z | z | z | z | z | z <;> subst z <;> (have h := Sum.inl.inj h; subst h; simp)
theorem zfs_gr {E E' : zE} {μ : zM} {h : zH} : ∀ (fs : List zFT) (n : Nat), (∀ f ∈ fs, f.1 ≤ 4 ∧ (f.1 = 2 → E'.2.1 f.2 = E.2.1 f.2) ∧ (f.1 = 3 → ∀ j, j < 2 → E'.2.1 (f.2.1, j) = E.2.1 (f.2.1, j))) → zfs E' μ h n fs = zfs E μ h n fs
  | [], _, _ => rfl
  | f :: fs, n, hf => by
    obtain ⟨a, b, c⟩ := hf f List.mem_cons_self
    simp only [zfs, zfs_gr fs (n + 1) (fun g hg => hf g (List.mem_cons_of_mem _ hg))]
    congr 1
    rcases (by omega : f.1 = 0 ∨ f.1 = 1 ∨ f.1 = 2 ∨ f.1 = 3 ∨ f.1 = 4) with z | z | z | z | z
    · simp only [zfv, z]
    · simp only [zfv, z]
    · simp only [zfv, z]
      rw [b z]
    · simp only [zfv, z]
      unfold zmr
      split
      · next hj => rw [c z _ hj]
      · rfl
    · simp only [zfv, z]
theorem zat_gr {E E' : zE} {μ μ' : zM} {h : zH} {H : Heap} (hC : zCl E) (hh : h ∈ E.2.2.1) (g1 : E'.1 = E.1) (g2 : E'.2.2.2 = E.2.2.2) (ga : ∀ h ∈ E.2.2.1, E'.2.1 h = E.2.1 h) (hm : zag μ μ' h) (v : va_at E.1 vwCl (E.2.1 h, zcell E μ h) H) : va_at E'.1 vwCl (E'.2.1 h, zcell E' μ' h) H := by
  rw [g1, ga h hh, zcell_congr hm.1 hm.2.1 hm.2.2]
  obtain ⟨-, c1, c2⟩ := hC h hh
  cases hs : zS h.1 h.2 with
  | inl fs =>
    rw [zcell_obj hs] at v ⊢
    rw [zfs_gr (E := E) (E' := E') fs 0 (fun f hf => ⟨zS_ty hs f hf, fun z => ga _ ((c1 fs hs f hf).1 z), fun z j hj => ga _ ((c1 fs hs f hf).2 z j hj)⟩)]
    exact v
  | inr t =>
    obtain ⟨t, n, r⟩ := t
    rcases t with _ | _ | _ | _ | _ | t
    · rw [zcell_0 hs] at v ⊢; rw [g2]; exact v
    · rw [zcell_1 hs] at v ⊢; rw [g2]; exact v
    · rw [zcell_2 hs] at v ⊢
      rw [g2]
      have v1 : H[E.2.1 h]? = some (vp_cell _ _) := v
      show H[E.2.1 h]? = some (vp_cell _ _)
      rw [v1, vp_cell_q, vp_cell_q]
      exact congrArg some (arrV_ext fun j hj => by rw [ga _ (c2 _ _ _ hs (Or.inl rfl) j hj)])
    · have e : ∀ E0 : zE, zcell E0 μ h = .inl (E0.2.2.2.1 0, 0, .inl (fun _ => 0)) := fun E0 => by simp only [zcell, hs]
      rw [e] at v ⊢; rw [g2]; exact v
    · rw [zcell_4 hs] at v ⊢
      rw [g2]
      have v1 : H[E.2.1 h]? = some (vp_cell _ _) := v
      show H[E.2.1 h]? = some (vp_cell _ _)
      rw [v1, vp_cell_q, vp_cell_q]
      exact congrArg some (arrV_ext fun j hj => by rw [ga _ (c2 _ _ _ hs (Or.inr rfl) j hj)])
    · have e : ∀ E0 : zE, zcell E0 μ h = .inl (E0.2.2.2.1 0, 0, .inl (fun _ => 0)) := fun E0 => by simp only [zcell, hs]
      rw [e] at v ⊢; rw [g2]; exact v
/-- the world while objects are made: cells half made, and the memory -/
def CW (A : Nat → Prop) (E : zE) (μ : zM) (raw : va_W) (H : Heap) : Prop :=
  (∀ x ∈ raw, va_at E.1 vwCl x H) ∧ (∀ h ∈ E.2.2.1, va_at E.1 vwCl (E.2.1 h, zcell E μ h) H) ∧ (raw.map Prod.fst ++ E.2.2.1.map E.2.1).Nodup ∧ (∀ x ∈ raw, A x.1) ∧ ∀ h ∈ E.2.2.1, A (E.2.1 h)
theorem zws_fst {E : zE} {μ : zM} : (zws E μ).map Prod.fst = E.2.2.1.map E.2.1 := by
  unfold zws
  rw [List.map_map]
  rfl
section CWS
variable {A B : Nat → Prop} {E : zE} {μ μ' : zM} {raw raw' : va_W} {H H1 : Heap}
theorem CW.P (h : CW A E μ raw H) : va_P E.1 vwCl (raw ++ zws E μ) H := by
  intro k q hk
  rcases List.mem_append.mp (List.mem_of_getElem? hk) with z | z
  · exact h.1 q z
  · obtain ⟨h', h1, rfl⟩ := List.mem_map.mp z
    exact h.2.1 h' h1
theorem CW.D (h : CW A E μ raw H) : va_D A (raw ++ zws E μ) := by
  refine vaD_nd.mpr ⟨by rw [List.map_append, zws_fst]; exact h.2.2.1, fun x hx => ?_⟩
  rcases List.mem_append.mp hx with z | z
  · exact h.2.2.2.1 x z
  · obtain ⟨h', h1, rfl⟩ := List.mem_map.mp z
    exact h.2.2.2.2 h' h1
theorem CW.of (hP : va_P E.1 vwCl (raw ++ zws E μ) H) (hD : va_D A (raw ++ zws E μ)) : CW A E μ raw H := by
  obtain ⟨d1, d2⟩ := vaD_nd.mp hD
  have p1 : ∀ x ∈ raw ++ zws E μ, va_at E.1 vwCl x H := fun x hx => by
    obtain ⟨k, hk⟩ := List.getElem?_of_mem hx
    exact hP k x hk
  have m : ∀ h ∈ E.2.2.1, (E.2.1 h, zcell E μ h) ∈ zws E μ := fun h hh => List.mem_map.mpr ⟨h, hh, rfl⟩
  rw [List.map_append, zws_fst] at d1
  exact ⟨fun x hx => p1 x (List.mem_append_left _ hx), fun h hh => p1 _ (List.mem_append_right _ (m h hh)), d1, fun x hx => d2 x (List.mem_append_left _ hx), fun h hh => d2 _ (List.mem_append_right _ (m h hh))⟩
theorem CW.push {x : Nat × va_E} (hP : va_P E.1 vwCl ((raw ++ zws E μ) ++ [x]) H) (hD : va_D A ((raw ++ zws E μ) ++ [x])) : CW A E μ (x :: raw) H := by
  obtain ⟨d1, d2⟩ := vaD_nd.mp hD
  have pm : List.Perm ((raw ++ zws E μ) ++ [x]) ((x :: raw) ++ zws E μ) := List.perm_append_comm
  refine CW.of (fun k q hk => ?_) (vaD_nd.mpr ⟨(pm.map Prod.fst).nodup_iff.mp d1, fun y hy => d2 y (pm.mem_iff.mpr hy)⟩)
  obtain ⟨j, hj⟩ := List.getElem?_of_mem (pm.mem_iff.mpr (List.mem_of_getElem? hk))
  exact hP j q hj
theorem CW.perm (h : CW A E μ raw H) (pm : raw.Perm raw') : CW A E μ raw' H :=
  ⟨fun x hx => h.1 x (pm.mem_iff.mpr hx), h.2.1, ((pm.map Prod.fst).append_right _).nodup_iff.mp h.2.2.1, fun x hx => h.2.2.2.1 x (pm.mem_iff.mpr hx), h.2.2.2.2⟩
theorem CW.wk (h : CW A E μ raw H) (hA : ∀ q, A q → B q) : CW B E μ raw H := ⟨h.1, h.2.1, h.2.2.1, fun x hx => hA _ (h.2.2.2.1 x hx), fun x hx => hA _ (h.2.2.2.2 x hx)⟩
theorem CW.toZ (h : CW A E μ [] H) : zP E μ H := by
  refine ⟨h.P, vaD_nd.mpr ⟨by rw [zws_fst]; exact h.2.2.1, fun x hx => ?_⟩⟩
  obtain ⟨h', h1, rfl⟩ := List.mem_map.mp hx
  exact ⟨h', h1, rfl⟩
theorem CW.tail {x : Nat × va_E} (h : CW A E μ (x :: raw) H) : CW A E μ raw H := by
  refine ⟨fun y hy => h.1 y (List.mem_cons_of_mem _ hy), h.2.1, ?_, fun y hy => h.2.2.2.1 y (List.mem_cons_of_mem _ hy), h.2.2.2.2⟩
  have := h.2.2.1
  exact (List.nodup_cons.mp this).2
theorem CW.nil (h : CW A E μ raw H) : CW A E μ [] H := by
  induction raw with
  | nil => exact h
  | cons x raw ih => exact ih h.tail
theorem CW.one {x : Nat × va_E} (h : CW A E μ (x :: raw) H) : CW A E μ [x] H := by
  refine ⟨fun y hy => h.1 y (by rw [List.mem_singleton.mp hy]; exact List.mem_cons_self), h.2.1, ?_, fun y hy => h.2.2.2.1 y (by rw [List.mem_singleton.mp hy]; exact List.mem_cons_self), h.2.2.2.2⟩
  obtain ⟨n1, n2⟩ := List.nodup_cons.mp (show (x.1 :: (raw.map Prod.fst ++ E.2.2.1.map E.2.1)).Nodup from h.2.2.1)
  exact List.nodup_cons.mpr ⟨fun z => n1 (List.mem_append_right _ z), (List.nodup_append.mp n2).2.1⟩
theorem CW.of_zP (h : zP E μ H) (hA : ∀ q, zA E q → A q) : CW A E μ [] H := CW.of (raw := []) h.1 (vaD_nd.mpr ⟨(vaD_nd.mp h.2).1, fun x hx => hA _ ((vaD_nd.mp h.2).2 x hx)⟩)
/-- raw addresses lie outside of the memory -/
theorem CW.out (h : CW A E μ raw H) {x : Nat × va_E} (hx : x ∈ raw) : ¬ zA E x.1 := by
  rintro ⟨h', h1, h2⟩
  exact (List.nodup_append.mp h.2.2.1).2.2 x.1 (List.mem_map.mpr ⟨x, hx, rfl⟩) (E.2.1 h') (List.mem_map.mpr ⟨h', h1, rfl⟩) h2.symm
end CWS
def zadd (E : zE) (h : zH) (q : Nat) : zE := (E.1, (fun h' => if h' = h then q else E.2.1 h'), E.2.2.1 ++ [h], E.2.2.2)
theorem zadd_gr (E : zE) (h : zH) (q : Nat) : zGr E (zadd E h q) [h] := ⟨rfl, rfl, rfl, fun h' n => by
  show (if h' = h then q else E.2.1 h') = _
  exact if_neg (fun e => n (List.mem_singleton.mpr e))⟩
theorem zadd_at (E : zE) (h : zH) (q : Nat) : (zadd E h q).2.1 h = q := by
  show (if h = h then q else E.2.1 h) = _
  exact if_pos rfl
theorem zadd_ne {E : zE} {h h' : zH} {q : Nat} (n : h' ≠ h) : (zadd E h q).2.1 h' = E.2.1 h' := by
  show (if h' = h then q else E.2.1 h') = _
  exact if_neg n
def zz (h : zH) (μ : zM) : zM := (fun k i n => if k = h.1 ∧ i = h.2 then 0 else μ.1 k i n, fun k i n => if k = h.1 ∧ i = h.2 then 2 else μ.2.1 k i n, fun k i n => if k = h.1 ∧ i = h.2 then 0 else μ.2.2 k i n)
theorem zz_ag {h h' : zH} {μ : zM} (n : h' ≠ h) : zag μ (zz h μ) h' := by
  have e : ¬ (h'.1 = h.1 ∧ h'.2 = h.2) := fun z => n (Prod.ext z.1 z.2)
  exact ⟨funext fun z => if_neg e, funext fun z => if_neg e, funext fun z => if_neg e⟩
theorem zz_0 (h : zH) (μ : zM) : (zz h μ).1 h.1 h.2 = (fun _ => 0) ∧ (zz h μ).2.1 h.1 h.2 = (fun _ => 2) ∧ (zz h μ).2.2 h.1 h.2 = (fun _ => 0) := ⟨funext fun z => if_pos ⟨rfl, rfl⟩, funext fun z => if_pos ⟨rfl, rfl⟩, funext fun z => if_pos ⟨rfl, rfl⟩⟩
theorem CW.take' {A : Nat → Prop} {E : zE} {μ μ' : zM} {raw : va_W} {H : Heap} {h : zH} {q : Nat} {e : va_E} (hw : CW A E μ ((q, e) :: raw) H) (hC : zCl E) (hn : h ∉ E.2.2.1) (hm : ∀ h' ∈ E.2.2.1, zag μ μ' h') (he : va_at E.1 vwCl (q, e) H → va_at E.1 vwCl (q, zcell (zadd E h q) μ' h) H) : CW A (zadd E h q) μ' raw H := by
  have ga : ∀ h' ∈ E.2.2.1, (zadd E h q).2.1 h' = E.2.1 h' := fun h' z => zadd_ne (fun e => hn (by rw [← e]; exact z))
  refine ⟨fun x hx => hw.1 x (List.mem_cons_of_mem _ hx), fun h' hh => ?_, ?_, fun x hx => hw.2.2.2.1 x (List.mem_cons_of_mem _ hx), fun h' hh => ?_⟩
  · rcases List.mem_append.mp (show h' ∈ E.2.2.1 ++ [h] from hh) with z | z
    · exact zat_gr hC z rfl rfl ga (hm h' z) (hw.2.1 h' z)
    · rw [List.mem_singleton.mp z, zadd_at]
      exact he (hw.1 _ List.mem_cons_self)
  · have e1 : (zadd E h q).2.2.1.map (zadd E h q).2.1 = E.2.2.1.map E.2.1 ++ [q] := by
      show (E.2.2.1 ++ [h]).map _ = _
      rw [List.map_append, List.map_cons, List.map_nil, zadd_at, List.map_congr_left ga]
    rw [e1, ← List.append_assoc]
    exact (List.perm_append_comm (l₁ := raw.map Prod.fst ++ E.2.2.1.map E.2.1) (l₂ := [q])).nodup_iff.mpr hw.2.2.1
  · rcases List.mem_append.mp (show h' ∈ E.2.2.1 ++ [h] from hh) with z | z
    · rw [ga h' z]; exact hw.2.2.2.2 h' z
    · rw [List.mem_singleton.mp z, zadd_at]; exact hw.2.2.2.1 _ List.mem_cons_self
theorem CW.take {A : Nat → Prop} {E : zE} {μ μ' : zM} {raw : va_W} {H : Heap} {h : zH} {q : Nat} {e : va_E} (hw : CW A E μ ((q, e) :: raw) H) (hC : zCl E) (hn : h ∉ E.2.2.1) (hm : ∀ h' ∈ E.2.2.1, zag μ μ' h') (he : zcell (zadd E h q) μ' h = e) : CW A (zadd E h q) μ' raw H := hw.take' hC hn hm (fun z => by rw [he]; exact z)
theorem zCl.add {E : zE} {h : zH} {q : Nat} (hC : zCl E) (h1 : h.1 < 74) (hf : ∀ fs, zS h.1 h.2 = .inl fs → ∀ f ∈ fs, (f.1 = 2 → f.2 ∈ E.2.2.1) ∧ (f.1 = 3 → ∀ j, j < 2 → (f.2.1, j) ∈ E.2.2.1)) (ha : ∀ t n r, zS h.1 h.2 = .inr (t, n, r) → t = 2 ∨ t = 4 → ∀ j, j < n → (r.1, r.2 + j) ∈ E.2.2.1) : zCl (zadd E h q) := by
  intro h' hh
  rcases List.mem_append.mp (show h' ∈ E.2.2.1 ++ [h] from hh) with z | z
  · obtain ⟨a, b, c⟩ := hC h' z
    exact ⟨a, fun fs hs f hf => ⟨fun e => List.mem_append_left _ ((b fs hs f hf).1 e), fun e j hj => List.mem_append_left _ ((b fs hs f hf).2 e j hj)⟩, fun t n r hs ht j hj => List.mem_append_left _ (c t n r hs ht j hj)⟩
  · rw [List.mem_singleton.mp z]
    exact ⟨h1, fun fs hs f hf' => ⟨fun e => List.mem_append_left _ ((hf fs hs f hf').1 e), fun e j hj => List.mem_append_left _ ((hf fs hs f hf').2 e j hj)⟩, fun t n r hs ht j hj => List.mem_append_left _ (ha t n r hs ht j hj)⟩
theorem zCl.addA {E : zE} {h : zH} {q t n : Nat} (hC : zCl E) (h1 : h.1 < 74) (hs : zS h.1 h.2 = .inr (t, n, (0, 0))) (ht : t < 2) : zCl (zadd E h q) :=
  hC.add h1 (fun fs e => by rw [hs] at e; cases e) (fun t' n' r e z => by rw [hs] at e; cases e; omega)
