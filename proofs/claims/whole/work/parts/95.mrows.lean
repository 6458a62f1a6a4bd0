/-! ===== rows while objects are made ===== -/
set_option maxRecDepth 20000 in
theorem wi_arrI : Cond.arrayClass .int ∈ zW := zW_in (i := 230) rfl rfl
set_option maxRecDepth 20000 in
theorem wi_arrB : Cond.arrayClass .byte ∈ zW := zW_in (i := 158) rfl rfl
theorem zW_goodZ {y' : MethodName} {cc' : ByteArray} {nL' : Nat} {ret' : Option FieldType} (h : Cond.code y' cc' nL' ret' ∈ zW) : GoodIn zW (zws0 y' cc' nL' ret') := by
  intro w hw
  have hz : w ∈ zW := by
    rcases List.mem_cons.mp hw with e | e
    · rw [e]; exact h
    · exact e
  exact ⟨hz, zW_good hz⟩
def cX (own : String) (cc : ByteArray) (nL : Nat) (p : Program) (s : State) (m : MethodId) (args : Array Value) (c : Code) : Prop :=
  p.tables.exec = Jvm.exec ∧ c.code = cc ∧ c.maxLocals = nL ∧ s.vm.findClass own = some m.cls ∧ ∀ w ∈ zW, w.before args s = true
def cI (A : Nat → Prop) (N0 : Nat) (s : State) (E : zE) (μ : zM) (raw : va_W) (H : Heap) (locs : List Loc) : Prop := zCl E ∧ zEnC N0 E s ∧ CW A E μ raw H ∧ va_S A s.heap H locs
def zB (E : zE) (a sz : Nat) : Nat → Prop := fun q => zA E q ∨ q = a ∨ sz ≤ q
def KQ (E : zE) (μ : zM) (a sz ci i : Nat) (hs : List zH) (F : zM → Prop) : Array Value → State → Outcome → State → Prop := fun _ st oc t => (oc = .returned none ∧ ∃ (E' : zE) (μ' : zM), zGr E E' hs ∧ E'.2.1 (ci, i) = a ∧ (∀ h ∈ E.2.2.1, zag μ μ' h) ∧ F μ' ∧ zCl E' ∧ CW (zB E a sz) E' μ' [] t.heap) ∧ va_F (zB E a sz) st t
def KP (E : zE) (μ : zM) (N0 a sz ci : Nat) (fs0 : List Value) : State → Prop := fun U => U.heap.size = sz ∧ zEnC N0 E U ∧ CW (fun _ => True) E μ [(a, .inr (ci, fs0))] U.heap
/-- a constructor's contract: object i of kind ci, the handles hs that it makes (its own among them), what it asks of the memory, its arguments, what it says of the contents -/
def Kon (y : MethodName) (cc : ByteArray) (nL : Nat) (R : Room) (ci i : Nat) (fs0 : List Value) (hs : List zH) (ok : zE → Prop) (av : zE → List Value) (F : zM → Prop) : Prop :=
  ∀ (l : Launch) (E : zE) (μ : zM) (N0 a sz : Nat), zCl E → ok E → (∀ h ∈ hs, h ∉ E.2.2.1) → N0 ≤ a → N0 ≤ sz → (∀ h ∈ E.2.2.1, N0 ≤ E.2.1 h) →
  Met l y (zws0 y cc nL none) R (va_Pc (.ref a :: av E) (KP E μ N0 a sz ci fs0)) (KQ E μ a sz ci i hs F) R.cells R.slots (zB E a sz)
theorem KP_blind {E : zE} {μ : zM} {N0 a sz ci : Nat} {fs0 av : List Value} : FrameBlind (va_Pc av (KP E μ N0 a sz ci fs0)) := by
  intro a U g mk h
  exact ⟨h.1, h.2.1, h.2.2.1.same rfl rfl, h.2.2.2⟩
section CROWS
variable {p : Program} {l : Launch} {e : Env} {R : Room} {s : State} {m : MethodId} {args : Array Value} {below : List Frame} {meth : Method} {c : Code} {H : Heap} {locs : List Loc} {cells slots : Nat} {Q : State → Prop}
variable {own : String} {cc : ByteArray} {nL pc : Nat} {ls : Array Slot} {rest : List Value} {A : Nat → Prop} {N0 : Nat} {E : zE} {μ : zM} {raw : va_W}
theorem c_newI (X : cX own cc nL p s m args c) (hI : cI A N0 s E μ raw H locs) (hA : ∀ q, s.heap.size ≤ q → A q) (h : zH) {n : Int32} {N' : Nat} (hs : zS h.1 h.2 = .inr (0, N', (0, 0))) (hn : h ∉ E.2.2.1) (h74 : h.1 < 74) (n0 : ¬ n < 0) (nN : n.toNatClampNeg = N') (hbytes : N' * componentBytes .int ≤ 536870912) (hcells : cells + 1 ≤ R.cells) (hslots : slots + N' ≤ R.slots) (hd : decode cc pc = .ok (.newarray .int, 2))
    (kk : ∀ (q : Nat) (H1 : Heap) (E' : zE) (μ' : zM), zGr E E' [h] → E'.2.1 h = q → (∀ h' ∈ E.2.2.1, zag μ μ' h') → μ'.1 h.1 h.2 = (fun _ => 0) → cI A N0 s E' μ' raw H1 locs → W p l e R s m args below meth c H1 locs (cells + 1) (slots + N') Q (F0 m (pc + 2) ls (.ref q :: rest))) : W p l e R s m args below meth c H locs cells slots Q (F0 m pc ls (.int n :: rest)) := by
  obtain ⟨hC, hE, hW, hS⟩ := hI
  have hK := hE.1.1
  refine va_newa (atype := .int) (ty := .int) (a0 := (N', .inl (fun _ => 0))) X.1 X.2.1 (X.2.2.2.2 _ wi_arrI) rfl hK hW.P hW.D hS hA (fun cA => rfl) n0 nN hbytes hcells hslots hd (fun q cA H1 hK1 hP1 hD1 hS1 => ?_)
  have hcA : E.2.2.2.1 0 = cA := by
    have k1 := (hK1.2 4 (cA, .int) rfl).2
    have k2 := (hK.2 0 (E.2.2.2.1 0, .int) rfl).2
    exact Option.some.inj (Eq.trans (Eq.symm k2) k1)
  subst hcA
  have hz : ∀ h' ∈ E.2.2.1, zag μ (zz h μ) h' := fun h' z => zz_ag (fun e => hn (by rw [← e]; exact z))
  refine kk q H1 (zadd E h q) (zz h μ) (zadd_gr E h q) (zadd_at E h q) hz (zz_0 h μ).1 ⟨hC.addA h74 hs (by decide), hE.gr (zadd_gr E h q) (fun h' z => by rw [List.mem_singleton.mp z]; exact h74), (CW.push hP1 hD1).take hC hn hz ?_, hS1⟩
  rw [zcell_0 hs, (zz_0 h μ).1]
  rfl
theorem c_newB (X : cX own cc nL p s m args c) (hI : cI A N0 s E μ raw H locs) (hA : ∀ q, s.heap.size ≤ q → A q) (h : zH) {n : Int32} {N' : Nat} (hs : zS h.1 h.2 = .inr (1, N', (0, 0))) (hn : h ∉ E.2.2.1) (h74 : h.1 < 74) (n0 : ¬ n < 0) (nN : n.toNatClampNeg = N') (hbytes : N' * componentBytes .byte ≤ 536870912) (hcells : cells + 1 ≤ R.cells) (hslots : slots + N' ≤ R.slots) (hd : decode cc pc = .ok (.newarray .byte, 2))
    (kk : ∀ (q : Nat) (H1 : Heap) (E' : zE) (μ' : zM), zGr E E' [h] → E'.2.1 h = q → (∀ h' ∈ E.2.2.1, zag μ μ' h') → μ'.1 h.1 h.2 = (fun _ => 0) → cI A N0 s E' μ' raw H1 locs → W p l e R s m args below meth c H1 locs (cells + 1) (slots + N') Q (F0 m (pc + 2) ls (.ref q :: rest))) : W p l e R s m args below meth c H locs cells slots Q (F0 m pc ls (.int n :: rest)) := by
  obtain ⟨hC, hE, hW, hS⟩ := hI
  have hK := hE.1.1
  refine va_newa (atype := .byte) (ty := .byte) (a0 := (N', .inl (fun _ => 0))) X.1 X.2.1 (X.2.2.2.2 _ wi_arrB) rfl hK hW.P hW.D hS hA (fun cA => rfl) n0 nN hbytes hcells hslots hd (fun q cA H1 hK1 hP1 hD1 hS1 => ?_)
  have hcA : E.2.2.2.1 1 = cA := by
    have k1 := (hK1.2 4 (cA, .byte) rfl).2
    have k2 := (hK.2 1 (E.2.2.2.1 1, .byte) rfl).2
    exact Option.some.inj (Eq.trans (Eq.symm k2) k1)
  subst hcA
  have hz : ∀ h' ∈ E.2.2.1, zag μ (zz h μ) h' := fun h' z => zz_ag (fun e => hn (by rw [← e]; exact z))
  refine kk q H1 (zadd E h q) (zz h μ) (zadd_gr E h q) (zadd_at E h q) hz (zz_0 h μ).1 ⟨hC.addA h74 hs (by decide), hE.gr (zadd_gr E h q) (fun h' z => by rw [List.mem_singleton.mp z]; exact h74), (CW.push hP1 hD1).take hC hn hz ?_, hS1⟩
  rw [zcell_1 hs, (zz_0 h μ).1]
  rfl
theorem c_new (X : cX own cc nL p s m args c) (hI : cI A N0 s E μ raw H locs) (hA : ∀ q, s.heap.size ≤ q → A q) {C : String} {T : u_T} {N ci idx : Nat} {fs : List Value} (hc : vwCl[ci]? = some (C, T, N)) (hin : ∀ w ∈ u_ws C T N, w ∈ zW) (ty0 : Nat → FieldType) (hty : ∀ k, k < N → parseFieldDescriptor (T k).2.2.1 = some (ty0 k)) (hcl : Cond.classLink own idx C ∈ zW) (hinst : Cond.instantiable C N ∈ zW) (hini : Cond.initialized C ∈ zW) (hfs : ∀ j, j < N → defaultValue (ty0 j) = vp_V fs j) (hcells : cells + 1 ≤ R.cells) (hslots : slots + N ≤ R.slots) (hd : decode cc pc = .ok (.new idx, 3))
    (kk : ∀ (q : Nat) (H1 : Heap), cI A N0 s E μ ((q, .inr (ci, fs)) :: raw) H1 locs → W p l e R s m args below meth c H1 locs (cells + 1) (slots + N) Q (F0 m (pc + 3) ls (.ref q :: rest))) : W p l e R s m args below meth c H locs cells slots Q (F0 m pc ls rest) := by
  obtain ⟨hC, hE, hW, hS⟩ := hI
  exact va_new (C := C) (T := T) (N := N) (ci := ci) (fs := fs) (Ts := zW) X.1 X.2.1 X.2.2.2.2 hin ty0 hty X.2.2.2.1 (X.2.2.2.2 _ hcl) (X.2.2.2.2 _ hinst) (X.2.2.2.2 _ hini) hE.1.1 hW.P hW.D hS hA hc hfs hcells hslots hd (fun q H1 hP1 hD1 hS1 => kk q H1 ⟨hC, hE, CW.push hP1 hD1, hS1⟩)
theorem c_putF (X : cX own cc nL p s m args c) {a ci k idx : Nat} {fs : List Value} (hI : cI A N0 s E μ ((a, .inr (ci, fs)) :: raw) H locs) (him : meth.name = "<init>") {C : String} {T : u_T} {N : Nat} (hc : vwCl[ci]? = some (C, T, N)) (hin : ∀ w ∈ u_ws C T N, w ∈ zW) (ty0 : Nat → FieldType) (hty : ∀ k, k < N → parseFieldDescriptor (T k).2.2.1 = some (ty0 k)) (hnm : ∀ a, a < N → ∀ b, b < N → a ≠ b → (T a).2.1 ≠ (T b).2.1) (hk : k < N) (hl : Cond.fieldLink own idx (T k).1 (T k).2.1 (T k).2.2.1 ∈ zW) (hfin : (T k).2.2.2 = true) (hdecl : (T k).1 = own) {v : Value} (hn : narrow (ty0 k) v = v) (hfit : fits (ty0 k) v = true) (hlen : k < fs.length) (hd : decode cc pc = .ok (.putfield idx, 3))
    (kk : ∀ (H1 : Heap) (locs1 : List Loc), cI A N0 s E μ ((a, .inr (ci, fs.set k v)) :: raw) H1 locs1 → W p l e R s m args below meth c H1 locs1 cells slots Q (F0 m (pc + 3) ls rest)) : W p l e R s m args below meth c H locs cells slots Q (F0 m pc ls (v :: .ref a :: rest)) := by
  obtain ⟨hC, hE, hW, hS⟩ := hI
  exact va_putF (C := C) (T := T) (N := N) (ci := ci) (ref := (T k).1) (index := idx) (ty := ty0 k) (Ts := zW) X.1 X.2.1 X.2.2.2.2 hin ty0 hty hnm X.2.2.2.1 hE.1.1 hW.P hW.D hS 0 rfl hc k hk (X.2.2.2.2 _ hl) (fun _ h9 => h9) hfin him hdecl (hty k hk) hn hfit hlen hd (fun H1 locs1 hP1 hD1 hS1 => kk H1 locs1 ⟨hC, hE, CW.of (raw := (a, .inr (ci, fs.set k v)) :: raw) hP1 hD1, hS1⟩)
theorem c_put (X : cX own cc nL p s m args c) {a ci k idx : Nat} {fs : List Value} (hI : cI A N0 s E μ ((a, .inr (ci, fs)) :: raw) H locs) {C : String} {T : u_T} {N : Nat} (hc : vwCl[ci]? = some (C, T, N)) (hin : ∀ w ∈ u_ws C T N, w ∈ zW) (ty0 : Nat → FieldType) (hty : ∀ k, k < N → parseFieldDescriptor (T k).2.2.1 = some (ty0 k)) (hnm : ∀ a, a < N → ∀ b, b < N → a ≠ b → (T a).2.1 ≠ (T b).2.1) (hk : k < N) (hl : Cond.fieldLink own idx (T k).1 (T k).2.1 (T k).2.2.1 ∈ zW) (hfin : (T k).2.2.2 = false) {v : Value} (hn : narrow (ty0 k) v = v) (hfit : fits (ty0 k) v = true) (hlen : k < fs.length) (hd : decode cc pc = .ok (.putfield idx, 3))
    (kk : ∀ (H1 : Heap) (locs1 : List Loc), cI A N0 s E μ ((a, .inr (ci, fs.set k v)) :: raw) H1 locs1 → W p l e R s m args below meth c H1 locs1 cells slots Q (F0 m (pc + 3) ls rest)) : W p l e R s m args below meth c H locs cells slots Q (F0 m pc ls (v :: .ref a :: rest)) := by
  obtain ⟨hC, hE, hW, hS⟩ := hI
  exact va_put (C := C) (T := T) (N := N) (ci := ci) (ref := (T k).1) (index := idx) (ty := ty0 k) (Ts := zW) X.1 X.2.1 X.2.2.2.2 hin ty0 hty hnm X.2.2.2.1 hE.1.1 hW.P hW.D hS 0 rfl hc k hk (X.2.2.2.2 _ hl) (fun _ h9 => h9) hfin (hty k hk) hn hfit hlen hd (fun H1 locs1 hP1 hD1 hS1 => kk H1 locs1 ⟨hC, hE, CW.of (raw := (a, .inr (ci, fs.set k v)) :: raw) hP1 hD1, hS1⟩)
theorem c_get (X : cX own cc nL p s m args c) {a ci k idx : Nat} {fs : List Value} (hI : cI A N0 s E μ ((a, .inr (ci, fs)) :: raw) H locs) {C : String} {T : u_T} {N : Nat} (hc : vwCl[ci]? = some (C, T, N)) (hin : ∀ w ∈ u_ws C T N, w ∈ zW) (hk : k < N) (hl : Cond.fieldLink own idx (T k).1 (T k).2.1 (T k).2.2.1 ∈ zW) {v : Value} (hv : fs[k]? = some v) (hd : decode cc pc = .ok (.getfield idx, 3))
    (kk : W p l e R s m args below meth c H locs cells slots Q (F0 m (pc + 3) ls (v :: rest))) : W p l e R s m args below meth c H locs cells slots Q (F0 m pc ls (.ref a :: rest)) := by
  obtain ⟨hC, hE, hW, hS⟩ := hI
  exact va_get (C := C) (T := T) (N := N) (ci := ci) (ref := (T k).1) (index := idx) (Ts := zW) X.1 X.2.1 X.2.2.2.2 hin X.2.2.2.1 hE.1.1 hW.P 0 rfl hc k hk (X.2.2.2.2 _ hl) (fun _ h9 => h9) hv hd kk
/-- behind a constructor -/
theorem c_runK {ci i b mc ms : Nat} {ob : va_E} {hs : List zH} {F : zM → Prop} {aa : Array Value} {st0 : List Value} (hr : va_Run p l e R s m args below meth c H locs cells slots mc ms (F0 m pc ls st0) rest (KQ E μ b H.size ci i hs F aa) (zB E b H.size)) (hI : cI A N0 s E μ ((b, ob) :: raw) H locs) (hA : ∀ q, s.heap.size ≤ q → A q) (h74 : ∀ h ∈ hs, h.1 < 74)
    (kk : ∀ (H1 : Heap) (locs1 : List Loc) (E' : zE) (μ' : zM), zGr E E' hs → E'.2.1 (ci, i) = b → (∀ h ∈ E.2.2.1, zag μ μ' h) → F μ' → cI A N0 s E' μ' raw H1 locs1 → W p l e R s m args below meth c H1 locs1 (cells + mc) (slots + ms) Q (F0 m (pc + 3) ls rest)) : W p l e R s m args below meth c H locs cells slots Q (F0 m pc ls st0) := by
  intro T hT X
  obtain ⟨hC, hE, hW, hS⟩ := hI
  obtain ⟨v, st₀, t, T', L, h0, X', hL, e1, e2, ⟨⟨hv, E', μ', g1, g2, g3, g4, g5, g6⟩, hz, hk⟩, st⟩ := hr T hT X
  cases hv
  rw [h0] at hz hk
  have hBA : ∀ q, zB E b H.size q → A q := by
    rintro q (⟨h, h1, rfl⟩ | rfl | z)
    · exact hW.2.2.2.2 h h1
    · exact hW.2.2.2.1 _ List.mem_cons_self
    · exact hA q (Nat.le_trans hS.1 z)
  have hraw : ∀ x ∈ raw, ¬ zB E b H.size x.1 := by
    intro x hx z
    rcases z with z | z | z
    · exact hW.out (List.mem_cons_of_mem _ hx) z
    · have := (List.nodup_cons.mp (show (b :: (raw.map Prod.fst ++ E.2.2.1.map E.2.1)).Nodup from hW.2.2.1)).1
      exact this (List.mem_append_left _ (List.mem_map.mpr ⟨x, hx, z⟩))
    · have := (hW.1 x (List.mem_cons_of_mem _ hx)).lt
      omega
  have hw1 : CW A E' μ' raw T'.heap := by
    refine ⟨fun x hx => ?_, fun h hh => by rw [e1]; exact g6.2.1 h hh, ?_, fun x hx => hW.2.2.2.1 x (List.mem_cons_of_mem _ hx), fun h hh => hBA _ (g6.2.2.2.2 h hh)⟩
    · rw [g1.1]
      exact (hW.1 x (List.mem_cons_of_mem _ hx)).kept (by rw [e1]; exact hk x.1 (hW.1 x (List.mem_cons_of_mem _ hx)).lt (hraw x hx))
    · rw [List.nodup_append]
      refine ⟨(List.nodup_append.mp hW.tail.2.2.1).1, g6.2.2.1, fun a ha b' hb' e => ?_⟩
      obtain ⟨x, hx, rfl⟩ := List.mem_map.mp ha
      obtain ⟨h, hh, rfl⟩ := List.mem_map.mp hb'
      exact hraw x hx (by rw [e]; exact g6.2.2.2.2 h hh)
  obtain ⟨t2, a1, b1⟩ := kk T'.heap (locs ++ L) E' μ' g1 g2 g3 g4 ⟨g5, hE.gr g1 h74, hw1, Nat.le_trans hS.1 (by rw [e1]; exact hz), fun q h1 h2 => by rw [e1, hk q (Nat.lt_of_lt_of_le h1 hS.1) (fun z => h2 (hBA q z))]; exact hS.2.1 q h1 h2, fun q hq => by
      rcases List.mem_append.mp hq with z | z
      · exact hS.2.2 q z
      · exact hBA _ (hL q z)⟩ T' rfl X'
  exact ⟨t2, st t2 a1, b1⟩
/-- behind a plain method -/
theorem c_run {r : Option zV} {μ' : zM} {aa : Array Value} {st0 : List Value} (hr : va_Run p l e R s m args below meth c H locs cells slots 0 0 (F0 m pc ls st0) rest (zQ E r μ' aa) (zA E)) (hI : cI A N0 s E μ raw H locs)
    (kk : ∀ (H1 : Heap) (locs1 : List Loc), cI A N0 s E μ' raw H1 locs1 → W p l e R s m args below meth c H1 locs1 cells slots Q (F0 m (pc + 3) ls ((r.map (zval E)).toList ++ rest))) : W p l e R s m args below meth c H locs cells slots Q (F0 m pc ls st0) := by
  intro T hT X
  obtain ⟨hC, hE, hW, hS⟩ := hI
  obtain ⟨v, st₀, t, T', L, h0, X', hL, e1, e2, ⟨⟨hv, hp, hok⟩, hz, hk⟩, st⟩ := hr T hT X
  cases hv
  rw [h0] at hz hk
  have hBA : ∀ q, zA E q → A q := by
    rintro q ⟨h, h1, rfl⟩
    exact hW.2.2.2.2 h h1
  have hp1 := CW.of_zP hp hBA
  have hw1 : CW A E μ' raw T'.heap := by
    refine ⟨fun x hx => (hW.1 x hx).kept (by rw [e1]; exact hk x.1 (hW.1 x hx).lt (hW.out hx)), fun h hh => by rw [e1]; exact hp1.2.1 h hh, hW.2.2.1, hW.2.2.2.1, hW.2.2.2.2⟩
  obtain ⟨t2, a1, b1⟩ := kk T'.heap (locs ++ L) ⟨hC, hE, hw1, Nat.le_trans hS.1 (by rw [e1]; exact hz), fun q h1 h2 => by rw [e1, hk q (Nat.lt_of_lt_of_le h1 hS.1) (fun z => h2 (hBA q z))]; exact hS.2.1 q h1 h2, fun q hq => by
      rcases List.mem_append.mp hq with z | z
      · exact hS.2.2 q z
      · exact hBA _ (hL q z)⟩ T' rfl X'
  exact ⟨t2, st t2 a1, b1⟩
theorem cI.env {raw : va_W} (hI : cI A N0 s E μ raw H locs) (hN : ∀ q, A q → N0 ≤ q) {U : State} (hU : U.heap = H) (hW : s.WarmedH U.vm) : zEnC N0 E U := hI.2.1.go hW (fun a h1 h2 => by rw [hU]; exact hI.2.2.2.2.1 a h1 (fun z => by have := hN a z; omega))
theorem c_callK {y' : MethodName} {cc' : ByteArray} {nL' : Nat} {R' : Room} {ci i b idx n : Nat} {fs0 : List Value} {hs : List zH} {ok : zE → Prop} {av : zE → List Value} {F : zM → Prop} (X : cX own cc nL p s m args c) (hI : cI A N0 s E μ ((b, .inr (ci, fs0)) :: raw) H locs) (hA : ∀ q, s.heap.size ≤ q → A q) (hN : ∀ q, A q → N0 ≤ q) (hN0 : N0 ≤ s.heap.size) (hK : Kon y' cc' nL' R' ci i fs0 hs ok av F) (hok : ok E) (hfr : ∀ h ∈ hs, h ∉ E.2.2.1) (h74 : ∀ h ∈ hs, h.1 < 74) (hlink : Cond.methodLink own idx y' ∈ zW) (hin : Cond.instanceMethod y' ∈ zW) (hco : Cond.code y' cc' nL' none ∈ zW) (hini : Cond.initialized y'.cls ∈ zW) (hyn : y'.name = "<init>") (h3 : y'.cls ≠ "java/lang/invoke/MethodHandle" ∧ y'.cls ≠ "java/lang/invoke/VarHandle" ∧ (parseMethodDescriptor y'.desc).map (fun d => d.parameters.length) = some n) (hR : R'.frames + 1 ≤ R.frames ∧ 8 + (nL' + 11) + R'.locals ≤ R.locals) (hf : cells + R'.cells ≤ R.cells ∧ slots + R'.slots ≤ R.slots) (hls : ls.size = nL) (hrest : (rest.map fun v => v.category).sum ≤ 8) (hn : (av E).length = n) (hd : decode cc pc = .ok (.invokespecial idx, 3))
    (kk : ∀ (H1 : Heap) (locs1 : List Loc) (E' : zE) (μ' : zM), zGr E E' hs → E'.2.1 (ci, i) = b → (∀ h ∈ E.2.2.1, zag μ μ' h) → F μ' → cI A N0 s E' μ' raw H1 locs1 → W p l e R s m args below meth c H1 locs1 (cells + R'.cells) (slots + R'.slots) Q (F0 m (pc + 3) ls rest)) : W p l e R s m args below meth c H locs cells slots Q (F0 m pc ls ((av E).reverse ++ .ref b :: rest)) := by
  have hW := hI.2.2.1
  have hM := hK l E μ N0 b H.size hI.1 hok hfr (hN _ (hW.2.2.2.1 _ List.mem_cons_self)) (Nat.le_trans hN0 hI.2.2.2.1) (fun h z => hN _ (hW.2.2.2.2 h z))
  exact c_runK (va_runI (As := av E) (rest := rest) (own := own) (Ts := zW) (g := F0 m pc ls ((av E).reverse ++ .ref b :: rest)) (n := n) X hM ⟨callB_of n X.2.2.2.2 (zW_goodZ hco) rfl rfl rfl (X.2.2.2.2 _ hini) (X.2.2.2.2 _ hlink) h3 hR, hyn, X.2.2.2.2 _ hin⟩ ⟨KP_blind, fun U hU hWm => ⟨rfl, by rw [hU], hI.env hN hU hWm, by rw [hU]; exact hW.one.wk (fun _ _ => trivial)⟩⟩ rfl hn hls rfl (lv_room hrest) hd hf) hI hA h74 kk
theorem c_callKN {y' : MethodName} {cc' : ByteArray} {nL' : Nat} {R' : Room} {ci i b idx n : Nat} {fs0 : List Value} {hs : List zH} {ok : zE → Prop} {av : zE → List Value} {F : zM → Prop} (X : cX own cc nL p s m args c) (hI : cI A N0 s E μ ((b, .inr (ci, fs0)) :: raw) H locs) (hA : ∀ q, s.heap.size ≤ q → A q) (hN : ∀ q, A q → N0 ≤ q) (hN0 : N0 ≤ s.heap.size) (hK : Kon y' cc' nL' R' ci i fs0 hs ok av F) (hok : ok E) (hfr : ∀ h ∈ hs, h ∉ E.2.2.1) (h74 : ∀ h ∈ hs, h.1 < 74) (hlink : (own, idx, y') ∈ zNestI) (hin : Cond.instanceMethod y' ∈ zW) (hco : Cond.code y' cc' nL' none ∈ zW) (hini : Cond.initialized y'.cls ∈ zW) (hyn : y'.name = "<init>") (h3 : y'.cls ≠ "java/lang/invoke/MethodHandle" ∧ y'.cls ≠ "java/lang/invoke/VarHandle" ∧ (parseMethodDescriptor y'.desc).map (fun d => d.parameters.length) = some n) (hR : R'.frames + 1 ≤ R.frames ∧ 8 + (nL' + 11) + R'.locals ≤ R.locals) (hf : cells + R'.cells ≤ R.cells ∧ slots + R'.slots ≤ R.slots) (hls : ls.size = nL) (hrest : (rest.map fun v => v.category).sum ≤ 8) (hn : (av E).length = n) (hd : decode cc pc = .ok (.invokespecial idx, 3))
    (kk : ∀ (H1 : Heap) (locs1 : List Loc) (E' : zE) (μ' : zM), zGr E E' hs → E'.2.1 (ci, i) = b → (∀ h ∈ E.2.2.1, zag μ μ' h) → F μ' → cI A N0 s E' μ' raw H1 locs1 → W p l e R s m args below meth c H1 locs1 (cells + R'.cells) (slots + R'.slots) Q (F0 m (pc + 3) ls rest)) : W p l e R s m args below meth c H locs cells slots Q (F0 m pc ls ((av E).reverse ++ .ref b :: rest)) := by
  have hW := hI.2.2.1
  have hM := hK l E μ N0 b H.size hI.1 hok hfr (hN _ (hW.2.2.2.1 _ List.mem_cons_self)) (Nat.le_trans hN0 hI.2.2.2.1) (fun h z => hN _ (hW.2.2.2.2 h z))
  exact c_runK (va_runIN (host := "BaggageHandling") (As := av E) (rest := rest) (own := own) (Ts := zW) (g := F0 m pc ls ((av E).reverse ++ .ref b :: rest)) (n := n) X hM ⟨va_cnB n X.2.2.2.2 (zW_goodZ hco) rfl rfl rfl (hI.2.1.2.2.2 _ hlink) (X.2.2.2.2 _ hini) h3 hR, hyn, X.2.2.2.2 _ hin⟩ ⟨KP_blind, fun U hU hWm => ⟨rfl, by rw [hU], hI.env hN hU hWm, by rw [hU]; exact hW.one.wk (fun _ _ => trivial)⟩⟩ rfl hn hls rfl (lv_room hrest) hd hf) hI hA h74 kk
/-- the end of a constructor -/
theorem c_ret {E0 : zE} {μ0 : zM} {a ci i : Nat} {hs : List zH} {F : zM → Prop} (X : cX own cc nL p s m args c) (hr : meth.sig.returnType = none) (hlocks : meth.locks = false) (hI : cI (zB E0 a s.heap.size) N0 s E μ [] H locs) (g1 : zGr E0 E hs) (g2 : E.2.1 (ci, i) = a) (g3 : ∀ h ∈ E0.2.2.1, zag μ0 μ h) (g4 : F μ) (hd : decode cc pc = .ok (.return_, 1)) : W p l e R s m args below meth c H locs cells slots (MQ below (KQ E0 μ0 a s.heap.size ci i hs F) args s cells slots (zB E0 a s.heap.size)) (F0 m pc ls []) := by
  obtain ⟨hC, hE, hW, hS⟩ := hI
  exact W.vret X.1 X.2.1 hr (fun t ht hWm => ⟨⟨rfl, E, μ, g1, g2, g3, g4, hC, by rw [ht]; exact hW⟩, hS.F ht⟩) hS.2.2 hd hlocks
end CROWS
/-- a constructor's contract out of its walk -/
theorem kon_of {y : MethodName} {cc : ByteArray} {nL : Nat} {R : Room} {ci i : Nat} {fs0 : List Value} {hs : List zH} {ok : zE → Prop} {av : zE → List Value} {F : zM → Prop} (hp : plainName y.cls = true) (hy : y.name = "<init>")
    (body : ∀ (p : Program) (l : Launch) (e : Env) (s : State) (m : MethodId) (args : Array Value) (below : List Frame) (meth : Method) (c : Code) (E : zE) (μ : zM) (N0 a : Nat), cX y.cls cc nL p s m args c → meth.name = "<init>" → meth.sig.returnType = none → meth.locks = false → ok E → (∀ h ∈ hs, h ∉ E.2.2.1) → N0 ≤ s.heap.size → (∀ q, zB E a s.heap.size q → N0 ≤ q) → (∀ q, s.heap.size ≤ q → zB E a s.heap.size q) → cI (zB E a s.heap.size) N0 s E μ [(a, .inr (ci, fs0))] s.heap [] →
      args = (Value.ref a :: av E).toArray → W p l e R s m args below meth c s.heap [] 0 0 (MQ below (KQ E μ a s.heap.size ci i hs F) args s R.cells R.slots (zB E a s.heap.size)) (entryFrame m args nL)) : Kon y cc nL R ci i fs0 hs ok av F := by
  intro l E μ N0 a sz hC hok hfr ha hsz hE
  refine Met.ofW (cc := cc) (maxL := nL) (ret := none) hp rfl ?_
  intro p e s m args below meth c s₁ B hml hv
  obtain ⟨rfl, rfl, hEn, hW⟩ := hv
  have hts := atoms_spec (ws := zws0 y cc nL none) B.pre
  have hin : meth.name = "<init>" := (name_of_methodNamed B.named B.method).1.trans hy
  refine body p l e s m _ below meth c E μ N0 a ⟨B.exec, B.bytes, hml, findClass_of_methodNamed B.named, fun w hw => hts w (List.mem_cons_of_mem _ hw)⟩ hin B.returns B.notSynchronized hok hfr hsz ?_ (fun q h => Or.inr (Or.inr h)) ⟨hC, hEn, ⟨hW.1, hW.2.1, hW.2.2.1, fun x hx => by rw [List.mem_singleton.mp hx]; exact Or.inr (Or.inl rfl), fun h hh => Or.inl ⟨h, hh, rfl⟩⟩, va_S.rf⟩ rfl
  rintro q (⟨h, h1, rfl⟩ | rfl | z)
  · exact hE h h1
  · exact ha
  · omega
/-- an object whose fields are all there comes into the memory -/
theorem cI.fin {A : Nat → Prop} {N0 : Nat} {s : State} {E : zE} {μ μ' : zM} {raw : va_W} {H : Heap} {locs : List Loc} {a ci i : Nat} {fs : List Value} {fds : List zFT} (hI : cI A N0 s E μ ((a, .inr (ci, fs)) :: raw) H locs) (hn : (ci, i) ∉ E.2.2.1) (hci : ci < 74) (hS : zS ci i = .inl fds) (hcl : ∀ f ∈ fds, (f.1 = 2 → f.2 ∈ E.2.2.1) ∧ (f.1 = 3 → ∀ j, j < 2 → (f.2.1, j) ∈ E.2.2.1)) (hm : ∀ h' ∈ E.2.2.1, zag μ μ' h') (he : ∀ E' : zE, (∀ h, h ≠ (ci, i) → E'.2.1 h = E.2.1 h) → zfs E' μ' (ci, i) 0 fds = fs) : ∃ E', zGr E E' [(ci, i)] ∧ E'.2.1 (ci, i) = a ∧ cI A N0 s E' μ' raw H locs := by
  obtain ⟨hC, hE, hW, hS1⟩ := hI
  refine ⟨zadd E (ci, i) a, zadd_gr _ _ _, zadd_at _ _ _, hC.add hci (fun fs' e => by rw [hS] at e; cases e; exact hcl) (fun t n r e => by rw [hS] at e; cases e), hE.gr (zadd_gr _ _ _) (fun h' z => by rw [List.mem_singleton.mp z]; exact hci), hW.take hC hn hm ?_, hS1⟩
  rw [zcell_obj (h := (ci, i)) hS, he _ (fun h n => zadd_ne n)]
/-- how far a constructor has come -/
def Pg (E0 : zE) (μ0 : zM) (E : zE) (μ : zM) (hs : List zH) : Prop := zGr E0 E hs ∧ ∀ h ∈ E0.2.2.1, zag μ0 μ h
theorem Pg.rf {E : zE} {μ : zM} : Pg E μ E μ [] := ⟨zGr.rf, fun _ _ => zag.rf⟩
theorem Pg.step {E0 E E' : zE} {μ0 μ μ' : zM} {hs hs1 : List zH} (P : Pg E0 μ0 E μ hs) (g : zGr E E' hs1) (hm : ∀ h ∈ E.2.2.1, zag μ μ' h) : Pg E0 μ0 E' μ' (hs ++ hs1) := ⟨P.1.trans g, fun h z => (P.2 h z).trans (hm h (by rw [P.1.2.2.1]; exact List.mem_append_left _ z))⟩
theorem Pg.fr {E0 E : zE} {μ0 μ : zM} {hs hs' : List zH} (P : Pg E0 μ0 E μ hs) (hfr : ∀ h ∈ hs', h ∉ E0.2.2.1) {h : zH} (h1 : h ∈ hs') (h2 : h ∉ hs) : h ∉ E.2.2.1 := by
  rw [P.1.2.2.1]
  intro z
  rcases List.mem_append.mp z with z | z
  · exact hfr h h1 z
  · exact h2 z
theorem Pg.in {E0 E : zE} {μ0 μ : zM} {hs : List zH} (P : Pg E0 μ0 E μ hs) {h : zH} (h1 : h ∈ hs) : h ∈ E.2.2.1 := by
  rw [P.1.2.2.1]
  exact List.mem_append_right _ h1
