/-! ===== a row of rows of ints is made (multianewarray, two counts) ===== -/
/-- the outer row when i inner rows are there -/
def mo (c3 : ClassId) (n h0 i : Nat) : Cell := arrV c3 n (fun j => if j < i then .ref (h0 + 1 + j) else .null)
abbrev mi (c0 : ClassId) (k : Nat) : Cell := arrV c0 k (fun _ => .int 0)
theorem mo_set (c3 : ClassId) (n h0 i : Nat) : (mo c3 n h0 i).setSlot i (.ref (h0 + 1 + i)) = mo c3 n h0 (i + 1) := by
  unfold mo
  rw [arrV_store]
  congr 1
  funext j
  unfold updV
  by_cases h : j = i
  · subst h
    simp
  · by_cases h2 : j < i
    · simp [h, h2, Nat.lt_succ_of_lt h2]
    · have h3 : ¬ j < i + 1 := by omega
      simp [h, h2, h3]
def mf (T : State) (c3 c0 : ClassId) (n k : Nat) : Nat → State
  | 0 => T.pushCell (mo c3 n T.heap.size 0)
  | i + 1 => ((mf T c3 c0 n k i).pushCell (mi c0 k)).setCell T.heap.size (mo c3 n T.heap.size (i + 1))
theorem mf_facts (T : State) (c3 c0 : ClassId) (n k : Nat) : ∀ i, (mf T c3 c0 n k i).heap.size = T.heap.size + 1 + i ∧ (mf T c3 c0 n k i).heap[T.heap.size]? = some (mo c3 n T.heap.size i) ∧ (mf T c3 c0 n k i).vm = T.vm ∧ (mf T c3 c0 n k i).slotsUsed = T.slotsUsed + n + i * k ∧ (∀ q, q < T.heap.size → (mf T c3 c0 n k i).heap[q]? = T.heap[q]?) ∧ ∀ j, j < i → (mf T c3 c0 n k i).heap[T.heap.size + 1 + j]? = some (mi c0 k)
  | 0 => ⟨by simp [mf], by simp [mf], rfl, by simp [mf, mo, arrV_size], fun q hq => State.heap_pushCell_of_lt _ _ hq, fun j h => absurd h (Nat.not_lt_zero _)⟩
  | i + 1 => by
    obtain ⟨a, b, d, u, o, w⟩ := mf_facts T c3 c0 n k i
    have hlt : T.heap.size < (mf T c3 c0 n k i).heap.size := by omega
    have hb : ((mf T c3 c0 n k i).pushCell (mi c0 k)).heap[T.heap.size]? = some (mo c3 n T.heap.size i) := by rw [State.heap_pushCell_of_lt (h := hlt)]; exact b
    refine ⟨?_, State.heap_setCell_self hb, by simp [mf, d], ?_, fun q hq => ?_, fun j hj => ?_⟩
    · simp [mf, State.setCell, a]; omega
    · simp [mf, u, arrV_size, Nat.succ_mul]; omega
    · have hq' : q < (mf T c3 c0 n k i).heap.size := by omega
      show (((mf T c3 c0 n k i).pushCell (mi c0 k)).setCell T.heap.size _).heap[q]? = _
      rw [State.heap_setCell_other (Nat.ne_of_gt hq), State.heap_pushCell_of_lt (h := hq')]
      exact o q hq
    · show (((mf T c3 c0 n k i).pushCell (mi c0 k)).setCell T.heap.size _).heap[T.heap.size + 1 + j]? = _
      rw [State.heap_setCell_other (show T.heap.size ≠ T.heap.size + 1 + j by omega)]
      rcases Nat.lt_or_ge j i with hj' | hj'
      · have hlt2 : T.heap.size + 1 + j < (mf T c3 c0 n k i).heap.size := by omega
        rw [State.heap_pushCell_of_lt (h := hlt2)]
        exact w j hj'
      · have e : j = i := by omega
        subst e
        rw [← a]
        exact State.heap_pushCell_size _ _
theorem mf_top (T : State) (f : JFrame) (c3 c0 : ClassId) (n k : Nat) : ∀ i, mf (T.setTop f) c3 c0 n k i = (mf T c3 c0 n k i).setTop f
  | 0 => rfl
  | i + 1 => by simp only [mf, mf_top T f c3 c0 n k i, State.heap_setTop, State.pushCell_setTop, State.setCell_setTop]
section MULTI
variable {p : Program} {l : Launch} {e : Env} {R : Room} {s : State} {m : MethodId} {args : Array Value} {below : List Frame} {meth : Method} {c : Code} {T : State} {locs : List Loc} {cells slots : Nat}
theorem mf_stand (X : Stand p l e R s m args below meth c T locs cells slots) (c3 c0 : ClassId) (n k : Nat) : ∀ i, Stand p l e R s m args below meth c (mf T c3 c0 n k i) (locs ++ (List.range i).map fun j => ⟨T.heap.size, j⟩) (cells + 1 + i) (slots + n + i * k)
  | 0 => by
    have h := X.pushed (mo c3 n T.heap.size 0)
    rw [show (mo c3 n T.heap.size 0).slots.size = n from arrV_size _ _ _] at h
    simpa [mf] using h
  | i + 1 => by
    have Xi := mf_stand X c3 c0 n k i
    obtain ⟨a, b, -⟩ := mf_facts T c3 c0 n k i
    have hlt : T.heap.size < (mf T c3 c0 n k i).heap.size := by omega
    have hcell : ((mf T c3 c0 n k i).pushCell (mi c0 k)).heap[T.heap.size]? = some (mo c3 n T.heap.size i) := by rw [State.heap_pushCell_of_lt (h := hlt)]; exact b
    have h := (Xi.pushed (mi c0 k)).stored hcell i (.ref (T.heap.size + 1 + i))
    rw [show (mi c0 k).slots.size = k from arrV_size _ _ _, mo_set] at h
    have e2 : (locs ++ (List.range (i + 1)).map fun j => (⟨T.heap.size, j⟩ : Loc)) = (locs ++ (List.range i).map fun j => (⟨T.heap.size, j⟩ : Loc)) ++ [⟨T.heap.size, i⟩] := by simp [List.range_succ, List.append_assoc]
    have e3 : slots + n + (i + 1) * k = slots + n + i * k + k := by rw [Nat.succ_mul]; omega
    rw [e2, e3]
    exact h
end MULTI
section MWP
variable {Ec : CtlPost} {e : Env} {d : Bool} {acts : List Action} {s : State}
theorem mw_1 {c0 cc : ClassId} {kc : Class} {vk : Int32} {k : Nat} (hkc : s.vm.classes[c0]? = some kc) (hkindc : kc.kind = .array cc .int) (hm : ¬ vk < 0) (hk : vk.toNatClampNeg = k) (hl : ¬ k > e.platform.arrayLengthLimit) (hh : ¬ k * componentBytes .int > e.platform.maxHeapBytes) (h1 : s.heap.size < e.platform.maxCells) (h2 : s.slotsUsed + k ≤ e.platform.maxSlots)
    {Q : Addr → Pre} (hq : ∀ acts', Q s.heap.size d acts' (s.pushCell (mi c0 k))) : wp (multianewarray.make c0 [vk]) Q Ec e d acts s := by
  subst hk
  rw [multianewarray.make]
  simp only [wp_bind', W.ite, hm, if_false, wp_pure', W.theClass, hkc, hkindc, Option.some.injEq, exists_eq_left']
  refine W.newArray_of hkc hkindc hl hh h1 h2 rfl (fun acts' => ?_)
  have := hq acts'
  rw [show mi c0 vk.toNatClampNeg = ({ cls := c0, slots := Array.replicate vk.toNatClampNeg (defaultValue .int), vm := .none } : Cell) from (arrV_new c0 _ (.int 0)).symm] at this
  exact this
/-- a loop over the places i, i + 1, .. below n whose body goes from the i-th state to the next -/
theorem mw_each {n : Nat} (S : Nat → State) {f : Nat → PUnit → Sem (ForInStep PUnit)} (one : ∀ i, i < n → ∀ (d : Bool) (acts : List Action) (Q : ForInStep PUnit → Pre), (∀ d' acts', Q (ForInStep.yield PUnit.unit) d' acts' (S (i + 1))) → wp (f i PUnit.unit) Q Ec e d acts (S i)) : ∀ (r i : Nat), i + r = n → ∀ (d : Bool) (acts : List Action) (Q : PUnit → Pre), (∀ d' acts', Q PUnit.unit d' acts' (S n)) → wp (forIn (List.range' i r) PUnit.unit f) Q Ec e d acts (S i)
  | 0, i, h, d, acts, Q, hq => by
    have h : i = n := h
    subst h
    simp only [List.range'_zero, List.forIn_nil, wp_pure']
    exact hq d acts
  | r + 1, i, h, d, acts, Q, hq => by
    simp only [List.range'_succ, List.forIn_cons, wp_bind']
    exact one i (by omega) d acts _ (fun d' acts' => mw_each S one r (i + 1) (by omega) d' acts' Q hq)
theorem mw_2 {c3 c0 cc : ClassId} {k3 kc : Class} {vn vk : Int32} {n k : Nat} (hk3 : s.vm.classes[c3]? = some k3) (hkind : k3.kind = .array c0 (.array .int)) (hkc : s.vm.classes[c0]? = some kc) (hkindc : kc.kind = .array cc .int) (hvn : ¬ vn < 0) (hvk : ¬ vk < 0) (hn : vn.toNatClampNeg = n) (hk : vk.toNatClampNeg = k)
    (hl1 : ¬ n > e.platform.arrayLengthLimit) (hh1 : ¬ n * componentBytes (.array .int) > e.platform.maxHeapBytes) (hl2 : ¬ k > e.platform.arrayLengthLimit) (hh2 : ¬ k * componentBytes .int > e.platform.maxHeapBytes)
    (hc : s.heap.size + 1 + n ≤ e.platform.maxCells) (hs : s.slotsUsed + n + n * k ≤ e.platform.maxSlots) {Q : Addr → Pre} (hq : ∀ d' acts', Q s.heap.size d' acts' (mf s c3 c0 n k n)) : wp (multianewarray.make c3 [vn, vk]) Q Ec e d acts s := by
  subst hn
  have hnone : ([vk].find? (· < 0)) = none := by simp [hvk]
  rw [multianewarray.make]
  simp only [wp_bind', W.ite, hvn, if_false, wp_pure', W.theClass, hk3, hkind, Option.some.injEq, exists_eq_left']
  refine W.newArray_of hk3 hkind hl1 hh1 (by omega) (by have := Nat.zero_le (vn.toNatClampNeg * k); omega) rfl (fun acts1 => ?_)
  have e0 : s.pushCell ({ cls := c3, slots := Array.replicate vn.toNatClampNeg .null } : Cell) = mf s c3 c0 vn.toNatClampNeg k 0 := by
    show _ = s.pushCell (mo c3 vn.toNatClampNeg s.heap.size 0)
    exact congrArg s.pushCell ((arrV_new c3 _ .null).trans (arrV_ext fun j hj => by rw [if_neg (Nat.not_lt_zero _)]))
  rw [e0]
  simp only [hnone]
  rw [ite_self, wp_bind', Std.Legacy.Range.forIn_eq_forIn_range', show ([:vn.toNatClampNeg] : Std.Legacy.Range).size = vn.toNatClampNeg by simp [Std.Legacy.Range.size]]
  refine mw_each (n := vn.toNatClampNeg) (mf s c3 c0 vn.toNatClampNeg k) (fun i hi d1 acts2 Q1 hQ1 => ?_) vn.toNatClampNeg 0 (Nat.zero_add _) d acts1 _ (fun d' acts' => ?_)
  · obtain ⟨f1, f2, f3, f4, -⟩ := mf_facts s c3 c0 vn.toNatClampNeg k i
    have hmul : (i + 1) * k ≤ vn.toNatClampNeg * k := Nat.mul_le_mul_right k hi
    rw [Nat.succ_mul] at hmul
    simp only [wp_bind']
    refine mw_1 (by rw [f3]; exact hkc) hkindc hvk hk hl2 hh2 (by omega) (by omega) (fun acts3 => ?_)
    have old : ((mf s c3 c0 vn.toNatClampNeg k i).pushCell (mi c0 k)).heap[s.heap.size]? = some (mo c3 vn.toNatClampNeg s.heap.size i) := by
      rw [State.heap_pushCell_of_lt (h := show s.heap.size < _ by omega)]
      exact f2
    have fit : State.fitsSlot ((mf s c3 c0 vn.toNatClampNeg k i).pushCell (mi c0 k)) c3 .none i (.ref (mf s c3 c0 vn.toNatClampNeg k i).heap.size) = true := by
      simp [State.fitsSlot, State.slotType?, f3, hk3, hkind, fits]
    have same : ((mf s c3 c0 vn.toNatClampNeg k i).pushCell (mi c0 k)).setCell s.heap.size ((mo c3 vn.toNatClampNeg s.heap.size i).setSlot i (.ref (mf s c3 c0 vn.toNatClampNeg k i).heap.size)) = mf s c3 c0 vn.toNatClampNeg k (i + 1) := by
      rw [f1, mo_set]
      rfl
    simp only [wp_bind', W.writeLoc, wp_pure']
    exact ⟨_, old, (fun h => (by cases h)), by rw [show (mo c3 vn.toNatClampNeg s.heap.size i).slots.size = vn.toNatClampNeg from arrV_size _ _ _]; exact hi, fit, by rw [same]; exact hQ1 _ _⟩
  · simp only [wp_pure']
    exact hq d' acts'
end MWP
section MROW
variable {p : Program} {l : Launch} {e : Env} {R : Room} {s : State} {m : MethodId} {args : Array Value} {below : List Frame} {meth : Method} {c : Code} {H : Heap} {locs : List Loc} {cells slots : Nat} {Q : State → Prop}
/-- the row of the instruction -/
theorem lv_multi {cc : ByteArray} (hexec : p.tables.exec = Jvm.exec) (hb : c.code = cc) {own : String} {idx pc n k : Nat} (hown : s.vm.findClass own = some m.cls) (hcl : (Cond.classLink own idx "[[I").before args s = true) {c3 c0 cz : ClassId} {k3 kc : Class} (h3 : s.vm.findClass "[[I" = some c3) (hk3 : s.vm.classes[c3]? = some k3) (hkind : k3.kind = .array c0 (.array .int)) (hkc : s.vm.classes[c0]? = some kc) (hkindc : kc.kind = .array cz .int) {vn vk : Int32} (hvn : ¬ vn < 0) (hvk : ¬ vk < 0) (hn : vn.toNatClampNeg = n) (hk : vk.toNatClampNeg = k) (hb1 : n * 4 ≤ 536870912) (hb2 : k * 4 ≤ 536870912) (hcells : cells + (1 + n) ≤ R.cells) (hslots : slots + (n + n * k) ≤ R.slots) {ls : Array Slot} {rest : List Value} (hd : decode cc pc = .ok (.multianewarray idx 2, 4))
    (kk : ∀ (H1 : Heap) (L : List Loc), (∀ q ∈ L, q.base = H.size) → H1.size = H.size + 1 + n → (∀ q, q < H.size → H1[q]? = H[q]?) → H1[H.size]? = some (arrV c3 n (fun j => .ref (H.size + 1 + j))) → (∀ j, j < n → H1[H.size + 1 + j]? = some (mi c0 k)) → W p l e R s m args below meth c H1 (locs ++ L) (cells + 1 + n) (slots + n + n * k) Q (F0 m (pc + 4) ls (.ref H.size :: rest))) : W p l e R s m args below meth c H locs cells slots Q (F0 m pc ls (.int vk :: .int vn :: rest)) := by
  intro T hT X
  subst hT; subst hb
  have hpl : e.platform.magicAccessors = ({} : Platform).magicAccessors := by rw [X.admits.platform]
  obtain ⟨c3', hf3, hcl'⟩ := Cond.classLink_spec hown hcl e.platform hpl
  cases hf3.symm.trans h3
  obtain ⟨hg₁, hwarm₁, hready₁⟩ := State.classEntry (e := e) X.warmed hcl'
  generalize T.vm.noted m.cls idx (.cls c3) = vm₁ at hg₁ hwarm₁ hready₁
  have hal : s.vm.Alike vm₁ := hwarm₁.alike
  obtain ⟨k3', hk3', e3⟩ := hal.2.2 _ _ hk3
  obtain ⟨kc', hkc', ec⟩ := hal.2.2 _ _ hkc
  have hkind' : k3'.kind = .array c0 (.array .int) := by rw [e3]; exact hkind
  have hkindc' : kc'.kind = .array cz .int := by rw [ec]; exact hkindc
  have X₁ := X.noted hwarm₁
  obtain ⟨hr1, hr2⟩ := X.roomAbove hcells hslots
  have XF := mf_stand X₁ c3 c0 n k n
  obtain ⟨f1, f2, -, -, f5, f6⟩ := mf_facts (T.setVm vm₁) c3 c0 n k n
  obtain ⟨t, a1, b1⟩ := kk (mf (T.setVm vm₁) c3 c0 n k n).heap ((List.range n).map fun j => ⟨T.heap.size, j⟩) (fun q hq => by obtain ⟨j, -, rfl⟩ := List.mem_map.mp hq; rfl) f1 f5 (by
    refine Eq.trans f2 (congrArg some ?_)
    exact arrV_ext fun j hj => if_pos hj) f6 _ rfl XF
  refine ⟨t, ?_, b1⟩
  have hl1 : ¬ n > e.platform.arrayLengthLimit := by rw [Launch.admits_arrayLengthLimit X.admits]; omega
  have hh1 : ¬ n * componentBytes (.array .int) > e.platform.maxHeapBytes := by
    rw [Launch.admits_maxHeapBytes X.admits]; show ¬ n * 4 > 536870912; omega
  have hl2 : ¬ k > e.platform.arrayLengthLimit := by rw [Launch.admits_arrayLengthLimit X.admits]; omega
  have hh2 : ¬ k * componentBytes .int > e.platform.maxHeapBytes := by
    rw [Launch.admits_maxHeapBytes X.admits]; show ¬ k * 4 > 536870912; omega
  jvm_step X.here [hexec, hd]
  simp only [multianewarray.sem, wp_bind', W.resolveClassAt_links (State.method?_setTop (F0 m pc ls (.int vk :: .int vn :: rest)) X.here.top) hg₁]
  rw [W.popN, if_neg (by decide)]
  refine ⟨F0 m pc ls (.int vk :: .int vn :: rest), State.topJava?_setTop' (s := T.setVm vm₁) (F0 m pc ls (.int vk :: .int vn :: rest)) X.here.top, [.int vn, .int vk], rest, rfl, rfl, ?_⟩
  simp only [List.mapM_cons, List.mapM_nil, wp_bind', wp_pure']
  refine mw_2 (k3 := k3') (kc := kc') (c0 := c0) (cc := cz) hk3' hkind' hkc' hkindc' hvn hvk hn hk hl1 hh1 hl2 hh2 (by show T.heap.size + 1 + _ ≤ _; omega) (by show T.slotsUsed + _ + _ ≤ _; omega) (fun d' acts' => ?_)
  have eS : ((T.setTop (F0 m pc ls (.int vk :: .int vn :: rest))).setVm vm₁).setTop { F0 m pc ls (.int vk :: .int vn :: rest) with stack := rest } = (T.setVm vm₁).setTop { F0 m pc ls (.int vk :: .int vn :: rest) with stack := rest } := by
    show ((T.setVm vm₁).setTop _).setTop _ = _
    rw [State.setTop_setTop]
  rw [eS, mf_top]
  simp only [wp_bind', W.mark, W.pushRef, State.topJava?_setTop' _ XF.here.top, Option.some.injEq, exists_eq_left', State.setTop_setTop, State.heap_setTop]
  intro acts
  simp [jvm, XF.here.top]
  exact a1
end MROW
