/-! ===== a row of rows of ints is made (multianewarray, two counts); the heap is known in closed form at every turn of the instruction's loop ===== -/
/-- the outer row at address b, when i inner rows hang in it: they lie right behind it -/
def ml_o (c3 : ClassId) (n b i : Nat) : Cell := arrV c3 n (fun j => if j < i then .ref (b + 1 + j) else .null)
/-- an inner row -/
def ml_r (c0 : ClassId) (k : Nat) : Cell := arrV c0 k (fun _ => .int 0)
/-- the cells behind the old heap -/
def ml_l (c3 c0 : ClassId) (n k b i : Nat) : List Cell := ml_o c3 n b i :: List.replicate i (ml_r c0 k)
/-- the state: the old one with these cells behind its heap -/
def ml_S (T : State) (c3 c0 : ClassId) (n k i : Nat) : State := { T with heap := T.heap ++ (ml_l c3 c0 n k T.heap.size i).toArray, slotsUsed := T.slotsUsed + (n + i * k) }
section MLHEAP
variable {T : State} {c3 c0 : ClassId} {n k i : Nat}
theorem ml_size : (ml_S T c3 c0 n k i).heap.size = T.heap.size + 1 + i := by
  simp [ml_S, ml_l]
  omega
theorem ml_old {q : Nat} (hq : q < T.heap.size) : (ml_S T c3 c0 n k i).heap[q]? = T.heap[q]? := Array.getElem?_append_left hq
/-- what lies behind the old heap is read off the list -/
theorem ml_new (q : Nat) : (ml_S T c3 c0 n k i).heap[T.heap.size + q]? = (ml_l c3 c0 n k T.heap.size i)[q]? := by
  show (T.heap ++ _)[T.heap.size + q]? = _
  rw [Array.getElem?_append_right (Nat.le_add_right _ _), Nat.add_sub_cancel_left, List.getElem?_toArray]
theorem ml_out : (ml_S T c3 c0 n k i).heap[T.heap.size]? = some (ml_o c3 n T.heap.size i) := ml_new 0
theorem ml_in {j : Nat} (hj : j < i) : (ml_S T c3 c0 n k i).heap[T.heap.size + 1 + j]? = some (ml_r c0 k) := by
  rw [Nat.add_assoc, ml_new, Nat.add_comm 1 j]
  show (List.replicate i (ml_r c0 k))[j]? = _
  rw [List.getElem?_replicate, if_pos hj]
theorem ml_slots : ((ml_l c3 c0 n k T.heap.size i).map (·.slots.size)).sum = n + i * k := by
  have h1 : (ml_o c3 n T.heap.size i).slots.size = n := arrV_size _ _ _
  have h2 : (ml_r c0 k).slots.size = k := arrV_size _ _ _
  simp [ml_l, h1, h2]
/-- nothing old has changed -/
theorem ml_same {x : Thread} (hx : T.threads[T.cur]? = some x) : T.sameButNew (ml_S T c3 c0 n k i) [] (1 + i) (n + i * k) := by
  have hd : (ml_S T c3 c0 n k i).heap.toList.drop T.heap.size = ml_l c3 c0 n k T.heap.size i := by
    show (T.heap ++ _).toList.drop T.heap.size = _
    rw [Array.toList_append, ← Array.length_toList, List.drop_left]
  refine ⟨?_, by rw [ml_size]; omega, by rw [ml_size]; omega, by rw [hd, ml_slots]; rfl, by rw [hd, ml_slots]; exact Nat.le_refl _, fun a c hc => ⟨c, ?_, rfl, rfl, fun _ _ => rfl⟩⟩
  · have e : T.setFrames (ml_S T c3 c0 n k i).frames = T := State.setFrames_self hx
    rw [e]
    rfl
  · rw [ml_old (Array.getElem?_eq_some_iff.mp hc).1]
    exact hc
/-- one turn: an inner row is made, and hung into the outer one -/
theorem ml_turn : ((ml_S T c3 c0 n k i).pushCell (ml_r c0 k)).setCell T.heap.size ((ml_o c3 n T.heap.size i).setSlot i (.ref (T.heap.size + 1 + i))) = ml_S T c3 c0 n k (i + 1) := by
  have ho : (ml_o c3 n T.heap.size i).setSlot i (.ref (T.heap.size + 1 + i)) = ml_o c3 n T.heap.size (i + 1) := by
    refine (arrV_store _ _ _ _ _).trans (arrV_ext fun j _ => ?_)
    rcases Nat.lt_trichotomy j i with h | h | h
    · simp [updV, h, Nat.ne_of_lt h, Nat.lt_succ_of_lt h]
    · simp [updV, h]
    · simp [updV, Nat.ne_of_gt h, Nat.not_lt_of_gt h, show ¬ j < i + 1 by omega]
  have hh : ((T.heap ++ (ml_l c3 c0 n k T.heap.size i).toArray).push (ml_r c0 k)).setIfInBounds T.heap.size (ml_o c3 n T.heap.size (i + 1)) = T.heap ++ (ml_l c3 c0 n k T.heap.size (i + 1)).toArray := by
    apply Array.ext'
    rw [Array.toList_setIfInBounds, Array.toList_push, Array.toList_append, Array.toList_append, List.append_assoc, List.set_append_right _ _ (by rw [Array.length_toList]; exact Nat.le_refl _), Array.length_toList, Nat.sub_self]
    simp [ml_l, List.replicate_succ']
  have hu : T.slotsUsed + (n + i * k) + (ml_r c0 k).slots.size = T.slotsUsed + (n + (i + 1) * k) := by
    rw [show (ml_r c0 k).slots.size = k from arrV_size _ _ _, Nat.succ_mul]
    omega
  rw [ho]
  show ({ T with heap := ((T.heap ++ (ml_l c3 c0 n k T.heap.size i).toArray).push (ml_r c0 k)).setIfInBounds T.heap.size (ml_o c3 n T.heap.size (i + 1)), slotsUsed := T.slotsUsed + (n + i * k) + (ml_r c0 k).slots.size } : State) = _
  rw [hh, hu]
  rfl
end MLHEAP
section MLWP
variable {Ec : CtlPost} {e : Env} {d : Bool} {acts : List Action} {T : State}
/-- the instruction's inner call: one count -/
theorem ml_one {c0 cz : ClassId} {kc : Class} {vk : Int32} {k : Nat} (hkc : T.vm.classes[c0]? = some kc) (hkindc : kc.kind = .array cz .int) (hvk : ¬ vk < 0) (hk : vk.toNatClampNeg = k) (hlen : ¬ k > e.platform.arrayLengthLimit) (hbyt : ¬ k * 4 > e.platform.maxHeapBytes) (hroom : T.heap.size < e.platform.maxCells) (hslot : T.slotsUsed + k ≤ e.platform.maxSlots) {Q : Addr → Pre} (hq : ∀ acts', Q T.heap.size d acts' (T.pushCell (ml_r c0 k))) : wp (multianewarray.make c0 [vk]) Q Ec e d acts T := by
  subst hk
  have key : wp (Jvm.newArray c0 vk.toNatClampNeg (defaultValue .int)) Q Ec e d acts T := W.newArray_of hkc hkindc hlen hbyt hroom hslot rfl (fun acts' => by
    have h := hq acts'
    unfold ml_r at h
    rw [← arrV_new] at h
    exact h)
  simpa [multianewarray.make, wp_bind', W.ite, W.theClass, hvk, hkc, hkindc] using key
/-- a loop over the places i, i + 1, .. below n whose body goes from the i-th state to the next -/
theorem ml_each {n : Nat} (S : Nat → State) {f : Nat → PUnit → Sem (ForInStep PUnit)} (one : ∀ i, i < n → ∀ (d : Bool) (acts : List Action) (Q : ForInStep PUnit → Pre), (∀ d' acts', Q (ForInStep.yield PUnit.unit) d' acts' (S (i + 1))) → wp (f i PUnit.unit) Q Ec e d acts (S i)) : ∀ (r i : Nat), i + r = n → ∀ (d : Bool) (acts : List Action) (Q : PUnit → Pre), (∀ d' acts', Q PUnit.unit d' acts' (S n)) → wp (forIn (List.range' i r) PUnit.unit f) Q Ec e d acts (S i)
  | 0, i, h, d, acts, Q, hq => by
    have h : i = n := h
    subst h
    simp only [List.range'_zero, List.forIn_nil, wp_pure']
    exact hq d acts
  | r + 1, i, h, d, acts, Q, hq => by
    simp only [List.range'_succ, List.forIn_cons, wp_bind']
    exact one i (by omega) d acts _ (fun d' acts' => ml_each S one r (i + 1) (by omega) d' acts' Q hq)
/-- the instruction's outer call: two counts -/
theorem ml_two {c3 c0 cz : ClassId} {k3 kc : Class} {vn vk : Int32} {n k : Nat} (hk3 : T.vm.classes[c3]? = some k3) (hkind : k3.kind = .array c0 (.array .int)) (hkc : T.vm.classes[c0]? = some kc) (hkindc : kc.kind = .array cz .int) (hvn : ¬ vn < 0) (hvk : ¬ vk < 0) (hn : vn.toNatClampNeg = n) (hk : vk.toNatClampNeg = k) (hlen : ¬ n > e.platform.arrayLengthLimit ∧ ¬ k > e.platform.arrayLengthLimit) (hbyt : ¬ n * 4 > e.platform.maxHeapBytes ∧ ¬ k * 4 > e.platform.maxHeapBytes) (hroom : T.heap.size + 1 + n ≤ e.platform.maxCells) (hslot : T.slotsUsed + (n + n * k) ≤ e.platform.maxSlots) {Q : Addr → Pre} (hq : ∀ d' acts', Q T.heap.size d' acts' (ml_S T c3 c0 n k n)) : wp (multianewarray.make c3 [vn, vk]) Q Ec e d acts T := by
  subst hn
  obtain ⟨n, en⟩ : ∃ n, n = vn.toNatClampNeg := ⟨_, rfl⟩
  rw [← en] at hlen hbyt hroom hslot hq
  have hno : [vk].find? (· < 0) = none := List.find?_eq_none.mpr (fun x hx => by
    rw [List.mem_singleton.mp hx]
    simpa using hvk)
  have first : T.pushCell ({ cls := c3, slots := Array.replicate n .null } : Cell) = ml_S T c3 c0 n k 0 := by
    have ec : ({ cls := c3, slots := Array.replicate n .null } : Cell) = ml_o c3 n T.heap.size 0 := (arrV_new c3 n .null).trans (arrV_ext fun j _ => (if_neg (Nat.not_lt_zero j)).symm)
    have es : (ml_o c3 n T.heap.size 0).slots.size = n + 0 * k := by
      rw [Nat.zero_mul]
      exact arrV_size _ _ _
    rw [ec]
    show ({ T with heap := _, slotsUsed := T.slotsUsed + (ml_o c3 n T.heap.size 0).slots.size } : State) = { T with heap := T.heap ++ [ml_o c3 n T.heap.size 0].toArray, slotsUsed := _ }
    rw [es]
    rfl
  have loop : ∀ (acts' : List Action), wp (do
      for i in [0:n] do
        Jvm.writeLoc T.heap.size i (.ref (← multianewarray.make c0 [vk]))
      Pure.pure T.heap.size) Q Ec e d acts' (ml_S T c3 c0 n k 0) := by
    intro acts'
    rw [wp_bind', Std.Legacy.Range.forIn_eq_forIn_range', show ([0:n] : Std.Legacy.Range).size = n by simp [Std.Legacy.Range.size]]
    refine ml_each (n := n) (ml_S T c3 c0 n k) (fun i hi d1 acts1 Q1 h1 => ?_) n 0 (Nat.zero_add _) d acts' _ (fun d1 acts1 => ?_)
    · have hmul : i * k + k ≤ n * k := by
        rw [← Nat.succ_mul]
        exact Nat.mul_le_mul_right k hi
      have hsz : (ml_S T c3 c0 n k i).heap.size = T.heap.size + 1 + i := ml_size
      have hus : (ml_S T c3 c0 n k i).slotsUsed = T.slotsUsed + (n + i * k) := rfl
      rw [wp_bind']
      refine ml_one (T := ml_S T c3 c0 n k i) (kc := kc) (cz := cz) hkc hkindc hvk hk hlen.2 hbyt.2 (by omega) (by omega) (fun acts2 => ?_)
      have there : ((ml_S T c3 c0 n k i).pushCell (ml_r c0 k)).heap[T.heap.size]? = some (ml_o c3 n T.heap.size i) := (State.heap_pushCell_of_lt _ _ (show T.heap.size < (ml_S T c3 c0 n k i).heap.size by rw [hsz]; omega)).trans ml_out
      have turned : ((ml_S T c3 c0 n k i).pushCell (ml_r c0 k)).setCell T.heap.size ((ml_o c3 n T.heap.size i).setSlot i (.ref (ml_S T c3 c0 n k i).heap.size)) = ml_S T c3 c0 n k (i + 1) := by
        rw [hsz]
        exact ml_turn
      have fit : State.fitsSlot ((ml_S T c3 c0 n k i).pushCell (ml_r c0 k)) c3 .none i (.ref (ml_S T c3 c0 n k i).heap.size) = true := by
        have hk3' : (ml_S T c3 c0 n k i).vm.classes[c3]? = some k3 := hk3
        simp [State.fitsSlot, State.slotType?, hk3', hkind, fits]
      have inn : i < (ml_o c3 n T.heap.size i).slots.size := by
        rw [show (ml_o c3 n T.heap.size i).slots.size = n from arrV_size _ _ _]
        exact hi
      simp only [wp_bind', W.writeLoc, wp_pure']
      refine ⟨_, there, (fun h => (by cases h)), inn, fit, ?_⟩
      rw [turned]
      exact h1 _ _
    · rw [wp_pure']
      exact hq d1 acts1
  have made : wp (Jvm.newArray c3 n .null) (fun a d' acts' t => wp (do
      for i in [0:n] do
        Jvm.writeLoc a i (.ref (← multianewarray.make c0 [vk]))
      Pure.pure a) Q Ec e d' acts' t) Ec e d acts T := W.newArray_of hk3 hkind hlen.1 hbyt.1 (by omega) (by omega) rfl (fun acts' => by
    rw [first]
    exact loop acts')
  rw [en] at made
  rw [multianewarray.make]
  simp only [wp_bind', W.ite, W.theClass, wp_pure', hvn, hk3, hkind, hno, if_false, ite_self, Option.some.injEq, exists_eq_left']
  exact made
/-- the whole instruction: its class entry may be resolved on the way -/
theorem ml_sem {g : JFrame} {idx : Nat} {vm1 : Vm} {c3 c0 cz : ClassId} {k3 kc : Class} {vn vk : Int32} {n k : Nat} {rest : List Value} (htop : T.topJava?.isSome) (hgive : (Jvm.resolveClass g.method.cls idx).Gives e.toSetting T.vm (.ok c3) vm1) (hcl : vm1.classes.size ≤ T.vm.classes.size) (hstack : g.stack = [Value.int vn, Value.int vk].reverse ++ rest) (hk3 : vm1.classes[c3]? = some k3) (hkind : k3.kind = .array c0 (.array .int)) (hkc : vm1.classes[c0]? = some kc) (hkindc : kc.kind = .array cz .int) (hvn : ¬ vn < 0) (hvk : ¬ vk < 0) (hn : vn.toNatClampNeg = n) (hk : vk.toNatClampNeg = k) (hlen : ¬ n > e.platform.arrayLengthLimit ∧ ¬ k > e.platform.arrayLengthLimit) (hbyt : ¬ n * 4 > e.platform.maxHeapBytes ∧ ¬ k * 4 > e.platform.maxHeapBytes) (hroom : T.heap.size + 1 + n ≤ e.platform.maxCells) (hslot : T.slotsUsed + (n + n * k) ≤ e.platform.maxSlots) {Q : Unit → Pre} (hq : ∀ d' acts', Q () d' acts' ((ml_S (T.setVm vm1) c3 c0 n k n).setTop { g with stack := .ref T.heap.size :: rest })) : wp (multianewarray.sem idx 2) Q Ec e d acts (T.setTop g) := by
  have htop1 : (T.setVm vm1).topJava?.isSome := htop
  have pops := fun (Q' : List Value → Pre) => popN_top (Q := Q') (E := Ec) (e := e) (d := d) (acts := acts) (s := T.setVm vm1) (f := g) htop1 (args := [.int vn, .int vk]) (rest := rest) hstack
  unfold multianewarray.sem
  rw [wp_bind', W.resolveClassAt_links (t := T.setTop g) (State.method?_setTop g htop) hgive hcl, wp_bind']
  refine (pops _).mpr ?_
  simp only [List.mapM_cons, List.mapM_nil, wp_bind', wp_pure']
  refine ml_two (T := (T.setVm vm1).setTop { g with stack := rest }) hk3 hkind hkc hkindc hvn hvk hn hk hlen hbyt hroom hslot (fun d' acts' => ?_)
  have htop2 : (ml_S (T.setVm vm1) c3 c0 n k n).topJava?.isSome := htop1
  show wp _ Q Ec e d' acts' ((ml_S (T.setVm vm1) c3 c0 n k n).setTop { g with stack := rest })
  simp only [wp_bind', W.mark, W.pushRef, State.topJava?_setTop' _ htop2, Option.some.injEq, exists_eq_left', State.setTop_setTop]
  exact hq _ _
end MLWP
section MLROW
variable {p : Program} {l : Launch} {e : Env} {R : Room} {s : State} {m : MethodId} {args : Array Value} {below : List Frame} {meth : Method} {c : Code} {H : Heap} {locs : List Loc} {cells slots : Nat} {Q : State → Prop}
/-- the method stands there behind it -/
theorem ml_stand {T : State} (X : Stand p l e R s m args below meth c T locs cells slots) (c3 c0 : ClassId) (n k i : Nat) : Stand p l e R s m args below meth c (ml_S T c3 c0 n k i) locs (cells + (1 + i)) (slots + (n + i * k)) := by
  obtain ⟨f, hf⟩ := Option.isSome_iff_exists.mp X.here.top
  obtain ⟨r, hr⟩ := State.topJava?_eq_some.mp hf
  obtain ⟨x, hx, -⟩ := State.frames_cons hr
  have h := X.moved (T₂ := ml_S T c3 c0 n k i) (X.here.setHeapUsed _ _) X.tail rfl rfl (State.WarmedH.refl T) (ml_same hx)
  rw [List.append_nil] at h
  exact h
/-- the row of the instruction -/
theorem lv_multi {cc : ByteArray} (hexec : p.tables.exec = Jvm.exec) (hb : c.code = cc) {own : String} {idx pc n k : Nat} (hown : s.vm.findClass own = some m.cls) (hcl : (Cond.classLink own idx "[[I").before args s = true) {c3 c0 cz : ClassId} {k3 kc : Class} (h3 : s.vm.findClass "[[I" = some c3) (hk3 : s.vm.classes[c3]? = some k3) (hkind : k3.kind = .array c0 (.array .int)) (hkc : s.vm.classes[c0]? = some kc) (hkindc : kc.kind = .array cz .int) {vn vk : Int32} (hvn : ¬ vn < 0) (hvk : ¬ vk < 0) (hn : vn.toNatClampNeg = n) (hk : vk.toNatClampNeg = k) (hb1 : n * 4 ≤ 536870912) (hb2 : k * 4 ≤ 536870912) (hcells : cells + (1 + n) ≤ R.cells) (hslots : slots + (n + n * k) ≤ R.slots) {ls : Array Slot} {rest : List Value} (hd : decode cc pc = .ok (.multianewarray idx 2, 4))
    (kk : ∀ H1 : Heap, H1.size = H.size + 1 + n → (∀ q, q < H.size → H1[q]? = H[q]?) → H1[H.size]? = some (arrV c3 n (fun j => .ref (H.size + 1 + j))) → (∀ j, j < n → H1[H.size + 1 + j]? = some (arrV c0 k (fun _ => .int 0))) → W p l e R s m args below meth c H1 locs (cells + (1 + n)) (slots + (n + n * k)) Q (F0 m (pc + 4) ls (.ref H.size :: rest))) : W p l e R s m args below meth c H locs cells slots Q (F0 m pc ls (.int vk :: .int vn :: rest)) := by
  intro T hT X
  subst hT
  subst hb
  obtain ⟨cx, hcx, hlink⟩ := Cond.classLink_spec hown hcl e.platform (by rw [X.admits.platform])
  rw [h3] at hcx
  cases hcx
  obtain ⟨hgive, hwarm, -⟩ := State.classEntry (e := e) X.warmed hlink
  obtain ⟨vm1, e1⟩ : ∃ vm1, vm1 = T.vm.noted m.cls idx (.cls c3) := ⟨_, rfl⟩
  rw [← e1] at hgive hwarm
  have same : ∀ {q : ClassId} {x : Class}, s.vm.classes[q]? = some x → ∃ y, vm1.classes[q]? = some y ∧ y.kind = x.kind := fun hq => by
    obtain ⟨y, hy, ey⟩ := hwarm.alike.2.2 _ _ hq
    exact ⟨y, hy, by rw [ey]⟩
  obtain ⟨y3, hy3, ey3⟩ := same hk3
  obtain ⟨y0, hy0, ey0⟩ := same hkc
  have S1 := ml_stand (X.noted hwarm) c3 c0 n k n
  obtain ⟨t, ht, hQ⟩ := kk (ml_S (T.setVm vm1) c3 c0 n k n).heap ml_size (fun q hq => ml_old hq) (ml_out.trans (congrArg some (arrV_ext fun j hj => if_pos hj))) (fun j hj => ml_in hj) _ rfl S1
  refine ⟨t, ?_, hQ⟩
  obtain ⟨r1, r2⟩ := X.roomAbove hcells hslots
  have lim : e.platform.arrayLengthLimit = _ := Launch.admits_arrayLengthLimit X.admits
  have byt : e.platform.maxHeapBytes = _ := Launch.admits_maxHeapBytes X.admits
  jvm_step X.here [hexec, hd]
  refine ml_sem (g := F0 m pc ls (.int vk :: .int vn :: rest)) (vm1 := vm1) X.here.top hgive (by rw [e1, Vm.size_noted]; exact Nat.le_refl _) rfl hy3 (ey3.trans hkind) hy0 (ey0.trans hkindc) hvn hvk hn hk ⟨by rw [lim]; omega, by rw [lim]; omega⟩ ⟨by rw [byt]; omega, by rw [byt]; omega⟩ (by omega) (by omega) (fun d' acts' => ?_)
  simp [jvm, S1.here.top]
  exact ht
end MLROW
