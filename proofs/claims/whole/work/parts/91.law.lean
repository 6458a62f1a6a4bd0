/-! ===== the law's body: an argument out of the script ===== -/
section LAWARG
variable {p : Program} {l : Launch} {e : Env} {R : Room} {s : State} {m : MethodId} {args : Array Value} {below : List Frame} {meth : Method} {c : Code} {H : Heap} {locs : List Loc} {Q : State → Prop} {ca sl : Nat}
/-- where the law stands: the script b of L ints xs, the class at x, the reference at y, the place i -/
def LW0 (p : Program) (s : State) (m : MethodId) (args : Array Value) (c : Code) (E : zE) (b L : Nat) (xs : Nat → Int32) : Prop := p.tables.exec = Jvm.exec ∧ c.code = code ∧ c.maxLocals = 4 ∧ s.vm.findClass "BaggageHandlingLaw" = some m.cls ∧ (∀ w ∈ lw_tbl, w.before args s = true) ∧ (va_X b L xs s s.heap ∧ b < s.heap.size ∧ ¬ zA E b) ∧ zEnv E s ∧ zCl E ∧ (10, 0) ∈ E.2.2.1 ∧ (11, 0) ∈ E.2.2.1
def LWL (E : zE) (ls : Array Slot) (b i : Nat) : Prop := ls.size = 4 ∧ ls[0]? = some (.val (.ref b)) ∧ ls[1]? = some (.val (.ref (E.2.1 (10, 0)))) ∧ ls[2]? = some (.val (.ref (E.2.1 (11, 0)))) ∧ ls[3]? = some (.val (.int (nI i)))
theorem lw_arg {E : zE} {b L : Nat} {xs : Nat → Int32} {ls : Array Slot} {i k pc : Nat} {n : Int} {st : List Value} (X : LW0 p s m args c E b L xs) (hl : LWL E ls b i) (hS : va_S (zA E) s.heap H locs) (hL : L < 2 ^ 31) (hi : i + k < L) (hn : Int32.ofInt n = nI k) (d0 : decode code pc = .ok (.aload_n 0, 1)) (d1 : decode code (pc + 1) = .ok (.iload_n 3, 1)) (d2 : decode code (pc + 1 + 1) = .ok (.iconst n, 1)) (d3 : decode code (pc + 1 + 1 + 1) = .ok (.iadd, 1)) (d4 : decode code (pc + 1 + 1 + 1 + 1) = .ok (.iaload, 1)) (kk : W p l e R s m args below meth c H locs ca sl Q (F0 m (pc + 1 + 1 + 1 + 1 + 1) ls (.int (xs (i + k)) :: st))) : W p l e R s m args below meth c H locs ca sl Q (F0 m pc ls st) := by
  refine lv_aload_n X.1 X.2.1 d0 rfl hl.2.1 ?_
  refine lv_iload_n X.1 X.2.1 d1 rfl hl.2.2.2.2 ?_
  refine lv_iconst X.1 X.2.1 d2 hn ?_
  refine lv_iadd X.1 X.2.1 d3 ?_
  rw [nI_add]
  refine va_sld X.1 X.2.1 X.2.2.2.2.2.1.1 X.2.2.2.2.2.1.2.1 X.2.2.2.2.2.1.2.2 hS ?_ d4 ?_
  · exact nI_in hi hL
  · rw [nI_clamp (by omega)]
    exact kk
theorem lw_arg6 {E : zE} {b L : Nat} {xs : Nat → Int32} {ls : Array Slot} {i k pc : Nat} {n : Int} {st : List Value} (X : LW0 p s m args c E b L xs) (hl : LWL E ls b i) (hS : va_S (zA E) s.heap H locs) (hL : L < 2 ^ 31) (hi : i + k < L) (hn : (Int8.ofInt n).toInt32 = nI k) (d0 : decode code pc = .ok (.aload_n 0, 1)) (d1 : decode code (pc + 1) = .ok (.iload_n 3, 1)) (d2 : decode code (pc + 1 + 1) = .ok (.bipush n, 2)) (d3 : decode code (pc + 1 + 1 + 2) = .ok (.iadd, 1)) (d4 : decode code (pc + 1 + 1 + 2 + 1) = .ok (.iaload, 1)) (kk : W p l e R s m args below meth c H locs ca sl Q (F0 m (pc + 1 + 1 + 2 + 1 + 1) ls (.int (xs (i + k)) :: st))) : W p l e R s m args below meth c H locs ca sl Q (F0 m pc ls st) := by
  refine lv_aload_n X.1 X.2.1 d0 rfl hl.2.1 ?_
  refine lv_iload_n X.1 X.2.1 d1 rfl hl.2.2.2.2 ?_
  refine lv_bipush X.1 X.2.1 d2 hn ?_
  refine lv_iadd X.1 X.2.1 d3 ?_
  rw [nI_add]
  refine va_sld X.1 X.2.1 X.2.2.2.2.2.1.1 X.2.2.2.2.2.1.2.1 X.2.2.2.2.2.1.2.2 hS ?_ d4 ?_
  · exact nI_in hi hL
  · rw [nI_clamp (by omega)]
    exact kk
end LAWARG
