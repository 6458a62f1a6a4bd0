/-! ===== values, memory and shapes: handles (kind, number), ints, longs ===== -/
abbrev zH : Type := Nat × Nat
abbrev zV : Type := Int32 ⊕ (Int64 ⊕ zH)
abbrev zM : Type := (Nat → Nat → Nat → Int32) × ((Nat → Nat → Nat → Nat) × (Nat → Nat → Nat → Int64))
abbrev zD : Type := List (Option zV) → List zV → zM → Option (Option zV × zM)
abbrev zG : Type := List zV → zM → Option (Option zV × zM)
abbrev zFT : Type := Nat × zH
abbrev zSh : Type := List zFT ⊕ (Nat × Nat × zH)
/-- the texts of the String constants -/
def zTx : List String := ["inlet", "scanner", "chute", "screen", "store", "station", "ring", "window", "passes", "room", "switch", "times", "time", "exit", "flight", "open", "close", ";"]
def zTxL (i : Nat) : Nat := [5, 7, 5, 6, 5, 7, 4, 6, 6, 4, 6, 5, 4, 4, 6, 4, 5, 1].getD i 0
def zTxB (i : Nat) : List Int32 := [[105, 110, 108, 101, 116], [115, 99, 97, 110, 110, 101, 114], [99, 104, 117, 116, 101], [115, 99, 114, 101, 101, 110], [115, 116, 111, 114, 101], [115, 116, 97, 116, 105, 111, 110], [114, 105, 110, 103], [119, 105, 110, 100, 111, 119], [112, 97, 115, 115, 101, 115], [114, 111, 111, 109], [115, 119, 105, 116, 99, 104], [116, 105, 109, 101, 115], [116, 105, 109, 101], [101, 120, 105, 116], [102, 108, 105, 103, 104, 116], [111, 112, 101, 110], [99, 108, 111, 115, 101], [59]].getD i []
/-- the most devices of each sort, as the constant row has them -/
def zLim (j : Nat) : Int32 := ([0, 3, 3, 6, 2, 2, 2] : List Int32).getD j 0
abbrev fI : zFT := (0, (0, 0))
abbrev fL : zFT := (1, (0, 0))
abbrev fZ : zFT := (4, (0, 0))
abbrev fR (k i : Nat) : zFT := (2, (k, i))
abbrev fM (k : Nat) : zFT := (3, (k, 0))
abbrev aI (n : Nat) : zSh := .inr (0, n, (0, 0))
abbrev aB (n : Nat) : zSh := .inr (1, n, (0, 0))
/-- what stands at a handle: fields (0 int, 1 long, 2 a fixed reference, 3 a reference that changes, 4 boolean), or a row (0 ints, 1 bytes, 2 worlds, 3 the constant row, 4 rows of ints, 5 a text's bytes, 9 nothing) -/
def zS (k i : Nat) : zSh := match k with
  | 0 => .inl [fI, fR 21 i, fR 22 i, fR 23 i, fR 24 i, fR 25 i, fR 26 i, fR 27 i, fR 28 i, fR 29 i]
  | 1 => .inl [fI, fR 31 i, fR 32 i, fR 33 i, fR 34 i]
  | 2 => .inl [fR 35 i, fI, fI]
  | 3 => .inl [fR 36 i, fR 37 i, fR 38 i, fR 39 i]
  | 4 => .inl [fR 40 i, fR 41 i, fR 42 i]
  | 5 => .inl [fI, fI, fI, fR 1 i, fR 43 i, fR 44 i, fR 45 i, fR 46 i, fR 47 i, fR 48 i, fR 49 i, fR 50 i, fR 51 i, fI, fR 52 i, fI]
  | 6 => .inl [fR 7 0, fM 5]
  | 7 => .inl [fR 55 0, fI, fI, fI, fI]
  | 8 => .inl [fR 56 0, fI]
  | 9 => .inl [fM 5, fI, fI, fI, fR 57 i, fR 58 i, fR 4 (2 * i), fR 4 (2 * i + 1), fR 3 i, fR 0 i, fR 59 i, fR 60 i, fR 61 i]
  | 10 => .inl [fR 7 0, fR 6 0, fR 8 0, fR 9 0, fR 9 1, fR 2 0, fM 5, fM 5, fI]
  | 11 => .inl [fR 62 0, fI, fI, fR 63 0, fR 64 0, fI, fI, fI, fI, fL, fZ, fR 65 0, fR 66 0, fR 67 0, fI, fR 68 0, fR 69 0, fR 70 0, fR 71 0, fR 72 0, fR 73 0, fI]
  | 21 => aI 100
  | 22 => aI 100
  | 23 => aI 100
  | 24 => aI 100
  | 25 => aI 100
  | 26 => aI 100
  | 27 => aI 100
  | 28 => aI 100
  | 29 => aI 100
  | 31 => aI 10
  | 32 => aI 10
  | 33 => aI 10
  | 34 => aI 10
  | 35 => .inr (2, 10, (9, 2))
  | 36 => aI 60
  | 37 => aI 60
  | 38 => aI 60
  | 39 => aI 100
  | 40 => aI (if i % 2 = 0 then 60 else 100)
  | 41 => aI (if i % 2 = 0 then 60 else 100)
  | 42 => aI (if i % 2 = 0 then 60 else 100)
  | 43 => aI 60
  | 44 => aI 60
  | 45 => aI 60
  | 46 => aI 60
  | 47 => aI 60
  | 48 => .inr (4, 4, (53, 4 * i))
  | 49 => aI 7
  | 50 => .inr (4, 7, (54, 7 * i))
  | 51 => aI 18
  | 52 => aI 60
  | 53 => aI 60
  | 54 => aI 6
  | 55 => aB 900
  | 56 => aB 1024
  | 57 => aI 8
  | 58 => aI 60
  | 59 => aI 60
  | 60 => aI 60
  | 61 => aI 60
  | 62 => aB 900
  | 63 => aI 400
  | 64 => aI 400
  | 65 => aI 1200
  | 66 => aI 1200
  | 67 => aI 12000
  | 68 => aI 100
  | 69 => aI 100
  | 70 => aI 100
  | 71 => aI 100
  | 72 => aI 100
  | 73 => aI 2400
  | 74 => .inr (3, 7, (0, 0))
  | 76 => .inr (5, zTxL i, (0, 0))
  | _ => .inr (9, 0, (0, 0))
/-- the fixed parts: the tables' numbers, the addresses, the handles that are there, the array tables' numbers, the formatter -/
abbrev zE : Type := va_G × ((zH → Nat) × (List zH × ((Nat → ClassId) × Value)))
def zval (E : zE) : zV → Value
  | .inl x => .int x
  | .inr (.inl y) => .long y
  | .inr (.inr h) => if h.1 = 77 then E.2.2.2.2 else .ref (E.2.1 h)
def zok (E : zE) : zV → Prop
  | .inr (.inr h) => h ∈ E.2.2.1 ∨ ((h.1 = 75 ∨ h.1 = 76) ∧ h.2 < 18) ∨ h = (74, 0) ∨ (h.1 = 77 ∧ E.2.2.2.2.category = 1)
  | _ => True
/-- a reference that changes: number 0 or 1, or none yet -/
def zmr (E : zE) (k j : Nat) : Value := if j < 2 then .ref (E.2.1 (k, j)) else .null
def zfv (E : zE) (μ : zM) (h : zH) (n : Nat) (f : zFT) : Value := match f.1 with
  | 0 => .int (μ.1 h.1 h.2 n)
  | 4 => .int (μ.1 h.1 h.2 n)
  | 1 => .long (μ.2.2 h.1 h.2 n)
  | 2 => .ref (E.2.1 f.2)
  | _ => zmr E f.2.1 (μ.2.1 h.1 h.2 n)
def zfs (E : zE) (μ : zM) (h : zH) : Nat → List zFT → List Value
  | _, [] => []
  | n, f :: fs => zfv E μ h n f :: zfs E μ h (n + 1) fs
def zcell (E : zE) (μ : zM) (h : zH) : va_E := match zS h.1 h.2 with
  | .inl fs => .inr (h.1, zfs E μ h 0 fs)
  | .inr (0, n, _) => .inl (E.2.2.2.1 0, n, .inl (μ.1 h.1 h.2))
  | .inr (1, n, _) => .inl (E.2.2.2.1 1, n, .inl (μ.1 h.1 h.2))
  | .inr (2, n, r) => .inl (E.2.2.2.1 2, n, .inr (.inr (.inr (.inr (fun j => some (E.2.1 (r.1, r.2 + j)))))))
  | .inr (4, n, r) => .inl (E.2.2.2.1 3, n, .inr (.inr (.inr (.inr (fun j => some (E.2.1 (r.1, r.2 + j)))))))
  | .inr _ => .inl (E.2.2.2.1 0, 0, .inl (fun _ => 0))
def zws (E : zE) (μ : zM) : va_W := E.2.2.1.map (fun h => (E.2.1 h, zcell E μ h))
def zA (E : zE) : Nat → Prop := fun q => ∃ h ∈ E.2.2.1, E.2.1 h = q
def zP (E : zE) (μ : zM) (H : Heap) : Prop := va_P E.1 vwCl (zws E μ) H ∧ va_D (zA E) (zws E μ)
def ztys (E : zE) : List (ClassId × FieldType) := [(E.2.2.2.1 0, .int), (E.2.2.2.1 1, .byte), (E.2.2.2.1 2, .object RX9), (E.2.2.2.1 3, .array .int)]
/-- what can be reached from a handle that is there is there too -/
def zCl (E : zE) : Prop := ∀ h ∈ E.2.2.1, h.1 < 74 ∧ (∀ fs, zS h.1 h.2 = .inl fs → ∀ f ∈ fs, (f.1 = 2 → f.2 ∈ E.2.2.1) ∧ (f.1 = 3 → ∀ j, j < 2 → (f.2.1, j) ∈ E.2.2.1)) ∧ (∀ t n r, zS h.1 h.2 = .inr (t, n, r) → t = 2 ∨ t = 4 → ∀ j, j < n → (r.1, r.2 + j) ∈ E.2.2.1)
/-- String constants by tables and entries: whose, entry, text, number -/
def zStrs : List (String × Nat × String × Nat) := [("BaggageHandling", 278, "inlet", 0), ("BaggageHandling", 280, "scanner", 1), ("BaggageHandling", 282, "chute", 2), ("BaggageHandling", 284, "screen", 3), ("BaggageHandling", 286, "store", 4), ("BaggageHandling", 288, "station", 5),
  ("BaggageHandling$Setup", 84, "ring", 6), ("BaggageHandling$Setup", 100, "window", 7), ("BaggageHandling$Setup", 101, "passes", 8), ("BaggageHandling$Setup", 111, "room", 9), ("BaggageHandling$Setup", 113, "switch", 10), ("BaggageHandling$Setup", 115, "times", 11), ("BaggageHandling$Setup", 124, "time", 12), ("BaggageHandling$Setup", 129, "exit", 13), ("BaggageHandling$Setup", 131, "flight", 14), ("BaggageHandling$Setup", 134, "chute", 2), ("BaggageHandling$Setup", 139, "open", 15), ("BaggageHandling$Setup", 144, "close", 16),
  ("BaggageHandling$SetupReader", 30, "ring", 6), ("BaggageHandling$SetupReader", 40, ";", 17), ("BaggageHandling$SetupReader", 124, "room", 9), ("BaggageHandling$SetupReader", 129, "switch", 10), ("BaggageHandling$SetupReader", 134, "times", 11), ("BaggageHandling$SetupReader", 143, "time", 12), ("BaggageHandling$SetupReader", 145, "exit", 13), ("BaggageHandling$SetupReader", 150, "flight", 14), ("BaggageHandling$SetupReader", 172, "chute", 2), ("BaggageHandling$SetupReader", 174, "open", 15), ("BaggageHandling$SetupReader", 177, "close", 16), ("BaggageHandling$SetupReader", 184, "window", 7), ("BaggageHandling$SetupReader", 188, "passes", 8)]
/-- the links between nest mates -/
def zNestM : List (String × Nat × MethodName) := [(RX5, 103, yX10_wordOf), (RX5, 107, yX10_isOutlet), (RX5, 126, yX10_hasExit), (RX6, 83, yX10_wordOf), (RX6, 97, yX10_isOutlet), (RX6, 109, yX10_hasExit), (RX6, 164, yX10_isWithin), (RX9, 171, yX10_isOutlet)]
abbrev zNestF : Cond := .fieldLinkNest RX6 73 "BaggageHandling" "SORT_LIMITS" "[I" "BaggageHandling"
/-- the constants: Strings, the constant row, the statics -/
def zEnv (E : zE) (U : State) : Prop :=
  va_K E.1 vwCl (ztys E) U ∧
  (∀ i, i < 18 → va_O "java/lang/String" (E.2.1 (75, i)) (zA E) U U.heap ∧ va_OF "java/lang/String" "coder" "B" (.int 0) (E.2.1 (75, i)) (zA E) U U.heap ∧ va_OF "java/lang/String" "value" "[B" (.ref (E.2.1 (76, i))) (E.2.1 (75, i)) (zA E) U U.heap ∧ va_T .byte (E.2.1 (76, i)) (zTxL i) (fun j => .int ((zTxB i).getD j 0)) (zA E) U U.heap) ∧
  (∀ q ∈ zStrs, vk_R q.1 q.2.1 q.2.2.1 (E.2.1 (75, q.2.2.2)) U) ∧
  (∀ q ∈ zNestM, va_Nw (.methodLinkNest q.1 q.2.1 q.2.2 "BaggageHandling") U) ∧ va_Nw zNestF U ∧
  va_Z "BaggageHandling" "SORT_LIMITS" "[I" (.ref (E.2.1 (74, 0))) (zA E) U U.heap ∧ va_T .int (E.2.1 (74, 0)) 7 (fun j => .int (zLim j)) (zA E) U U.heap ∧
  va_Z "java/lang/String" "COMPACT_STRINGS" "Z" (.int 1) (zA E) U U.heap ∧ va_Z "jdk/internal/util/Preconditions" "SIOOBE_FORMATTER" "Ljava/util/function/BiFunction;" E.2.2.2.2 (zA E) U U.heap ∧ E.2.2.2.2.category = 1
theorem zEnv.go {E : zE} {s U : State} (h : zEnv E s) (hW : s.WarmedH U.vm) (hq : ∀ a : Nat, a < s.heap.size → ¬ zA E a → U.heap[a]? = s.heap[a]?) : zEnv E U := by
  obtain ⟨h1, h2, h3, h4, h5, h6, h7, h8, h9, h10⟩ := h
  have hv := hW.alike
  exact ⟨va_K.moved hv h1, fun i hi => ⟨va_O.moved hv ((h2 i hi).1.kept hq), va_OF.moved hv ((h2 i hi).2.1.kept hq), va_OF.moved hv ((h2 i hi).2.2.1.kept hq), va_T.moved hv ((h2 i hi).2.2.2.kept hq)⟩,
    fun q hq => vk_R.warm hW (h3 q hq), fun q hq => va_Nw.warmM hW (h4 q hq), va_Nw.warmF hW h5, va_Z.moved hv (h6.kept hq), va_T.moved hv (h7.kept hq), va_Z.moved hv (h8.kept hq), va_Z.moved hv (h9.kept hq), h10⟩
theorem zEnv.same {E : zE} {s U : State} (h : zEnv E s) (hv : U.vm = s.vm) (hh : U.heap = s.heap) : zEnv E U := by
  obtain ⟨h1, h2, h3, h4, h5, h6, h7, h8, h9, h10⟩ := h
  have ha : s.vm.Alike U.vm := by rw [hv]; exact Vm.Alike.refl _
  refine ⟨va_K.moved ha h1, fun i hi => ?_, fun q hq => vk_R.same hv (h3 q hq), fun q hq => va_Nw.same rfl hv.symm (h4 q hq), va_Nw.same rfl hv.symm h5, ?_, ?_, ?_, ?_, h10⟩
  · rw [hh]; exact ⟨va_O.moved ha (h2 i hi).1, va_OF.moved ha (h2 i hi).2.1, va_OF.moved ha (h2 i hi).2.2.1, va_T.moved ha (h2 i hi).2.2.2⟩
  · rw [hh]; exact va_Z.moved ha h6
  · rw [hh]; exact va_T.moved ha h7
  · rw [hh]; exact va_Z.moved ha h8
  · rw [hh]; exact va_Z.moved ha h9
theorem zws_get {E : zE} {μ : zM} {h : zH} (hh : h ∈ E.2.2.1) : ∃ k : Nat, (zws E μ)[k]? = some (E.2.1 h, zcell E μ h) := by
  obtain ⟨k, hk⟩ := List.getElem?_of_mem hh
  exact ⟨k, by simp [zws, hk]⟩
/-- one cell changed -/
theorem zws_set {E : zE} {μ μ' : zM} {h : zH} {A : Nat → Prop} {k : Nat} {e : va_E} (hD : va_D A (zws E μ)) (hk : (zws E μ)[k]? = some (E.2.1 h, zcell E μ h)) (hh : h ∈ E.2.2.1) (he : zcell E μ' h = e) (ho : ∀ h' ∈ E.2.2.1, h' ≠ h → zcell E μ' h' = zcell E μ h') : (zws E μ).set k (E.2.1 h, e) = zws E μ' := by
  have hinj : ∀ j h', E.2.2.1[j]? = some h' → E.2.1 h' = E.2.1 h → j = k := by
    intro j h' hj hA
    exact hD.1 j k (E.2.1 h', zcell E μ h') (E.2.1 h, zcell E μ h) (by simp [zws, hj]) hk hA
  obtain ⟨k', hk'⟩ := List.getElem?_of_mem hh
  have hkk := hinj k' h hk' rfl
  subst hkk
  apply List.ext_getElem?
  intro j
  by_cases hjk : j = k'
  · subst hjk
    have hlt : j < (zws E μ).length := (List.getElem?_eq_some_iff.mp hk).1
    rw [List.getElem?_set_self hlt]
    simp [zws, hk', he]
  · rw [List.getElem?_set_ne (Ne.symm hjk)]
    simp only [zws, List.getElem?_map]
    cases hj : E.2.2.1[j]? with
    | none => rfl
    | some h' =>
      have hne : h' ≠ h := fun q => hjk (hinj j h' hj (by rw [q]))
      simp [ho h' (List.mem_of_getElem? hj) hne]
theorem zfs_get {E : zE} {μ : zM} {h : zH} : ∀ (fs : List zFT) (n k : Nat) (f : zFT), fs[k]? = some f → (zfs E μ h n fs)[k]? = some (zfv E μ h (n + k) f)
  | [], _, _, _, hf => by simp at hf
  | g :: fs, n, 0, f, hf => by simp at hf; subst hf; rfl
  | g :: fs, n, k + 1, f, hf => by
    have := zfs_get (E := E) (μ := μ) (h := h) fs (n + 1) k f (by simpa using hf)
    rw [show n + (k + 1) = n + 1 + k by omega]
    simpa [zfs] using this
theorem zfs_len {E : zE} {μ : zM} {h : zH} : ∀ (fs : List zFT) (n : Nat), (zfs E μ h n fs).length = fs.length
  | [], _ => rfl
  | _ :: fs, n => by simp [zfs, zfs_len fs (n + 1)]
/-- a field changed: the other fields stay -/
theorem zfs_set {E : zE} {μ μ' : zM} {h : zH} {v : Value} : ∀ (fs : List zFT) (n k : Nat) (f : zFT), fs[k]? = some f → zfv E μ' h (n + k) f = v → (∀ j g, fs[j]? = some g → j ≠ k → zfv E μ' h (n + j) g = zfv E μ h (n + j) g) → zfs E μ' h n fs = (zfs E μ h n fs).set k v
  | [], _, _, _, hf, _, _ => by simp at hf
  | g :: fs, n, 0, f, hf, hv, ho => by
    simp at hf; subst hf
    simp only [zfs, List.set_cons_zero]
    congr 1
    apply List.ext_getElem?
    intro j
    cases hj : fs[j]? with
    | none =>
      have h1 : fs.length ≤ j := by simpa using hj
      rw [List.getElem?_eq_none (by rw [zfs_len]; exact h1), List.getElem?_eq_none (by rw [zfs_len]; exact h1)]
    | some g' =>
      rw [zfs_get fs _ j g' hj, zfs_get fs _ j g' hj]
      have := ho (j + 1) g' (by simpa using hj) (by omega)
      rw [show n + 1 + j = n + (j + 1) by omega, this]
  | g :: fs, n, k + 1, f, hf, hv, ho => by
    simp only [zfs, List.set_cons_succ]
    congr 1
    · exact ho 0 g rfl (by omega)
    · exact zfs_set fs (n + 1) k f (by simpa using hf) (by rw [show n + 1 + k = n + (k + 1) by omega]; exact hv) (fun j g' hj hjk => by
        have := ho (j + 1) g' (by simpa using hj) (by omega)
        rw [show n + 1 + j = n + (j + 1) by omega]; exact this)
def zW : List Cond := lw_tbl.filter goodWord
theorem zW_in {w : Cond} {i : Nat} (h : lw_tbl[i]? = some w) (hg : goodWord w = true) : w ∈ zW := List.mem_filter.mpr ⟨List.mem_of_getElem? h, hg⟩
theorem zW_good {w : Cond} (h : w ∈ zW) : (w.onTables && w.keeps) = true ∨ ∃ ty, w = .arrayClass ty := good_of_word (List.mem_filter.mp h).2
