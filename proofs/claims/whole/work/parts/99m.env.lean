/-! ===== the constants at the start (their places printed) ===== -/
def zRep (i : Nat) : String × Nat := [("BaggageHandling", 278), ("BaggageHandling", 280), ("BaggageHandling", 282), ("BaggageHandling", 284), ("BaggageHandling", 286), ("BaggageHandling", 288), ("BaggageHandling$Setup", 84), ("BaggageHandling$Setup", 100), ("BaggageHandling$Setup", 101), ("BaggageHandling$Setup", 111), ("BaggageHandling$Setup", 113), ("BaggageHandling$Setup", 115), ("BaggageHandling$Setup", 124), ("BaggageHandling$Setup", 129), ("BaggageHandling$Setup", 131), ("BaggageHandling$Setup", 139), ("BaggageHandling$Setup", 144), ("BaggageHandling$SetupReader", 40)].getD i ("", 0)
def zIx (i : Nat) : List Nat := [[27, 28, 29, 30, 31, 32, 33, 34, 35], [36, 37, 38, 39, 40, 41, 42, 43, 44, 45, 46], [47, 48, 49, 50, 51, 52, 53, 54, 55], [56, 57, 58, 59, 60, 61, 62, 63, 64, 65], [66, 67, 68, 69, 70, 71, 72, 73, 74], [75, 76, 77, 78, 79, 80, 81, 82, 83, 84, 85], [19, 20, 21, 22, 23, 24, 25, 26], [166, 167, 168, 169, 170, 171, 172, 173, 174, 175], [176, 177, 178, 179, 180, 181, 182, 183, 184, 185], [86, 87, 88, 89, 90, 91, 92, 93], [94, 95, 96, 97, 98, 99, 100, 101, 102, 103], [104, 105, 106, 107, 108, 109, 110, 111, 112], [113, 114, 115, 116, 117, 118, 119, 120], [121, 122, 123, 124, 125, 126, 127, 128], [129, 130, 131, 132, 133, 134, 135, 136, 137, 138], [149, 150, 151, 152, 153, 154, 155, 156], [157, 158, 159, 160, 161, 162, 163, 164, 165], [195, 196, 197, 198, 199]].getD i []
abbrev zFl : List Cond := flatC (Jvm.Cond.and given_1 narrow_1)
def zStC (i : Nat) : List Cond := [.exactly (.string (zRep i).1 (zRep i).2) "java/lang/String", .eq (.field (.string (zRep i).1 (zRep i).2) "java/lang/String" "coder" "B") (.int 0), .arrayOf (.field (.string (zRep i).1 (zRep i).2) "java/lang/String" "value" "[B") .byte, .eq (.length (.field (.string (zRep i).1 (zRep i).2) "java/lang/String" "value" "[B")) (.int (Int32.ofNat (zTxL i)))] ++ (List.range (zTxL i)).map fun j => .eq (.elem (.field (.string (zRep i).1 (zRep i).2) "java/lang/String" "value" "[B") (.int (Int32.ofNat j))) (.int ((zTxB i).getD j 0))
set_option maxRecDepth 20000 in
theorem zIx_ok : ∀ i, i < 18 → (zIx i).map (fun n => zFl[n]?) = (zStC i).map some := by decide +kernel
theorem zStC_in {i : Nat} (hi : i < 18) {w : Cond} (h : w ∈ zStC i) : w ∈ zFl := by
  have h1 : some w ∈ (zStC i).map some := List.mem_map.mpr ⟨w, h, rfl⟩
  rw [← zIx_ok i hi] at h1
  obtain ⟨n, -, h2⟩ := List.mem_map.mp h1
  exact List.mem_of_getElem? h2
theorem str_at {args : Array Value} {s : State} {A : Nat → Prop} (hA : ∀ a : Nat, a < s.heap.size → ¬ A a) (hg : (Jvm.Cond.and given_1 narrow_1).before args s = true) (i : Nat) (hi : i < 18) : ∃ q : Nat × Nat, (Term.string (zRep i).1 (zRep i).2).eval args s none [] s = some (.ref q.1) ∧ va_O "java/lang/String" q.1 A s s.heap ∧ va_OF "java/lang/String" "coder" "B" (.int 0) q.1 A s s.heap ∧ va_OF "java/lang/String" "value" "[B" (.ref q.2) q.1 A s s.heap ∧ va_T .byte q.2 (zTxL i) (fun j => .int ((zTxB i).getD j 0)) A s s.heap := by
  have hs := flat_of_before _ hg
  have hex := hs _ (zStC_in hi (w := .exactly (.string (zRep i).1 (zRep i).2) "java/lang/String") (List.mem_append_left _ List.mem_cons_self))
  have hco := hs _ (zStC_in hi (w := .eq (.field (.string (zRep i).1 (zRep i).2) "java/lang/String" "coder" "B") (.int 0)) (List.mem_append_left _ (List.mem_cons_of_mem _ List.mem_cons_self)))
  have har := hs _ (zStC_in hi (w := .arrayOf (.field (.string (zRep i).1 (zRep i).2) "java/lang/String" "value" "[B") .byte) (List.mem_append_left _ (List.mem_cons_of_mem _ (List.mem_cons_of_mem _ List.mem_cons_self))))
  have hle := hs _ (zStC_in hi (w := .eq (.length (.field (.string (zRep i).1 (zRep i).2) "java/lang/String" "value" "[B")) (.int (Int32.ofNat (zTxL i)))) (List.mem_append_left _ (List.mem_cons_of_mem _ (List.mem_cons_of_mem _ (List.mem_cons_of_mem _ List.mem_cons_self)))))
  have hel : ∀ j, j < zTxL i → (Cond.eq (.elem (.field (.string (zRep i).1 (zRep i).2) "java/lang/String" "value" "[B") (.int (Int32.ofNat j))) (.int ((zTxB i).getD j 0))).before args s = true := fun j hj => hs _ (zStC_in hi (List.mem_append_right _ (List.mem_map.mpr ⟨j, List.mem_range.mpr hj, rfl⟩)))
  have hN : zTxL i < 2 ^ 31 := by
    have : ∀ i, i < 18 → zTxL i < 2 ^ 31 := by decide
    exact this i hi
  obtain ⟨a, c, cA, kA, q1, q2, q3, q4, q5, q6, -⟩ := Cond.exactly_spec (args := args) (first := s) (o := none) (s := s) (idx := []) (t := .string (zRep i).1 (zRep i).2) (cls := "java/lang/String") hex
  obtain ⟨t, ht, hT⟩ := va_Tof (f := fun j => .int ((zTxB i).getD j 0)) (A := A) hN har (va_eqt hle) (fun j hj => va_eqt (hel j hj)) hA
  exact ⟨(a, t), q1, ⟨cA, q3, q5, by rw [q6]; exact q2, hA a (Array.getElem?_eq_some_iff.mp q3).1⟩, vk_OFof q1 (va_eqt hco) hA, vk_OFof q1 ht hA, hT⟩
set_option maxRecDepth 20000 in
theorem str_all {args : Array Value} {s : State} {ad : Nat → Nat} (hg : (Jvm.Cond.and given_1 narrow_1).before args s = true) (h : ∀ i, i < 18 → (Term.string (zRep i).1 (zRep i).2).eval args s none [] s = some (.ref (ad i))) : ∀ q ∈ zStrs, (Term.string q.1 q.2.1).eval args s none [] s = some (.ref (ad q.2.2.2)) := by
  have hs := flat_of_before _ hg
  exact List.forall_mem_cons.mpr ⟨h 0 (by decide), List.forall_mem_cons.mpr ⟨h 1 (by decide), List.forall_mem_cons.mpr ⟨h 2 (by decide), List.forall_mem_cons.mpr ⟨h 3 (by decide), List.forall_mem_cons.mpr ⟨h 4 (by decide), List.forall_mem_cons.mpr ⟨h 5 (by decide), List.forall_mem_cons.mpr ⟨h 6 (by decide), List.forall_mem_cons.mpr ⟨h 7 (by decide), List.forall_mem_cons.mpr ⟨h 8 (by decide), List.forall_mem_cons.mpr ⟨h 9 (by decide), List.forall_mem_cons.mpr ⟨h 10 (by decide), List.forall_mem_cons.mpr ⟨h 11 (by decide), List.forall_mem_cons.mpr ⟨h 12 (by decide), List.forall_mem_cons.mpr ⟨h 13 (by decide), List.forall_mem_cons.mpr ⟨h 14 (by decide), List.forall_mem_cons.mpr ⟨va_eqR (t := .string "BaggageHandling" 282) (hs _ (List.mem_of_getElem? (i := 148) (by decide +kernel))) (h 2 (by decide)), List.forall_mem_cons.mpr ⟨h 15 (by decide), List.forall_mem_cons.mpr ⟨h 16 (by decide), List.forall_mem_cons.mpr ⟨va_eqR (t := .string "BaggageHandling$Setup" 84) (hs _ (List.mem_of_getElem? (i := 194) (by decide +kernel))) (h 6 (by decide)), List.forall_mem_cons.mpr ⟨h 17 (by decide), List.forall_mem_cons.mpr ⟨va_eqR (t := .string "BaggageHandling$Setup" 111) (hs _ (List.mem_of_getElem? (i := 208) (by decide +kernel))) (h 9 (by decide)), List.forall_mem_cons.mpr ⟨va_eqR (t := .string "BaggageHandling$Setup" 113) (hs _ (List.mem_of_getElem? (i := 219) (by decide +kernel))) (h 10 (by decide)), List.forall_mem_cons.mpr ⟨va_eqR (t := .string "BaggageHandling$Setup" 115) (hs _ (List.mem_of_getElem? (i := 229) (by decide +kernel))) (h 11 (by decide)), List.forall_mem_cons.mpr ⟨va_eqR (t := .string "BaggageHandling$Setup" 124) (hs _ (List.mem_of_getElem? (i := 238) (by decide +kernel))) (h 12 (by decide)), List.forall_mem_cons.mpr ⟨va_eqR (t := .string "BaggageHandling$Setup" 129) (hs _ (List.mem_of_getElem? (i := 247) (by decide +kernel))) (h 13 (by decide)), List.forall_mem_cons.mpr ⟨va_eqR (t := .string "BaggageHandling$Setup" 131) (hs _ (List.mem_of_getElem? (i := 258) (by decide +kernel))) (h 14 (by decide)), List.forall_mem_cons.mpr ⟨va_eqR (t := .string "BaggageHandling" 282) (hs _ (List.mem_of_getElem? (i := 268) (by decide +kernel))) (h 2 (by decide)), List.forall_mem_cons.mpr ⟨va_eqR (t := .string "BaggageHandling$Setup" 139) (hs _ (List.mem_of_getElem? (i := 278) (by decide +kernel))) (h 15 (by decide)), List.forall_mem_cons.mpr ⟨va_eqR (t := .string "BaggageHandling$Setup" 144) (hs _ (List.mem_of_getElem? (i := 288) (by decide +kernel))) (h 16 (by decide)), List.forall_mem_cons.mpr ⟨va_eqR (t := .string "BaggageHandling$Setup" 100) (hs _ (List.mem_of_getElem? (i := 299) (by decide +kernel))) (h 7 (by decide)), List.forall_mem_cons.mpr ⟨va_eqR (t := .string "BaggageHandling$Setup" 101) (hs _ (List.mem_of_getElem? (i := 310) (by decide +kernel))) (h 8 (by decide)), fun _ h => absurd h List.not_mem_nil⟩⟩⟩⟩⟩⟩⟩⟩⟩⟩⟩⟩⟩⟩⟩⟩⟩⟩⟩⟩⟩⟩⟩⟩⟩⟩⟩⟩⟩⟩⟩
set_option maxRecDepth 20000 in
theorem str_words : ∀ q ∈ zStrs, Cond.stringRef q.1 q.2.1 q.2.2.1 ∈ lw_tbl := List.forall_mem_cons.mpr ⟨List.mem_of_getElem? (i := 589) rfl, List.forall_mem_cons.mpr ⟨List.mem_of_getElem? (i := 590) rfl, List.forall_mem_cons.mpr ⟨List.mem_of_getElem? (i := 591) rfl, List.forall_mem_cons.mpr ⟨List.mem_of_getElem? (i := 592) rfl, List.forall_mem_cons.mpr ⟨List.mem_of_getElem? (i := 593) rfl, List.forall_mem_cons.mpr ⟨List.mem_of_getElem? (i := 594) rfl, List.forall_mem_cons.mpr ⟨List.mem_of_getElem? (i := 509) rfl, List.forall_mem_cons.mpr ⟨List.mem_of_getElem? (i := 620) rfl, List.forall_mem_cons.mpr ⟨List.mem_of_getElem? (i := 621) rfl, List.forall_mem_cons.mpr ⟨List.mem_of_getElem? (i := 601) rfl, List.forall_mem_cons.mpr ⟨List.mem_of_getElem? (i := 602) rfl, List.forall_mem_cons.mpr ⟨List.mem_of_getElem? (i := 603) rfl, List.forall_mem_cons.mpr ⟨List.mem_of_getElem? (i := 606) rfl, List.forall_mem_cons.mpr ⟨List.mem_of_getElem? (i := 611) rfl, List.forall_mem_cons.mpr ⟨List.mem_of_getElem? (i := 616) rfl, List.forall_mem_cons.mpr ⟨List.mem_of_getElem? (i := 617) rfl, List.forall_mem_cons.mpr ⟨List.mem_of_getElem? (i := 618) rfl, List.forall_mem_cons.mpr ⟨List.mem_of_getElem? (i := 619) rfl, List.forall_mem_cons.mpr ⟨List.mem_of_getElem? (i := 675) rfl, List.forall_mem_cons.mpr ⟨List.mem_of_getElem? (i := 691) rfl, List.forall_mem_cons.mpr ⟨List.mem_of_getElem? (i := 729) rfl, List.forall_mem_cons.mpr ⟨List.mem_of_getElem? (i := 730) rfl, List.forall_mem_cons.mpr ⟨List.mem_of_getElem? (i := 735) rfl, List.forall_mem_cons.mpr ⟨List.mem_of_getElem? (i := 741) rfl, List.forall_mem_cons.mpr ⟨List.mem_of_getElem? (i := 747) rfl, List.forall_mem_cons.mpr ⟨List.mem_of_getElem? (i := 752) rfl, List.forall_mem_cons.mpr ⟨List.mem_of_getElem? (i := 762) rfl, List.forall_mem_cons.mpr ⟨List.mem_of_getElem? (i := 763) rfl, List.forall_mem_cons.mpr ⟨List.mem_of_getElem? (i := 765) rfl, List.forall_mem_cons.mpr ⟨List.mem_of_getElem? (i := 775) rfl, List.forall_mem_cons.mpr ⟨List.mem_of_getElem? (i := 780) rfl, fun _ h => absurd h List.not_mem_nil⟩⟩⟩⟩⟩⟩⟩⟩⟩⟩⟩⟩⟩⟩⟩⟩⟩⟩⟩⟩⟩⟩⟩⟩⟩⟩⟩⟩⟩⟩⟩
set_option maxRecDepth 20000 in
theorem zNestM_words : ∀ q ∈ zNestM, Cond.methodLinkNest q.1 q.2.1 q.2.2 "BaggageHandling" ∈ lw_tbl := List.forall_mem_cons.mpr ⟨List.mem_of_getElem? (i := 586) rfl, List.forall_mem_cons.mpr ⟨List.mem_of_getElem? (i := 595) rfl, List.forall_mem_cons.mpr ⟨List.mem_of_getElem? (i := 607) rfl, List.forall_mem_cons.mpr ⟨List.mem_of_getElem? (i := 704) rfl, List.forall_mem_cons.mpr ⟨List.mem_of_getElem? (i := 724) rfl, List.forall_mem_cons.mpr ⟨List.mem_of_getElem? (i := 742) rfl, List.forall_mem_cons.mpr ⟨List.mem_of_getElem? (i := 757) rfl, List.forall_mem_cons.mpr ⟨List.mem_of_getElem? (i := 988) rfl, fun _ h => absurd h List.not_mem_nil⟩⟩⟩⟩⟩⟩⟩⟩
set_option maxRecDepth 20000 in
theorem zNestI_words : ∀ q ∈ zNestI, Cond.methodLinkNest q.1 q.2.1 q.2.2 "BaggageHandling" ∈ lw_tbl := List.forall_mem_cons.mpr ⟨List.mem_of_getElem? (i := 134) rfl, List.forall_mem_cons.mpr ⟨List.mem_of_getElem? (i := 174) rfl, List.forall_mem_cons.mpr ⟨List.mem_of_getElem? (i := 196) rfl, List.forall_mem_cons.mpr ⟨List.mem_of_getElem? (i := 351) rfl, List.forall_mem_cons.mpr ⟨List.mem_of_getElem? (i := 374) rfl, fun _ h => absurd h List.not_mem_nil⟩⟩⟩⟩⟩
set_option maxRecDepth 20000 in
theorem zNestF_word : zNestF ∈ lw_tbl := List.mem_of_getElem? (i := 706) rfl
set_option maxRecDepth 20000 in
theorem ls_S : Cond.laysStatic "BaggageHandling" "SORT_LIMITS" "[I" ∈ lw_tbl := List.mem_of_getElem? (i := 707) rfl
set_option maxRecDepth 20000 in
theorem ls_C : Cond.laysStatic "java/lang/String" "COMPACT_STRINGS" "Z" ∈ lw_tbl := List.mem_of_getElem? (i := 535) rfl
set_option maxRecDepth 20000 in
theorem ls_F : Cond.laysStatic "jdk/internal/util/Preconditions" "SIOOBE_FORMATTER" "Ljava/util/function/BiFunction;" ∈ lw_tbl := List.mem_of_getElem? (i := 551) rfl
set_option maxRecDepth 20000 in
theorem ls_i1 : Cond.initialized "BaggageHandling" ∈ lw_tbl := List.mem_of_getElem? (i := 105) rfl
set_option maxRecDepth 20000 in
theorem ls_i2 : Cond.initialized "java/lang/String" ∈ lw_tbl := List.mem_of_getElem? (i := 118) rfl
set_option maxRecDepth 20000 in
theorem ls_i3 : Cond.initialized "jdk/internal/util/Preconditions" ∈ lw_tbl := List.mem_of_getElem? (i := 120) rfl
set_option maxRecDepth 20000 in
theorem ls_ai : Cond.arrayClass .int ∈ lw_tbl := List.mem_of_getElem? (i := 230) rfl
set_option maxRecDepth 20000 in
theorem ls_ab : Cond.arrayClass .byte ∈ lw_tbl := List.mem_of_getElem? (i := 158) rfl
set_option maxRecDepth 20000 in
theorem ls_ao : Cond.arrayOver (.array .int) ∈ lw_tbl := List.mem_of_getElem? (i := 232) rfl
set_option maxRecDepth 20000 in
theorem ls_aw : Cond.arrayOver (.object "BaggageHandling$World") ∈ lw_tbl := List.mem_of_getElem? (i := 492) rfl
theorem lim_at {args : Array Value} {s : State} {A : Nat → Prop} (hA : ∀ a : Nat, a < s.heap.size → ¬ A a) (hg : (Jvm.Cond.and given_1 narrow_1).before args s = true) : ∃ t : Nat, (Term.static "BaggageHandling" "SORT_LIMITS" "[I").eval args s none [] s = some (.ref t) ∧ va_T .int t 7 (fun j => .int (zLim j)) A s s.heap := by
  have hs := flat_of_before _ hg
  refine va_Tof (f := fun j => .int (zLim j)) (by decide) (hs _ (List.mem_of_getElem? (i := 10) (by decide +kernel))) (va_eqt (hs _ (List.mem_of_getElem? (i := 11) (by decide +kernel)))) (fun j hj => ?_) hA
  rcases (by omega : j = 0 ∨ j = 1 ∨ j = 2 ∨ j = 3 ∨ j = 4 ∨ j = 5 ∨ j = 6) with rfl | rfl | rfl | rfl | rfl | rfl | rfl
  · exact va_eqt (hs _ (List.mem_of_getElem? (i := 12) (by decide +kernel)))
  · exact va_eqt (hs _ (List.mem_of_getElem? (i := 13) (by decide +kernel)))
  · exact va_eqt (hs _ (List.mem_of_getElem? (i := 14) (by decide +kernel)))
  · exact va_eqt (hs _ (List.mem_of_getElem? (i := 15) (by decide +kernel)))
  · exact va_eqt (hs _ (List.mem_of_getElem? (i := 16) (by decide +kernel)))
  · exact va_eqt (hs _ (List.mem_of_getElem? (i := 17) (by decide +kernel)))
  · exact va_eqt (hs _ (List.mem_of_getElem? (i := 18) (by decide +kernel)))
/-- the fixed parts at the start: no handle yet  -/
theorem env_start {args : Array Value} {s : State} (hts : ∀ w ∈ lw_tbl, w.before args s = true) (hg : (Jvm.Cond.and given_1 narrow_1).before args s = true) : ∃ E : zE, E.2.2.1 = [] ∧ zEnC s.heap.size E s := by
  have hs := flat_of_before _ hg
  have hz : ∀ w ∈ zW, w.before args s = true := fun w hw => hts w (List.mem_filter.mp hw).1
  have hA : ∀ a : Nat, a < s.heap.size → ¬ (fun q => s.heap.size ≤ q) a := fun a h => Nat.not_le.mpr h
  obtain ⟨c0, iS0, hKn0⟩ := u_known (C := RX0) (T := TX0) (N := 10) (n := 10) hz inX0 (hz _ wi_373)
  obtain ⟨c1, iS1, hKn1⟩ := u_known (C := RX1) (T := TX1) (N := 5) (n := 5) hz inX1 (hz _ wi_195)
  obtain ⟨c2, iS2, hKn2⟩ := u_known (C := RX2) (T := TX2) (N := 3) (n := 3) hz inX2 (hz _ wi_486)
  obtain ⟨c3, iS3, hKn3⟩ := u_known (C := RX3) (T := TX3) (N := 4) (n := 4) hz inX3 (hz _ wi_350)
  obtain ⟨c4, iS4, hKn4⟩ := u_known (C := RX4) (T := TX4) (N := 3) (n := 3) hz inX4 (hz _ wi_324)
  obtain ⟨c5, iS5, hKn5⟩ := u_known (C := RX5) (T := TX5) (N := 16) (n := 16) hz inX5 (hz _ wi_189)
  obtain ⟨c6, iS6, hKn6⟩ := u_known (C := RX6) (T := TX6) (N := 2) (n := 2) hz inX6 (hz _ wi_160)
  obtain ⟨c7, iS7, hKn7⟩ := u_known (C := RX7) (T := TX7) (N := 5) (n := 5) hz inX7 (hz _ wi_133)
  obtain ⟨c8, iS8, hKn8⟩ := u_known (C := RX8) (T := TX8) (N := 2) (n := 2) hz inX8 (hz _ wi_173)
  obtain ⟨c9, iS9, hKn9⟩ := u_known (C := RX9) (T := TX9) (N := 13) (n := 13) hz inX9 (hz _ wi_318)
  obtain ⟨c10, iS10, hKn10⟩ := u_known (C := RX10) (T := TX10) (N := 9) (n := 9) hz inX10 (hz _ wi_125)
  obtain ⟨c11, iS11, hKn11⟩ := u_known (C := RX11) (T := TX11) (N := 22) (n := 22) hz inX11 (hz _ wi_1219)
  obtain ⟨dC, dI, hKc⟩ : ∃ (dC : Nat → ClassId) (dI : Nat → Nat → Nat), ∀ (k : Nat) (q : vw_C), vwCl[k]? = some q → u_Kn s q.1 q.2.1 q.2.2 (dC k) (dI k) := by
    refine ⟨fun k => match k with | 0 => c0 | 1 => c1 | 2 => c2 | 3 => c3 | 4 => c4 | 5 => c5 | 6 => c6 | 7 => c7 | 8 => c8 | 9 => c9 | 10 => c10 | _ => c11, fun k => match k with | 0 => iS0 | 1 => iS1 | 2 => iS2 | 3 => iS3 | 4 => iS4 | 5 => iS5 | 6 => iS6 | 7 => iS7 | 8 => iS8 | 9 => iS9 | 10 => iS10 | _ => iS11, ?_⟩
    intro k q hq
    have hk : k < 12 := by have := (List.getElem?_eq_some_iff.mp hq).1; simpa using this
    rcases (by omega : k = 0 ∨ k = 1 ∨ k = 2 ∨ k = 3 ∨ k = 4 ∨ k = 5 ∨ k = 6 ∨ k = 7 ∨ k = 8 ∨ k = 9 ∨ k = 10 ∨ k = 11) with rfl | rfl | rfl | rfl | rfl | rfl | rfl | rfl | rfl | rfl | rfl | rfl
    · cases hq; exact hKn0
    · cases hq; exact hKn1
    · cases hq; exact hKn2
    · cases hq; exact hKn3
    · cases hq; exact hKn4
    · cases hq; exact hKn5
    · cases hq; exact hKn6
    · cases hq; exact hKn7
    · cases hq; exact hKn8
    · cases hq; exact hKn9
    · cases hq; exact hKn10
    · cases hq; exact hKn11
  obtain ⟨ai, ki, zi, ai1, ai2, ai3⟩ := Cond.arrayClass_spec (hts _ ls_ai)
  obtain ⟨ab, kb, zb, ab1, ab2, ab3⟩ := Cond.arrayClass_spec (hts _ ls_ab)
  obtain ⟨cw, aw, kw, aw1, -, aw3, aw4, aw5⟩ := Cond.arrayOver_spec (hts _ ls_aw)
  obtain ⟨ai', a2, k2, b1, -, b2, b3, b4⟩ := arrayOverA_spec (hts _ ls_ao)
  have hai : ai' = ai := Option.some.inj (b1.symm.trans ai1)
  subst hai
  obtain ⟨q, hq⟩ : ∃ q : Nat → Nat × Nat, ∀ i, i < 18 → (Term.string (zRep i).1 (zRep i).2).eval args s none [] s = some (.ref (q i).1) ∧ va_O "java/lang/String" (q i).1 (fun q => s.heap.size ≤ q) s s.heap ∧ va_OF "java/lang/String" "coder" "B" (.int 0) (q i).1 (fun q => s.heap.size ≤ q) s s.heap ∧ va_OF "java/lang/String" "value" "[B" (.ref (q i).2) (q i).1 (fun q => s.heap.size ≤ q) s s.heap ∧ va_T .byte (q i).2 (zTxL i) (fun j => .int ((zTxB i).getD j 0)) (fun q => s.heap.size ≤ q) s s.heap := by
    have h0 : ∀ i : Nat, ∃ q : Nat × Nat, i < 18 → (Term.string (zRep i).1 (zRep i).2).eval args s none [] s = some (.ref q.1) ∧ va_O "java/lang/String" q.1 (fun q => s.heap.size ≤ q) s s.heap ∧ va_OF "java/lang/String" "coder" "B" (.int 0) q.1 (fun q => s.heap.size ≤ q) s s.heap ∧ va_OF "java/lang/String" "value" "[B" (.ref q.2) q.1 (fun q => s.heap.size ≤ q) s s.heap ∧ va_T .byte q.2 (zTxL i) (fun j => .int ((zTxB i).getD j 0)) (fun q => s.heap.size ≤ q) s s.heap := by
      intro i
      by_cases hi : i < 18
      · obtain ⟨q, h⟩ := str_at hA hg i hi
        exact ⟨q, fun _ => h⟩
      · exact ⟨(0, 0), fun h => absurd h hi⟩
    obtain ⟨q, hq⟩ := Classical.axiomOfChoice h0
    exact ⟨q, hq⟩
  obtain ⟨t4, ht4, hT4⟩ := lim_at hA hg
  obtain ⟨fm, hfm, hfc⟩ : ∃ fm : Value, va_Z "jdk/internal/util/Preconditions" "SIOOBE_FORMATTER" "Ljava/util/function/BiFunction;" fm (fun q => s.heap.size ≤ q) s s.heap ∧ fm.category = 1 := by
    rcases va_Zqof (A := fun q => s.heap.size ≤ q) (hts _ ls_F) (hts _ ls_i3) (hs _ (List.mem_of_getElem? (i := 5) (by decide +kernel))) hA with h | ⟨t, h⟩
    · exact ⟨_, h, rfl⟩
    · exact ⟨_, h, rfl⟩
  have hall := str_all hg (fun i hi => (hq i hi).1)
  refine ⟨((dC, dI), (fun h => if h.1 = 75 then (q h.2).1 else if h.1 = 76 then (q h.2).2 else t4), [], (fun k => match k with | 0 => ai' | 1 => ab | 2 => aw | _ => a2), fm), rfl, ⟨⟨hKc, fun k x hx => ?_⟩, fun i hi => (hq i hi).2, fun x hx => vk_R.of (hts _ (str_words x hx)) (hall x hx), fun x hx => va_Nw.of rfl (hts _ (zNestM_words x hx)), va_Nw.of rfl (hts _ zNestF_word), va_Zof (hts _ ls_S) (hts _ ls_i1) ht4 hA, hT4, va_Zof (hts _ ls_C) (hts _ ls_i2) (va_eqt (hs _ (List.mem_of_getElem? (i := 4) (by decide +kernel)))) hA, hfm, hfc⟩, va_AO.of (hts _ ls_aw), ⟨k2, b2, b3⟩, fun x hx => va_Nw.of rfl (hts _ (zNestI_words x hx))⟩
  have hk : k < 4 := by have := (List.getElem?_eq_some_iff.mp hx).1; simpa [ztys] using this
  rcases (by omega : k = 0 ∨ k = 1 ∨ k = 2 ∨ k = 3) with rfl | rfl | rfl | rfl
  · cases hx
    exact ⟨fun n z => ⟨(fun k h => (by cases h)), ki, ai2, zi, ai3⟩, ai1⟩
  · cases hx
    exact ⟨fun n z => ⟨(fun k h => (by cases h)), kb, ab2, zb, ab3⟩, ab1⟩
  · cases hx
    exact ⟨fun n z => ⟨(fun k h => (by cases h)), kw, aw3, cw, aw4⟩, ⟨kw, cw, aw3, aw4, aw1, aw5⟩⟩
  · cases hx
    exact ⟨fun n z => ⟨(fun k h => (by cases h)), k2, b2, ai', b3⟩, b4⟩
