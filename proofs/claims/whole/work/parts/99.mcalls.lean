/-! ===== plain calls while objects are made ===== -/
section MCALLS
variable {p : Program} {l : Launch} {e : Env} {R : Room} {s : State} {m : MethodId} {args : Array Value} {below : List Frame} {meth : Method} {c : Code} {H : Heap} {locs : List Loc} {cells slots : Nat} {Q : State → Prop}
variable {own : String} {cc : ByteArray} {nL pc : Nat} {ls : Array Slot} {rest : List Value} {A : Nat → Prop} {N0 : Nat} {E : zE} {μ μ1 : zM} {raw : va_W}
theorem c_callS {y0 y' : MethodName} {cc' : ByteArray} {nL' : Nat} {ret' : Option FieldType} {R' : Room} {g : zG} {idx n : Nat} {av : List zV} {r1 : Option zV} (X : cX own cc nL p s m args c) (hI : cI A N0 s E μ raw H locs) (hN : ∀ q, A q → N0 ≤ q) (hC' : Con y' cc' nL' ret' R' g) (hw : zCW y0 R y' cc' nL' ret' R' n) (hl : Cond.methodLink own idx y' ∈ zW) (hst0 : Cond.static y' ∈ zW) (hg : g av μ = some (r1, μ1)) (hav : ∀ v ∈ av, zok E v) (hn : av.length = n) (hrest : (rest.map fun v => v.category).sum ≤ 8) (hls : ls.size = nL) (hroom : cells ≤ R.cells ∧ slots ≤ R.slots) (hd : decode cc pc = .ok (.invokestatic idx, 3))
    (kk : ∀ (H1 : Heap) (locs1 : List Loc), cI A N0 s E μ1 raw H1 locs1 → W p l e R s m args below meth c H1 locs1 cells slots Q (F0 m (pc + 3) ls ((r1.map (zval E)).toList ++ rest))) : W p l e R s m args below meth c H locs cells slots Q (F0 m pc ls ((av.map (zval E)).reverse ++ rest)) := by
  have hW := hI.2.2.1
  have hM := hC' l E μ av r1 μ1 hI.1 hav hg
  exact c_run (va_runS (As := av.map (zval E)) (rest := rest) (nL := nL) (own := own) (Ts := zW) (g := F0 m pc ls ((av.map (zval E)).reverse ++ rest)) (n := n) X hM ⟨callB_of n X.2.2.2.2 (zW_goodZ hw.1) rfl hw.2.2.2.1 hw.2.2.2.2.1 (X.2.2.2.2 _ hw.2.1) (X.2.2.2.2 _ hl) hw.2.2.1 hw.2.2.2.2.2, X.2.2.2.2 _ hst0⟩ ⟨zblind, fun U hU hWm => ⟨rfl, (hI.env hN hU hWm).1.env (fun q z => by obtain ⟨h, h1, rfl⟩ := z; exact hN _ (hW.2.2.2.2 h h1)), by rw [hU]; exact hW.nil.toZ⟩⟩ rfl (by rw [List.length_map]; exact hn) hls rfl (lv_room hrest) hd hroom) hI kk
theorem c_callV {y0 y' : MethodName} {cc' : ByteArray} {nL' : Nat} {ret' : Option FieldType} {R' : Room} {g : zG} {idx n kc N : Nat} {C : String} {T : u_T} {b : zH} {av : List zV} {r1 : Option zV} (X : cX own cc nL p s m args c) (hI : cI A N0 s E μ raw H locs) (hN : ∀ q, A q → N0 ≤ q) (hC' : Con y' cc' nL' ret' R' g) (hw : zCW y0 R y' cc' nL' ret' R' n) (hl : Cond.methodLink own idx y' ∈ zW) (hin : Cond.instanceMethod y' ∈ zW) (hse : Cond.selects C y' y' ∈ zW) (hkc : vwCl[kc]? = some (C, T, N)) (hg : g (.inr (.inr b) :: av) μ = some (r1, μ1)) (hbk : b.1 = kc) (hbm : b ∈ E.2.2.1) (hav : ∀ v ∈ av, zok E v) (hn : av.length = n) (hrest : (rest.map fun v => v.category).sum ≤ 8) (hls : ls.size = nL) (hroom : cells ≤ R.cells ∧ slots ≤ R.slots) (hd : decode cc pc = .ok (.invokevirtual idx, 3))
    (kk : ∀ (H1 : Heap) (locs1 : List Loc), cI A N0 s E μ1 raw H1 locs1 → W p l e R s m args below meth c H1 locs1 cells slots Q (F0 m (pc + 3) ls ((r1.map (zval E)).toList ++ rest))) : W p l e R s m args below meth c H locs cells slots Q (F0 m pc ls ((av.map (zval E)).reverse ++ Value.ref (E.2.1 b) :: rest)) := by
  have hW := hI.2.2.1
  have hlt : kc < 12 := by have := (List.getElem?_eq_some_iff.mp hkc).1; simpa using this
  have hb7 : ¬ b.1 = 77 := by omega
  obtain ⟨q0, hq0⟩ := zws_get (μ := μ) hbm
  have hobj : ∃ fs, zS b.1 b.2 = .inl fs := by
    rw [hbk]
    have h12 : kc = 0 ∨ kc = 1 ∨ kc = 2 ∨ kc = 3 ∨ kc = 4 ∨ kc = 5 ∨ kc = 6 ∨ kc = 7 ∨ kc = 8 ∨ kc = 9 ∨ kc = 10 ∨ kc = 11 := by omega
    rcases h12 with z | z | z | z | z | z | z | z | z | z | z | z <;> rw [z] <;> exact ⟨_, rfl⟩
  obtain ⟨fs, hs⟩ := hobj
  rw [zcell_obj hs, hbk] at hq0
  have hav' : ∀ v ∈ (Sum.inr (Sum.inr b) :: av : List zV), zok E v := by
    intro v hv
    rcases List.mem_cons.mp hv with rfl | hv
    · exact Or.inl hbm
    · exact hav v hv
  have hM := hC' l E μ _ r1 μ1 hI.1 hav' hg
  refine c_run (va_runV (C := C) (b := E.2.1 b) (As := av.map (zval E)) (rest := rest) (nL := nL) (own := own) (Ts := zW) (g := F0 m pc ls ((av.map (zval E)).reverse ++ Value.ref (E.2.1 b) :: rest)) (n := n) X hM ⟨callB_of n X.2.2.2.2 (zW_goodZ hw.1) rfl hw.2.2.2.1 hw.2.2.2.2.1 (X.2.2.2.2 _ hw.2.1) (X.2.2.2.2 _ hl) hw.2.2.1 hw.2.2.2.2.2, X.2.2.2.2 _ hin, X.2.2.2.2 _ hse⟩ ⟨zblind, va_recv hI.2.1.1.1 hW.nil.P hkc hq0, fun U hU hWm => ⟨?_, (hI.env hN hU hWm).1.env (fun q z => by obtain ⟨h, h1, rfl⟩ := z; exact hN _ (hW.2.2.2.2 h h1)), by rw [hU]; exact hW.nil.toZ⟩⟩ rfl (by rw [List.length_map]; exact hn) hls rfl (lv_room hrest) hd hroom) hI kk
  rw [List.map_cons, zval_ref hb7]
end MCALLS
/-! Records -/
def rX4_init (N : Nat) : Room := { frames := 1, cells := 3, slots := N + N + N, locals := 23 }
theorem qX4_init (N : Nat) : zCW yX4_init (rX4_init N) yJ7_fill_53178 cJ7_fill_53178 4 none rJ7_fill_53178 2 := ⟨wd_239, wd_111, ⟨by decide, by decide, by decide +kernel⟩, rfl, rfl, Nat.le_of_ble_eq_true rfl, Nat.le_of_ble_eq_true rfl⟩
set_option maxRecDepth 20000 in
theorem kX4_init (i N : Nat) (v : Int32) (hv : v.toNatClampNeg = N) (hv0 : ¬ v < 0) (hN1 : N ≤ 1000) (hz : (if i % 2 = 0 then 60 else 100) = N) : Kon yX4_init cX4_init 3 (rX4_init N) 4 i [.null, .null, .null] [(40, i), (41, i), (42, i), (4, i)] (fun _ => True) (fun _ => [.int v]) (fun _ => True) := by
  have s40 : zS 40 i = .inr (0, N, (0, 0)) := by show Sum.inr (0, (if i % 2 = 0 then 60 else 100), (0, 0)) = _; rw [hz]
  have s41 : zS 41 i = .inr (0, N, (0, 0)) := by show Sum.inr (0, (if i % 2 = 0 then 60 else 100), (0, 0)) = _; rw [hz]
  have s42 : zS 42 i = .inr (0, N, (0, 0)) := by show Sum.inr (0, (if i % 2 = 0 then 60 else 100), (0, 0)) = _; rw [hz]
  have hby : N * componentBytes .int ≤ 536870912 := by show N * 4 ≤ _; omega
  refine kon_of (by decide) rfl ?_
  intro p l e s m args below meth c E μ N0 a X him hr hlocks hok hfr hN0 hN hA hI hargs
  subst hargs
  have hl := lv_entry ([.ref a, .int v]) (n := 3) (Nat.le_of_ble_eq_true rfl)
  show W p l e _ s m _ below meth c s.heap [] 0 0 _ (entryFrame m ([.ref a, .int v] : List Value).toArray 3)
  rw [lg_entry_eq]
  generalize (lg_sl ([.ref a, .int v]) ++ List.replicate (3 - (lg_sl ([.ref a, .int v])).length) Slot.unset).toArray = ls at hl ⊢
  have hl : lv_has ls 3 [(0, .ref a), (1, .int v)] := hl
  have P := Pg.rf (E := E) (μ := μ)
  refine lv_aload_n X.1 X.2.1 dX4_init_0 rfl (lv_at hl 0 rfl) ?_
  refine W.objInit X.1 X.2.1 X.2.2.2.1 (X.2.2.2.2 _ wi_328) (X.2.2.2.2 _ wi_130) (X.2.2.2.2 _ wi_131) rfl (by rw [X.2.2.1]; exact hl.1) rfl dX4_init_1 (Nat.le_of_ble_eq_true rfl) (Nat.le_of_ble_eq_true rfl) ?_
  refine W.eq (g2 := F0 m 4 ls []) rfl ?_
  refine lv_iload_n X.1 X.2.1 dX4_init_4 rfl (lv_at hl 1 rfl) ?_
  refine lv_iconst (v := 0) X.1 X.2.1 dX4_init_5 (by decide) ?_
  refine va_mmax X.1 X.2.1 (X.2.2.1.trans hl.1.symm) X.2.2.2.1 (X.2.2.2.2 _ wi_329) (X.2.2.2.2 _ wi_330) (X.2.2.2.2 _ wi_114) (X.2.2.2.2 _ wi_331) (Nat.le_of_ble_eq_true rfl) (Nat.le_of_ble_eq_true rfl) (Nat.zero_le _) (Nat.zero_le _) dX4_init_6 ?_
  rw [if_neg hv0]
  refine lv_istore_n X.1 X.2.1 dX4_init_9 rfl hl (by decide) rfl (fun ls hl => ?_)
  have hl : lv_has ls 3 [(2, .int v), (0, .ref a), (1, .int v)] := hl
  refine lv_aload_n X.1 X.2.1 dX4_init_10 rfl (lv_at hl 1 rfl) ?_
  refine lv_iload_n X.1 X.2.1 dX4_init_11 rfl (lv_at hl 0 rfl) ?_
  refine c_newI X hI hA (40, i) s40 (P.fr hfr (by simp) (by simp)) (Nat.le_of_ble_eq_true rfl) hv0 hv hby (show 0 + 1 ≤ 3 by decide) (show 0 + N ≤ N + N + N by omega) dX4_init_12 (fun q1 H1 E1 μ1 g1 e1 z1 y1 hI => ?_)
  have P : Pg E μ E1 μ1 [(40, i)] := P.step g1 z1
  refine c_putF X hI him (C := RX4) (T := TX4) (N := 3) (k := 0) rfl inX4 tyX4 tyX4_ok nmX4 (by decide) wi_333 rfl rfl rfl rfl (by simp) dX4_init_14 (fun H2 locs2 hI => ?_)
  have hI : cI _ N0 s E1 μ1 ((a, .inr (4, [.ref q1, .null, .null])) :: []) H2 locs2 := hI
  refine lv_aload_n X.1 X.2.1 dX4_init_17 rfl (lv_at hl 1 rfl) ?_
  refine lv_iload_n X.1 X.2.1 dX4_init_18 rfl (lv_at hl 0 rfl) ?_
  refine c_newI X hI hA (41, i) s41 (P.fr hfr (by simp) (by simp)) (Nat.le_of_ble_eq_true rfl) hv0 hv hby (show 0 + 1 + 1 ≤ 3 by decide) (show 0 + N + N ≤ N + N + N by omega) dX4_init_19 (fun q3 H3 E3 μ3 g3 e3 z3 y3 hI => ?_)
  have P : Pg E μ E3 μ3 [(40, i), (41, i)] := P.step g3 z3
  have e1 : E3.2.1 (40, i) = q1 := (g3.2.2.2 (40, i) (by simp)).trans e1
  refine c_putF X hI him (C := RX4) (T := TX4) (N := 3) (k := 1) rfl inX4 tyX4 tyX4_ok nmX4 (by decide) wi_336 rfl rfl rfl rfl (by simp) dX4_init_21 (fun H4 locs4 hI => ?_)
  have hI : cI _ N0 s E3 μ3 ((a, .inr (4, [.ref q1, .ref q3, .null])) :: []) H4 locs4 := hI
  refine lv_aload_n X.1 X.2.1 dX4_init_24 rfl (lv_at hl 1 rfl) ?_
  refine lv_iload_n X.1 X.2.1 dX4_init_25 rfl (lv_at hl 0 rfl) ?_
  refine c_newI X hI hA (42, i) s42 (P.fr hfr (by simp) (by simp)) (Nat.le_of_ble_eq_true rfl) hv0 hv hby (show 0 + 1 + 1 + 1 ≤ 3 by decide) (show 0 + N + N + N ≤ N + N + N by omega) dX4_init_26 (fun q5 H5 E5 μ5 g5 e5 z5 y5 hI => ?_)
  have P : Pg E μ E5 μ5 [(40, i), (41, i), (42, i)] := P.step g5 z5
  have e1 : E5.2.1 (40, i) = q1 := (g5.2.2.2 (40, i) (by simp)).trans e1
  have e3 : E5.2.1 (41, i) = q3 := (g5.2.2.2 (41, i) (by simp)).trans e3
  refine c_putF X hI him (C := RX4) (T := TX4) (N := 3) (k := 2) rfl inX4 tyX4 tyX4_ok nmX4 (by decide) wi_339 rfl rfl rfl rfl (by simp) dX4_init_28 (fun H6 locs6 hI => ?_)
  have hI : cI _ N0 s E5 μ5 ((a, .inr (4, [.ref q1, .ref q3, .ref q5])) :: []) H6 locs6 := hI
  refine lv_aload_n X.1 X.2.1 dX4_init_31 rfl (lv_at hl 1 rfl) ?_
  refine c_get X hI (C := RX4) (T := TX4) (N := 3) (k := 0) rfl inX4 (by decide) wi_333 rfl dX4_init_32 ?_
  refine lv_bipush (v := -2) X.1 X.2.1 dX4_init_35 (by decide) ?_
  have hf : gJ7_fill_53178 [.inr (.inr (40, i)), .inl (-2)] μ5 = some (none, fil μ5 40 i N (-2)) := (uJ7_fill_53178 _ _ _).trans (pJ_fill s40 hN1 (by decide))
  have hst : [Value.int (-2), Value.ref q1] = (([.inr (.inr (40, i)), .inl (-2)] : List zV).map (zval E5)).reverse ++ [] := by
    show _ = [Value.int (-2), if (40 : Nat) = 77 then E5.2.2.2.2 else Value.ref (E5.2.1 (40, i))]
    rw [e1]
    rfl
  rw [hst]
  refine c_callS X hI hN kJ7_fill_53178 (qX4_init N) wd_332 wd_238 hf (fun w hw => by
    rcases List.mem_cons.mp hw with rfl | hw
    · exact Or.inl (P.in (by simp))
    · rw [List.mem_singleton.mp hw]; exact trivial) rfl (Nat.le_of_ble_eq_true rfl) hl.1 ⟨show 0 + 1 + 1 + 1 ≤ 3 by decide, show 0 + N + N + N ≤ N + N + N by omega⟩ dX4_init_37 (fun H7 locs7 hI => ?_)
  have zf : ∀ h ∈ E.2.2.1, zag μ (fil μ5 40 i N (-2)) h := fun h z => (P.2 h z).trans (by
    have hne : ¬ (h.1 = 40 ∧ h.2 = i) := fun w => hfr (40, i) (by simp) (by rw [← w.1, ← w.2]; exact z)
    refine ⟨funext fun x => ?_, rfl, rfl⟩
    rw [fil_1, if_neg (fun w => hne ⟨w.1, w.2.1⟩)])
  have P : Pg E μ E5 (fil μ5 40 i N (-2)) [(40, i), (41, i), (42, i)] := ⟨P.1, zf⟩
  obtain ⟨E8, g8, e8, hI⟩ := hI.fin (μ' := zz (4, i) (fil μ5 40 i N (-2))) (i := i) (P.fr hfr (by simp) (by simp)) (by decide) rfl (List.forall_mem_cons.mpr ⟨fc_R (P.in (by simp)), List.forall_mem_cons.mpr ⟨fc_R (P.in (by simp)), List.forall_mem_cons.mpr ⟨fc_R (P.in (by simp)), fun _ h => absurd h List.not_mem_nil⟩⟩⟩) (fun h' z => zz_ag (fun e => P.fr hfr (h := (4, i)) (by simp) (by simp) (by rw [← e]; exact z))) (fun E' hE' => zl (congrArg Value.ref ((hE' (40, i) (by simp)).trans e1)) (zl (congrArg Value.ref ((hE' (41, i) (by simp)).trans e3)) (zl (congrArg Value.ref ((hE' (42, i) (by simp)).trans e5)) rfl)))
  have zq : ∀ h ∈ E5.2.2.1, zag (fil μ5 40 i N (-2)) (zz (4, i) (fil μ5 40 i N (-2))) h := fun h' z => zz_ag (fun e => P.fr hfr (h := (4, i)) (by simp) (by simp) (by rw [← e]; exact z))
  have P : Pg E μ E8 (zz (4, i) (fil μ5 40 i N (-2))) [(40, i), (41, i), (42, i), (4, i)] := P.step g8 zq
  refine W.widen (k := (rX4_init N).cells) (n := (rX4_init N).slots) (show 0 + 1 + 1 + 1 ≤ 3 by decide) (show 0 + N + N + N ≤ N + N + N by omega) ?_
  exact c_ret X hr hlocks hI P.1 e8 P.2 trivial dX4_init_40
