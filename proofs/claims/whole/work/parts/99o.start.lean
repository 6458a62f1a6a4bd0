theorem FB.of {μ μ' : zM} (h : FB μ) (e : ∀ x ∈ bX9, zag μ μ' x) : FB μ' := by
  obtain ⟨⟨h1, h2, h3⟩, h4, h5, ⟨h6, h7⟩, h8, h9, h10, h11⟩ := h
  have e10 := e (10, 0) (by decide +kernel)
  have e9 := e (9, 0) (by decide +kernel)
  have e2 := e (2, 0) (by decide +kernel)
  have e7 := e (7, 0) (by decide +kernel)
  have e8 := e (8, 0) (by decide +kernel)
  have e56 := e (56, 0) (by decide +kernel)
  refine ⟨⟨(congrFun e10.2.1 6).trans h1, (congrFun e10.2.1 7).trans h2, (congrFun e9.2.1 0).trans h3⟩, STg.of h4 (fun k hk => (e (k, 0) (by rcases hk with rfl | rfl | rfl | rfl <;> decide +kernel)).1), h5.of (fun k z hk => congrFun (e (k, 0) ?_).1 z), ⟨(congrFun e2.1 1).trans h6, (congrFun e2.1 2).trans h7⟩, (congrFun e7.1 1).trans h8, (congrFun e10.1 8).trans h9, (congrFun e8.1 1).trans h10, fun z hz => (congrFun e56.1 z).trans (h11 z hz)⟩
  have m : (k, 0) ∈ hX9 0 := hX9_in (show isW 0 k 0 by unfold isW; omega)
  exact List.mem_append_left _ (List.mem_append_left _ (List.mem_append_left _ (List.mem_append_right _ m)))
theorem rel_start {μ : zM} (h : FB μ) (g : FM μ) : REL μ 0 := by
  obtain ⟨h1, h4, h5, h6, h8, h9, h10⟩ := h
  obtain ⟨g1, g2, g3, g4, g5⟩ := g
  exact REL_start h1 h4 h5 h6 ⟨h8, g1⟩ ⟨h9, g2⟩ h10 g3 g4 g5
set_option maxRecDepth 20000 in
set_option maxHeartbeats 4000000 in
theorem whole_start {p : Program} {e : Env} {s : State} {m : MethodId} {below : List Frame} {meth : Method} {c : Code} (l : Launch) (hflags : l.flags = flags0) {b L : Nat} {xs : Nat → Int32} (hL : L ≤ 3584) (C0 : lw_At p s m meth c b L xs) : W p l e room_1 s m #[Value.ref b] below meth c s.heap [] 0 0 (lw_Z below #[Value.ref b] s) (entryFrame m ([Value.ref b] : List Value).toArray 4) := by
  obtain ⟨hx, hb, hr, hml, hown, hts, hX, hbl, hlocks, hgv⟩ := id C0
  have hA : ∀ q : Nat, s.heap.size ≤ q → (fun q : Nat => s.heap.size ≤ q) q := fun _ h => h
  have hN : ∀ q : Nat, (fun q : Nat => s.heap.size ≤ q) q → s.heap.size ≤ q := fun _ h => h
  obtain ⟨E, hE0, hEn⟩ := env_start hts hgv
  have X : cX "BaggageHandlingLaw" code 4 p s m #[Value.ref b] c := ⟨hx, hb, hml, hown, fun w hw => hts w (List.mem_filter.mp hw).1⟩
  have hC : zCl E := fun h hh => by rw [hE0] at hh; exact absurd hh List.not_mem_nil
  obtain ⟨μ, hμ⟩ : ∃ μ : zM, μ = (fun _ _ _ => 0, fun _ _ _ => 0, fun _ _ _ => 0) := ⟨_, rfl⟩
  have hI : cI (fun q : Nat => s.heap.size ≤ q) s.heap.size s E μ [] s.heap [] := ⟨hC, hEn, ⟨fun x h => absurd h List.not_mem_nil, fun h hh => by rw [hE0] at hh; exact absurd hh List.not_mem_nil, by rw [hE0]; exact List.nodup_nil, fun x h => absurd h List.not_mem_nil, fun h hh => by rw [hE0] at hh; exact absurd hh List.not_mem_nil⟩, va_S.rf⟩
  have hl := lv_entry ([.ref b]) (n := 4) (Nat.le_of_ble_eq_true rfl)
  rw [lg_entry_eq]
  generalize (lg_sl ([.ref b]) ++ List.replicate (4 - (lg_sl ([.ref b])).length) Slot.unset).toArray = ls at hl ⊢
  have hl : lv_has ls 4 [(0, .ref b)] := hl
  -- the class
  refine c_new X hI hA (C := RX10) (T := TX10) (N := 9) (ci := 10) (fs := [.null, .null, .null, .null, .null, .null, .null, .null, .int 0]) rfl inX10 tyX10 tyX10_ok wi_124 wi_125 wi_105 (fun j hj => by rcases (by omega : j = 0 ∨ j = 1 ∨ j = 2 ∨ j = 3 ∨ j = 4 ∨ j = 5 ∨ j = 6 ∨ j = 7 ∨ j = 8) with rfl | rfl | rfl | rfl | rfl | rfl | rfl | rfl | rfl <;> rfl) (Nat.le_of_ble_eq_true rfl) (Nat.le_of_ble_eq_true rfl) (show decode code 0 = .ok (.new 7, 3) by decide +kernel) (fun q1 H1 hI => ?_)
  refine lv_dup X.1 X.2.1 (show decode code 3 = .ok (.dup, 1) by decide +kernel) rfl ?_
  refine c_callK (n := 0) (b := q1) (rest := [.ref q1]) X hI hA hN (Nat.le_refl _) kX10_init hE0 (fun h _ => by rw [hE0]; exact List.not_mem_nil) (by decide +kernel) wi_126 wi_127 wi_128 wi_105 rfl ⟨by decide, by decide, by decide +kernel⟩ ⟨Nat.le_of_ble_eq_true rfl, Nat.le_of_ble_eq_true rfl⟩ ⟨Nat.le_of_ble_eq_true rfl, Nat.le_of_ble_eq_true rfl⟩ hl.1 (Nat.le_of_ble_eq_true rfl) rfl (show decode code 4 = .ok (.invokespecial 9, 3) by decide +kernel) (fun H2 locs2 E2 μ2 g2 e2 z2 y2 hI => ?_)
  have L2 : E2.2.2.1 = bX9 := by rw [g2.2.2.1, hE0]; rfl
  refine lv_astore_n (lv' := [(1, .ref q1), (0, .ref b)]) X.1 X.2.1 (show decode code 7 = .ok (.astore_n 1, 1) by decide +kernel) rfl hl (by decide) rfl (fun ls hl => ?_)
  -- the reference
  refine c_new X hI hA (C := RX11) (T := TX11) (N := 22) (ci := 11) (fs := [.null, .int 0, .int 0, .null, .null, .int 0, .int 0, .int 0, .int 0, .long 0, .int 0, .null, .null, .null, .int 0, .null, .null, .null, .null, .null, .null, .int 0]) rfl inX11 tyX11 tyX11_ok wi_1218 wi_1219 wi_122 (fun j hj => by rcases (by omega : j = 0 ∨ j = 1 ∨ j = 2 ∨ j = 3 ∨ j = 4 ∨ j = 5 ∨ j = 6 ∨ j = 7 ∨ j = 8 ∨ j = 9 ∨ j = 10 ∨ j = 11 ∨ j = 12 ∨ j = 13 ∨ j = 14 ∨ j = 15 ∨ j = 16 ∨ j = 17 ∨ j = 18 ∨ j = 19 ∨ j = 20 ∨ j = 21) with rfl | rfl | rfl | rfl | rfl | rfl | rfl | rfl | rfl | rfl | rfl | rfl | rfl | rfl | rfl | rfl | rfl | rfl | rfl | rfl | rfl | rfl <;> rfl) (Nat.le_of_ble_eq_true rfl) (Nat.le_of_ble_eq_true rfl) (show decode code 8 = .ok (.new 10, 3) by decide +kernel) (fun q3 H3 hI => ?_)
  refine lv_dup X.1 X.2.1 (show decode code 11 = .ok (.dup, 1) by decide +kernel) rfl ?_
  refine c_callK (n := 0) (b := q3) (rest := [.ref q3]) X hI hA hN (Nat.le_refl _) kX11_init trivial (by rw [L2]; decide +kernel) (by decide +kernel) wi_1220 wi_1221 wi_1222 wi_122 rfl ⟨by decide, by decide, by decide +kernel⟩ ⟨Nat.le_of_ble_eq_true rfl, Nat.le_of_ble_eq_true rfl⟩ ⟨Nat.le_of_ble_eq_true rfl, Nat.le_of_ble_eq_true rfl⟩ hl.1 (Nat.le_of_ble_eq_true rfl) rfl (show decode code 12 = .ok (.invokespecial 12, 3) by decide +kernel) (fun H4 locs4 E4 μ4 g4 e4 z4 y4 hI => ?_)
  have L4 : E4.2.2.1 = bX9 ++ hX11 := by rw [g4.2.2.1, L2]
  have e2 : E4.2.1 (10, 0) = q1 := (g4.2.2.2 (10, 0) (by decide +kernel)).trans e2
  refine lv_astore_n (lv' := [(2, .ref q3), (1, .ref q1), (0, .ref b)]) X.1 X.2.1 (show decode code 15 = .ok (.astore_n 2, 1) by decide +kernel) rfl hl (by decide) rfl (fun ls hl => ?_)
  refine lv_iconst (v := 0) X.1 X.2.1 (show decode code 16 = .ok (.iconst 0, 1) by decide +kernel) (by decide) ?_
  refine lv_istore_n (lv' := [(3, .int 0), (2, .ref q3), (1, .ref q1), (0, .ref b)]) X.1 X.2.1 (show decode code 17 = .ok (.istore_n 3, 1) by decide +kernel) rfl hl (by decide) rfl (fun ls hl => ?_)
  have hl : lv_has ls 4 [(3, .int (nI (7 * 0))), (2, .ref (E4.2.1 (11, 0))), (1, .ref (E4.2.1 (10, 0))), (0, .ref b)] := by rw [e4, e2]; exact hl
  obtain ⟨hC4, hEn4, hW4, hS4⟩ := hI
  have hZA : ∀ q, zA E4 q → s.heap.size ≤ q := by
    rintro q ⟨h, h1, rfl⟩
    exact hW4.2.2.2.2 h h1
  have hR : REL μ4 0 := rel_start (y2.of (fun x hx => z4 x (by rw [L2]; exact hx))) y4
  refine va_forget (fun q hq => hS4.2.2 q hq) ?_
  have hS0 : va_S (zA E4) s.heap H4 [] := ⟨hS4.1, fun q h1 _ => hS4.2.1 q h1 (Nat.not_le.mpr h1), fun q hq => absurd hq List.not_mem_nil⟩
  have hLW : LW0 p s m #[Value.ref b] c E4 b L xs := ⟨hx, hb, hml, hown, hts, ⟨hX, hbl, fun z => Nat.not_le.mpr hbl (hZA b z)⟩, hEn4.1.env hZA, hC4, by rw [L4]; decide +kernel, by rw [L4]; decide +kernel⟩
  refine law_loop hLW hL ⟨Nat.le_of_ble_eq_true rfl, Nat.le_of_ble_eq_true rfl⟩ (fun H5 locs5 ls5 hS5 => ?_) L 0 H4 [] ls μ4 (by omega) hl hW4.toZ hS0 hR (by decide)
  refine va_forget (fun q hq => hZA _ (hS5.2.2 q hq)) ?_
  refine lv_iconst (v := 1) X.1 X.2.1 (show decode code 1469 = .ok (.iconst 1, 1) by decide +kernel) (by decide) ?_
  refine W.widen (k := 600000) (n := 7302250) (Nat.le_of_ble_eq_true rfl) (Nat.le_of_ble_eq_true rfl) ?_
  exact lw_ret hx hb hr hlocks (show decode code 1470 = .ok (.ireturn, 1) by decide +kernel)
