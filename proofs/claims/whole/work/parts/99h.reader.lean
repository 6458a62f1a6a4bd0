/-! ===== SetupReader(tape): it comes into the memory only when the setups are there ===== -/
def rX6_init : Room := { frames := 1, cells := 0, slots := 0, locals := 12 }
def K6Q (E : zE) (a t : Nat) : Array Value → State → Outcome → State → Prop := fun _ st oc u => (oc = .returned none ∧ va_at E.1 vwCl (a, .inr (6, [.ref t, .null])) u.heap) ∧ va_F (fun q => q = a) st u
set_option maxRecDepth 20000 in
theorem mX6_init (l : Launch) (E : zE) (μ : zM) (N0 a t sz : Nat) : Met l yX6_init (zws0 yX6_init cX6_init 2 none) rX6_init (va_Pc [.ref a, .ref t] (KP E μ N0 a sz 6 [.null, .null])) (K6Q E a t) 0 0 (fun q => q = a) := by
  refine Met.ofW (cc := cX6_init) (maxL := 2) (ret := none) (by decide) rfl ?_
  intro p e s m args below meth c s₁ B hml hv
  obtain ⟨rfl, rfl, hEn, hW⟩ := hv
  have hts := atoms_spec (ws := zws0 yX6_init cX6_init 2 none) B.pre
  have him : meth.name = "<init>" := (name_of_methodNamed B.named B.method).1
  have hx := B.exec
  have hb := B.bytes
  have hlocks := B.notSynchronized
  have hown : s.vm.findClass RX6 = some m.cls := findClass_of_methodNamed B.named
  have ht : ∀ w ∈ zW, w.before [Value.ref a, Value.ref t].toArray s = true := fun w hw => hts w (List.mem_cons_of_mem _ hw)
  have hP0 : va_P E.1 vwCl [(a, .inr (6, [.null, .null]))] s.heap := fun k q hk => hW.1 q (List.mem_of_getElem? hk)
  have hD0 : va_D (fun q => q = a) [(a, .inr (6, [.null, .null]))] := vaD_nd.mpr ⟨by simp, fun x hx => by rw [List.mem_singleton.mp hx]⟩
  have hl := lv_entry ([.ref a, .ref t]) (n := 2) (Nat.le_of_ble_eq_true rfl)
  rw [lg_entry_eq]
  generalize (lg_sl ([.ref a, .ref t]) ++ List.replicate (2 - (lg_sl ([.ref a, .ref t])).length) Slot.unset).toArray = ls at hl ⊢
  have hl : lv_has ls 2 [(0, .ref a), (1, .ref t)] := hl
  refine lv_aload_n hx hb dX6_init_0 rfl (lv_at hl 0 rfl) ?_
  refine W.objInit hx hb hown (ht _ wi_164) (ht _ wi_130) (ht _ wi_131) rfl (by rw [hml]; exact hl.1) rfl dX6_init_1 (Nat.le_of_ble_eq_true rfl) (Nat.le_of_ble_eq_true rfl) ?_
  refine W.eq (g2 := F0 m 4 ls []) rfl ?_
  refine lv_aload_n hx hb dX6_init_4 rfl (lv_at hl 0 rfl) ?_
  refine lv_aload_n hx hb dX6_init_5 rfl (lv_at hl 1 rfl) ?_
  refine va_putF (C := RX6) (T := TX6) (N := 2) (ci := 6) (ref := RX6) (index := 9) (ty := tyX6 0) (Ts := zW) hx hb ht inX6 tyX6 tyX6_ok nmX6 hown hEn.1.1 hP0 hD0 va_S.rf 0 rfl rfl 0 (by decide) (ht _ wi_165) (fun _ h9 => h9) rfl him rfl rfl rfl rfl (by simp) dX6_init_6 (fun H1 locs1 hP1 hD1 hS1 => ?_)
  exact W.vret hx hb B.returns (fun u hu hWm => ⟨⟨rfl, by rw [hu]; exact hP1 0 _ rfl⟩, hS1.F hu⟩) hS1.2.2 dX6_init_9
section CREADER
variable {p : Program} {l : Launch} {e : Env} {R : Room} {s : State} {m : MethodId} {args : Array Value} {below : List Frame} {meth : Method} {c : Code} {H : Heap} {locs : List Loc} {cells slots : Nat} {Q : State → Prop}
variable {own : String} {cc : ByteArray} {nL pc : Nat} {ls : Array Slot} {rest : List Value} {A : Nat → Prop} {N0 : Nat} {E : zE} {μ μ1 : zM} {raw : va_W}
theorem c_call6 {b t idx : Nat} (X : cX own cc nL p s m args c) (hI : cI A N0 s E μ ((b, .inr (6, [.null, .null])) :: raw) H locs) (hN : ∀ q, A q → N0 ≤ q) (hlink : Cond.methodLink own idx yX6_init ∈ zW) (hR : 1 + 1 ≤ R.frames ∧ 8 + (2 + 11) + 12 ≤ R.locals) (hroom : cells ≤ R.cells ∧ slots ≤ R.slots) (hls : ls.size = nL) (hrest : (rest.map fun v => v.category).sum ≤ 8) (hd : decode cc pc = .ok (.invokespecial idx, 3))
    (kk : ∀ (H1 : Heap) (locs1 : List Loc), cI A N0 s E μ ((b, .inr (6, [.ref t, .null])) :: raw) H1 locs1 → W p l e R s m args below meth c H1 locs1 cells slots Q (F0 m (pc + 3) ls rest)) : W p l e R s m args below meth c H locs cells slots Q (F0 m pc ls (.ref t :: .ref b :: rest)) := by
  have hr := va_runI (p := p) (l := l) (e := e) (R := R) (s := s) (m := m) (args := args) (below := below) (meth := meth) (c := c) (H := H) (locs := locs) (cells := cells) (slots := slots) (b := b) (As := [.ref t]) (rest := rest) (own := own) (Ts := zW) (g := F0 m pc ls (.ref t :: .ref b :: rest)) (n := 1) X (mX6_init l E μ N0 b t H.size) ⟨callB_of 1 X.2.2.2.2 (zW_goodZ wi_163) rfl rfl rfl (X.2.2.2.2 _ wi_107) (X.2.2.2.2 _ hlink) ⟨by decide, by decide, by decide +kernel⟩ hR, rfl, X.2.2.2.2 _ wi_162⟩ ⟨KP_blind, fun U hU hWm => ⟨rfl, by rw [hU], hI.env hN hU hWm, by rw [hU]; exact hI.2.2.1.one.wk (fun _ _ => trivial)⟩⟩ rfl rfl hls rfl (lv_room hrest) hd hroom
  obtain ⟨hC, hE, hW, hS⟩ := hI
  intro T hT XX
  obtain ⟨v, st₀, u, T', L, h0, X', hL, e1, e2, ⟨⟨hv, hat⟩, hz, hk⟩, st⟩ := hr T hT XX
  cases hv
  rw [h0] at hz hk
  have nd := List.nodup_cons.mp (show (b :: (raw.map Prod.fst ++ E.2.2.1.map E.2.1)).Nodup from hW.2.2.1)
  have hAb : A b := hW.2.2.2.1 _ List.mem_cons_self
  have hw1 : CW A E μ ((b, .inr (6, [.ref t, .null])) :: raw) T'.heap := by
    refine ⟨fun x hx => ?_, fun h hh => ?_, hW.2.2.1, fun x hx => ?_, hW.2.2.2.2⟩
    · rcases List.mem_cons.mp hx with z | z
      · rw [z, e1]; exact hat
      · have hx1 := hW.1 x (List.mem_cons_of_mem _ z)
        exact hx1.kept (by rw [e1]; exact hk x.1 hx1.lt (fun w => nd.1 (List.mem_append_left _ (List.mem_map.mpr ⟨x, z, w⟩))))
    · have hx1 := hW.2.1 h hh
      exact hx1.kept (by rw [e1]; exact hk (E.2.1 h) hx1.lt (fun w => nd.1 (List.mem_append_right _ (List.mem_map.mpr ⟨h, hh, w⟩))))
    · rcases List.mem_cons.mp hx with z | z
      · rw [z]; exact hAb
      · exact hW.2.2.2.1 x (List.mem_cons_of_mem _ z)
  obtain ⟨t2, a1, b1⟩ := kk T'.heap (locs ++ L) ⟨hC, hE, hw1, Nat.le_trans hS.1 (by rw [e1]; exact hz), fun q h1 h2 => by rw [e1, hk q (Nat.lt_of_lt_of_le h1 hS.1) (fun z => h2 (by rw [z]; exact hAb))]; exact hS.2.1 q h1 h2, fun q hq => by
      rcases List.mem_append.mp hq with z | z
      · exact hS.2.2 q z
      · rw [hL q z]; exact hAb⟩ T' rfl X'
  exact ⟨t2, st t2 a1, b1⟩
theorem c_getN (q0 : Nat) (X : cX own cc nL p s m args c) {a ci k idx : Nat} {fs : List Value} (hI : cI A N0 s E μ raw H locs) (he : (raw ++ zws E μ)[q0]? = some (a, .inr (ci, fs))) {C : String} {T : u_T} {N : Nat} (hc : vwCl[ci]? = some (C, T, N)) (hin : ∀ w ∈ u_ws C T N, w ∈ zW) (hk : k < N) (hl : Cond.fieldLink own idx (T k).1 (T k).2.1 (T k).2.2.1 ∈ zW) {v : Value} (hv : fs[k]? = some v) (hd : decode cc pc = .ok (.getfield idx, 3))
    (kk : W p l e R s m args below meth c H locs cells slots Q (F0 m (pc + 3) ls (v :: rest))) : W p l e R s m args below meth c H locs cells slots Q (F0 m pc ls (.ref a :: rest)) := by
  obtain ⟨hC, hE, hW, hS⟩ := hI
  exact va_get (C := C) (T := T) (N := N) (ci := ci) (ref := (T k).1) (index := idx) (Ts := zW) X.1 X.2.1 X.2.2.2.2 hin X.2.2.2.1 hE.1.1 hW.P q0 he hc k hk (X.2.2.2.2 _ hl) (fun _ h9 => h9) hv hd kk
end CREADER
theorem Pg.fr0 {E0 E : zE} {μ0 μ : zM} {L hs : List zH} (P : Pg E0 μ0 E μ L) (h0 : E0.2.2.1 = []) (h : ∀ h ∈ hs, h ∉ L) : ∀ h ∈ hs, h ∉ E.2.2.1 := by
  rw [P.1.2.2.1, h0, List.nil_append]
  exact h
