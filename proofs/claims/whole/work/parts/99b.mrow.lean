/-! ===== a row of rows comes into the memory ===== -/
section CMULTI
variable {p : Program} {l : Launch} {e : Env} {R : Room} {s : State} {m : MethodId} {args : Array Value} {below : List Frame} {meth : Method} {c : Code} {H : Heap} {locs : List Loc} {cells slots : Nat} {Q : State → Prop}
variable {own : String} {cc : ByteArray} {nL pc : Nat} {ls : Array Slot} {rest : List Value} {A : Nat → Prop} {N0 : Nat} {E : zE} {μ μ1 : zM} {raw : va_W}
theorem c_multi (X : cX own cc nL p s m args c) (hI : cI A N0 s E μ raw H locs) (hA : ∀ q, s.heap.size ≤ q → A q) (ho : zH) (ki off : Nat) {n k idx : Nat} (hso : zS ho.1 ho.2 = .inr (4, n, (ki, off))) (hsi : ∀ j, zS ki (off + j) = .inr (0, k, (0, 0))) (hno : ho ∉ E.2.2.1) (hni : ∀ j, j < n → (ki, off + j) ∉ E.2.2.1) (hne : ho.1 ≠ ki) (h7o : ho.1 < 74) (h7i : ki < 74) {vn vk : Int32} (hvn : ¬ vn < 0) (hvk : ¬ vk < 0) (hn : vn.toNatClampNeg = n) (hk : vk.toNatClampNeg = k) (hb1 : n * 4 ≤ 536870912) (hb2 : k * 4 ≤ 536870912) (hcells : cells + (1 + n) ≤ R.cells) (hslots : slots + (n + n * k) ≤ R.slots) (hcl : Cond.classLink own idx "[[I" ∈ zW) (hd : decode cc pc = .ok (.multianewarray idx 2, 4))
    (kk : ∀ (q : Nat) (H1 : Heap) (locs1 : List Loc) (E' : zE) (μ' : zM), zGr E E' ((List.range n).map (fun j => (ki, off + j)) ++ [ho]) → E'.2.1 ho = q → (∀ h ∈ E.2.2.1, zag μ μ' h) → cI A N0 s E' μ' raw H1 locs1 → W p l e R s m args below meth c H1 locs1 (cells + 1 + n) (slots + n + n * k) Q (F0 m (pc + 4) ls (.ref q :: rest))) : W p l e R s m args below meth c H locs cells slots Q (F0 m pc ls (.int vk :: .int vn :: rest)) := by
  obtain ⟨hC, hE, hW, hS⟩ := hI
  have hK := hE.1.1
  obtain ⟨k3, hk3, hkind⟩ := hE.2.2.1
  have h3 : s.vm.findClass "[[I" = some (E.2.2.2.1 3) := (hK.2 3 (E.2.2.2.1 3, .array .int) rfl).2
  obtain ⟨-, kc, hkc, cz, hkindc⟩ := (hK.2 0 (E.2.2.2.1 0, .int) rfl).1 0 (fun _ => .null)
  refine lv_multi X.1 X.2.1 X.2.2.2.1 (X.2.2.2.2 _ hcl) h3 hk3 hkind hkc hkindc hvn hvk hn hk hb1 hb2 hcells hslots hd (fun H1 z1 o1 c1 c2 => ?_)
  rw [← Nat.add_assoc cells 1 n, ← Nat.add_assoc slots n (n * k)]
  have hold : ∀ x : Nat × va_E, va_at E.1 vwCl x H → va_at E.1 vwCl x H1 := fun x hx => hx.kept (o1 x.1 hx.lt)
  obtain ⟨ce, hce⟩ : ∃ ce : Nat → Nat × va_E, ∀ j, ce j = (H.size + 1 + j, .inl (E.2.2.2.1 0, k, .inl (fun _ => 0))) := ⟨_, fun _ => rfl⟩
  obtain ⟨oe, hoe⟩ : ∃ oe : va_E, oe = .inl (E.2.2.2.1 3, n, .inr (.inr (.inr (.inr (fun j => some (H.size + 1 + j)))))) := ⟨_, rfl⟩
  have ho0 : va_at E.1 vwCl (H.size, oe) H1 := by rw [hoe]; exact c1
  have hi0 : ∀ j, j < n → va_at E.1 vwCl (ce j) H1 := fun j hj => by rw [hce]; exact c2 j hj
  have lt1 : ∀ x ∈ raw.map Prod.fst ++ E.2.2.1.map E.2.1, x < H.size := fun x hx => by
    rcases List.mem_append.mp hx with z | z
    · obtain ⟨y, hy, rfl⟩ := List.mem_map.mp z
      exact (hW.1 y hy).lt
    · obtain ⟨y, hy, rfl⟩ := List.mem_map.mp z
      exact (hW.2.1 y hy).lt
  have base : CW A E μ ((List.range' 0 n).map ce ++ (H.size, oe) :: raw) H1 := by
    refine ⟨fun x hx => ?_, fun h hh => hold _ (hW.2.1 h hh), ?_, fun x hx => ?_, hW.2.2.2.2⟩
    · rcases List.mem_append.mp hx with z | z
      · obtain ⟨j, hj, rfl⟩ := List.mem_map.mp z
        exact hi0 j (by have := List.mem_range'_1.mp hj; omega)
      · rcases List.mem_cons.mp z with z | z
        · rw [z]; exact ho0
        · exact hold _ (hW.1 x z)
    · rw [List.map_append, List.map_map, List.append_assoc, List.nodup_append]
      have fce : ∀ j, (Prod.fst ∘ ce) j = H.size + 1 + j := fun j => by
        show (ce j).1 = _
        rw [hce]
      have n1 : ((List.range' 0 n).map (Prod.fst ∘ ce)).Nodup := List.Pairwise.map _ (fun a b h e => h (by rw [fce, fce] at e; omega)) (List.nodup_range' (s := 0) (n := n))
      refine ⟨n1, List.nodup_cons.mpr ⟨fun z => ?_, hW.2.2.1⟩, fun a ha b hb e => ?_⟩
      · have := lt1 _ z
        exact Nat.lt_irrefl _ this
      · obtain ⟨j, -, hj⟩ := List.mem_map.mp ha
        rw [fce] at hj
        rcases List.mem_cons.mp hb with z | z
        · have z : b = H.size := z
          omega
        · have := lt1 _ z
          omega
    · rcases List.mem_append.mp hx with z | z
      · obtain ⟨j, hj, rfl⟩ := List.mem_map.mp z
        rw [hce]
        exact hA _ (by show s.heap.size ≤ H.size + 1 + j; have := hS.1; omega)
      · rcases List.mem_cons.mp z with z | z
        · rw [z]; exact hA _ hS.1
        · exact hW.2.2.2.1 x z
  have key : ∀ i, i ≤ n → ∃ (Ei : zE) (μi : zM), zGr E Ei ((List.range i).map (fun j => (ki, off + j))) ∧ (∀ j, j < i → Ei.2.1 (ki, off + j) = H.size + 1 + j) ∧ (∀ h ∈ E.2.2.1, zag μ μi h) ∧ zCl Ei ∧ CW A Ei μi ((List.range' i (n - i)).map ce ++ (H.size, oe) :: raw) H1 := by
    intro i
    induction i with
    | zero => exact fun _ => ⟨E, μ, zGr.rf, fun j hj => absurd hj (Nat.not_lt_zero _), fun _ _ => zag.rf, hC, base⟩
    | succ i ih =>
      intro hi
      obtain ⟨Ei, μi, g1, g2, g3, g4, g5⟩ := ih (by omega)
      rw [show n - i = (n - (i + 1)) + 1 by omega, List.range'_succ, List.map_cons, List.cons_append, hce] at g5
      have hni' : (ki, off + i) ∉ Ei.2.2.1 := by
        rw [g1.2.2.1]
        intro z
        rcases List.mem_append.mp z with z | z
        · exact hni i (by omega) z
        · obtain ⟨j, hj, ej⟩ := List.mem_map.mp z
          have := List.mem_range.mp hj
          have e2 : off + j = off + i := congrArg Prod.snd ej
          omega
      have zz1 : ∀ h' ∈ Ei.2.2.1, zag μi (zz (ki, off + i) μi) h' := fun h' z => zz_ag (fun e => hni' (by rw [← e]; exact z))
      refine ⟨zadd Ei (ki, off + i) (H.size + 1 + i), zz (ki, off + i) μi, ?_, fun j hj => ?_, fun h z => (g3 h z).trans (zz1 h (by rw [g1.2.2.1]; exact List.mem_append_left _ z)), g4.addA h7i (hsi i) (by decide), g5.take g4 hni' zz1 ?_⟩
      · have := g1.trans (zadd_gr Ei (ki, off + i) (H.size + 1 + i))
        rw [List.range_succ, List.map_append]
        exact this
      · by_cases hj2 : j = i
        · subst hj2; exact zadd_at _ _ _
        · rw [zadd_ne (fun e => hj2 (by have e2 : off + j = off + i := congrArg Prod.snd e; omega))]
          exact g2 j (by omega)
      · rw [zcell_0 (h := (ki, off + i)) (hsi i), (zz_0 (ki, off + i) μi).1]
        show Sum.inl (Ei.2.2.2.1 0, k, Sum.inl (fun _ => (0 : Int32))) = _
        rw [g1.2.1]
  obtain ⟨En, μn, g1, g2, g3, g4, g5⟩ := key n (Nat.le_refl _)
  rw [Nat.sub_self] at g5
  have g5 : CW A En μn ((H.size, oe) :: raw) H1 := g5
  have hno' : ho ∉ En.2.2.1 := by
    rw [g1.2.2.1]
    intro z
    rcases List.mem_append.mp z with z | z
    · exact hno z
    · obtain ⟨j, -, ej⟩ := List.mem_map.mp z
      exact hne (by rw [← ej])
  have zz1 : ∀ h' ∈ En.2.2.1, zag μn (zz ho μn) h' := fun h' z => zz_ag (fun e => hno' (by rw [← e]; exact z))
  have gE : zGr E (zadd En ho H.size) ((List.range n).map (fun j => (ki, off + j)) ++ [ho]) := g1.trans (zadd_gr En ho H.size)
  refine W.eq rfl (kk H.size H1 locs (zadd En ho H.size) (zz ho μn) gE (zadd_at _ _ _) (fun h z => (g3 h z).trans (zz1 h (by rw [g1.2.2.1]; exact List.mem_append_left _ z))) ⟨?_, hE.gr gE (fun h z => ?_), g5.take' g4 hno' zz1 (fun v => ?_), ?_⟩)
  · refine g4.add h7o (fun fs e => by rw [hso] at e; cases e) (fun t n' r e _ j hj => ?_)
    rw [hso] at e
    cases e
    rw [g1.2.2.1]
    exact List.mem_append_right _ (List.mem_map.mpr ⟨j, List.mem_range.mpr hj, rfl⟩)
  · rcases List.mem_append.mp z with z | z
    · obtain ⟨j, -, rfl⟩ := List.mem_map.mp z
      exact h7i
    · rw [List.mem_singleton.mp z]; exact h7o
  · rw [zcell_4 hso]
    rw [hoe] at v
    have v1 : H1[H.size]? = some (vp_cell _ _) := v
    show H1[H.size]? = some (vp_cell _ _)
    rw [v1, vp_cell_q, vp_cell_q]
    have e4 : (zadd En ho H.size).2.2.2.1 3 = E.2.2.2.1 3 := by
      show En.2.2.2.1 3 = _
      rw [g1.2.1]
    rw [e4]
    refine congrArg some (arrV_ext fun j hj => ?_)
    rw [zadd_ne (fun e => hne (by rw [← e])), g2 j hj]
  · refine ⟨by have := hS.1; omega, fun q h1 h2 => (o1 q (Nat.lt_of_lt_of_le h1 hS.1)).trans (hS.2.1 q h1 h2), hS.2.2⟩
end CMULTI
