/-! ===== inlets and exits: both sides ===== -/
theorem pX9_enter_not {μ : zM} {i q s : Nat} (hs : s < 60) (h : ¬ (μ.1 58 i s < 0 ∧ μ.1 40 (2 * i) s = -2)) : tX9_enter_0 i (nI q) (nI s) μ = some (none, μ) := by
  rw [eX9_enter_0, qI_in (zS_58 i) rfl hs (by decide), Option.bind_some]
  by_cases a : μ.1 58 i s < 0
  · rw [zif_pos a, pX4_has rfl hs, zI_some, zif_neg (fun z => h ⟨a, z⟩), zif_neg one_ne0, eX9_enter_20]
  · rw [zif_neg a, eX9_enter_20]
theorem pX9_enter_nil {μ : zM} {i q s : Nat} (hq : q < 60) (hs : s < 60) (h1 : μ.1 58 i s < 0) (h2 : μ.1 40 (2 * i) s = -2) (hQ : QX μ i q []) : tX9_enter_0 i (nI q) (nI s) μ = some (none, μ) := by
  rw [eX9_enter_0, qI_in (zS_58 i) rfl hs (by decide), Option.bind_some, zif_pos h1, pX4_has rfl hs, zI_some, zif_pos h2, zif_pos rfl, pX3_takeFirst_none hQ rfl hq, zI_some, eX9_enter_30, zif_pos m1_lt]
theorem pM_inlet_not {ν : zM} {w : Nat → Int32} {q : Nat} (hq : q < 60) (h : ¬ (w (90 + q) < 0 ∧ w (150 + q) = 0)) : tX11_inletWorks_0 (nI q) (mW ν w) = some (none, mW ν w) := by
  rw [eX11_inletWorks_0, pM_isClear rfl hq, zI_some, zif_neg h, zif_pos rfl, eX11_inletWorks_27, eX11_inletWorks_28, zif_pos m2_lt, eX11_inletWorks_43]
theorem pM_exit_not {ν : zM} {w : Nat → Int32} {q : Nat} (hq : q < 60) (h : ¬ (w (90 + q) < 0 ∧ w (150 + q) = 0)) : tX11_exitWorks_0 (nI q) (mW ν w) = some (none, mW ν w) := by
  rw [eX11_exitWorks_0, pM_isClear rfl hq, zI_some, zif_neg h, zif_pos rfl, eX11_exitWorks_20, eX11_exitWorks_21, zif_pos m2_lt, eX11_exitWorks_90]
theorem pM_inlet_go {ν : zM} {w : Nat → Int32} {q m C : Nat} {l : List Nat} (hq : q < 60) (h : w (90 + q) < 0 ∧ w (150 + q) = 0) (hu : ν.1 63 0 (80 + q) = nI m) (hC : w 1 = nI C) (hC1 : C ≤ 100) (hs : byOrd w l) (hl : ∀ b, b ∈ l ↔ b < C ∧ inM w (nI 0) (nI m) b) : tX11_inletWorks_0 (nI q) (mW ν w) = tX11_inletWorks_28 (nI q) (oN (-2) id l.head?) (mW ν w) := by
  rw [eX11_inletWorks_0, pM_isClear rfl hq, zI_some, zif_pos h, zif_neg one_ne0, qU (a80 rfl) (by omega), Option.bind_some, hu, pM_firstInW (x := 0) hC hC1 _ hs hl, zI_some, eX11_inletWorks_27]
theorem pM_exit_go {ν : zM} {w : Nat → Int32} {q C : Nat} {l : List Nat} (hq : q < 60) (h : w (90 + q) < 0 ∧ w (150 + q) = 0) (hC : w 1 = nI C) (hC1 : C ≤ 100) (hs : byOrd w l) (hl : ∀ b, b ∈ l ↔ b < C ∧ inM w (nI 7) (nI q) b) : tX11_exitWorks_0 (nI q) (mW ν w) = tX11_exitWorks_21 (nI q) (oN (-2) id l.head?) (mW ν w) := by
  rw [eX11_exitWorks_0, pM_isClear rfl hq, zI_some, zif_pos h, zif_neg one_ne0, pM_firstInW (x := 7) hC hC1 _ hs hl, zI_some, eX11_exitWorks_20]
theorem pM_inlet_take {ν : zM} {w : Nat → Int32} {q b : Nat} (hq : q < 60) (hb : b < 100) : tX11_inletWorks_28 (nI q) (nI b) (mW ν w) = some (none, mW ν (newF (entF w b q) q)) := by
  rw [eX11_inletWorks_28, zif_neg (nI_pos (by omega)), pM_entersRing rfl hb rfl hq, zU_some, pM_newRecord rfl hq, zU_some, eX11_inletWorks_43]
def exF (w : Nat → Int32) (b q : Nat) : Nat → Int32 := upd (upd (upd (upd (entF w b q) (150 + q) 1) (210 + q) (w (400 + 8 * b + 3))) (270 + q) (w (400 + 8 * b + 4))) (330 + q) (w (400 + 8 * b + 5))
theorem pM_exit_take {ν : zM} {w : Nat → Int32} {q b : Nat} (hq : q < 60) (hb : b < 100) : tX11_exitWorks_21 (nI q) (nI b) (mW ν w) = some (none, mW ν (exF w b q)) := by
  rw [eX11_exitWorks_21, zif_neg (nI_pos (by omega)), pM_entersRing rfl hb rfl hq, zU_some, wW (a150 rfl) (by omega), Option.bind_some, pM_ofBagW (y := 3) (c := 3) rfl hb rfl (by decide), zI_some, wW (a210 rfl) (by omega), Option.bind_some, pM_ofBagW (y := 4) (c := 4) rfl hb rfl (by decide), zI_some, wW (a270 rfl) (by omega), Option.bind_some, pM_ofBagW (y := 5) (c := 5) rfl hb rfl (by decide), zI_some, wW (a330 rfl) (by omega), Option.bind_some, eX11_exitWorks_90]
  have e : ∀ c, 3 ≤ c → c ≤ 5 → entF w b q (400 + 8 * b + c) = w (400 + 8 * b + c) := fun c c1 c2 => by
    unfold entF goesF
    repeat (first | rw [upd_at] | rw [upd_ne _ _ (by omega)])
  unfold exF
  rw [upd_ne _ _ (show 400 + 8 * b + 3 ≠ 150 + q by omega), e 3 (by decide) (by decide)]
  rw [upd_ne _ _ (show 400 + 8 * b + 4 ≠ 210 + q by omega), upd_ne _ _ (show 400 + 8 * b + 4 ≠ 150 + q by omega), e 4 (by decide) (by decide)]
  rw [upd_ne _ _ (show 400 + 8 * b + 5 ≠ 270 + q by omega), upd_ne _ _ (show 400 + 8 * b + 5 ≠ 210 + q by omega), upd_ne _ _ (show 400 + 8 * b + 5 ≠ 150 + q by omega), e 5 (by decide) (by decide)]
theorem entW_new {w : Nat → Int32} {b q : Nat} (hq : q < 60) : entW w (newF (entF w b q) q) b q 0 0 0 := by
  unfold newF entF goesF
  refine ⟨?_, ?_, ?_, ?_, ?_, ?_, ?_, ?_, ?_, fun k k1 k2 k3 k4 k5 k6 k7 k8 k9 => ?_⟩ <;> repeat (first | rw [upd_at] | rw [upd_ne _ _ (by omega)])
theorem entW_ex {w : Nat → Int32} {b q : Nat} (hq : q < 60) : entW w (exF w b q) b q (w (400 + 8 * b + 3)) (w (400 + 8 * b + 4)) (w (400 + 8 * b + 5)) := by
  unfold exF entF goesF
  refine ⟨?_, ?_, ?_, ?_, ?_, ?_, ?_, ?_, ?_, fun k k1 k2 k3 k4 k5 k6 k7 k8 k9 => ?_⟩ <;> repeat (first | rw [upd_at] | rw [upd_ne _ _ (by omega)])
theorem RQ_bound {μ ν : zM} {i j : Nat} {S : zSt} {w : Nat → Int32} {B t hd C now O : Nat} {st : Nat → Nat} {Q : Nat → List Nat} (h : RW μ ν i j S w B t hd C now O st Q) {q : Nat} (hk : keeps S q) : (Q q).length ≤ 100 := len100 (h.2.2.2.2.2.1 q hk).1.2.2.2.2.2 (h.2.2.2.2.2.1 q hk).1.2.2.2.2.1
theorem enter_pair {μ ν : zM} {i j : Nat} {S : zSt} {D : zDv} {lim : Int32} {w : Nat → Int32} {B t hd C now q : Nat} (hE : ENV μ ν j S D lim) {G : Nat → Prop} (h : RQ μ ν i j S w B t hd C now G) (hq : q < sn S) (hs : ssrt S q = 1 ∨ ssrt S q = 7) :
    Pair (tX9_enter_0 i (nI q) (nI (zslot (sn S) t q))) (fun m => if ssrt S q = 1 then tX11_inletWorks_0 (nI q) m else tX11_exitWorks_0 (nI q) m) μ ν i j S w (B + 1) t hd C now G := by
  obtain ⟨O, st, Q, h, hG⟩ := h
  have hS := hE.1
  have hn6 := hS.2.1
  have hn3 := hS.1
  have hk : keeps S q := ⟨hq, by omega, by omega⟩
  have hR := h
  obtain ⟨⟨h1, h2, h3, h4, h5, h6, h7, h8, h9, h10, h11, h12, h13⟩, hring, hcon, hbag, hlb, hque, -, hO, hO2, hord⟩ := h
  have hzs : zslot (sn S) t q < 60 := by have := zslot_lt (n := sn S) (t := t) (p := q) (by omega); omega
  obtain ⟨hr1, hr2⟩ := hring q hq
  have hrd := rd_cases hr1
  have hrc := rc_cases hr2
  obtain ⟨qa, qb, qc⟩ := hque q hk
  have hlen := RQ_bound hR hk
  by_cases hc : w (90 + q) < 0 ∧ w (150 + q) = 0
  · have hc1 : μ.1 58 i (zslot (sn S) t q) < 0 := hrd.mpr hc.1
    have hc2 := hrc.1.mpr hc.2
    have hMgo : ∀ r w', (∀ e : ssrt S q = 1, tX11_inletWorks_28 (nI q) (oN (-2) id (Q q).head?) (mW ν w) = some (r, w')) → (∀ e : ssrt S q = 7, tX11_exitWorks_21 (nI q) (oN (-2) id (Q q).head?) (mW ν w) = some (r, w')) → (if ssrt S q = 1 then tX11_inletWorks_0 (nI q) (mW ν w) else tX11_exitWorks_0 (nI q) (mW ν w)) = some (r, w') := by
      intro r w' g1 g7
      rcases hs with e | e
      · rw [if_pos e, pM_inlet_go (m := snum S q) (C := C) (l := Q q) (by omega) hc (hE.2.2.2.2.1.2.2.2.2.2.1 q (by omega) (by omega)) h13 h11 qc (fun b => by rw [qb b, e, show plOf S q = snum S q from if_neg (by omega)]; rfl)]
        exact g1 e
      · rw [if_neg (by omega), pM_exit_go (C := C) (l := Q q) (by omega) hc h13 h11 qc (fun b => by rw [qb b, e, show plOf S q = q from if_pos e]; rfl)]
        exact g7 e
    cases hQ : Q q with
    | nil =>
      rw [hQ] at qa
      refine ⟨μ, w, pX9_enter_nil (by omega) hzs hc1 hc2 qa, hMgo _ _ (fun e => ?_) (fun e => ?_), FrW.rf, hR.rq (by omega) hG⟩
      · rw [hQ, show oN (-2) id ([] : List Nat).head? = -2 from rfl, eX11_inletWorks_28, zif_pos m2_lt, eX11_inletWorks_43]
      · rw [hQ, show oN (-2) id ([] : List Nat).head? = -2 from rfl, eX11_exitWorks_21, zif_pos m2_lt, eX11_exitWorks_90]
    | cons b l =>
      rw [hQ] at qa hlen
      have hb : b < 100 := qa.2.2.2.2.1 b List.mem_cons_self
      obtain ⟨μ', e1, fr, y1, y2, y3, y4, y5, y6, y7, y8, y9, y10, y11⟩ := pX9_enter_take (x := nI q) (y := nI (zslot (sn S) t q)) rfl (by omega) rfl hzs hc1 hc2 qa (by simp at hlen; omega)
      obtain ⟨hbC, hbin⟩ := (qb b).mp (by rw [hQ]; exact List.mem_cons_self)
      have hst7 := stOf_le hS q
      have hstb : st b = stOf (ssrt S q) := by
        have e1 := (hbag b hbC).2.2.1
        have e0 := (hbag b hbC).1
        exact (nI_eq (by omega) (by omega)).mp (e1.symm.trans hbin.1)
      refine ⟨μ', if ssrt S q = 1 then newF (entF w b q) q else exF w b q, e1, hMgo _ _ (fun e => ?_) (fun e => ?_), fr, ?_⟩
      · rw [hQ, show oN (-2) id (b :: l).head? = nI b from rfl, pM_inlet_take (by omega) hb, if_pos e]
      · rw [hQ, show oN (-2) id (b :: l).head? = nI b from rfl, pM_exit_take (by omega) hb, if_neg (by omega)]
      · refine ⟨_, _, _, enter_RW hS hR hk hs hQ hc.1 fr y1 y2 y3 y4 y5 y6 y7 y8 y9 y10 y11 ?_, gone_up hG (by omega) (by omega)⟩
        rcases hs with e | e
        · rw [if_pos e]
          have hs0 : st b = 0 := by rw [hstb, e]; rfl
          obtain ⟨g1, g2, g3⟩ := (hbag b hbC).2.2.2.2.2.2.2.1 hs0
          rw [g1, g2, g3]
          exact entW_new (by omega)
        · rw [if_neg (by omega)]
          have hs7 : st b = 7 := by rw [hstb, e]; rfl
          obtain ⟨-, g1, ⟨g2, -⟩, g3⟩ := (hbag b hbC).2.2.2.2.2.2.1 (by omega)
          rw [← g1, ← g2, ← g3]
          exact entW_ex (by omega)
  · refine ⟨μ, w, pX9_enter_not hzs (fun z => hc ⟨hrd.mp z.1, hrc.1.mp z.2⟩), ?_, FrW.rf, hR.rq (by omega) hG⟩
    show (if ssrt S q = 1 then tX11_inletWorks_0 (nI q) (mW ν w) else tX11_exitWorks_0 (nI q) (mW ν w)) = _
    rcases hs with e | e
    · rw [if_pos e, pM_inlet_not (by omega) hc]
    · rw [if_neg (by omega), pM_exit_not (by omega) hc]
