/-! ===== the relation: a setup S = (n, window, flights F, table T, devices a sort, their positions, sort at a position, number there) ===== -/
abbrev zSt : Type := Nat × (Nat × (Nat × ((Nat → Nat → Int32) × ((Nat → Nat) × ((Nat → Nat → Nat) × ((Nat → Nat) × (Nat → Nat)))))))
abbrev sn (S : zSt) : Nat := S.1
abbrev swd (S : zSt) : Nat := S.2.1
abbrev sF (S : zSt) : Nat := S.2.2.1
abbrev sT (S : zSt) : Nat → Nat → Int32 := S.2.2.2.1
abbrev scnt (S : zSt) : Nat → Nat := S.2.2.2.2.1
abbrev spos (S : zSt) : Nat → Nat → Nat := S.2.2.2.2.2.1
abbrev ssrt (S : zSt) : Nat → Nat := S.2.2.2.2.2.2.1
abbrev snum (S : zSt) : Nat → Nat := S.2.2.2.2.2.2.2
/-- what a setup is, whoever holds it -/
def okS (S : zSt) : Prop := 10 ≤ sn S ∧ sn S ≤ 60 ∧ swd S ≤ 3 ∧ sF S ≤ 10 ∧ FlT (sF S) (sT S) ∧ (∀ p, ssrt S p ≤ 7) ∧ (∀ p, sn S ≤ p → ssrt S p = 0) ∧ (∀ s, scnt S s ≤ 6) ∧
  (∀ s k, 1 ≤ s → s ≤ 6 → k < scnt S s → spos S s k < sn S ∧ ssrt S (spos S s k) = s ∧ snum S (spos S s k) = k) ∧
  (∀ p, 1 ≤ ssrt S p → ssrt S p ≤ 6 → snum S p < scnt S (ssrt S p) ∧ spos S (ssrt S p) (snum S p) = p) ∧
  scnt S 1 ≤ 3 ∧ scnt S 2 ≤ 3 ∧ scnt S 4 ≤ 2 ∧ scnt S 5 ≤ 2 ∧ scnt S 6 ≤ 2
/-- a device's numbers: room, switching, times (three), exit -/
abbrev zDv : Type := Nat → Nat → Nat → Nat
def okD (S : zSt) (D : zDv) : Prop := ∀ s k, 3 ≤ s → s ≤ 6 → k < scnt S s → 1 ≤ D s k 0 ∧ D s k 0 ≤ 20 ∧ 1 ≤ D s k 1 ∧ D s k 1 ≤ 9 ∧ (s = 4 → ∀ l, 1 ≤ l → l ≤ 3 → 1 ≤ D s k (1 + l) ∧ D s k (1 + l) ≤ 99) ∧ (s = 6 → 1 ≤ D s k 2 ∧ D s k 2 ≤ 99) ∧ (4 ≤ s → D s k 5 < sn S ∧ ssrt S (D s k 5) = 7)
/-- the class's setup j -/
def SX (μ : zM) (j : Nat) (S : zSt) (D : zDv) (lim : Int32) : Prop := j < 2 ∧ μ.1 5 j 0 = nI (sn S) ∧ μ.1 5 j 1 = nI (swd S) ∧ μ.1 5 j 2 = lim ∧ FlX μ j (sF S) (sT S) ∧ (∀ p, p < 60 → μ.1 43 j p = nI (ssrt S p)) ∧ (∀ s, 1 ≤ s → s ≤ 6 → μ.1 49 j s = nI (scnt S s)) ∧
  (∀ s k, 1 ≤ s → s ≤ 6 → k < scnt S s → μ.1 54 (7 * j + s) k = nI (spos S s k) ∧ μ.1 44 j (spos S s k) = nI k) ∧
  (∀ s k, 3 ≤ s → s ≤ 6 → k < scnt S s → μ.1 45 j (spos S s k) = nI (D s k 0) ∧ μ.1 46 j (spos S s k) = nI (D s k 1) ∧ (s = 4 → ∀ l, 1 ≤ l → l ≤ 3 → μ.1 53 (4 * j + l) (spos S s k) = nI (D s k (1 + l))) ∧ (s = 6 → μ.1 53 (4 * j + 1) (spos S s k) = nI (D s k 2)) ∧ (4 ≤ s → μ.1 47 j (spos S s k) = nI (D s k 5)))
/-- the positions with something, ascending -/
def busyL (S : zSt) : List Nat := (List.range (sn S)).filter (fun p => decide (ssrt S p ≠ 0))
def SXb (μ : zM) (j : Nat) (S : zSt) : Prop := μ.1 5 j 15 = nI (busyL S).length ∧ ∀ (k p : Nat), (busyL S)[k]? = some p → μ.1 52 j k = nI p
/-- the reference's setup, an array u -/
def SM (u : Nat → Int32) (S : zSt) (D : zDv) (lim : Int32) : Prop := u 0 = nI (sn S) ∧ u 2 = nI (swd S) ∧ u 3 = lim ∧ (∀ p, p < 60 → u (20 + p) = nI (ssrt S p)) ∧ (∀ s, 1 ≤ s → s ≤ 6 → u (10 + s) = nI (scnt S s)) ∧ (∀ p, 1 ≤ ssrt S p → ssrt S p ≤ 6 → u (80 + p) = nI (snum S p)) ∧
  ∃ dv : Nat → Nat → Nat, ∀ s k, 1 ≤ s → s ≤ 6 → k < scnt S s → dv s k < 18 ∧ u (340 + 6 * s + k) = nI (dv s k) ∧ (3 ≤ s → u (140 + 8 * dv s k + 2) = nI (D s k 0) ∧ u (140 + 8 * dv s k + 3) = nI (D s k 1)) ∧ (s = 4 → ∀ l, 1 ≤ l → l ≤ 3 → u (140 + 8 * dv s k + 3 + l) = nI (D s k (1 + l))) ∧ (s = 6 → u (140 + 8 * dv s k + 4) = nI (D s k 2)) ∧ (4 ≤ s → u (140 + 8 * dv s k + 7) = nI (D s k 5))
/-! a world: the class's number i, the reference's array w with its rows of labels -/
def rdR (a b : Int32) : Prop := (a = -1 ∧ b = -2) ∨ ∃ r, r < 100 ∧ a = nI r ∧ b = nI r
/-- a record: label (-2 none), cleared, passes; the reference's flag, label, cleared, passes -/
def is01 (c : Int32) : Prop := c = 0 ∨ c = 1
def rcR (l c q f l' c' q' : Int32) : Prop := (l = -2 ∧ f = 0) ∨ (¬ l = -2 ∧ isLb l ∧ f = 1 ∧ l' = l ∧ (c' = c ∧ is01 c) ∧ q' = q)
def ringR (μ : zM) (i n t : Nat) (w : Nat → Int32) : Prop := ∀ p, p < n → rdR (μ.1 58 i (zslot n t p)) (w (90 + p)) ∧ rcR (μ.1 40 (2 * i) (zslot n t p)) (μ.1 42 (2 * i) (zslot n t p)) (μ.1 41 (2 * i) (zslot n t p)) (w (150 + p)) (w (210 + p)) (w (270 + p)) (w (330 + p))
/-- a bag b: its state s -/
def bagR (μ : zM) (i n t b : Nat) (w : Nat → Int32) (s : Nat) : Prop := s ≤ 9 ∧ μ.1 26 i b = nI s ∧ w (400 + 8 * b) = nI s ∧
  (s = 1 → ∃ p, p < n ∧ w (400 + 8 * b + 1) = nI p ∧ μ.1 27 i b = nI (zslot n t p) ∧ w (90 + p) = nI b) ∧
  (s = 8 ∨ s = 9 → w (400 + 8 * b + 1) = -2) ∧
  (s ≠ 1 → s ≠ 8 → s ≠ 9 → w (400 + 8 * b + 1) = μ.1 27 i b ∧ ∃ q, q < 60 ∧ μ.1 27 i b = nI q) ∧
  (s = 0 ∨ s = 4 ∨ s = 5 ∨ s = 6 ∨ s = 7 → isLb (μ.1 40 (2 * i + 1) b) ∧ w (400 + 8 * b + 3) = μ.1 40 (2 * i + 1) b ∧ (w (400 + 8 * b + 4) = μ.1 42 (2 * i + 1) b ∧ is01 (μ.1 42 (2 * i + 1) b)) ∧ w (400 + 8 * b + 5) = μ.1 41 (2 * i + 1) b) ∧
  (s = 0 → μ.1 40 (2 * i + 1) b = 0 ∧ μ.1 42 (2 * i + 1) b = 0 ∧ μ.1 41 (2 * i + 1) b = 0) ∧
  (s = 2 ∨ s = 3 → w (400 + 8 * b + 6) = μ.1 28 i b ∧ ((μ.1 29 i b = -1 ∧ w (400 + 8 * b + 7) = -2) ∨ ∃ f, f < 10 ∧ μ.1 29 i b = nI f ∧ w (400 + 8 * b + 7) = nI f))
/-- what a bag brings along: the class's rows 21 .. 25, the reference's 68 .. 72 -/
def lblR (μ ν : zM) (i b : Nat) : Prop := (∀ c, c < 5 → μ.1 (21 + c) i b = ν.1 (68 + c) 0 b) ∧ isLb (μ.1 21 i b) ∧ isLb (μ.1 23 i b)
/-- the state and place of the bags that a position keeps -/
def stOf (s : Nat) : Nat := if s = 1 then 0 else if s = 3 then 2 else s
def plOf (S : zSt) (q : Nat) : Nat := if ssrt S q = 7 then q else snum S q
def keeps (S : zSt) (q : Nat) : Prop := q < sn S ∧ ssrt S q ≠ 0 ∧ ssrt S q ≠ 2
def queR (μ : zM) (i : Nat) (S : zSt) (C : Nat) (w : Nat → Int32) (Q : Nat → List Nat) : Prop := ∀ q, keeps S q → QX μ i q (Q q) ∧ (∀ b, b ∈ Q q ↔ b < C ∧ inM w (nI (stOf (ssrt S q))) (nI (plOf S q)) b) ∧ byOrd w (Q q)
/-- world i of the class in μ, the array w; ν has the reference's rows of labels; turned t, heads hd, C bags, tick now, order O, states st, queues Q -/
def RW (μ ν : zM) (i j : Nat) (S : zSt) (w : Nat → Int32) (B t hd C now O : Nat) (st : Nat → Nat) (Q : Nat → List Nat) : Prop := (μ.2.1 9 i 0 = j ∧ t < sn S ∧ μ.1 9 i 2 = nI t ∧ now ≤ 101000 ∧ μ.1 9 i 1 = nI now ∧ w 0 = nI now ∧
  hd < 16 ∧ μ.1 9 i 3 = nI hd ∧ (∀ h, h < 4 → w (11 + h) = nI (hd / 2 ^ h % 2)) ∧ (∀ k, k < 8 → w (3 + k) = μ.1 57 i k) ∧
  C ≤ 100 ∧ μ.1 0 i 0 = nI C ∧ w 1 = nI C) ∧ ringR μ i (sn S) t w ∧ (∀ p, p < sn S → ∀ r, r < 100 → w (90 + p) = nI r → r < C ∧ st r = 1 ∧ w (400 + 8 * r + 1) = nI p) ∧
  (∀ b, b < C → bagR μ i (sn S) t b w (st b)) ∧ (∀ b, b < C → lblR μ ν i b) ∧ queR μ i S C w Q ∧
  ((∀ p, p < sn S → μ.1 59 i p = w (15 + p)) ∧ (∀ k, k < scnt S 6 → μ.1 60 i (spos S 6 k) = w (79 + k)) ∧ (∀ k, k < scnt S 4 → μ.1 60 i (spos S 4 k) = w (75 + k) ∧ ∃ v, 1 ≤ v ∧ v ≤ 3 ∧ μ.1 61 i (spos S 4 k) = nI v ∧ w (77 + k) = nI (v - 1))) ∧
  O ≤ B ∧ w 2 = nI O ∧ ∀ b, b < C → ∃ o, o < O ∧ ordM w b = nI o
def RelW (μ ν : zM) (i j : Nat) (S : zSt) (w : Nat → Int32) (B : Nat) : Prop := ∃ (t hd C now O : Nat) (st : Nat → Nat) (Q : Nat → List Nat), RW μ ν i j S w B t hd C now O st Q
