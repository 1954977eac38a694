/-! Numbers: what the walks of the methods use again and again. -/
theorem inb_nI {j n : Nat} (h : j < 2147483648) : inb (nI j) n = decide (j < n) := by
  unfold inb
  rw [nI_clamp (by omega)]
  have h0 : ¬ nI j < 0 := nI_pos (by omega)
  by_cases e : j < n
  · simp [h0, e, Nat.not_le.mpr e]
  · simp [e, Nat.not_lt.mp e]
theorem inb_neg {x : Int32} {n : Nat} (h : x < 0) : inb x n = false := by
  unfold inb
  simp [h]
theorem in_lt {x : Int32} {n : Nat} (hn : n < 2147483648) (h : inb x n = true) : ∃ j : Nat, j < n ∧ x = nI j := by
  have h1 := inb_in h
  exact vp_in_of h1 (by omega)
theorem dlt {a b : Nat} (ha : a < 2147483648) (hb : b < 2147483648) : decide (nI a < nI b) = decide (a < b) := by
  rw [decide_eq_decide]
  exact nI_ltI (by omega) (by omega)
theorem dle {a b : Nat} (ha : a < 2147483648) (hb : b < 2147483648) : decide (nI a ≤ nI b) = decide (a ≤ b) := by
  rw [decide_eq_decide]
  exact nI_leI (by omega) (by omega)
theorem deq {a b : Nat} (ha : a < 2147483648) (hb : b < 2147483648) : decide (nI a = nI b) = decide (a = b) := by
  rw [decide_eq_decide]
  exact nI_eq (by omega) (by omega)
theorem nclamp {n : Nat} (h : n < 2147483648) : (nI n).toNatClampNeg = n := nI_clamp (by omega)
theorem bif_t {α : Type} {c : Prop} [Decidable c] (h : c) (a b : α) : (bif decide c then a else b) = a := by simp [h]
theorem bif_f {α : Type} {c : Prop} [Decidable c] (h : ¬ c) (a b : α) : (bif decide c then a else b) = b := by simp [h]
theorem call_s (d y : Nat) (as : List Value) (h : AH) (hb : Nat.ble (argL as).length (mloc y) = true) : call PGM (d + 1) y as h = sem PGM d y (0, mkL (mloc y) as, [], h) := by
  show (bif Nat.ble (argL as).length (mloc y) then sem PGM d y (0, mkL (mloc y) as, [], h) else none) = _
  rw [hb]
  rfl
-- literals
theorem l0 : (0 : Int32) = nI 0 := id rfl
theorem l1 : (1 : Int32) = nI 1 := id rfl
theorem l2 : (2 : Int32) = nI 2 := id rfl
theorem l3 : (3 : Int32) = nI 3 := id rfl
theorem l4 : (4 : Int32) = nI 4 := id rfl
theorem l5 : (5 : Int32) = nI 5 := id rfl
theorem l6 : (6 : Int32) = nI 6 := id rfl
theorem l7 : (7 : Int32) = nI 7 := id rfl
theorem l8 : (8 : Int32) = nI 8 := id rfl
theorem l9 : (9 : Int32) = nI 9 := id rfl
theorem l10 : (10 : Int32) = nI 10 := id rfl
theorem l11 : (11 : Int32) = nI 11 := id rfl
theorem l12 : (12 : Int32) = nI 12 := id rfl
theorem l13 : (13 : Int32) = nI 13 := id rfl
theorem l14 : (14 : Int32) = nI 14 := id rfl
theorem l15 : (15 : Int32) = nI 15 := id rfl
theorem l16 : (16 : Int32) = nI 16 := id rfl
theorem l17 : (17 : Int32) = nI 17 := id rfl
theorem l18 : (18 : Int32) = nI 18 := id rfl
theorem l19 : (19 : Int32) = nI 19 := id rfl
theorem l20 : (20 : Int32) = nI 20 := id rfl
theorem l21 : (21 : Int32) = nI 21 := id rfl
theorem l22 : (22 : Int32) = nI 22 := id rfl
theorem l23 : (23 : Int32) = nI 23 := id rfl
theorem l24 : (24 : Int32) = nI 24 := id rfl
theorem l25 : (25 : Int32) = nI 25 := id rfl
theorem l26 : (26 : Int32) = nI 26 := id rfl
theorem l27 : (27 : Int32) = nI 27 := id rfl
theorem l28 : (28 : Int32) = nI 28 := id rfl
theorem l29 : (29 : Int32) = nI 29 := id rfl
theorem l30 : (30 : Int32) = nI 30 := id rfl
theorem l31 : (31 : Int32) = nI 31 := id rfl
theorem l40 : (40 : Int32) = nI 40 := id rfl
theorem l48 : (48 : Int32) = nI 48 := id rfl
theorem l52 : (52 : Int32) = nI 52 := id rfl
theorem l57 : (57 : Int32) = nI 57 := id rfl
theorem l60 : (60 : Int32) = nI 60 := id rfl
theorem l65 : (65 : Int32) = nI 65 := id rfl
theorem l97 : (97 : Int32) = nI 97 := id rfl
theorem l99 : (99 : Int32) = nI 99 := id rfl
theorem l100 : (100 : Int32) = nI 100 := id rfl
theorem l102 : (102 : Int32) = nI 102 := id rfl
theorem l119 : (119 : Int32) = nI 119 := id rfl
theorem l122 : (122 : Int32) = nI 122 := id rfl
theorem l179 : (179 : Int32) = nI 179 := id rfl
theorem l197 : (197 : Int32) = nI 197 := id rfl
theorem l200 : (200 : Int32) = nI 200 := id rfl
theorem l201 : (201 : Int32) = nI 201 := id rfl
theorem l237 : (237 : Int32) = nI 237 := id rfl
theorem l436 : (436 : Int32) = nI 436 := id rfl
theorem l437 : (437 : Int32) = nI 437 := id rfl
theorem l1000 : (1000 : Int32) = nI 1000 := id rfl
theorem l10000 : (10000 : Int32) = nI 10000 := id rfl
theorem l10010 : (10010 : Int32) = nI 10010 := id rfl
theorem l10011 : (10011 : Int32) = nI 10011 := id rfl
theorem l10012 : (10012 : Int32) = nI 10012 := id rfl
theorem l10020 : (10020 : Int32) = nI 10020 := id rfl
theorem l20000 : (20000 : Int32) = nI 20000 := id rfl
theorem bif_nt {α : Type} {c : Prop} [Decidable c] (h : ¬ c) (a b : α) : (bif !decide c then a else b) = a := by simp [h]
theorem bif_nf {α : Type} {c : Prop} [Decidable c] (h : c) (a b : α) : (bif !decide c then a else b) = b := by simp [h]
theorem upd_eq (f : Nat → Int32) (k : Nat) (x : Int32) : upd f k x k = x := by simp [upd]
theorem upd_ne {f : Nat → Int32} {k j : Nat} {x : Int32} (h : j ≠ k) : upd f k x j = f j := by simp [upd, h]
theorem upd_upd (f : Nat → Int32) (k : Nat) (x y : Int32) : upd (upd f k x) k y = upd f k y := by
  funext j
  by_cases h : j = k <;> simp [upd, h]
/-- told of who is OUT -/
def OU : Int32 := -9
theorem ou9 : -nI 9 = OU := id rfl
theorem OU_eq : (-9 : Int32) = OU := id rfl
theorem OU_lt : decide (OU < nI 0) = true := by decide
theorem OU_lt' : decide (OU < 0) = true := by decide
theorem OU_ge : decide (nI 0 ≤ OU) = false := by decide
def MO : Int32 := -1
theorem mo1 : -nI 1 = MO := id rfl
theorem nI_MO (n : Nat) : nI (n + 1) + MO = nI n := by
  have h : MO = 0 - 1 := by decide
  rw [h, ← nI_1, Int32.add_assoc]
  have : (1 : Int32) + (0 - 1) = 0 := by decide
  rw [this, Int32.add_zero]
