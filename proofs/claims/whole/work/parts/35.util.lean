/-! Numbers: what the walks of the methods use again and again. -/
theorem inb_nI {j n : Nat} (h : j < 2147483648) : inb (nI j) n = decide (j < n) := by
  unfold inb
  rw [nI_clamp (by omega)]
  have h0 : ¬ nI j < 0 := nI_pos (by omega)
  by_cases e : j < n
  · simp [h0, e, Nat.not_le.mpr e]
  · simp [e, Nat.not_lt.mp e]
theorem inb_neg {x : Int32} {n : Nat} (h : x < 0) : inb x n = false := by
  unfold inb
  simp [h]
theorem in_lt {x : Int32} {n : Nat} (hn : n < 2147483648) (h : inb x n = true) : ∃ j : Nat, j < n ∧ x = nI j := by
  have h1 := inb_in h
  exact vp_in_of h1 (by omega)
theorem dlt {a b : Nat} (ha : a < 2147483648) (hb : b < 2147483648) : decide (nI a < nI b) = decide (a < b) := by
  rw [decide_eq_decide]
  exact nI_ltI (by omega) (by omega)
theorem dle {a b : Nat} (ha : a < 2147483648) (hb : b < 2147483648) : decide (nI a ≤ nI b) = decide (a ≤ b) := by
  rw [decide_eq_decide]
  exact nI_leI (by omega) (by omega)
theorem deq {a b : Nat} (ha : a < 2147483648) (hb : b < 2147483648) : decide (nI a = nI b) = decide (a = b) := by
  rw [decide_eq_decide]
  exact nI_eq (by omega) (by omega)
theorem nclamp {n : Nat} (h : n < 2147483648) : (nI n).toNatClampNeg = n := nI_clamp (by omega)
theorem bif_t {α : Type} {c : Prop} [Decidable c] (h : c) (a b : α) : (bif decide c then a else b) = a := by simp [h]
theorem bif_f {α : Type} {c : Prop} [Decidable c] (h : ¬ c) (a b : α) : (bif decide c then a else b) = b := by simp [h]
theorem call_s (d y : Nat) (as : List Value) (h : AH) (hb : Nat.ble (argL as).length (mloc y) = true) : call PGM (d + 1) y as h = sem PGM d y (0, mkL (mloc y) as, [], h) := by
  show (bif Nat.ble (argL as).length (mloc y) then sem PGM d y (0, mkL (mloc y) as, [], h) else none) = _
  rw [hb]
  rfl
-- literals
theorem l0 : (0 : Int32) = nI 0 := rfl
theorem l1 : (1 : Int32) = nI 1 := rfl
theorem l2 : (2 : Int32) = nI 2 := rfl
theorem l3 : (3 : Int32) = nI 3 := rfl
theorem l4 : (4 : Int32) = nI 4 := rfl
theorem l5 : (5 : Int32) = nI 5 := rfl
theorem l6 : (6 : Int32) = nI 6 := rfl
theorem l7 : (7 : Int32) = nI 7 := rfl
theorem l8 : (8 : Int32) = nI 8 := rfl
theorem l9 : (9 : Int32) = nI 9 := rfl
theorem l10 : (10 : Int32) = nI 10 := rfl
theorem l11 : (11 : Int32) = nI 11 := rfl
theorem l12 : (12 : Int32) = nI 12 := rfl
theorem l13 : (13 : Int32) = nI 13 := rfl
theorem l14 : (14 : Int32) = nI 14 := rfl
theorem l15 : (15 : Int32) = nI 15 := rfl
theorem l16 : (16 : Int32) = nI 16 := rfl
theorem l17 : (17 : Int32) = nI 17 := rfl
theorem l18 : (18 : Int32) = nI 18 := rfl
theorem l19 : (19 : Int32) = nI 19 := rfl
theorem l20 : (20 : Int32) = nI 20 := rfl
theorem l21 : (21 : Int32) = nI 21 := rfl
theorem l22 : (22 : Int32) = nI 22 := rfl
theorem l23 : (23 : Int32) = nI 23 := rfl
theorem l24 : (24 : Int32) = nI 24 := rfl
theorem l25 : (25 : Int32) = nI 25 := rfl
theorem l26 : (26 : Int32) = nI 26 := rfl
theorem l27 : (27 : Int32) = nI 27 := rfl
theorem l28 : (28 : Int32) = nI 28 := rfl
theorem l29 : (29 : Int32) = nI 29 := rfl
theorem l30 : (30 : Int32) = nI 30 := rfl
theorem l31 : (31 : Int32) = nI 31 := rfl
theorem l40 : (40 : Int32) = nI 40 := rfl
theorem l48 : (48 : Int32) = nI 48 := rfl
theorem l52 : (52 : Int32) = nI 52 := rfl
theorem l57 : (57 : Int32) = nI 57 := rfl
theorem l60 : (60 : Int32) = nI 60 := rfl
theorem l65 : (65 : Int32) = nI 65 := rfl
theorem l97 : (97 : Int32) = nI 97 := rfl
theorem l99 : (99 : Int32) = nI 99 := rfl
theorem l100 : (100 : Int32) = nI 100 := rfl
theorem l102 : (102 : Int32) = nI 102 := rfl
theorem l119 : (119 : Int32) = nI 119 := rfl
theorem l122 : (122 : Int32) = nI 122 := rfl
theorem l179 : (179 : Int32) = nI 179 := rfl
theorem l197 : (197 : Int32) = nI 197 := rfl
theorem l200 : (200 : Int32) = nI 200 := rfl
theorem l201 : (201 : Int32) = nI 201 := rfl
theorem l237 : (237 : Int32) = nI 237 := rfl
theorem l436 : (436 : Int32) = nI 436 := rfl
theorem l437 : (437 : Int32) = nI 437 := rfl
theorem l1000 : (1000 : Int32) = nI 1000 := rfl
theorem l10000 : (10000 : Int32) = nI 10000 := rfl
theorem l10010 : (10010 : Int32) = nI 10010 := rfl
theorem l10011 : (10011 : Int32) = nI 10011 := rfl
theorem l10012 : (10012 : Int32) = nI 10012 := rfl
theorem l10020 : (10020 : Int32) = nI 10020 := rfl
theorem l20000 : (20000 : Int32) = nI 20000 := rfl
theorem bif_nt {α : Type} {c : Prop} [Decidable c] (h : ¬ c) (a b : α) : (bif !decide c then a else b) = a := by simp [h]
theorem bif_nf {α : Type} {c : Prop} [Decidable c] (h : c) (a b : α) : (bif !decide c then a else b) = b := by simp [h]
theorem upd_eq (f : Nat → Int32) (k : Nat) (x : Int32) : upd f k x k = x := by simp [upd]
theorem upd_ne {f : Nat → Int32} {k j : Nat} {x : Int32} (h : j ≠ k) : upd f k x j = f j := by simp [upd, h]
theorem upd_upd (f : Nat → Int32) (k : Nat) (x y : Int32) : upd (upd f k x) k y = upd f k y := by
  funext j
  by_cases h : j = k <;> simp [upd, h]
