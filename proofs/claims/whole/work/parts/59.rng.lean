/-! Ranges. -/
def rng (i : Int32) (lo hi : Nat) : Bool := decide (nI lo ≤ i) && decide (i ≤ nI hi)
theorem w0 : (0 : Int64) = (nI 0).toInt64 := by decide
theorem w1 : (1 : Int64) = (nI 1).toInt64 := by decide
theorem w2 : (2 : Int64) = (nI 2).toInt64 := by decide
theorem w3 : (3 : Int64) = (nI 3).toInt64 := by decide
theorem w4 : (4 : Int64) = (nI 4).toInt64 := by decide
theorem w5 : (5 : Int64) = (nI 5).toInt64 := by decide
theorem w7 : (7 : Int64) = (nI 7).toInt64 := by decide
theorem w8 : (8 : Int64) = (nI 8).toInt64 := by decide
theorem w9 : (9 : Int64) = (nI 9).toInt64 := by decide
theorem w10 : (10 : Int64) = (nI 10).toInt64 := by decide
theorem w14 : (14 : Int64) = (nI 14).toInt64 := by decide
theorem w20 : (20 : Int64) = (nI 20).toInt64 := by decide
theorem w30 : (30 : Int64) = (nI 30).toInt64 := by decide
theorem w40 : (40 : Int64) = (nI 40).toInt64 := by decide
theorem w48 : (48 : Int64) = (nI 48).toInt64 := by decide
theorem w57 : (57 : Int64) = (nI 57).toInt64 := by decide
theorem w60 : (60 : Int64) = (nI 60).toInt64 := by decide
theorem w97 : (97 : Int64) = (nI 97).toInt64 := by decide
theorem w122 : (122 : Int64) = (nI 122).toInt64 := by decide
theorem wm1 : (-1 : Int64) = MO.toInt64 := by decide
theorem cM_rng (d : Nat) (h : AH) (i : Int32) (lo hi : Nat) : call PGM (d + 1) yM_in [.long i.toInt64, .long (nI lo).toInt64, .long (nI hi).toInt64] h = some (some (.int (bI (rng i lo hi))), h) := cM_inI d h i (nI lo) (nI hi)
theorem rng_t {i : Int32} {lo hi : Nat} (hl : lo < 2147483648) (hh : hi < 2147483648) (h : rng i lo hi = true) : ∃ n, lo ≤ n ∧ n ≤ hi ∧ i = nI n := by
  unfold rng at h
  rw [Bool.and_eq_true, decide_eq_true_eq, decide_eq_true_eq] at h
  have h0 : ¬ i < 0 := by
    intro hc
    rw [Int32.lt_iff_toInt_lt] at hc
    have h1 := h.1
    rw [Int32.le_iff_toInt_le, nI_toInt (by omega)] at h1
    have z : (0 : Int32).toInt = 0 := rfl
    omega
  obtain ⟨n, hn, e⟩ := nI_of h0
  subst e
  exact ⟨n, (nI_leI (by omega) hn).mp h.1, (nI_leI hn (by omega)).mp h.2, rfl⟩
theorem rng_n {n lo hi : Nat} (hn : n < 2147483648) (hl : lo < 2147483648) (hh : hi < 2147483648) : rng (nI n) lo hi = (decide (lo ≤ n) && decide (n ≤ hi)) := by
  unfold rng
  rw [dle hl hn, dle hn hh]
