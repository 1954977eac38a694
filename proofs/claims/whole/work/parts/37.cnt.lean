/-! Counting. -/
def cnt (f : Nat → Bool) : Nat → Nat
  | 0 => 0
  | n + 1 => cnt f n + (bif f n then 1 else 0)
theorem cnt_congr {f g : Nat → Bool} : ∀ {n : Nat}, (∀ p, p < n → f p = g p) → cnt f n = cnt g n
  | 0, _ => rfl
  | n + 1, h => by
    rw [cnt, cnt, cnt_congr (fun p hp => h p (by omega)), h n (by omega)]
theorem cnt_le (f : Nat → Bool) : ∀ n, cnt f n ≤ n
  | 0 => Nat.le_refl _
  | n + 1 => by
    have := cnt_le f n
    rw [cnt]
    cases f n <;> simp <;> omega
theorem cnt_pos {f : Nat → Bool} : ∀ {n : Nat}, 0 < cnt f n ↔ ∃ p, p < n ∧ f p = true
  | 0 => ⟨fun h => absurd h (Nat.lt_irrefl 0), fun ⟨p, h, _⟩ => absurd h (Nat.not_lt_zero p)⟩
  | n + 1 => by
    rw [cnt]
    constructor
    · intro h
      cases hf : f n with
      | true => exact ⟨n, by omega, hf⟩
      | false =>
        rw [hf] at h
        obtain ⟨p, h1, h2⟩ := cnt_pos.mp (show 0 < cnt f n by simpa using h)
        exact ⟨p, by omega, h2⟩
    · rintro ⟨p, h1, h2⟩
      by_cases e : p = n
      · subst e
        rw [h2]
        simp
      · have := cnt_pos.mpr ⟨p, (show p < n by omega), h2⟩
        omega
/-- one entry changed -/
theorem cnt_upd {f g : Nat → Bool} {k : Nat} : ∀ {n : Nat}, k < n → (∀ p, p < n → p ≠ k → g p = f p) → cnt g n + (bif f k then 1 else 0) = cnt f n + (bif g k then 1 else 0)
  | 0, h, _ => absurd h (Nat.not_lt_zero k)
  | n + 1, h, hg => by
    by_cases e : k = n
    · subst e
      rw [cnt, cnt, cnt_congr (f := g) (g := f) (fun p hp => hg p (by omega) (by omega))]
      omega
    · have ih := cnt_upd (f := f) (g := g) (k := k) (n := n) (by omega) (fun p hp hne => hg p (by omega) hne)
      rw [cnt, cnt, hg n (by omega) (by omega)]
      omega
theorem cnt_same {f g : Nat → Bool} {k n : Nat} (hk : k < n) (hg : ∀ p, p < n → p ≠ k → g p = f p) (e : g k = f k) : cnt g n = cnt f n := by
  have := cnt_upd hk hg
  rw [e] at this
  omega
theorem cnt_zero {f : Nat → Bool} {n : Nat} (h : ∀ p, p < n → f p = false) : cnt f n = 0 := by
  rcases Nat.eq_zero_or_pos (cnt f n) with h1 | h1
  · exact h1
  · obtain ⟨p, hp, h2⟩ := cnt_pos.mp h1
    rw [h p hp] at h2
    cases h2
