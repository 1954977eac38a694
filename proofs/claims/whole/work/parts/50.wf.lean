/-! What always holds of the row. -/
def wfP (s : Nat → Int32) (nc B p : Nat) : Prop := (∃ k, 1 ≤ k ∧ k ≤ 7 ∧ s (99 + 4 * p) = nI k) ∧ okQ nc (s (99 + 4 * p + 1)) ∧ (∃ a, 1 ≤ a ∧ a ≤ 3 ∧ s (99 + 4 * p + 2) = nI a) ∧ (∃ h, h ≤ B ∧ s (99 + 4 * p + 3) = nI h)
def wfB (s : Nat → Int32) (nc b : Nat) : Prop := okQ nc (s (179 + 3 * b)) ∧ (∃ a, 1 ≤ a ∧ a ≤ 4 ∧ s (179 + 3 * b + 1) = nI a) ∧ (s (179 + 3 * b + 2) = nI 0 ∨ s (179 + 3 * b + 2) = nI 1)
def wfC (s : Nat → Int32) (c : Nat) : Prop := (∃ w, 1 ≤ w ∧ w ≤ 9 ∧ s (9 + 3 * c) = nI w) ∧ (∃ w, w ≤ 4 ∧ s (9 + 3 * c + 1) = nI w) ∧ (∃ w, w ≤ 1 ∧ s (9 + 3 * c + 2) = nI w)
def wfH (s : Nat → Int32) (nc np nb T : Nat) : Prop := (s 0 = nI nc ∧ 2 ≤ nc ∧ nc ≤ 30) ∧ (s 1 = nI np ∧ np ≤ 20) ∧ (s 2 = nI nb ∧ nb ≤ 6) ∧ (∃ t, t ≤ T ∧ s 3 = nI t) ∧ (∃ a, 1 ≤ a ∧ a ≤ 9 ∧ s 5 = nI a) ∧ (∃ a, a ≤ 9 ∧ s 6 = nI a) ∧ (∃ a, 2 ≤ a ∧ a ≤ 9 ∧ s 7 = nI a)
/-- B: how many HURTS at most, by PERSON -/
def WF (s : Nat → Int32) (nc np nb T : Nat) (B : Nat → Nat) : Prop := wfH s nc np nb T ∧ (∀ c, c < 30 → wfC s c) ∧ (∀ p, p < np → wfP s nc (B p) p) ∧ (∀ b, b < nb → wfB s nc b)
theorem wfH_congr {s s' : Nat → Int32} {nc np nb T : Nat} (h : wfH s nc np nb T) (e : ∀ k, k < 8 → k ≠ 4 → s' k = s k) : wfH s' nc np nb T := by
  unfold wfH
  rw [e 0 (by omega) (by omega), e 1 (by omega) (by omega), e 2 (by omega) (by omega), e 3 (by omega) (by omega), e 5 (by omega) (by omega), e 6 (by omega) (by omega), e 7 (by omega) (by omega)]
  exact h
theorem wfC_congr {s s' : Nat → Int32} {c : Nat} (h : wfC s c) (e : ∀ k, 9 ≤ k → k < 99 → s' k = s k) (hc : c < 30) : wfC s' c := by
  unfold wfC
  rw [e _ (by omega) (by omega), e _ (by omega) (by omega), e _ (by omega) (by omega)]
  exact h
theorem wfP_congr {s s' : Nat → Int32} {nc B p : Nat} (h : wfP s nc B p) (e : ∀ i, i < 4 → s' (99 + 4 * p + i) = s (99 + 4 * p + i)) : wfP s' nc B p := by
  unfold wfP
  rw [show s' (99 + 4 * p) = s (99 + 4 * p) from e 0 (by omega), e 1 (by omega), e 2 (by omega), e 3 (by omega)]
  exact h
theorem wfB_congr {s s' : Nat → Int32} {nc b : Nat} (h : wfB s nc b) (e : ∀ i, i < 3 → s' (179 + 3 * b + i) = s (179 + 3 * b + i)) : wfB s' nc b := by
  unfold wfB
  rw [show s' (179 + 3 * b) = s (179 + 3 * b) from e 0 (by omega), e 1 (by omega), e 2 (by omega)]
  exact h
/-- one PERSON's entries may change -/
theorem WF_p {s s' : Nat → Int32} {nc np nb T : Nat} {B B' : Nat → Nat} {p : Nat} (h : WF s nc np nb T B) (hp : p < 20) (e : ∀ k, (k < 99 + 4 * p ∨ 99 + 4 * p + 4 ≤ k) → s' k = s k) (hB : ∀ q, q ≠ p → B' q = B q) (hw : p < np → wfP s' nc (B' p) p) : WF s' nc np nb T B' := by
  refine ⟨wfH_congr h.1 (fun k hk _ => e k (by omega)), fun c hc => wfC_congr (h.2.1 c hc) (fun k _ hk => e k (by omega)) hc, fun q hq => ?_, fun b hb => wfB_congr (h.2.2.2 b hb) (fun i hi => e _ (by omega))⟩
  by_cases hqp : q = p
  · subst hqp
    exact hw hq
  · rw [hB q hqp]
    exact wfP_congr (h.2.2.1 q hq) (fun i hi => e _ (by omega))
/-- one BEAST's entries and the seed may change -/
theorem WF_b {s s' : Nat → Int32} {nc np nb T : Nat} {B : Nat → Nat} {b : Nat} (h : WF s nc np nb T B) (hb : b < 6) (e : ∀ k, k ≠ 4 → (k < 179 + 3 * b ∨ 179 + 3 * b + 3 ≤ k) → s' k = s k) (hw : b < nb → wfB s' nc b) : WF s' nc np nb T B := by
  have hnp : np ≤ 20 := h.1.2.1.2
  refine ⟨wfH_congr h.1 (fun k hk h4 => e k h4 (by omega)), fun c hc => wfC_congr (h.2.1 c hc) (fun k hk hk' => e k (by omega) (by omega)) hc, fun q hq => wfP_congr (h.2.2.1 q hq) (fun i hi => e _ (by omega) (by omega)), fun a ha => ?_⟩
  by_cases hab : a = b
  · subst hab
    exact hw ha
  · exact wfB_congr (h.2.2.2 a ha) (fun i hi => e _ (by omega) (by omega))
theorem WF_mono {s : Nat → Int32} {nc np nb T T' : Nat} {B B' : Nat → Nat} (h : WF s nc np nb T B) (hT : T ≤ T') (hB : ∀ p, p < np → B p ≤ B' p) : WF s nc np nb T' B' := by
  obtain ⟨⟨a, b, c, ⟨t, ht, e⟩, f⟩, g, i, j⟩ := h
  refine ⟨⟨a, b, c, ⟨t, by omega, e⟩, f⟩, g, fun p hp => ?_, j⟩
  obtain ⟨x, y, z, ⟨w, hw, e'⟩⟩ := i p hp
  exact ⟨x, y, z, ⟨w, by have := hB p hp; omega, e'⟩⟩
theorem WF_tick {s : Nat → Int32} {nc np nb T : Nat} {B : Nat → Nat} (h : WF s nc np nb T B) : WF (upd s 3 (s 3 + 1)) nc np nb (T + 1) B := by
  obtain ⟨⟨a, b, c, ⟨t, ht, e⟩, f1, f2, f3⟩, g, i, j⟩ := h
  refine ⟨⟨?_, ?_, ?_, ⟨t + 1, by omega, ?_⟩, ?_, ?_, ?_⟩, fun c hc => wfC_congr (g c hc) (fun k _ _ => upd_ne (by omega)) hc, fun p hp => wfP_congr (i p hp) (fun k _ => upd_ne (by omega)), fun b hb => wfB_congr (j b hb) (fun k _ => upd_ne (by omega))⟩
  · rw [upd_ne (by omega)]; exact a
  · rw [upd_ne (by omega)]; exact b
  · rw [upd_ne (by omega)]; exact c
  · rw [upd_eq, e, nI_1]
  · rw [upd_ne (by omega)]; exact f1
  · rw [upd_ne (by omega)]; exact f2
  · rw [upd_ne (by omega)]; exact f3
