/-! A lone BEAST's choice: the nearest, of two as near the one ahead. -/
theorem iv_sub {e c : Nat} (he : e < 1000) (hc : c < 1000) : (nI e - nI c).toInt = (e : Int) - (c : Int) := by
  rw [Int32.toInt_sub, nI_toInt (by omega), nI_toInt (by omega)]
  refine Int.bmod_eq_of_le ?_ ?_ <;> omega
theorem iv_neg {e c : Nat} (he : e < 1000) (hc : c < 1000) : (nI 0 - (nI e - nI c)).toInt = (c : Int) - (e : Int) := by
  rw [Int32.toInt_sub, iv_sub he hc, nI_toInt (by omega)]
  refine (Int.bmod_eq_of_le ?_ ?_).trans ?_ <;> omega
def dst (e c : Nat) : Nat := (e - c) + (c - e)
theorem far_nI {e c : Nat} (he : e < 1000) (hc : c < 1000) : (bif decide (nI 0 ≤ nI e - nI c) then nI e - nI c else nI 0 - (nI e - nI c)) = nI (dst e c) := by
  apply Int32.toInt_inj.mp
  rw [nI_toInt (by unfold dst; omega)]
  by_cases h : nI 0 ≤ nI e - nI c
  · rw [bif_t h, iv_sub he hc]
    rw [Int32.le_iff_toInt_le, iv_sub he hc, nI_toInt (by omega)] at h
    unfold dst
    omega
  · rw [bif_f h, iv_neg he hc]
    rw [Int32.le_iff_toInt_le, iv_sub he hc, nI_toInt (by omega)] at h
    unfold dst
    omega
theorem off_le {e f c : Nat} (he : e < 1000) (hf : f < 1000) (hc : c < 1000) : (nI e - nI c ≤ nI f - nI c) ↔ e ≤ f := by
  rw [Int32.le_iff_toInt_le, iv_sub he hc, iv_sub hf hc]
  omega
theorem stalk_spec {s : Nat → Int32} {nc np c a : Nat} (hc : c < 30) (hnc : nc ≤ 30) (ha : a ≤ 9) (h5 : s 5 = nI a) (hq : ∀ p, p < np → okQ nc (s (99 + 4 * p + 1))) : ∀ p, p ≤ np →
    (stalkB s (nI c) p = nI 99 ∧ ∀ q e, q < p → e < nc → s (99 + 4 * q + 1) = nI e → a < dst e c) ∨
    (∃ q e, q < p ∧ e < nc ∧ s (99 + 4 * q + 1) = nI e ∧ stalkB s (nI c) p = nI e - nI c ∧ dst e c ≤ a ∧ ∀ q' e', q' < p → e' < nc → s (99 + 4 * q' + 1) = nI e' → dst e c < dst e' c ∨ (dst e c = dst e' c ∧ e' ≤ e)) := by
  intro p
  induction p with
  | zero => intro _; exact Or.inl ⟨rfl, fun q e hq => absurd hq (Nat.not_lt_zero q)⟩
  | succ p ih =>
    intro hp
    have ih := ih (by omega)
    rw [stalkB]
    rcases hq p (by omega) with ho | ⟨f, hf, ho⟩
    · rw [ho, OU_lt, cond_true]
      have ne : ∀ e, e < nc → ¬ OU = nI e := by
        intro e he h
        have h1 : decide (OU < nI 0) = true := OU_lt
        rw [h, dlt (by omega) (by omega)] at h1
        simp at h1
      rcases ih with ⟨h1, h2⟩ | ⟨q, e, h1, h2, h3, h4, h5', h6⟩
      · refine Or.inl ⟨h1, fun q e hq he hs => ?_⟩
        by_cases hqp : q = p
        · subst hqp
          rw [ho] at hs
          exact absurd hs (ne e he)
        · exact h2 q e (by omega) he hs
      · refine Or.inr ⟨q, e, by omega, h2, h3, h4, h5', fun q' e' hq' he' hs => ?_⟩
        by_cases hqp : q' = p
        · subst hqp
          rw [ho] at hs
          exact absurd hs (ne e' he')
        · exact h6 q' e' (by omega) he' hs
    · rw [ho, dlt (by omega) (by omega), bif_f (by omega), far_nI (by omega) (by omega), h5]
      have inj : ∀ e, e < nc → nI f = nI e → e = f := fun e he h => ((nI_eq (by omega) (by omega)).mp h).symm
      have hd : dst f c < 100 := by unfold dst; omega
      rw [dlt (by omega) (by omega)]
      by_cases hfar : a < dst f c
      · rw [bif_t hfar]
        rcases ih with ⟨h1, h2⟩ | ⟨q, e, h1, h2, h3, h4, h5', h6⟩
        · refine Or.inl ⟨h1, fun q e hq he hs => ?_⟩
          by_cases hqp : q = p
          · subst hqp
            rw [ho] at hs
            rw [inj e he hs]
            exact hfar
          · exact h2 q e (by omega) he hs
        · refine Or.inr ⟨q, e, by omega, h2, h3, h4, h5', fun q' e' hq' he' hs => ?_⟩
          by_cases hqp : q' = p
          · subst hqp
            rw [ho] at hs
            rw [inj e' he' hs]
            exact Or.inl (by omega)
          · exact h6 q' e' (by omega) he' hs
      · rw [bif_f hfar]
        rcases ih with ⟨h1, h2⟩ | ⟨q, e, h1, h2, h3, h4, h5', h6⟩
        · rw [h1]
          have e99 : (bif decide (nI 0 ≤ nI 99) then nI 99 else nI 0 - nI 99) = nI 99 := by decide
          rw [e99, dlt (by omega) (by omega), bif_t (by omega)]
          refine Or.inr ⟨p, f, by omega, hf, ho, rfl, by omega, fun q' e' hq' he' hs => ?_⟩
          by_cases hqp : q' = p
          · subst hqp
            rw [ho] at hs
            rw [inj e' he' hs]
            exact Or.inr ⟨rfl, Nat.le_refl _⟩
          · have := h2 q' e' (by omega) he' hs
            exact Or.inl (by omega)
        · have hde : dst e c < 100 := by unfold dst; omega
          rw [h4, far_nI (by omega) (by omega), dlt (by omega) (by omega), deq (by omega) (by omega)]
          have take : (∀ q' e', q' < p → e' < nc → s (99 + 4 * q' + 1) = nI e' → dst f c < dst e' c ∨ (dst f c = dst e' c ∧ e' ≤ f)) → (∃ q g, q < p + 1 ∧ g < nc ∧ s (99 + 4 * q + 1) = nI g ∧ nI f - nI c = nI g - nI c ∧ dst g c ≤ a ∧ ∀ q' e', q' < p + 1 → e' < nc → s (99 + 4 * q' + 1) = nI e' → dst g c < dst e' c ∨ (dst g c = dst e' c ∧ e' ≤ g)) := by
            intro hall
            refine ⟨p, f, by omega, hf, ho, rfl, by omega, fun q' e' hq' he' hs => ?_⟩
            by_cases hqp : q' = p
            · subst hqp
              rw [ho] at hs
              rw [inj e' he' hs]
              exact Or.inr ⟨rfl, Nat.le_refl _⟩
            · exact hall q' e' (by omega) he' hs
          have keep : (dst e c < dst f c ∨ (dst e c = dst f c ∧ f ≤ e)) → (∃ q g, q < p + 1 ∧ g < nc ∧ s (99 + 4 * q + 1) = nI g ∧ nI e - nI c = nI g - nI c ∧ dst g c ≤ a ∧ ∀ q' e', q' < p + 1 → e' < nc → s (99 + 4 * q' + 1) = nI e' → dst g c < dst e' c ∨ (dst g c = dst e' c ∧ e' ≤ g)) := by
            intro hk
            refine ⟨q, e, by omega, h2, h3, rfl, h5', fun q' e' hq' he' hs => ?_⟩
            by_cases hqp : q' = p
            · subst hqp
              rw [ho] at hs
              rw [inj e' he' hs]
              exact hk
            · exact h6 q' e' (by omega) he' hs
          by_cases c1 : dst f c < dst e c
          · rw [bif_t c1]
            refine Or.inr (take (fun q' e' hq' he' hs => ?_))
            have := h6 q' e' hq' he' hs
            exact Or.inl (by omega)
          · rw [bif_f c1]
            by_cases c2 : dst f c = dst e c
            · rw [bif_nf c2]
              by_cases c3 : f ≤ e
              · rw [bif_t ((off_le (by omega) (by omega) (by omega)).mpr c3)]
                exact Or.inr (keep (Or.inr ⟨c2.symm, c3⟩))
              · rw [bif_f (fun h => c3 ((off_le (by omega) (by omega) (by omega)).mp h))]
                refine Or.inr (take (fun q' e' hq' he' hs => ?_))
                have := h6 q' e' hq' he' hs
                omega
            · rw [bif_nt c2]
              exact Or.inr (keep (Or.inl (by omega)))
