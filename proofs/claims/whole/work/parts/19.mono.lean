/-! Heaps only grow. -/
def geH (h h' : AH) : Prop := h.length ≤ h'.length ∧ sl h ≤ sl h'
theorem geH.rf (h : AH) : geH h h := ⟨Nat.le_refl _, Nat.le_refl _⟩
theorem geH.tr {a b c : AH} (h1 : geH a b) (h2 : geH b c) : geH a c := ⟨Nat.le_trans h1.1 h2.1, Nat.le_trans h1.2 h2.2⟩
theorem geH.app (h t : AH) : geH h (h ++ t) := ⟨by simp, by rw [sl_app]; omega⟩
theorem geH.set {h : AH} {a : Nat} {c c' : AC} (hc : hat h a = some c) (e : slc c' = slc c) : geH h (h.set a c') := ⟨by simp, by rw [sl_set h a c c' hc e]; exact Nat.le_refl _⟩
theorem geH.pF (h : AH) (a k : Nat) (v : Value) : geH h (pF h a k v) := by
  unfold _root_.Jvm.Pilot.CBullStreetLaw_law_r3057_b26c1b.pF
  split
  · rename_i hc
    exact geH.set hc (by simp [slc])
  · exact geH.rf h
theorem geH.wA (h : AH) (a : Nat) (i x : Int32) : geH h (wA h a i x) := by
  unfold _root_.Jvm.Pilot.CBullStreetLaw_law_r3057_b26c1b.wA
  split
  · rename_i hc
    exact geH.set hc rfl
  · exact geH.rf h
