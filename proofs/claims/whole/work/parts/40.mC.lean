/-! Contracts of the model: FACTS. -/
def ahN (s : Nat → Int32) (c : Int32) (np : Nat) : Int32 := bif decide (s 0 ≤ c + 1) then 99 else nI (crN s (c + 1) np)
theorem cM_aheadOf (d : Nat) (Z : ZT) (M : MS) (c : Int32) (np : Nat) (h1 : M.1 0 1 = nI np) (hnp : np ≤ 20) : call PGM (d + 3) yM_aheadOf [.ref 91, .int c] (hM Z M) = some (some (.int (ahN (M.1 0) c np)), hM Z M) := by
  rw [kM_aheadOf, eM_aheadOf_0, cM_crowd d Z M (c + 1) np h1 hnp, aft1, eM_aheadOf_19, ahN]
  cases decide (M.1 0 0 ≤ c + 1) <;> rfl
def factN (s : Nat → Int32) (np nb : Nat) (c : Int32) (w : Nat) : Int32 :=
  match w with
  | 0 => nrF s c nb
  | 1 => nI (crN s c np)
  | 2 => ahN s c np
  | 3 => c
  | 4 => s 3
  | _ => nI (loN s nb)
theorem cM_factOf (d : Nat) (Z : ZT) (M : MS) (p w np nb : Nat) (hp : p < 80) (hw : w < 6) (h1 : M.1 0 1 = nI np) (hnp : np ≤ 20) (h2 : M.1 0 2 = nI nb) (hnb : nb ≤ 6) : call PGM (d + 4) yM_factOf [.ref 91, .int (nI p), .int (nI w)] (hM Z M) = some (some (.int (factN (M.1 0) np nb (M.1 0 (99 + 4 * p + 1)) w)), hM Z M) := by
  rw [kM_factOf, eM_factOf_0, cM_whereIs (d + 2) Z M p hp, aft1, eM_factOf_5, cM_lone (d + 1) Z M nb h2 hnb, cM_aheadOf d Z M _ np h1 hnp, cM_crowd (d + 1) Z M _ np h1 hnp, cM_nearTo (d + 1) Z M _ nb h2 hnb, aft1, aft1, aft1, aft1, eM_factOf_71, eM_factOf_41, eM_factOf_28, eM_factOf_15]
  have e : w = 0 ∨ w = 1 ∨ w = 2 ∨ w = 3 ∨ w = 4 ∨ w = 5 := by omega
  rcases e with e | e | e | e | e | e <;> subst e <;> rfl
theorem cM_both (d : Nat) (h : AH) (o a b : Int32) : call PGM (d + 1) yM_both [.int o, .int a, .int b] h = some (some (.int (bif decide (o = 10011) then a &&& b else bif decide (o = 10012) then a ||| b else bif decide (o = 10080) then bI (decide (a < b)) else bif decide (o = 10081) then bI (decide (a = b)) else bI (decide (b < a)))), h) := by
  rw [kM_both, eM_both_0]
  rw [show (Int32.ofInt 10011) = (10011 : Int32) from rfl, show (Int32.ofInt 10012) = (10012 : Int32) from rfl, show (Int32.ofInt 10080) = (10080 : Int32) from rfl, show (Int32.ofInt 10081) = (10081 : Int32) from rfl]
  have e1 : decide (b ≤ a) = !decide (a < b) := by
    by_cases h1 : a < b
    · simp [h1, Int32.not_le.mpr h1]
    · simp [h1, Int32.not_lt.mp h1]
  have e2 : decide (a ≤ b) = !decide (b < a) := by
    by_cases h1 : b < a
    · simp [h1, Int32.not_le.mpr h1]
    · simp [h1, Int32.not_lt.mp h1]
  rw [e1, e2]
  cases decide (o = 10011) with
  | true => rfl
  | false =>
    cases decide (o = 10012) with
    | true => rfl
    | false =>
      cases decide (o = 10080) with
      | true => cases decide (a < b) <;> rfl
      | false =>
        cases decide (o = 10081) with
        | true => cases decide (a = b) <;> rfl
        | false => cases decide (b < a) <;> rfl
theorem mA_s (M : MS) (k : Nat) (f : Nat → Int32) : (mA M k f).1 k = f := by simp [mA, up]
theorem mA_n {M : MS} {k j : Nat} {f : Nat → Int32} (h : j ≠ k) : (mA M k f).1 j = M.1 j := by
  have : Nat.beq j k = false := by
    cases e : Nat.beq j k with
    | true => exact absurd (Nat.eq_of_beq_eq_true e) h
    | false => rfl
  simp [mA, up, this]
theorem mA_2 (M : MS) (k : Nat) (f : Nat → Int32) : (mA M k f).2 = M.2 := id rfl
theorem mV_1 (M : MS) (k : Nat) (v : Int32) : (mV M k v).1 = M.1 := id rfl
theorem mV_s (M : MS) (k : Nat) (v : Int32) : (mV M k v).2 k = v := by simp [mV, up]
theorem mV_n {M : MS} {k j : Nat} {v : Int32} (h : j ≠ k) : (mV M k v).2 j = M.2 j := by
  have : Nat.beq j k = false := by
    cases e : Nat.beq j k with
    | true => exact absurd (Nat.eq_of_beq_eq_true e) h
    | false => rfl
  simp [mV, up, this]
theorem mA_mA (M : MS) (k : Nat) (f g : Nat → Int32) : mA (mA M k f) k g = mA M k g := by
  unfold mA
  congr 1
  funext j
  simp only [up]
  cases Nat.beq j k <;> rfl
theorem mA_id (M : MS) (k : Nat) : mA M k (M.1 k) = M := by
  have : up M.1 k (M.1 k) = M.1 := by
    funext j
    simp only [up]
    cases e : Nat.beq j k with
    | true => rw [Nat.eq_of_beq_eq_true e]; rfl
    | false => rfl
  unfold mA
  rw [this]
