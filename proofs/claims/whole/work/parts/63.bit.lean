/-! Bits (after the kit's family 'Int32 by its bits'). -/
def qbt (x : Int32) (i : Nat) : Bool := x.toBitVec.getLsbD i
theorem qb_ext {x y : Int32} (h : ∀ i, i < 32 → qbt x i = qbt y i) : x = y := Int32.toBitVec_inj.mp (BitVec.eq_of_getLsbD_eq (fun i hi => h i hi))
theorem qb_or (x y : Int32) (i : Nat) : qbt (x ||| y) i = (qbt x i || qbt y i) := by unfold qbt; rw [Int32.toBitVec_or, BitVec.getLsbD_or]
theorem qb_and (x y : Int32) (i : Nat) : qbt (x &&& y) i = (qbt x i && qbt y i) := by unfold qbt; rw [Int32.toBitVec_and, BitVec.getLsbD_and]
theorem qb_xor (x y : Int32) (i : Nat) : qbt (x ^^^ y) i = (qbt x i ^^ qbt y i) := by unfold qbt; rw [Int32.toBitVec_xor, BitVec.getLsbD_xor]
theorem qb_big {x : Int32} {i : Nat} (h : 32 ≤ i) : qbt x i = false := BitVec.getLsbD_of_ge _ _ h
theorem qs_l : ∀ n, n < 32 → ((nI n &&& 31).toBitVec.smod 32).toNat = n := by decide +kernel
theorem qs_u : ∀ n, n < 32 → (((nI n).toUInt32 &&& Int32.toUInt32 31).toBitVec % 32).toNat = n := by decide +kernel
theorem qb_shl (n : Nat) (hn : n < 32) (x : Int32) {i : Nat} (hi : i < 32) : qbt (x <<< (nI n &&& 31)) i = (decide (n ≤ i) && qbt x (i - n)) := by
  unfold qbt
  rw [Int32.toBitVec_shiftLeft]
  show (x.toBitVec <<< ((nI n &&& 31).toBitVec.smod 32).toNat).getLsbD i = _
  rw [qs_l n hn, BitVec.getLsbD_shiftLeft]
  rcases Nat.lt_or_ge i n with h | h
  · simp [h, Nat.not_le.mpr h]
  · simp [hi, h, Nat.not_lt.mpr h]
theorem qb_ushr (n : Nat) (hn : n < 32) (x : Int32) (i : Nat) : qbt ((x.toUInt32 >>> ((nI n).toUInt32 &&& Int32.toUInt32 31)).toInt32) i = qbt x (n + i) := by
  show (x.toUInt32 >>> ((nI n).toUInt32 &&& Int32.toUInt32 31)).toBitVec.getLsbD i = x.toUInt32.toBitVec.getLsbD (n + i)
  rw [UInt32.toBitVec_shiftRight]
  show (x.toUInt32.toBitVec >>> (((nI n).toUInt32 &&& Int32.toUInt32 31).toBitVec % 32).toNat).getLsbD i = _
  rw [qs_u n hn, BitVec.getLsbD_ushiftRight]
theorem qb_sshr (n : Nat) (hn : n < 32) (x : Int32) {i : Nat} (hi : i < 32) : qbt (x >>> (nI n &&& 31)) i = if n + i < 32 then qbt x (n + i) else qbt x 31 := by
  unfold qbt
  rw [Int32.toBitVec_shiftRight]
  show (x.toBitVec.sshiftRight ((nI n &&& 31).toBitVec.smod 32).toNat).getLsbD i = _
  rw [qs_l n hn, BitVec.getLsbD_sshiftRight, BitVec.msb_eq_getLsbD_last]
  simp [hi]
theorem qb_nI (n : Nat) {i : Nat} (hi : i < 32) : qbt (nI n) i = n.testBit i := by
  show (BitVec.ofNat 32 n).getLsbD i = _
  rw [BitVec.getLsbD_ofNat]
  simp [hi]
theorem qx_and (a b : Nat) : nI a &&& nI b = nI (a &&& b) := qb_ext (fun i hi => by rw [qb_and, qb_nI _ hi, qb_nI _ hi, qb_nI _ hi, Nat.testBit_and])
theorem qx_cnt : ∀ j : Fin 32, (UInt32.ofNat j.val &&& Int32.toUInt32 31).toNat % 32 = j.val := by decide +kernel
theorem qx_ush {k j : Nat} (hk : k < 4294967296) (hj : j < 32) : ((nI k).toUInt32 >>> ((nI j).toUInt32 &&& Int32.toUInt32 31)).toInt32 = nI (k >>> j) := by
  have hs : k >>> j ≤ k := by
    rw [Nat.shiftRight_eq_div_pow]
    exact Nat.div_le_self _ _
  have e2 : UInt32.ofNat k >>> (UInt32.ofNat j &&& Int32.toUInt32 31) = UInt32.ofNat (k >>> j) := by
    apply UInt32.toNat_inj.1
    have h1 : (UInt32.ofNat k).toNat = k := Nat.mod_eq_of_lt (by omega)
    have h2 : (UInt32.ofNat (k >>> j)).toNat = k >>> j := Nat.mod_eq_of_lt (by omega)
    rw [UInt32.toNat_shiftRight, qx_cnt ⟨j, hj⟩, h1, h2]
  show (UInt32.ofNat k >>> (UInt32.ofNat j &&& Int32.toUInt32 31)).toInt32 = _
  rw [e2]
  rfl
theorem tb_0 (m : Nat) (b : Bool) : (2 * m + b.toNat).testBit 0 = b := by
  rw [Nat.testBit_zero]
  cases b <;> simp <;> omega
theorem tb_s (m : Nat) (b : Bool) (i : Nat) : (2 * m + b.toNat).testBit (i + 1) = m.testBit i := by
  rw [Nat.testBit_succ]
  congr 1
  cases b <;> simp <;> omega
/-- a stack of truths as one number, the latest lowest -/
def encN : List Bool → Nat
  | [] => 1
  | b :: st => 2 * encN st + b.toNat
theorem encN_lt : ∀ st : List Bool, encN st < 2 ^ (st.length + 1)
  | [] => by decide
  | b :: st => by
    have := encN_lt st
    rw [encN, List.length_cons, Nat.pow_succ]
    cases b <;> simp <;> omega
theorem enc_big {st : List Bool} {i : Nat} (h : st.length + 1 ≤ i) : (encN st).testBit i = false :=
  Nat.testBit_lt_two_pow (Nat.lt_of_lt_of_le (encN_lt st) (Nat.pow_le_pow_right (by decide) h))
theorem qb_1 {i : Nat} (hi : i < 32) : qbt 1 i = decide (i = 0) := (by decide +kernel : ∀ i, i < 32 → qbt 1 i = decide (i = 0)) i hi
theorem qb_m2 {i : Nat} (hi : i < 32) : qbt (-2) i = !decide (i = 0) := (by decide +kernel : ∀ i, i < 32 → qbt (-2) i = !decide (i = 0)) i hi
theorem en_not (x : Bool) (st : List Bool) : nI (encN (x :: st)) ^^^ 1 = nI (encN ((!x) :: st)) := by
  refine qb_ext (fun i hi => ?_)
  rw [qb_xor, qb_nI _ hi, qb_nI _ hi, qb_1 hi, encN, encN]
  cases i with
  | zero => rw [tb_0, tb_0]; cases x <;> rfl
  | succ i => rw [tb_s, tb_s]; simp
theorem en_ush {st : List Bool} (hl : st.length ≤ 30) {i : Nat} (hi : i < 32) : qbt (((nI (encN st)).toUInt32 >>> (((1 : Int32)).toUInt32 &&& Int32.toUInt32 31)).toInt32) i = (encN st).testBit (i + 1) := by
  rw [show (1 : Int32) = nI 1 from rfl, qb_ushr 1 (by omega), Nat.add_comm 1 i]
  by_cases h : i + 1 < 32
  · rw [qb_nI _ h]
  · rw [qb_big (by omega), enc_big (by omega)]
theorem en_and (x y : Bool) (st : List Bool) (hl : st.length ≤ 28) : (((nI (encN (x :: y :: st))).toUInt32 >>> (((1 : Int32)).toUInt32 &&& Int32.toUInt32 31)).toInt32) &&& (nI (encN (x :: y :: st)) ||| (-2)) = nI (encN ((y && x) :: st)) := by
  refine qb_ext (fun i hi => ?_)
  rw [qb_and, en_ush (by simp; omega) hi, qb_or, qb_nI _ hi, qb_nI _ hi, qb_m2 hi, encN, encN, encN, tb_s]
  cases i with
  | zero => rw [tb_0, tb_0, tb_0]; cases x <;> cases y <;> rfl
  | succ i => rw [tb_s, tb_s, tb_s]; simp
theorem en_or (x y : Bool) (st : List Bool) (hl : st.length ≤ 28) : (((nI (encN (x :: y :: st))).toUInt32 >>> (((1 : Int32)).toUInt32 &&& Int32.toUInt32 31)).toInt32) ||| (nI (encN (x :: y :: st)) &&& 1) = nI (encN ((y || x) :: st)) := by
  refine qb_ext (fun i hi => ?_)
  rw [qb_or, en_ush (by simp; omega) hi, qb_and, qb_nI _ hi, qb_nI _ hi, qb_1 hi, encN, encN, encN, tb_s]
  cases i with
  | zero => rw [tb_0, tb_0, tb_0]; cases x <;> cases y <;> rfl
  | succ i => rw [tb_s, tb_s, tb_s]; simp
theorem en_push (x : Bool) (st : List Bool) (hl : st.length ≤ 29) : (nI (encN st) <<< ((1 : Int32) &&& 31)) ||| bI x = nI (encN (x :: st)) := by
  refine qb_ext (fun i hi => ?_)
  rw [qb_or, show (1 : Int32) = nI 1 from rfl, qb_shl 1 (by omega) _ hi, qb_nI _ hi, encN]
  have e0 : ∀ i, i < 32 → qbt (bI x) i = (x && decide (i = 0)) := by
    intro i hi
    cases x with
    | true => exact qb_1 hi
    | false => exact (by decide +kernel : ∀ i, i < 32 → qbt 0 i = false) i hi
  rw [e0 i hi]
  cases i with
  | zero => rw [tb_0]; cases x <;> simp
  | succ i =>
    rw [tb_s, Nat.add_sub_cancel, qb_nI _ (by omega)]
    cases x <;> simp
theorem en_low (x : Bool) (st : List Bool) : decide ((nI (encN (x :: st)) &&& 1) = 1) = x := by
  have : nI (encN (x :: st)) &&& 1 = bI x := by
    refine qb_ext (fun i hi => ?_)
    rw [qb_and, qb_nI _ hi, qb_1 hi, encN]
    have e0 : ∀ i, i < 32 → qbt (bI x) i = (x && decide (i = 0)) := by
      intro i hi
      cases x with
      | true => exact qb_1 hi
      | false => exact (by decide +kernel : ∀ i, i < 32 → qbt 0 i = false) i hi
    rw [e0 i hi]
    cases i with
    | zero => rw [tb_0]
    | succ i => simp
  rw [this, bI_1]
/-! CONDS in the class's steps. -/
theorem op_bd {x : Op} (h : okOp x) : x.1 * 268435456 + x.2.1 * 16384 + x.2.2 < 2147483648 := by
  obtain ⟨a, b, c⟩ := h
  omega
theorem op_t {x : Op} (h : okOp x) : (((opC x).toUInt32 >>> (((28 : Int32)).toUInt32 &&& Int32.toUInt32 31)).toInt32) = nI x.1 := by
  obtain ⟨a, b, c⟩ := h
  unfold opC
  rw [show (28 : Int32) = nI 28 from rfl, qx_ush (by omega) (by omega), Nat.shiftRight_eq_div_pow, show 2 ^ 28 = 268435456 from rfl]
  congr 1
  omega
theorem op_l {x : Op} (h : okOp x) : (((opC x).toUInt32 >>> (((14 : Int32)).toUInt32 &&& Int32.toUInt32 31)).toInt32) &&& 16383 = nI x.2.1 := by
  obtain ⟨a, b, c⟩ := h
  unfold opC
  rw [show (14 : Int32) = nI 14 from rfl, qx_ush (by omega) (by omega), Nat.shiftRight_eq_div_pow, show 2 ^ 14 = 16384 from rfl, show (16383 : Int32) = nI (2 ^ 14 - 1) from rfl, qx_and, Nat.and_two_pow_sub_one_eq_mod, show 2 ^ 14 = 16384 from rfl]
  congr 1
  omega
theorem op_r {x : Op} (h : okOp x) : (opC x) &&& 16383 = nI x.2.2 := by
  obtain ⟨a, b, c⟩ := h
  unfold opC
  rw [show (16383 : Int32) = nI (2 ^ 14 - 1) from rfl, qx_and, Nat.and_two_pow_sub_one_eq_mod, show 2 ^ 14 = 16384 from rfl]
  congr 1
  omega
theorem iv_sub' {e c : Nat} (he : e < 100000) (hc : c < 100000) : (nI e - nI c).toInt = (e : Int) - (c : Int) := by
  rw [Int32.toInt_sub, nI_toInt (by omega), nI_toInt (by omega)]
  refine Int.bmod_eq_of_le ?_ ?_ <;> omega
theorem sub_ltz' {c b : Nat} (hc : c < 100000) (hb : b < 100000) : decide (nI c - nI b < nI 0) = decide (c < b) := by
  rw [decide_eq_decide, Int32.lt_iff_toInt_lt, iv_sub' hc hb, nI_toInt (by omega)]
  omega
theorem cL_valueOf (d : Nat) {o : Nat} (ho : o = 43 ∨ o = 59) (S : SS) (Z : RT) {v : Nat} (hv : v < 10006) {F : Nat → Int32} (hF : ∀ w, w < 6 → S.1 13 w = F w) : call PGM (d + 1) yL_valueOf [.int (nI v), .ref (o + 15)] (hS o S Z) = some (some (.int (valO F v)), hS o S Z) := by
  rw [kL_valueOf, eL_valueOf_0 d o ho, l0, l10000, sub_ltz' (by omega) (by omega), valO]
  by_cases h : v < 10000
  · rw [bif_t h, if_pos h]
  · rw [bif_f h, if_neg h, nI_sub (by omega)]
    simp (disch := omega) only [l0, l1, l2, l3, l4, l5, l6, l7, l8, l9, l10, l11, l12, l13, l14, l15, l16, l17, l18, l19, l20, l21, l22, l23, l24, l25, l26, l27, l28, l29, l30, l31, l40, l48, l52, l57, l60, l65, l97, l99, l100, l102, l119, l122, l179, l197, l200, l201, l237, l436, l437, pk_mul, nI_add, inb_nI, nclamp, dlt, dle, deq, bif_t, bif_f, bif_nt, bif_nf, aft0, aft1, decide_true, decide_false, Bool.not_true, Bool.not_false, cond_true, cond_false, Nat.add_sub_cancel, Nat.add_one_sub_one, ou9, mo1, nI_MO, OU_lt, OU_ge, Nat.not_lt_zero, Bool.or_false, Bool.or_true, Bool.true_or, Bool.false_or, Bool.and_true, Bool.and_false, Bool.true_and, Bool.false_and, bI_0n, bI_1n, Bool.not_not]
    rw [hF _ (by omega)]
theorem cL_after (d : Nat) {o : Nat} (ho : o = 43 ∨ o = 59) (S : SS) (Z : RT) {x : Op} {st : List Bool} (hx : okOp x) (hd : if x.1 < 3 then st.length < 30 else if x.1 = 5 then 1 ≤ st.length else 2 ≤ st.length) (hl : st.length ≤ 30) {F : Nat → Int32} (hF : ∀ w, w < 6 → S.1 13 w = F w) :
    call PGM (d + 2) yL_after [.int (opC x), .int (nI (encN st)), .ref (o + 15)] (hS o S Z) = some (some (.int (nI (encN (stO F x st)))), hS o S Z) := by
  have ht := hx.1
  rw [kL_after, eL_after_0 (d + 1) o ho, op_t hx, op_l hx, cL_valueOf d ho S Z hx.2.1 hF, aft1, eL_after_53 (d + 1) o ho, op_r hx, cL_valueOf d ho S Z hx.2.2 hF, aft1, eL_after_64 (d + 1) o ho]
  rw [stO.eq_def]
  by_cases h3 : x.1 < 3
  · rw [if_pos h3] at hd ⊢
    have hl' : st.length ≤ 29 := by omega
    have e1 := en_push true st hl'
    have e0 := en_push false st hl'
    have e1' : (nI (encN st) <<< ((1 : Int32) &&& 31)) ||| 1 = nI (encN (true :: st)) := e1
    have e0' : (nI (encN st) <<< ((1 : Int32) &&& 31)) ||| 0 = nI (encN (false :: st)) := e0
    rw [e1', e0', le_not_lt, le_not_lt, cmpO]
    have e : x.1 = 0 ∨ x.1 = 1 ∨ x.1 = 2 := by omega
    rcases e with e | e | e <;> rw [e]
    · simp (disch := omega) only [l0, l1, l2, l3, l4, l5, l6, l7, l8, l9, l10, l11, l12, l13, l14, l15, l16, l17, l18, l19, l20, l21, l22, l23, l24, l25, l26, l27, l28, l29, l30, l31, l40, l48, l52, l57, l60, l65, l97, l99, l100, l102, l119, l122, l179, l197, l200, l201, l237, l436, l437, pk_mul, nI_add, inb_nI, nclamp, dlt, dle, deq, bif_t, bif_f, bif_nt, bif_nf, aft0, aft1, decide_true, decide_false, Bool.not_true, Bool.not_false, cond_true, cond_false, Nat.add_sub_cancel, Nat.add_one_sub_one, ou9, mo1, nI_MO, OU_lt, OU_ge, Nat.not_lt_zero, Bool.or_false, Bool.or_true, Bool.true_or, Bool.false_or, Bool.and_true, Bool.and_false, Bool.true_and, Bool.false_and, bI_0n, bI_1n, Bool.not_not]
      simp only [if_true]
      cases decide (valO F x.2.1 < valO F x.2.2) <;> rfl
    · simp (disch := omega) only [l0, l1, l2, l3, l4, l5, l6, l7, l8, l9, l10, l11, l12, l13, l14, l15, l16, l17, l18, l19, l20, l21, l22, l23, l24, l25, l26, l27, l28, l29, l30, l31, l40, l48, l52, l57, l60, l65, l97, l99, l100, l102, l119, l122, l179, l197, l200, l201, l237, l436, l437, pk_mul, nI_add, inb_nI, nclamp, dlt, dle, deq, bif_t, bif_f, bif_nt, bif_nf, aft0, aft1, decide_true, decide_false, Bool.not_true, Bool.not_false, cond_true, cond_false, Nat.add_sub_cancel, Nat.add_one_sub_one, ou9, mo1, nI_MO, OU_lt, OU_ge, Nat.not_lt_zero, Bool.or_false, Bool.or_true, Bool.true_or, Bool.false_or, Bool.and_true, Bool.and_false, Bool.true_and, Bool.false_and, bI_0n, bI_1n, Bool.not_not]
      simp only [if_true, show ¬ (1 : Nat) = 0 by omega, if_false]
      cases decide (valO F x.2.1 = valO F x.2.2) <;> rfl
    · simp (disch := omega) only [l0, l1, l2, l3, l4, l5, l6, l7, l8, l9, l10, l11, l12, l13, l14, l15, l16, l17, l18, l19, l20, l21, l22, l23, l24, l25, l26, l27, l28, l29, l30, l31, l40, l48, l52, l57, l60, l65, l97, l99, l100, l102, l119, l122, l179, l197, l200, l201, l237, l436, l437, pk_mul, nI_add, inb_nI, nclamp, dlt, dle, deq, bif_t, bif_f, bif_nt, bif_nf, aft0, aft1, decide_true, decide_false, Bool.not_true, Bool.not_false, cond_true, cond_false, Nat.add_sub_cancel, Nat.add_one_sub_one, ou9, mo1, nI_MO, OU_lt, OU_ge, Nat.not_lt_zero, Bool.or_false, Bool.or_true, Bool.true_or, Bool.false_or, Bool.and_true, Bool.and_false, Bool.true_and, Bool.false_and, bI_0n, bI_1n, Bool.not_not]
      simp only [show ¬ (2 : Nat) = 0 by omega, show ¬ (2 : Nat) = 1 by omega, if_false]
      cases decide (valO F x.2.2 < valO F x.2.1) <;> rfl
  · rw [if_neg h3] at hd ⊢
    by_cases h5 : x.1 = 5
    · rw [if_pos h5] at hd
      match st, hd with
      | y :: r, _ =>
        rw [h5]
        simp only [if_true]
        rw [← en_not]
        rfl
    · rw [if_neg h5] at hd
      match st, hd, hl with
      | y :: z :: r, _, hl =>
        have hl2 : r.length ≤ 28 := by simp at hl; omega
        have e : x.1 = 3 ∨ x.1 = 4 := by omega
        rcases e with e | e <;> rw [e]
        · simp only [show ¬ (3 : Nat) = 5 by omega, if_true, if_false]
          rw [← en_and y z r hl2]
          rfl
        · simp only [show ¬ (4 : Nat) = 5 by omega, show ¬ (4 : Nat) = 3 by omega, if_true, if_false]
          rw [← en_or y z r hl2]
          rfl
