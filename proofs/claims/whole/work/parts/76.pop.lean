/-! How many bits are set; CELLS with one who is heaped. -/
def ush (x k : Int32) : Int32 := (x.toUInt32 >>> (k.toUInt32 &&& Int32.toUInt32 31)).toInt32
def pq1 (x : Int32) : Int32 := x - (ush x 1 &&& 1431655765)
def pq2 (x : Int32) : Int32 := (x &&& 858993459) + (ush x 2 &&& 858993459)
def pq3 (x : Int32) : Int32 := (x + ush x 4) &&& 252645135
def pq4 (x : Int32) : Int32 := x + ush x 8
def pq5 (x : Int32) : Int32 := x + ush x 16
theorem cJ_bit0 (d : Nat) (h : AH) (x : Int32) : call PGM (d + 1) yJ_Integer_bitCount [.int x] h = some (some (.int (pq5 (pq4 (pq3 (pq2 (pq1 x)))) &&& 63)), h) := by
  rw [kJ_Integer_bitCount, eJ_Integer_bitCount_0]
  rfl
def byt (a b c e : Nat) : Nat := a + 256 * (b + 256 * (c + 256 * e))
theorem and2 {a c : Nat} (q m : Nat) (ha : a < 256) (hc : c < 256) : (a + 256 * q) &&& (c + 256 * m) = (a &&& c) + 256 * (q &&& m) := by
  have e1 : ((a + 256 * q) &&& (c + 256 * m)) % 2 ^ 8 = a &&& c := by
    rw [Nat.and_mod_two_pow, show (a + 256 * q) % 2 ^ 8 = a by omega, show (c + 256 * m) % 2 ^ 8 = c by omega]
  have e2 : ((a + 256 * q) &&& (c + 256 * m)) / 2 ^ 8 = q &&& m := by
    rw [Nat.and_div_two_pow, show (a + 256 * q) / 2 ^ 8 = q by omega, show (c + 256 * m) / 2 ^ 8 = m by omega]
  have e3 := Nat.mod_add_div ((a + 256 * q) &&& (c + 256 * m)) (2 ^ 8)
  rw [e1, e2] at e3
  omega
theorem and4 {a b c e k : Nat} (ha : a < 256) (hb : b < 256) (hc : c < 256) (he : e < 256) (hk : k < 256) : byt a b c e &&& byt k k k k = byt (a &&& k) (b &&& k) (c &&& k) (e &&& k) := by
  unfold byt
  rw [and2 _ _ ha hk, and2 _ _ hb hk, and2 _ _ hc hk]
theorem byt_lt {a b c e : Nat} (ha : a < 256) (hb : b < 256) (hc : c < 256) (he : e < 256) : byt a b c e < 4294967296 := by
  unfold byt
  omega
theorem ush_byt {a b c e k : Nat} (ha : a < 256) (hb : b < 256) (hc : c < 256) (he : e < 256) (hk : k < 32) : ush (nI (byt a b c e)) (nI k) = nI (byt a b c e / 2 ^ k) := by
  unfold ush
  rw [qx_ush (byt_lt ha hb hc he) hk, Nat.shiftRight_eq_div_pow]
def pcb (b : Nat) : Nat := cnt (fun k => b.testBit k) 8
def ps1 (b : Nat) : Nat := b - (b / 2 &&& 85)
def ps2 (b : Nat) : Nat := (b &&& 51) + (b / 4 &&& 51)
theorem tb1 : ∀ b : Fin 256, ∀ e : Fin 2, ((b.val / 2 + 128 * e.val) &&& 85) = (b.val / 2 &&& 85) ∧ (b.val / 2 &&& 85) ≤ b.val := by decide +kernel
theorem tb2 : ∀ b : Fin 256, ∀ e : Fin 4, ((b.val / 4 + 64 * e.val) &&& 51) = (b.val / 4 &&& 51) ∧ (b.val / 4 &&& 51) ≤ 51 ∧ (b.val &&& 51) ≤ 51 := by decide +kernel
theorem tb3 : ∀ b : Fin 256, ∀ z : Fin 5, ((ps2 (ps1 b.val) + ps2 (ps1 b.val) / 16 + 16 * z.val) &&& 15) = pcb b.val ∧ ps2 (ps1 b.val) ≤ 68 ∧ ps2 (ps1 b.val) % 16 ≤ 4 := by decide +kernel
theorem pq1_b {a b c e : Nat} (ha : a < 256) (hb : b < 256) (hc : c < 256) (he : e < 256) : pq1 (nI (byt a b c e)) = nI (byt (ps1 a) (ps1 b) (ps1 c) (ps1 e)) := by
  have sh : byt a b c e / 2 ^ 1 = byt (a / 2 + 128 * (b % 2)) (b / 2 + 128 * (c % 2)) (c / 2 + 128 * (e % 2)) (e / 2 + 128 * 0) := by unfold byt; omega
  have ta := tb1 ⟨a, ha⟩ ⟨b % 2, by omega⟩
  have tb := tb1 ⟨b, hb⟩ ⟨c % 2, by omega⟩
  have tc := tb1 ⟨c, hc⟩ ⟨e % 2, by omega⟩
  have te := tb1 ⟨e, he⟩ ⟨0, by omega⟩
  simp only at ta tb tc te
  unfold pq1
  rw [show (1 : Int32) = nI 1 from rfl, ush_byt ha hb hc he (by omega), sh, show (1431655765 : Int32) = nI (byt 85 85 85 85) from rfl, qx_and, and4 (by omega) (by omega) (by omega) (by omega) (by omega), ta.1, tb.1, tc.1, te.1, nI_sub (by unfold byt; omega)]
  congr 1
  unfold byt ps1
  omega
theorem ps1_lt {b : Nat} (h : b < 256) : ps1 b < 256 := by unfold ps1; omega
theorem pq2_b {a b c e : Nat} (ha : a < 256) (hb : b < 256) (hc : c < 256) (he : e < 256) : pq2 (nI (byt a b c e)) = nI (byt (ps2 a) (ps2 b) (ps2 c) (ps2 e)) := by
  have sh : byt a b c e / 2 ^ 2 = byt (a / 4 + 64 * (b % 4)) (b / 4 + 64 * (c % 4)) (c / 4 + 64 * (e % 4)) (e / 4 + 64 * 0) := by unfold byt; omega
  have ta := tb2 ⟨a, ha⟩ ⟨b % 4, by omega⟩
  have tb := tb2 ⟨b, hb⟩ ⟨c % 4, by omega⟩
  have tc := tb2 ⟨c, hc⟩ ⟨e % 4, by omega⟩
  have te := tb2 ⟨e, he⟩ ⟨0, by omega⟩
  simp only at ta tb tc te
  unfold pq2
  rw [show (2 : Int32) = nI 2 from rfl, ush_byt ha hb hc he (by omega), sh, show (858993459 : Int32) = nI (byt 51 51 51 51) from rfl, qx_and, qx_and, and4 (by omega) (by omega) (by omega) (by omega) (by omega), and4 (by omega) (by omega) (by omega) (by omega) (by omega), ta.1, tb.1, tc.1, te.1, nI_add]
  congr 1
  unfold byt ps2
  omega
theorem pq3_b {a b c e : Nat} (ha : a < 256) (hb : b < 256) (hc : c < 256) (he : e < 256) : pq3 (nI (byt (ps2 (ps1 a)) (ps2 (ps1 b)) (ps2 (ps1 c)) (ps2 (ps1 e)))) = nI (byt (pcb a) (pcb b) (pcb c) (pcb e)) := by
  have ba := (tb3 ⟨a, ha⟩ 0).2
  have bb := (tb3 ⟨b, hb⟩ 0).2
  have bc := (tb3 ⟨c, hc⟩ 0).2
  have be := (tb3 ⟨e, he⟩ 0).2
  simp only at ba bb bc be
  have ta := (tb3 ⟨a, ha⟩ ⟨ps2 (ps1 b) % 16, by omega⟩).1
  have tb := (tb3 ⟨b, hb⟩ ⟨ps2 (ps1 c) % 16, by omega⟩).1
  have tc := (tb3 ⟨c, hc⟩ ⟨ps2 (ps1 e) % 16, by omega⟩).1
  have te := (tb3 ⟨e, he⟩ ⟨0, by omega⟩).1
  simp only at ta tb tc te
  rw [← ta, ← tb, ← tc, ← te]
  generalize ps2 (ps1 a) = xa at *
  generalize ps2 (ps1 b) = xb at *
  generalize ps2 (ps1 c) = xc at *
  generalize ps2 (ps1 e) = xe at *
  have sh : byt xa xb xc xe + byt xa xb xc xe / 2 ^ 4 = byt (xa + xa / 16 + 16 * (xb % 16)) (xb + xb / 16 + 16 * (xc % 16)) (xc + xc / 16 + 16 * (xe % 16)) (xe + xe / 16 + 16 * 0) := by unfold byt; omega
  unfold pq3
  rw [show (4 : Int32) = nI 4 from rfl, ush_byt (by omega) (by omega) (by omega) (by omega) (by omega), nI_add, sh, show (252645135 : Int32) = nI (byt 15 15 15 15) from rfl, qx_and, and4 (by omega) (by omega) (by omega) (by omega) (by omega)]
theorem pcb_le (b : Nat) : pcb b ≤ 8 := cnt_le _ _
theorem pop_b {a b c e : Nat} (ha : a < 256) (hb : b < 256) (hc : c < 256) (he : e < 256) : pq5 (pq4 (pq3 (pq2 (pq1 (nI (byt a b c e)))))) &&& 63 = nI (pcb a + pcb b + pcb c + pcb e) := by
  rw [pq1_b ha hb hc he, pq2_b (ps1_lt ha) (ps1_lt hb) (ps1_lt hc) (ps1_lt he), pq3_b ha hb hc he]
  have ba := pcb_le a
  have bb := pcb_le b
  have bc := pcb_le c
  have be := pcb_le e
  generalize pcb a = xa at *
  generalize pcb b = xb at *
  generalize pcb c = xc at *
  generalize pcb e = xe at *
  have s4 : pq4 (nI (byt xa xb xc xe)) = nI (byt (xa + xb) (xb + xc) (xc + xe) xe) := by
    unfold pq4
    rw [show (8 : Int32) = nI 8 from rfl, ush_byt (by omega) (by omega) (by omega) (by omega) (by omega), nI_add]
    congr 1
    unfold byt
    omega
  have s5 : pq5 (nI (byt (xa + xb) (xb + xc) (xc + xe) xe)) = nI (byt (xa + xb + (xc + xe)) (xb + xc + xe) (xc + xe) xe) := by
    unfold pq5
    rw [show (16 : Int32) = nI 16 from rfl, ush_byt (by omega) (by omega) (by omega) (by omega) (by omega), nI_add]
    congr 1
    unfold byt
    omega
  rw [s4, s5, show (63 : Int32) = nI (2 ^ 6 - 1) from rfl, qx_and, Nat.and_two_pow_sub_one_eq_mod]
  congr 1
  unfold byt
  omega
theorem cnt_add (f : Nat → Bool) (a : Nat) : ∀ b, cnt f (a + b) = cnt f a + cnt (fun k => f (a + k)) b
  | 0 => rfl
  | b + 1 => by
    rw [← Nat.add_assoc, cnt, cnt_add f a b, cnt]
    omega
theorem pcb_at (v j : Nat) : pcb (v / 2 ^ j % 256) = cnt (fun k => v.testBit (j + k)) 8 := by
  refine cnt_congr (fun k hk => ?_)
  show (v / 2 ^ j % 256).testBit k = v.testBit (j + k)
  rw [show (256 : Nat) = 2 ^ 8 from rfl, Nat.testBit_mod_two_pow, ← Nat.shiftRight_eq_div_pow, Nat.testBit_shiftRight]
  simp [hk]
theorem pop_v {v : Nat} (hv : v < 4294967296) : pq5 (pq4 (pq3 (pq2 (pq1 (nI v))))) &&& 63 = nI (cnt (fun k => v.testBit k) 32) := by
  have e : v = byt (v / 2 ^ 0 % 256) (v / 2 ^ 8 % 256) (v / 2 ^ 16 % 256) (v / 2 ^ 24 % 256) := by unfold byt; omega
  have p := pop_b (a := v / 2 ^ 0 % 256) (b := v / 2 ^ 8 % 256) (c := v / 2 ^ 16 % 256) (e := v / 2 ^ 24 % 256) (by omega) (by omega) (by omega) (by omega)
  rw [← e] at p
  rw [p, pcb_at, pcb_at, pcb_at, pcb_at]
  congr 1
  have c1 := cnt_add (fun k => v.testBit k) 8 24
  have c2 := cnt_add (fun k => v.testBit (8 + k)) 8 16
  have c3 := cnt_add (fun k => v.testBit (8 + (8 + k))) 8 8
  simp only [Nat.zero_add] at *
  have f2 : cnt (fun k => v.testBit (16 + k)) 8 = cnt (fun k => v.testBit (8 + (8 + k))) 8 := cnt_congr (fun k _ => by rw [show 16 + k = 8 + (8 + k) by omega])
  have f3 : cnt (fun k => v.testBit (24 + k)) 8 = cnt (fun k => v.testBit (8 + (8 + (8 + k)))) 8 := cnt_congr (fun k _ => by rw [show 24 + k = 8 + (8 + (8 + k)) by omega])
  rw [f2, f3]
  have d1 : cnt (fun k => v.testBit k) 32 = cnt (fun k => v.testBit k) 8 + cnt (fun k => v.testBit (8 + k)) 24 := c1
  have d2 : cnt (fun k => v.testBit (8 + k)) 24 = cnt (fun k => v.testBit (8 + k)) 8 + cnt (fun k => v.testBit (8 + (8 + k))) 16 := c2
  have d3 : cnt (fun k => v.testBit (8 + (8 + k))) 16 = cnt (fun k => v.testBit (8 + (8 + k))) 8 + cnt (fun k => v.testBit (8 + (8 + (8 + k)))) 8 := c3
  omega
theorem nI_all (x : Int32) : ∃ v, v < 4294967296 ∧ x = nI v := ⟨x.toBitVec.toNat, x.toBitVec.isLt, Int32.toBitVec_inj.mp (by show _ = BitVec.ofNat 32 _; simp)⟩
theorem cJ_bitCount (d : Nat) (h : AH) (x : Int32) : call PGM (d + 1) yJ_Integer_bitCount [.int x] h = some (some (.int (nI (cnt (qbt x) 32))), h) := by
  obtain ⟨v, hv, e⟩ := nI_all x
  rw [cJ_bit0, e, pop_v hv, cnt_congr (f := fun k => v.testBit k) (g := qbt (nI v)) (fun k hk => (qb_nI v hk).symm)]
/-- the set of the CELLS with one who is heaped -/
def hpX (s : Nat → Int32) : Nat → Int32
  | 0 => nI 0
  | p + 1 => bif (!decide (s (99 + 4 * p + 1) < nI 0) && decide (s (99 + 4 * p) = nI 6)) then hpX s p ||| (1 <<< (s (99 + 4 * p + 1) &&& 31)) else hpX s p
theorem cS_heaps (d : Nat) {o : Nat} (ho : o = 43 ∨ o = 59) {S : SS} (Z : RT) {s : Nat → Int32} {np nb : Nat} (h : RS S s np nb) (hnp : np ≤ 20) (h1 : s 1 = nI np) :
    call PGM (d + 2) yS_heaps [.ref o] (hS o S Z) = some (some (.int (nI (cnt (qbt (hpX s np)) 32))), hS o S Z) := by
  have e1 : S.2.1 1 = nI np := (h.1 1 (by omega)).trans h1
  rw [kS_heaps, eS_heaps_0 (d + 1) o ho]
  refine down (n := np) (P := fun j => sem PGM (d + 1) yS_heaps (4, [some (.ref o), some (.int (hpX s j)), some (.int (nI j))], [], hS o S Z) = some (some (.int (nI (cnt (qbt (hpX s np)) 32))), hS o S Z)) ?_ (fun j hj ih => ?_) 0 (Nat.zero_le _)
  · rw [eS_heaps_4 (d + 1) o ho, e1, cJ_bitCount d, aft1, eS_heaps_52 (d + 1) o ho]
    simp (disch := omega) only [l0, l1, l2, l3, l4, l5, l6, l7, l8, l9, l10, l11, l12, l13, l14, l15, l16, l17, l18, l19, l20, l21, l22, l23, l24, l25, l26, l27, l28, l29, l30, l31, l40, l48, l52, l57, l60, l65, l97, l99, l100, l102, l119, l122, l179, l197, l200, l201, l237, l436, l437, pk_mul, nI_add, inb_nI, nclamp, dlt, dle, deq, bif_t, bif_f, bif_nt, bif_nf, aft0, aft1, decide_true, decide_false, Bool.not_true, Bool.not_false, cond_true, cond_false, Nat.add_sub_cancel, Nat.add_one_sub_one, ou9, mo1, nI_MO, OU_lt, OU_ge, Nat.not_lt_zero, Bool.or_false, Bool.or_true, Bool.true_or, Bool.false_or, Bool.and_true, Bool.and_false, Bool.true_and, Bool.false_and, bI_0n, bI_1n, Bool.not_not]
  · obtain ⟨p5, p6, p7, p8⟩ := h.2.2.1 j hj
    rw [eS_heaps_4 (d + 1) o ho, e1, cS_isOut d ho S Z (show j < 20 by omega), aft1, eS_heaps_17 (d + 1) o ho, p6, bI_ne0, inb_nI (by omega), nclamp (by omega), p5, p6]
    have j20 : decide (j < 20) = true := by simp; omega
    have jn : decide (nI np ≤ nI j) = false := by rw [dle (by omega) (by omega)]; simp; omega
    rw [j20, jn, nI_1]
    rw [hpX] at ih
    have z1 : decide (s (99 + 4 * j + 1) < 0) = decide (s (99 + 4 * j + 1) < nI 0) := rfl
    have z2 : decide (s (99 + 4 * j) = 6) = decide (s (99 + 4 * j) = nI 6) := rfl
    rw [z1, z2]
    cases h6 : decide (s (99 + 4 * j + 1) < nI 0) <;> cases h7 : decide (s (99 + 4 * j) = nI 6) <;> rw [h6, h7] at ih <;> exact ih
theorem qb_pw {c i : Nat} (hc : c < 32) (hi : i < 32) : qbt ((1 : Int32) <<< (nI c &&& 31)) i = decide (i = c) := by
  rw [qb_shl c hc _ hi]
  by_cases h : c ≤ i
  · rw [qb_1 (by omega)]
    simp only [h, decide_true, Bool.true_and]
    rw [decide_eq_decide]
    omega
  · have : ¬ i = c := by omega
    simp [h, this]
theorem hpX_bit {s : Nat → Int32} {nc np : Nat} (hnc : nc ≤ 30) (hq : ∀ p, p < np → okQ nc (s (99 + 4 * p + 1))) : ∀ p, p ≤ np → ∀ i, i < 32 → (qbt (hpX s p) i = true ↔ ∃ q, q < p ∧ s (99 + 4 * q) = nI 6 ∧ s (99 + 4 * q + 1) = nI i ∧ i < nc)
  | 0, _, i, hi => by
    have z : qbt (hpX s 0) i = false := by
      show qbt (nI 0) i = false
      rw [qb_nI _ hi, Nat.zero_testBit]
    rw [z]
    constructor
    · intro h; cases h
    · rintro ⟨q, hq, _⟩; exact absurd hq (Nat.not_lt_zero q)
  | p + 1, hp, i, hi => by
    have ih := hpX_bit hnc hq p (by omega) i hi
    have lift : (∃ q, q < p ∧ s (99 + 4 * q) = nI 6 ∧ s (99 + 4 * q + 1) = nI i ∧ i < nc) → ∃ q, q < p + 1 ∧ s (99 + 4 * q) = nI 6 ∧ s (99 + 4 * q + 1) = nI i ∧ i < nc := by
      rintro ⟨q, h1, h2⟩
      exact ⟨q, by omega, h2⟩
    rw [hpX]
    rcases hq p (by omega) with ho | ⟨c, hc, ho⟩
    · have z : (!decide (s (99 + 4 * p + 1) < nI 0)) = false := by rw [ho, OU_lt]; rfl
      rw [z, Bool.false_and, cond_false, ih]
      constructor
      · exact lift
      · rintro ⟨q, h1, h2, h3, h4⟩
        by_cases e : q = p
        · subst e
          rw [ho] at h3
          have : decide (OU < nI 0) = true := OU_lt
          rw [h3, dlt (by omega) (by omega)] at this
          simp at this
        · exact ⟨q, by omega, h2, h3, h4⟩
    · have z : (!decide (s (99 + 4 * p + 1) < nI 0)) = true := by rw [ho, dlt (by omega) (by omega)]; simp
      rw [z, Bool.true_and]
      by_cases h6 : s (99 + 4 * p) = nI 6
      · rw [bif_t h6, ho, qb_or, qb_pw (by omega) hi, Bool.or_eq_true, ih, decide_eq_true_eq]
        constructor
        · rintro (h | h)
          · exact lift h
          · subst h
            exact ⟨p, by omega, h6, ho, hc⟩
        · rintro ⟨q, h1, h2, h3, h4⟩
          by_cases e : q = p
          · subst e
            right
            rw [ho] at h3
            exact ((nI_eq (by omega) (by omega)).mp h3).symm
          · left
            exact ⟨q, by omega, h2, h3, h4⟩
      · rw [bif_f h6, ih]
        constructor
        · exact lift
        · rintro ⟨q, h1, h2, h3, h4⟩
          by_cases e : q = p
          · subst e
            exact absurd h2 h6
          · exact ⟨q, by omega, h2, h3, h4⟩
theorem hpX_30 {s : Nat → Int32} {nc np : Nat} (hnc : nc ≤ 30) (hq : ∀ p, p < np → okQ nc (s (99 + 4 * p + 1))) : cnt (qbt (hpX s np)) 32 = cnt (qbt (hpX s np)) 30 := by
  have f : ∀ i, 30 ≤ i → i < 32 → qbt (hpX s np) i = false := by
    intro i h1 h2
    cases e : qbt (hpX s np) i with
    | false => rfl
    | true =>
      obtain ⟨q, _, _, _, h4⟩ := (hpX_bit hnc hq np (Nat.le_refl _) i h2).mp e
      omega
  show cnt (qbt (hpX s np)) 30 + (bif qbt (hpX s np) 30 then 1 else 0) + (bif qbt (hpX s np) 31 then 1 else 0) = _
  rw [f 30 (by omega) (by omega), f 31 (by omega) (by omega)]
  rfl
theorem anyH_iff (s : Nat → Int32) : ∀ p, (anyH s p = true ↔ ∃ q, q < p ∧ s (99 + 4 * q) = nI 6 ∧ ¬ s (99 + 4 * q + 1) < nI 0)
  | 0 => ⟨fun h => (by cases h), fun ⟨q, h, _⟩ => absurd h (Nat.not_lt_zero q)⟩
  | p + 1 => by
    have ih := anyH_iff s p
    rw [anyH, Bool.or_eq_true, ih, Bool.and_eq_true, Bool.not_eq_true', decide_eq_false_iff_not, decide_eq_true_eq]
    constructor
    · rintro (⟨q, h1, h2⟩ | ⟨h1, h2⟩)
      · exact ⟨q, by omega, h2⟩
      · exact ⟨p, by omega, h2, h1⟩
    · rintro ⟨q, h1, h2, h3⟩
      by_cases e : q = p
      · subst e
        exact Or.inr ⟨h3, h2⟩
      · exact Or.inl ⟨q, by omega, h2, h3⟩
theorem hp_any {s : Nat → Int32} {nc np : Nat} (hnc : nc ≤ 30) (hq : ∀ p, p < np → okQ nc (s (99 + 4 * p + 1))) : decide (nI (cnt (qbt (hpX s np)) 32) = 0) = !anyH s np := by
  have le := cnt_le (qbt (hpX s np)) 32
  rw [l0, deq (by omega) (by omega)]
  cases e : anyH s np with
  | false =>
    have : cnt (qbt (hpX s np)) 32 = 0 := cnt_zero (fun i hi => by
      cases e2 : qbt (hpX s np) i with
      | false => rfl
      | true =>
        obtain ⟨q, h1, h2, h3, h4⟩ := (hpX_bit hnc hq np (Nat.le_refl _) i hi).mp e2
        have : anyH s np = true := (anyH_iff s np).mpr ⟨q, h1, h2, by
          rw [h3, nI_ltI (by omega) (by omega)]
          omega⟩
        rw [e] at this
        cases this)
    simp [this]
  | true =>
    obtain ⟨q, h1, h2, h3⟩ := (anyH_iff s np).mp e
    have : 0 < cnt (qbt (hpX s np)) 32 := by
      rcases hq q h1 with ho | ⟨c, hc, ho⟩
      · rw [ho] at h3
        exact absurd (of_decide_eq_true OU_lt) h3
      · exact cnt_pos.mpr ⟨c, by omega, (hpX_bit hnc hq np (Nat.le_refl _) c (by omega)).mpr ⟨q, h1, h2, ho, hc⟩⟩
    have n0 : ¬ cnt (qbt (hpX s np)) 32 = 0 := by omega
    simp [n0]
