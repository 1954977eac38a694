/-! Constructor of BullStreet. -/
theorem lenG (g : GT) (x : AC) (B : AH) : List.length (gv g ++ x :: B) = B.length + 13 := by
  rw [List.length_append]
  show 12 + (B.length + 1) = _
  omega
theorem catG (g : GT) (x : AC) (B C : AH) : (gv g ++ x :: B) ++ C = gv g ++ x :: (B ++ C) := by rw [List.append_assoc, List.cons_append]
theorem lgGv (g : GT) (x : AC) (B : AH) : 12 ≤ List.length (gv g ++ x :: B) := by rw [lenG]; omega
theorem blG (g : GT) (x : AC) (B : AH) : Nat.ble 12 (List.length (gv g ++ x :: B)) = true := Nat.ble_eq_true_of_le (lgGv g x B)
theorem okG (g : GT) (B : AH) (ci : Nat) (fs : List Value) (k : Nat) (hk : Nat.blt k fs.length = true) : okP (gv g ++ .inr (ci, fs) :: B) 12 ci k = true := okP_t (gv g) B ci fs k (Nat.le_refl 12) hk
theorem pFG (g : GT) (B : AH) (ci : Nat) (fs : List Value) (k : Nat) (v : Value) : pF (gv g ++ .inr (ci, fs) :: B) 12 k v = gv g ++ .inr (ci, fs.set k v) :: B := pF_at (gv g) B ci fs k v
theorem iaG (g : GT) (R : AH) (i : Int32) {n : Nat} {f : Nat → Int32} (h : hat R 22 = some (.inl (.int, n, .inl f))) : inA (gv g ++ R) 34 0 i = inb i n := inA_g (gv g) R 22 i h
theorem waG (g : GT) (R : AH) (i v : Int32) {n : Nat} {f : Nat → Int32} (h : hat R 22 = some (.inl (.int, n, .inl f))) : wA (gv g ++ R) 34 i v = gv g ++ R.set 22 (.inl (.int, n, .inl (upd f i.toNatClampNeg v))) := wA_g (gv g) R 22 i v h
theorem h3G (g : GT) (B : AH) : hat (gv g ++ B) 3 = some (.inl (.int, 3, .inl (gvA 3))) := rfl
theorem h6G (g : GT) (B : AH) : hat (gv g ++ B) 6 = some (.inl (.int, 3, .inl (gvA 6))) := rfl
theorem blkS_len (o : Nat) (S : SS) : (blkS o S).length = 16 := rfl
theorem blkS_la (o : Nat) (S : SS) (B : AH) : List.length (blkS o S ++ B) = B.length + 16 := by
  rw [List.length_append, blkS_len]
  omega
theorem cL_new (d : Nat) (P : AH) (hP : 12 ≤ P.length) (z : AC) : call PGM (d + 1) yL_init [.ref P.length, .int 0, .ref (List.length (P ++ [objOf dfls 1])), .ref (List.length ((P ++ [objOf dfls 1]) ++ [z])), .ref (List.length (((P ++ [objOf dfls 1]) ++ [z]) ++ [z])), .ref (List.length ((((P ++ [objOf dfls 1]) ++ [z]) ++ [z]) ++ [z]))] (((((P ++ [objOf dfls 1]) ++ [z]) ++ [z]) ++ [z]) ++ [z]) = some (none, P ++ (.inr (1, [.int 0, .ref (P.length + 1), .ref (P.length + 2), .ref (P.length + 3), .ref (P.length + 4)]) : AC) :: [z, z, z, z]) := by
  have e : ((((P ++ [objOf dfls 1]) ++ [z]) ++ [z]) ++ [z]) ++ [z] = P ++ objOf dfls 1 :: [z, z, z, z] := by simp
  have a1 : List.length (P ++ [objOf dfls 1]) = P.length + 1 := by simp
  have a2 : List.length ((P ++ [objOf dfls 1]) ++ [z]) = P.length + 2 := by simp
  have a3 : List.length (((P ++ [objOf dfls 1]) ++ [z]) ++ [z]) = P.length + 3 := by simp
  have a4 : List.length ((((P ++ [objOf dfls 1]) ++ [z]) ++ [z]) ++ [z]) = P.length + 4 := by simp
  rw [e, a1, a2, a3, a4]
  exact cL_init d P [z, z, z, z] hP 0 (by omega) (by omega) (by omega) (by omega)
theorem gr24 (a : Nat) : gridC a 3 24 = [.inl (.array .int, refs 3 (fun i => if i < 3 then some (a + 1 + i) else none)), .inl (.int, 24, .inl (fun _ => 0)), .inl (.int, 24, .inl (fun _ => 0)), .inl (.int, 24, .inl (fun _ => 0))] := rfl
def X0 : XS := ((fun k => bif Nat.beq k 14 then upd (upd (upd (upd (fun _ => 0) (0 : Int32).toNatClampNeg 3) (1 : Int32).toNatClampNeg 3) (2 : Int32).toNatClampNeg 3) (3 : Int32).toNatClampNeg 3 else fun _ => 0), (fun _ => 0), (fun _ _ => none))
def N0 : SS := lay1 (stNw 38) 10
theorem cB_init (d : Nat) (g : GT) : call PGM (d + 4) yB_init [.ref 12] (gv g ++ [objOf dfls 6]) = some (none, gv g ++ (blkX X0 ++ (blkS 43 N0 ++ (blkS 59 N0 ++ blkS 75 N0)))) := by
  have k1 : call PGM (d + 4) yB_init [.ref 12] (gv g ++ [objOf dfls 6]) = sem PGM (d + 3) yB_init (0, [some (.ref 12), none], [], gv g ++ [objOf dfls 6]) := rfl
  have ob : objOf dfls 6 = .inr (6, [.null, .null, .null, .int 0, .null, .int 0, .null, .null, .null, .null, .null, .null, .null, .null]) := rfl
  have b12 : Nat.ble 12 12 = true := rfl
  have b34 : Nat.ble 12 34 = true := rfl
  have s0 : small 0 = true := sm_n (n := 0) (by omega)
  have s4 : small 4 = true := sm_n (n := 4) (by omega)
  have s200 : small 200 = true := sm_n (n := 200) (by omega)
  have ib0 : inb 0 (4 : Int32).toNatClampNeg = true := by decide
  have ib1 : inb 1 (4 : Int32).toNatClampNeg = true := by decide
  have ib2 : inb 2 (4 : Int32).toNatClampNeg = true := by decide
  have ib3 : inb 3 (4 : Int32).toNatClampNeg = true := by decide
  have c38 : (12 : Nat) ≤ 38 := by decide
  rw [k1, eB_init_0, b12, ob, s200]
  simp only [cond_true, Bool.and_true, Bool.true_and, Bool.and_self, Bool.not_false, List.set_cons_zero, List.set_cons_succ, List.nil_append, List.cons_append, List.append_assoc, List.length_cons, List.length_nil, blkS_len, blkS_la, Nat.zero_add, Nat.reduceAdd, lenG, catG]
  rw [eB_init_10, okG _ _ _ _ _ rfl, pFG, bq9 (by omega), blG, cR_init (d + 2) _ (lgGv _ _ _), aft0]
  simp only [cond_true, Bool.and_true, Bool.true_and, Bool.and_self, Bool.not_false, List.set_cons_zero, List.set_cons_succ, List.nil_append, List.cons_append, List.append_assoc, List.length_cons, List.length_nil, blkS_len, blkS_la, Nat.zero_add, Nat.reduceAdd, lenG, catG]
  rw [eB_init_21, okG _ _ _ _ _ rfl, pFG, bq9 (by omega), blG, cW_init (d + 2) _ (lgGv _ _ _), aft0, gr24]
  simp only [cond_true, Bool.and_true, Bool.true_and, Bool.and_self, Bool.not_false, List.set_cons_zero, List.set_cons_succ, List.nil_append, List.cons_append, List.append_assoc, List.length_cons, List.length_nil, blkS_len, blkS_la, Nat.zero_add, Nat.reduceAdd, lenG, catG]
  rw [eB_init_32, okG _ _ _ _ _ rfl, pFG, bq9 (by omega), blG, cW_init (d + 2) _ (lgGv _ _ _), aft0, gr24]
  simp only [cond_true, Bool.and_true, Bool.true_and, Bool.and_self, Bool.not_false, List.set_cons_zero, List.set_cons_succ, List.nil_append, List.cons_append, List.append_assoc, List.length_cons, List.length_nil, blkS_len, blkS_la, Nat.zero_add, Nat.reduceAdd, lenG, catG]
  rw [eB_init_43, okG _ _ _ _ _ rfl, pFG, bq9 (by omega)]
  simp only [cond_true, Bool.and_true, Bool.true_and, Bool.and_self, Bool.not_false, List.set_cons_zero, List.set_cons_succ, List.nil_append, List.cons_append, List.append_assoc, List.length_cons, List.length_nil, blkS_len, blkS_la, Nat.zero_add, Nat.reduceAdd, lenG, catG]
  rw [eB_init_46, s4]
  simp only [cond_true, Bool.and_true, Bool.true_and, Bool.and_self, Bool.not_false, List.set_cons_zero, List.set_cons_succ, List.nil_append, List.cons_append, List.append_assoc, List.length_cons, List.length_nil, blkS_len, blkS_la, Nat.zero_add, Nat.reduceAdd, lenG, catG]
  rw [eB_init_51, okG _ _ _ _ _ rfl, pFG, bq9 (by omega)]
  simp only [cond_true, Bool.and_true, Bool.true_and, Bool.and_self, Bool.not_false, List.set_cons_zero, List.set_cons_succ, List.nil_append, List.cons_append, List.append_assoc, List.length_cons, List.length_nil, blkS_len, blkS_la, Nat.zero_add, Nat.reduceAdd, lenG, catG]
  rw [eB_init_54, s4]
  simp only [cond_true, Bool.and_true, Bool.true_and, Bool.and_self, Bool.not_false, List.set_cons_zero, List.set_cons_succ, List.nil_append, List.cons_append, List.append_assoc, List.length_cons, List.length_nil, blkS_len, blkS_la, Nat.zero_add, Nat.reduceAdd, lenG, catG]
  rw [eB_init_59, okG _ _ _ _ _ rfl, pFG, bq9 (by omega)]
  simp only [cond_true, Bool.and_true, Bool.true_and, Bool.and_self, Bool.not_false, List.set_cons_zero, List.set_cons_succ, List.nil_append, List.cons_append, List.append_assoc, List.length_cons, List.length_nil, blkS_len, blkS_la, Nat.zero_add, Nat.reduceAdd, lenG, catG]
  rw [eB_init_62, s4]
  simp only [cond_true, Bool.and_true, Bool.true_and, Bool.and_self, Bool.not_false, List.set_cons_zero, List.set_cons_succ, List.nil_append, List.cons_append, List.append_assoc, List.length_cons, List.length_nil, blkS_len, blkS_la, Nat.zero_add, Nat.reduceAdd, lenG, catG]
  rw [eB_init_66, b34, iaG g _ 0 rfl, waG g _ 0 3 rfl, ib0]
  simp only [cond_true, Bool.and_true, Bool.true_and, Bool.and_self, Bool.not_false, List.set_cons_zero, List.set_cons_succ, List.nil_append, List.cons_append, List.append_assoc, List.length_cons, List.length_nil, blkS_len, blkS_la, Nat.zero_add, Nat.reduceAdd, lenG, catG]
  rw [eB_init_70, b34, iaG g _ 1 rfl, waG g _ 1 3 rfl, ib1]
  simp only [cond_true, Bool.and_true, Bool.true_and, Bool.and_self, Bool.not_false, List.set_cons_zero, List.set_cons_succ, List.nil_append, List.cons_append, List.append_assoc, List.length_cons, List.length_nil, blkS_len, blkS_la, Nat.zero_add, Nat.reduceAdd, lenG, catG]
  rw [eB_init_74, b34, iaG g _ 2 rfl, waG g _ 2 3 rfl, ib2]
  simp only [cond_true, Bool.and_true, Bool.true_and, Bool.and_self, Bool.not_false, List.set_cons_zero, List.set_cons_succ, List.nil_append, List.cons_append, List.append_assoc, List.length_cons, List.length_nil, blkS_len, blkS_la, Nat.zero_add, Nat.reduceAdd, lenG, catG]
  rw [eB_init_78, b34, iaG g _ 3 rfl, waG g _ 3 3 rfl, ib3]
  simp only [cond_true, Bool.and_true, Bool.true_and, Bool.and_self, Bool.not_false, List.set_cons_zero, List.set_cons_succ, List.nil_append, List.cons_append, List.append_assoc, List.length_cons, List.length_nil, blkS_len, blkS_la, Nat.zero_add, Nat.reduceAdd, lenG, catG]
  rw [eB_init_82, okG _ _ _ _ _ rfl, pFG, bq9 (by omega)]
  simp only [cond_true, Bool.and_true, Bool.true_and, Bool.and_self, Bool.not_false, List.set_cons_zero, List.set_cons_succ, List.nil_append, List.cons_append, List.append_assoc, List.length_cons, List.length_nil, blkS_len, blkS_la, Nat.zero_add, Nat.reduceAdd, lenG, catG]
  rw [eB_init_85, s4]
  simp only [cond_true, Bool.and_true, Bool.true_and, Bool.and_self, Bool.not_false, List.set_cons_zero, List.set_cons_succ, List.nil_append, List.cons_append, List.append_assoc, List.length_cons, List.length_nil, blkS_len, blkS_la, Nat.zero_add, Nat.reduceAdd, lenG, catG]
  rw [eB_init_89, okG _ _ _ _ _ rfl, pFG, bq9 (by omega), blG, cD_init (d + 2) _ (lgGv _ _ _), aft0]
  simp only [cond_true, Bool.and_true, Bool.true_and, Bool.and_self, Bool.not_false, List.set_cons_zero, List.set_cons_succ, List.nil_append, List.cons_append, List.append_assoc, List.length_cons, List.length_nil, blkS_len, blkS_la, Nat.zero_add, Nat.reduceAdd, lenG, catG]
  rw [eB_init_100, okG _ _ _ _ _ rfl, pFG, bq9 (by omega), s0, blG, cL_new (d + 2) _ (lgGv _ _ _), aft0]
  simp only [cond_true, Bool.and_true, Bool.true_and, Bool.and_self, Bool.not_false, List.set_cons_zero, List.set_cons_succ, List.nil_append, List.cons_append, List.append_assoc, List.length_cons, List.length_nil, blkS_len, blkS_la, Nat.zero_add, Nat.reduceAdd, lenG, catG]
  rw [eB_init_123, blG, cS_init (d + 1) _ (lgGv _ _ _) (h3G _ _) (h6G _ _) c38, aft0]
  simp only [cond_true, Bool.and_true, Bool.true_and, Bool.and_self, Bool.not_false, List.set_cons_zero, List.set_cons_succ, List.nil_append, List.cons_append, List.append_assoc, List.length_cons, List.length_nil, blkS_len, blkS_la, Nat.zero_add, Nat.reduceAdd, lenG, catG]
  rw [eB_init_133, okG _ _ _ _ _ rfl, pFG, bq9 (by omega), blG, cS_init (d + 1) _ (lgGv _ _ _) (h3G _ _) (h6G _ _) c38, aft0]
  simp only [cond_true, Bool.and_true, Bool.true_and, Bool.and_self, Bool.not_false, List.set_cons_zero, List.set_cons_succ, List.nil_append, List.cons_append, List.append_assoc, List.length_cons, List.length_nil, blkS_len, blkS_la, Nat.zero_add, Nat.reduceAdd, lenG, catG]
  rw [eB_init_145, okG _ _ _ _ _ rfl, pFG, bq9 (by omega), blG, cS_init (d + 1) _ (lgGv _ _ _) (h3G _ _) (h6G _ _) c38, aft0]
  simp only [cond_true, Bool.and_true, Bool.true_and, Bool.and_self, Bool.not_false, List.set_cons_zero, List.set_cons_succ, List.nil_append, List.cons_append, List.append_assoc, List.length_cons, List.length_nil, blkS_len, blkS_la, Nat.zero_add, Nat.reduceAdd, lenG, catG]
  rw [eB_init_157, okG _ _ _ _ _ rfl, pFG, bq9 (by omega)]
  simp only [cond_true, Bool.and_true, Bool.true_and, Bool.and_self, Bool.not_false, List.set_cons_zero, List.set_cons_succ, List.nil_append, List.cons_append, List.append_assoc, List.length_cons, List.length_nil, blkS_len, blkS_la, Nat.zero_add, Nat.reduceAdd, lenG, catG]
  rfl
