/-! Constructor of the model, up to its first writing. -/
theorem set_g (A R : AH) (k : Nat) (c : AC) : (A ++ R).set (A.length + k) c = A ++ R.set k c := by
  rw [List.set_append_right _ _ (by omega), Nat.add_sub_cancel_left]
theorem wA_g (A R : AH) (k : Nat) (i v : Int32) {n : Nat} {f : Nat → Int32} (h : hat R k = some (.inl (.int, n, .inl f))) : wA (A ++ R) (A.length + k) i v = A ++ R.set k (.inl (.int, n, .inl (upd f i.toNatClampNeg v))) := by
  unfold wA
  rw [hat_ge, h]
  exact set_g A R k _
theorem inA_g (A R : AH) (k : Nat) (i : Int32) {n : Nat} {f : Nat → Int32} (h : hat R k = some (.inl (.int, n, .inl f))) : inA (A ++ R) (A.length + k) 0 i = inb i n := by
  unfold inA
  rw [hat_ge, h]
  rfl
theorem cM_init171 (d : Nat) (A : AH) (hA : 12 ≤ A.length) : call PGM (d + 1) yM_init [.ref A.length] (A ++ [objOf dfls 7]) = sem PGM d yM_init (171, [some (.ref A.length)], [], A ++ (.inr (7, [.ref (A.length + 1), .ref (A.length + 2), .ref (A.length + 3), .int 0, .ref (A.length + 4), .ref (A.length + 5), .ref (A.length + 6), .int 0, .int 0, .int 0, .int 0, .int 0, .int 0, .int 0, .ref (A.length + 7), .int (-1), .ref (A.length + 8), .int 0, .int 0, .int 0, .int 0, .int 0, .ref (A.length + 9), .int 0, .ref (A.length + 10), .ref (A.length + 11), .ref (A.length + 12), .ref (A.length + 13), .ref (A.length + 14), .ref (A.length + 15), .int 0, .int 0, .int 0, .ref (A.length + 16), .int 0, .int 0]) : AC) :: [.inl (.int, 437, .inl (fun _ => 0)), .inl (.int, 437, .inl (fun _ => 0)), .inl (.int, 437, .inl (fun _ => 0)), .inl (.int, 200, .inl (fun _ => 0)), .inl (.int, 200, .inl (fun _ => 0)), .inl (.int, 40, .inl (fun _ => 0)), .inl (.int, 200, .inl (fun _ => 0)), .inl (.int, 72, .inl (fun _ => 0)), .inl (.int, 72, .inl (fun _ => 0)), .inl (.int, 4, .inl (upd (upd (upd (upd (fun _ => 0) (0 : Int32).toNatClampNeg (-1)) (1 : Int32).toNatClampNeg (-1)) (2 : Int32).toNatClampNeg (-1)) (3 : Int32).toNatClampNeg (-1))), .inl (.int, 4, .inl (fun _ => 0)), .inl (.int, 160, .inl (fun _ => 0)), .inl (.int, 4, .inl (upd (upd (upd (upd (fun _ => 0) (0 : Int32).toNatClampNeg 3) (1 : Int32).toNatClampNeg 3) (2 : Int32).toNatClampNeg 3) (3 : Int32).toNatClampNeg 3)), .inl (.int, 4, .inl (fun _ => 0)), .inl (.int, 4, .inl (fun _ => 0)), .inl (.int, 30, .inl (fun _ => 0))]) := by
  have k1 : call PGM (d + 1) yM_init [.ref A.length] (A ++ [objOf dfls 7]) = sem PGM d yM_init (0, [some (.ref A.length)], [], A ++ [objOf dfls 7]) := rfl
  have ob : objOf dfls 7 = .inr (7, [.null, .null, .null, .int 0, .null, .null, .null, .int 0, .int 0, .int 0, .int 0, .int 0, .int 0, .int 0, .null, .int 0, .null, .int 0, .int 0, .int 0, .int 0, .int 0, .null, .int 0, .null, .null, .null, .null, .null, .null, .int 0, .int 0, .int 0, .null, .int 0, .int 0]) := rfl
  have b12 : ∀ a, 12 ≤ a → Nat.ble 12 a = true := fun a h => Nat.ble_eq_true_of_le h
  have s4 : small 4 = true := sm_n (n := 4) (by omega)
  have s30 : small 30 = true := sm_n (n := 30) (by omega)
  have s40 : small 40 = true := sm_n (n := 40) (by omega)
  have s72 : small 72 = true := sm_n (n := 72) (by omega)
  have s160 : small 160 = true := sm_n (n := 160) (by omega)
  have s200 : small 200 = true := sm_n (n := 200) (by omega)
  have s437 : small 437 = true := sm_n (n := 437) (by omega)
  have ib0 : inb 0 (4 : Int32).toNatClampNeg = true := by decide
  have ib1 : inb 1 (4 : Int32).toNatClampNeg = true := by decide
  have ib2 : inb 2 (4 : Int32).toNatClampNeg = true := by decide
  have ib3 : inb 3 (4 : Int32).toNatClampNeg = true := by decide
  rw [k1, eM_init_0, Nat.ble_eq_true_of_le hA, ob]
  rw [s437, arr_c, arr_l]
  simp only [cond_true, Bool.and_true, Bool.true_and, Bool.and_self, Bool.not_false, List.set_cons_zero, List.set_cons_succ, List.nil_append, List.cons_append, List.length_cons, List.length_nil, Nat.zero_add, Nat.reduceAdd]
  rw [eM_init_10, okP_t _ _ _ _ _ hA rfl, pF_at, bq9 (by omega)]
  simp only [cond_true, Bool.and_true, Bool.true_and, Bool.and_self, Bool.not_false, List.set_cons_zero, List.set_cons_succ, List.nil_append, List.cons_append, List.length_cons, List.length_nil, Nat.zero_add, Nat.reduceAdd]
  rw [eM_init_13, s437, arr_c, arr_l]
  simp only [cond_true, Bool.and_true, Bool.true_and, Bool.and_self, Bool.not_false, List.set_cons_zero, List.set_cons_succ, List.nil_append, List.cons_append, List.length_cons, List.length_nil, Nat.zero_add, Nat.reduceAdd]
  rw [eM_init_19, okP_t _ _ _ _ _ hA rfl, pF_at, bq9 (by omega)]
  simp only [cond_true, Bool.and_true, Bool.true_and, Bool.and_self, Bool.not_false, List.set_cons_zero, List.set_cons_succ, List.nil_append, List.cons_append, List.length_cons, List.length_nil, Nat.zero_add, Nat.reduceAdd]
  rw [eM_init_22, s437, arr_c, arr_l]
  simp only [cond_true, Bool.and_true, Bool.true_and, Bool.and_self, Bool.not_false, List.set_cons_zero, List.set_cons_succ, List.nil_append, List.cons_append, List.length_cons, List.length_nil, Nat.zero_add, Nat.reduceAdd]
  rw [eM_init_28, okP_t _ _ _ _ _ hA rfl, pF_at, bq9 (by omega)]
  simp only [cond_true, Bool.and_true, Bool.true_and, Bool.and_self, Bool.not_false, List.set_cons_zero, List.set_cons_succ, List.nil_append, List.cons_append, List.length_cons, List.length_nil, Nat.zero_add, Nat.reduceAdd]
  rw [eM_init_31, s200, arr_c, arr_l]
  simp only [cond_true, Bool.and_true, Bool.true_and, Bool.and_self, Bool.not_false, List.set_cons_zero, List.set_cons_succ, List.nil_append, List.cons_append, List.length_cons, List.length_nil, Nat.zero_add, Nat.reduceAdd]
  rw [eM_init_37, okP_t _ _ _ _ _ hA rfl, pF_at, bq9 (by omega)]
  simp only [cond_true, Bool.and_true, Bool.true_and, Bool.and_self, Bool.not_false, List.set_cons_zero, List.set_cons_succ, List.nil_append, List.cons_append, List.length_cons, List.length_nil, Nat.zero_add, Nat.reduceAdd]
  rw [eM_init_40, s200, arr_c, arr_l]
  simp only [cond_true, Bool.and_true, Bool.true_and, Bool.and_self, Bool.not_false, List.set_cons_zero, List.set_cons_succ, List.nil_append, List.cons_append, List.length_cons, List.length_nil, Nat.zero_add, Nat.reduceAdd]
  rw [eM_init_46, okP_t _ _ _ _ _ hA rfl, pF_at, bq9 (by omega)]
  simp only [cond_true, Bool.and_true, Bool.true_and, Bool.and_self, Bool.not_false, List.set_cons_zero, List.set_cons_succ, List.nil_append, List.cons_append, List.length_cons, List.length_nil, Nat.zero_add, Nat.reduceAdd]
  rw [eM_init_49, s40, arr_c, arr_l]
  simp only [cond_true, Bool.and_true, Bool.true_and, Bool.and_self, Bool.not_false, List.set_cons_zero, List.set_cons_succ, List.nil_append, List.cons_append, List.length_cons, List.length_nil, Nat.zero_add, Nat.reduceAdd]
  rw [eM_init_54, okP_t _ _ _ _ _ hA rfl, pF_at, bq9 (by omega)]
  simp only [cond_true, Bool.and_true, Bool.true_and, Bool.and_self, Bool.not_false, List.set_cons_zero, List.set_cons_succ, List.nil_append, List.cons_append, List.length_cons, List.length_nil, Nat.zero_add, Nat.reduceAdd]
  rw [eM_init_57, s200, arr_c, arr_l]
  simp only [cond_true, Bool.and_true, Bool.true_and, Bool.and_self, Bool.not_false, List.set_cons_zero, List.set_cons_succ, List.nil_append, List.cons_append, List.length_cons, List.length_nil, Nat.zero_add, Nat.reduceAdd]
  rw [eM_init_63, okP_t _ _ _ _ _ hA rfl, pF_at, bq9 (by omega)]
  simp only [cond_true, Bool.and_true, Bool.true_and, Bool.and_self, Bool.not_false, List.set_cons_zero, List.set_cons_succ, List.nil_append, List.cons_append, List.length_cons, List.length_nil, Nat.zero_add, Nat.reduceAdd]
  rw [eM_init_66, okP_t _ _ _ _ _ hA rfl, pF_at]
  simp only [cond_true, Bool.and_true, Bool.true_and, Bool.and_self, Bool.not_false, List.set_cons_zero, List.set_cons_succ, List.nil_append, List.cons_append, List.length_cons, List.length_nil, Nat.zero_add, Nat.reduceAdd]
  rw [eM_init_71, s72, arr_c, arr_l]
  simp only [cond_true, Bool.and_true, Bool.true_and, Bool.and_self, Bool.not_false, List.set_cons_zero, List.set_cons_succ, List.nil_append, List.cons_append, List.length_cons, List.length_nil, Nat.zero_add, Nat.reduceAdd]
  rw [eM_init_76, okP_t _ _ _ _ _ hA rfl, pF_at, bq9 (by omega)]
  simp only [cond_true, Bool.and_true, Bool.true_and, Bool.and_self, Bool.not_false, List.set_cons_zero, List.set_cons_succ, List.nil_append, List.cons_append, List.length_cons, List.length_nil, Nat.zero_add, Nat.reduceAdd]
  rw [eM_init_79, s72, arr_c, arr_l]
  simp only [cond_true, Bool.and_true, Bool.true_and, Bool.and_self, Bool.not_false, List.set_cons_zero, List.set_cons_succ, List.nil_append, List.cons_append, List.length_cons, List.length_nil, Nat.zero_add, Nat.reduceAdd]
  rw [eM_init_84, okP_t _ _ _ _ _ hA rfl, pF_at, bq9 (by omega)]
  simp only [cond_true, Bool.and_true, Bool.true_and, Bool.and_self, Bool.not_false, List.set_cons_zero, List.set_cons_succ, List.nil_append, List.cons_append, List.length_cons, List.length_nil, Nat.zero_add, Nat.reduceAdd]
  rw [eM_init_87, s4, arr_c, arr_l]
  simp only [cond_true, Bool.and_true, Bool.true_and, Bool.and_self, Bool.not_false, List.set_cons_zero, List.set_cons_succ, List.nil_append, List.cons_append, List.length_cons, List.length_nil, Nat.zero_add, Nat.reduceAdd]
  rw [eM_init_91, b12 _ (by omega), inA_g A _ 10 0 rfl, wA_g A _ 10 0 (-1) rfl, ib0]
  simp only [cond_true, Bool.and_true, Bool.true_and, Bool.and_self, Bool.not_false, List.set_cons_zero, List.set_cons_succ, List.nil_append, List.cons_append, List.length_cons, List.length_nil, Nat.zero_add, Nat.reduceAdd]
  rw [eM_init_95, b12 _ (by omega), inA_g A _ 10 1 rfl, wA_g A _ 10 1 (-1) rfl, ib1]
  simp only [cond_true, Bool.and_true, Bool.true_and, Bool.and_self, Bool.not_false, List.set_cons_zero, List.set_cons_succ, List.nil_append, List.cons_append, List.length_cons, List.length_nil, Nat.zero_add, Nat.reduceAdd]
  rw [eM_init_99, b12 _ (by omega), inA_g A _ 10 2 rfl, wA_g A _ 10 2 (-1) rfl, ib2]
  simp only [cond_true, Bool.and_true, Bool.true_and, Bool.and_self, Bool.not_false, List.set_cons_zero, List.set_cons_succ, List.nil_append, List.cons_append, List.length_cons, List.length_nil, Nat.zero_add, Nat.reduceAdd]
  rw [eM_init_103, b12 _ (by omega), inA_g A _ 10 3 rfl, wA_g A _ 10 3 (-1) rfl, ib3]
  simp only [cond_true, Bool.and_true, Bool.true_and, Bool.and_self, Bool.not_false, List.set_cons_zero, List.set_cons_succ, List.nil_append, List.cons_append, List.length_cons, List.length_nil, Nat.zero_add, Nat.reduceAdd]
  rw [eM_init_107, okP_t _ _ _ _ _ hA rfl, pF_at, bq9 (by omega)]
  simp only [cond_true, Bool.and_true, Bool.true_and, Bool.and_self, Bool.not_false, List.set_cons_zero, List.set_cons_succ, List.nil_append, List.cons_append, List.length_cons, List.length_nil, Nat.zero_add, Nat.reduceAdd]
  rw [eM_init_110, s4, arr_c, arr_l]
  simp only [cond_true, Bool.and_true, Bool.true_and, Bool.and_self, Bool.not_false, List.set_cons_zero, List.set_cons_succ, List.nil_append, List.cons_append, List.length_cons, List.length_nil, Nat.zero_add, Nat.reduceAdd]
  rw [eM_init_114, okP_t _ _ _ _ _ hA rfl, pF_at, bq9 (by omega)]
  simp only [cond_true, Bool.and_true, Bool.true_and, Bool.and_self, Bool.not_false, List.set_cons_zero, List.set_cons_succ, List.nil_append, List.cons_append, List.length_cons, List.length_nil, Nat.zero_add, Nat.reduceAdd]
  rw [eM_init_117, s160, arr_c, arr_l]
  simp only [cond_true, Bool.and_true, Bool.true_and, Bool.and_self, Bool.not_false, List.set_cons_zero, List.set_cons_succ, List.nil_append, List.cons_append, List.length_cons, List.length_nil, Nat.zero_add, Nat.reduceAdd]
  rw [eM_init_123, okP_t _ _ _ _ _ hA rfl, pF_at, bq9 (by omega)]
  simp only [cond_true, Bool.and_true, Bool.true_and, Bool.and_self, Bool.not_false, List.set_cons_zero, List.set_cons_succ, List.nil_append, List.cons_append, List.length_cons, List.length_nil, Nat.zero_add, Nat.reduceAdd]
  rw [eM_init_126, s4, arr_c, arr_l]
  simp only [cond_true, Bool.and_true, Bool.true_and, Bool.and_self, Bool.not_false, List.set_cons_zero, List.set_cons_succ, List.nil_append, List.cons_append, List.length_cons, List.length_nil, Nat.zero_add, Nat.reduceAdd]
  rw [eM_init_130, b12 _ (by omega), inA_g A _ 13 0 rfl, wA_g A _ 13 0 3 rfl, ib0]
  simp only [cond_true, Bool.and_true, Bool.true_and, Bool.and_self, Bool.not_false, List.set_cons_zero, List.set_cons_succ, List.nil_append, List.cons_append, List.length_cons, List.length_nil, Nat.zero_add, Nat.reduceAdd]
  rw [eM_init_134, b12 _ (by omega), inA_g A _ 13 1 rfl, wA_g A _ 13 1 3 rfl, ib1]
  simp only [cond_true, Bool.and_true, Bool.true_and, Bool.and_self, Bool.not_false, List.set_cons_zero, List.set_cons_succ, List.nil_append, List.cons_append, List.length_cons, List.length_nil, Nat.zero_add, Nat.reduceAdd]
  rw [eM_init_138, b12 _ (by omega), inA_g A _ 13 2 rfl, wA_g A _ 13 2 3 rfl, ib2]
  simp only [cond_true, Bool.and_true, Bool.true_and, Bool.and_self, Bool.not_false, List.set_cons_zero, List.set_cons_succ, List.nil_append, List.cons_append, List.length_cons, List.length_nil, Nat.zero_add, Nat.reduceAdd]
  rw [eM_init_142, b12 _ (by omega), inA_g A _ 13 3 rfl, wA_g A _ 13 3 3 rfl, ib3]
  simp only [cond_true, Bool.and_true, Bool.true_and, Bool.and_self, Bool.not_false, List.set_cons_zero, List.set_cons_succ, List.nil_append, List.cons_append, List.length_cons, List.length_nil, Nat.zero_add, Nat.reduceAdd]
  rw [eM_init_146, okP_t _ _ _ _ _ hA rfl, pF_at, bq9 (by omega)]
  simp only [cond_true, Bool.and_true, Bool.true_and, Bool.and_self, Bool.not_false, List.set_cons_zero, List.set_cons_succ, List.nil_append, List.cons_append, List.length_cons, List.length_nil, Nat.zero_add, Nat.reduceAdd]
  rw [eM_init_149, s4, arr_c, arr_l]
  simp only [cond_true, Bool.and_true, Bool.true_and, Bool.and_self, Bool.not_false, List.set_cons_zero, List.set_cons_succ, List.nil_append, List.cons_append, List.length_cons, List.length_nil, Nat.zero_add, Nat.reduceAdd]
  rw [eM_init_153, okP_t _ _ _ _ _ hA rfl, pF_at, bq9 (by omega)]
  simp only [cond_true, Bool.and_true, Bool.true_and, Bool.and_self, Bool.not_false, List.set_cons_zero, List.set_cons_succ, List.nil_append, List.cons_append, List.length_cons, List.length_nil, Nat.zero_add, Nat.reduceAdd]
  rw [eM_init_156, s4, arr_c, arr_l]
  simp only [cond_true, Bool.and_true, Bool.true_and, Bool.and_self, Bool.not_false, List.set_cons_zero, List.set_cons_succ, List.nil_append, List.cons_append, List.length_cons, List.length_nil, Nat.zero_add, Nat.reduceAdd]
  rw [eM_init_160, okP_t _ _ _ _ _ hA rfl, pF_at, bq9 (by omega)]
  simp only [cond_true, Bool.and_true, Bool.true_and, Bool.and_self, Bool.not_false, List.set_cons_zero, List.set_cons_succ, List.nil_append, List.cons_append, List.length_cons, List.length_nil, Nat.zero_add, Nat.reduceAdd]
  rw [eM_init_163, s30, arr_c, arr_l]
  simp only [cond_true, Bool.and_true, Bool.true_and, Bool.and_self, Bool.not_false, List.set_cons_zero, List.set_cons_succ, List.nil_append, List.cons_append, List.length_cons, List.length_nil, Nat.zero_add, Nat.reduceAdd]
  rw [eM_init_168, okP_t _ _ _ _ _ hA rfl, pF_at, bq9 (by omega)]
  simp only [cond_true, Bool.and_true, Bool.true_and, Bool.and_self, Bool.not_false, List.set_cons_zero, List.set_cons_succ, List.nil_append, List.cons_append, List.length_cons, List.length_nil, Nat.zero_add, Nat.reduceAdd]
  rfl
