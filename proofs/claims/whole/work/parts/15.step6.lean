/-! Soundness: what is made; natives. -/
theorem small_spec {n : Int32} (h : small n = true) : ¬ n < 0 ∧ n.toNatClampNeg ≤ 100000 := by
  unfold small at h
  rw [Bool.and_eq_true, decide_eq_true_eq, decide_eq_true_eq] at h
  have h1 := Int32.le_iff_toInt_le.mp h.1
  have h2 := Int32.le_iff_toInt_le.mp h.2
  have e1 : (0 : Int32).toInt = 0 := by decide
  have e2 : (100000 : Int32).toInt = 100000 := by decide
  rw [e1] at h1
  rw [e2] at h2
  refine ⟨fun z => ?_, ?_⟩
  · have := Int32.lt_iff_toInt_lt.mp z
    rw [e1] at this
    omega
  · show n.toInt.toNat ≤ 100000
    omega
section STEP6
variable {p : Program} {l : Launch} {e : Env} {R : Room} {s : State} {m : MethodId} {args : Array Value} {below : List Frame} {meth : Method} {c : Code} {Q : State → Prop} {V : EV} {y d n0 s0 : Nat} {hF : AH}
variable {call : Nat → List Value → AH → Res} {nx : AS → Res} {rv : Option Value}
theorem tc_int (G : Gs V s) : s.vm.findClass ("[" ++ FieldType.int.toString) = some (V.tc .int) := (G.1.2 0 _ rfl).2
theorem tc_byte (G : Gs V s) : s.vm.findClass ("[" ++ FieldType.byte.toString) = some (V.tc .byte) := (G.1.2 1 _ rfl).2
theorem tc_grid (G : Gs V s) : s.vm.findClass ("[" ++ (FieldType.array .int).toString) = some (V.tc (.array .int)) := (G.1.2 2 _ rfl).2
theorem tc_obj (G : Gs V s) : s.vm.findClass ("[" ++ (FieldType.object "BullStreet$Sheet").toString) = some (V.tc .char) := by
  obtain ⟨kA, comp, h1, h2, h3, h4⟩ := (G.1.2 3 _ rfl).2
  exact h4
theorem arr_in (ty : FieldType) (h : ty = .int ∨ ty = .byte) : Cond.arrayClass ty ∈ tblG := by
  rcases h with rfl | rfl
  · exact List.mem_filter.mpr ⟨by decide +kernel, by decide +kernel⟩
  · exact List.mem_filter.mpr ⟨by decide +kernel, by decide +kernel⟩
theorem s_new {pc np x ci : Nat} {ops : List Nat} {h : AH} {ls : LV} {st : List Value} (C : Cxt p R s m args meth c V y d n0 s0 hF) (hnp : np = pc + 3) (hd : decode (mby y) pc = .ok (.new x, 3)) {C0 : String} {T0 : u_T} {N0 q : Nat} (hci : vwCl[ci]? = some (C0, T0, N0)) (hw : wd q (.classLink (mnm y).cls x C0) = true)
    (G : Gd p l e R s m args below meth c Q V (mloc y) n0 s0 hF (np, ls, .ref h.length :: st, h ++ [objOf dfls ci])) : Gd p l e R s m args below meth c Q V (mloc y) n0 s0 hF (pc, ls, st, h) := by
  have CC := C
  obtain ⟨hx, hb, hml, hown, hts, Gs0, hnam, -⟩ := C
  subst hnp
  obtain ⟨c1, ⟨ty, hty, hdf⟩, c3, c4, c5, c6, c7, c8⟩ := cls_ok V ci C0 T0 N0 hci
  have hsl : slc (objOf dfls ci) = N0 := c7
  refine gd_new CC G (fun H locs lsR ce sc h1 h2 w S L kk => ?_)
  rw [hsl] at h2 kk
  exact va_new (D := V.1) (cl := vwCl) (tys := tys4 V) (H0 := s.heap) (A := fun q => V.B ≤ q) (C := C0) (T := T0) (N := N0) (fs := (dfls ci).map (cv V)) hx hb hts c1 ty hty hown (hts _ (wd_in hw)) (hts _ c4) (hts _ c5) Gs0.1 w.1 wsO_D S (fun q hq => Nat.le_trans Gs0.2.1 hq) hci hdf h1 h2 hd (fun q H1 P1 D1 S1 => kk q H1 P1 D1 S1)
theorem s_newa {pc np t : Nat} {at0 : ArrayType} {n : Int32} {h : AH} {ls : LV} {r : List Value} (C : Cxt p R s m args meth c V y d n0 s0 hF) (hnp : np = pc + 2) (hd : decode (mby y) pc = .ok (.newarray at0, 2)) (ht : (t = 0 ∧ at0 = .int) ∨ (t = 1 ∧ at0 = .byte)) (hs : small n = true)
    (G : Gd p l e R s m args below meth c Q V (mloc y) n0 s0 hF (np, ls, .ref h.length :: r, h ++ [.inl (tyN t, ints n.toNatClampNeg)])) : Gd p l e R s m args below meth c Q V (mloc y) n0 s0 hF (pc, ls, .int n :: r, h) := by
  have CC := C
  obtain ⟨hx, hb, hml, hown, hts, Gs0, hnam, -⟩ := C
  subst hnp
  obtain ⟨hn1, hn2⟩ := small_spec hs
  refine gd_new CC G (fun H locs lsR ce sc h1 h2 w S L kk => ?_)
  have h2' : sc + n.toNatClampNeg ≤ R.slots := h2
  rcases ht with ⟨rfl, rfl⟩ | ⟨rfl, rfl⟩
  · refine va_newa (atype := .int) (D := V.1) (cl := vwCl) (tys := tys4 V) (H0 := s.heap) (A := fun q => V.B ≤ q) (ty := .int) (a0 := ints n.toNatClampNeg) hx hb (hts _ (arr_in .int (Or.inl rfl))) rfl Gs0.1 w.1 wsO_D S (fun q hq => Nat.le_trans Gs0.2.1 hq) (fun cA => rfl) hn1 rfl (by show n.toNatClampNeg * 4 ≤ _; omega) h1 h2' hd (fun q cA H1 K1 P1 D1 S1 => ?_)
    have hcA : cA = V.tc .int := by
      have h3 := (K1.2 4 (cA, .int) rfl).2
      exact Option.some.inj (h3.symm.trans (tc_int Gs0))
    subst hcA
    exact kk q H1 P1 D1 S1
  · refine va_newa (atype := .byte) (D := V.1) (cl := vwCl) (tys := tys4 V) (H0 := s.heap) (A := fun q => V.B ≤ q) (ty := .byte) (a0 := ints n.toNatClampNeg) hx hb (hts _ (arr_in .byte (Or.inr rfl))) rfl Gs0.1 w.1 wsO_D S (fun q hq => Nat.le_trans Gs0.2.1 hq) (fun cA => rfl) hn1 rfl (by show n.toNatClampNeg * 1 ≤ _; omega) h1 h2' hd (fun q cA H1 K1 P1 D1 S1 => ?_)
    have hcA : cA = V.tc .byte := by
      have h3 := (K1.2 4 (cA, .byte) rfl).2
      exact Option.some.inj (h3.symm.trans (tc_byte Gs0))
    subst hcA
    exact kk q H1 P1 D1 S1
theorem s_newq {pc np x q : Nat} {n : Int32} {h : AH} {ls : LV} {r : List Value} (C : Cxt p R s m args meth c V y d n0 s0 hF) (hnp : np = pc + 3) (hd : decode (mby y) pc = .ok (.anewarray x, 3)) (hw : wd q (.classLink (mnm y).cls x "BullStreet$Sheet") = true) (hs : small n = true)
    (G : Gd p l e R s m args below meth c Q V (mloc y) n0 s0 hF (np, ls, .ref h.length :: r, h ++ [.inl (.char, refs n.toNatClampNeg (fun _ => none))])) : Gd p l e R s m args below meth c Q V (mloc y) n0 s0 hF (pc, ls, .int n :: r, h) := by
  have CC := C
  obtain ⟨hx, hb, hml, hown, hts, Gs0, hnam, -⟩ := C
  subst hnp
  obtain ⟨hn1, hn2⟩ := small_spec hs
  refine gd_new CC G (fun H locs lsR ce sc h1 h2 w S L kk => ?_)
  have h2' : sc + n.toNatClampNeg ≤ R.slots := h2
  refine va_newq (C := "BullStreet$Sheet") (D := V.1) (cl := vwCl) (tys := tys4 V) (H0 := s.heap) (A := fun q => V.B ≤ q) hx hb hown (hts _ (wd_in hw)) Gs0.2.2.2.2.1 Gs0.1 w.1 wsO_D S (fun q hq => Nat.le_trans Gs0.2.1 hq) hn1 rfl (by omega) h1 h2' hd (fun q cA H1 K1 P1 D1 S1 => ?_)
  have hcA : cA = V.tc .char := by
    obtain ⟨kA, comp, h3, h4, h5, h6⟩ := (K1.2 4 (cA, .object "BullStreet$Sheet") rfl).2
    exact Option.some.inj (h6.symm.trans (tc_obj Gs0))
  subst hcA
  exact kk q H1 P1 D1 S1
theorem s_cast {pc np x q a : Nat} {h : AH} {ls : LV} {r : List Value} (C : Cxt p R s m args meth c V y d n0 s0 hF) (hnp : np = pc + 3) (hd : decode (mby y) pc = .ok (.checkcast x, 3)) (hw : wd q (.classLink (mnm y).cls x "[I") = true) (hi : isI h a = true) (ha : 12 ≤ a)
    (G : Gd p l e R s m args below meth c Q V (mloc y) n0 s0 hF (np, ls, .ref a :: r, h)) : Gd p l e R s m args below meth c Q V (mloc y) n0 s0 hF (pc, ls, .ref a :: r, h) := by
  obtain ⟨hx, hb, hml, hown, hts, Gs0, hnam, -⟩ := C
  subst hnp
  refine gd_go rfl G (fun H locs lsR ce sc w S L kk => ?_)
  unfold isI at hi
  split at hi
  · rename_i n f hc
    have k1 := kk lsR L
    rw [List.map_cons, cv_ref (by omega)] at k1 ⊢
    exact va_castA (D := V.1) (cl := vwCl) hx hb hown (hts _ (wd_in hw)) w.1 (a - 12) (wsO_at (V := V) ha hc) (tc_int Gs0) hd k1
  · cases hi
theorem s_stat {pc np x : Nat} {ops : List Nat} {v : Int32} {h : AH} {ls : LV} {st : List Value} (C : Cxt p R s m args meth c V y d n0 s0 hF) (hnp : np = pc + 3) (hd : decode (mby y) pc = .ok (.getstatic x, 3)) (hok : statOK (mnm y).cls x ops v = true)
    (hn : ∀ a, nx a = some (rv, hF) → Gd p l e R s m args below meth c Q V (mloc y) n0 s0 hF a) (hr : act (match (generalizing := false) ops with | 0 :: k :: _ => go (np, ls, .ref k :: st, h) | _ => go (np, ls, .int v :: st, h)) call (aftK nx) nx = some (rv, hF)) : Gd p l e R s m args below meth c Q V (mloc y) n0 s0 hF (pc, ls, st, h) := by
  obtain ⟨hx, hb, hml, hown, hts, Gs0, hnam, -⟩ := C
  subst hnp
  unfold statOK at hok
  split at hok
  · rename_i k q nest rest
    obtain ⟨q0, hq0, hq1⟩ := List.any_eq_true.mp hok
    rw [Bool.and_eq_true, decide_eq_true_eq] at hq1
    obtain ⟨e0, e1⟩ := hq1
    have hZ := Gs0.2.2.2.2.2.2.1 q0 hq0
    rw [e0] at hZ
    refine gd_go rfl (hn _ hr) (fun H locs lsR ce sc w S L kk => ?_)
    have k1 := kk lsR L
    cases hnst : Nat.beq nest 0 with
    | true =>
      rw [hnst] at e1
      exact va_gets hx hb hZ S hown (hts _ (wd_in e1)) (fun _ h => h) hd k1
    | false =>
      rw [hnst] at e1
      have e2 := of_decide_eq_true e1
      have hm : Cond.fieldLinkNest (mnm y).cls x q0.1 q0.2.1 q0.2.2.1 "BullStreet" ∈ nestL := List.mem_filter.mpr ⟨List.mem_of_getElem? e2, rfl⟩
      exact va_getsN hx hb hZ S hown (va_Nw.use rfl (Gs0.2.2.2.1 _ hm)) (fun _ h => h) hd k1
  · rename_i q rest
    rw [Bool.and_eq_true, decide_eq_true_eq] at hok
    obtain ⟨e0, e1⟩ := hok
    subst e0
    refine gd_go rfl (hn _ hr) (fun H locs lsR ce sc w S L kk => ?_)
    have hZ := Gs0.2.2.2.2.2.2.1 ("java/lang/String", "COMPACT_STRINGS", "Z", .int 1) (by decide +kernel)
    exact va_gets hx hb hZ S hown (hts _ (wd_in e1)) (fun _ h => h) hd (kk lsR L)
  · cases hok
theorem s_oinit {pc np x q a : Nat} {h : AH} {ls : LV} {r : List Value} (C : Cxt p R s m args meth c V y d n0 s0 hF) (hnp : np = pc + 3) (hd : decode (mby y) pc = .ok (.invokespecial x, 3)) (hw : wd q (.methodLink (mnm y).cls x objectInit) = true) (ha : 12 ≤ a) (hv : vsum r ≤ 8)
    (G : Gd p l e R s m args below meth c Q V (mloc y) n0 s0 hF (np, ls, r, h)) : Gd p l e R s m args below meth c Q V (mloc y) n0 s0 hF (pc, ls, .ref a :: r, h) := by
  obtain ⟨hx, hb, hml, hown, hts, Gs0, hnam, hfr, hlo, -⟩ := C
  subst hnp
  refine gd_go rfl G (fun H locs lsR ce sc w S L kk => ?_)
  rw [List.map_cons, cv_ref (by omega)]
  have hcode : Cond.code objectInit ⟨#[0xb1]⟩ 1 none ∈ tblG := List.mem_filter.mpr ⟨by decide +kernel, by decide +kernel⟩
  have hinst : Cond.instanceMethod objectInit ∈ tblG := List.mem_filter.mpr ⟨by decide +kernel, by decide +kernel⟩
  refine W.objInit hx hb hown (hts _ (wd_in hw)) (hts _ hinst) (hts _ hcode) (g := F0 m pc lsR (.ref (adr V a) :: r.map (cv V))) rfl (by rw [hml]; exact L.1.1) rfl hd (by omega) ?_ (kk lsR L)
  rw [vsum_eq V Gs0.2.2.1]
  show 2 * 0 + vsum r + 12 ≤ R.locals
  omega
end STEP6
