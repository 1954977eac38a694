/-! Soundness: arrays of arrays, copies, clones (copyT began with the kit's row for byte tables, turned to ints). -/
section STEP7
variable {p : Program} {l : Launch} {e : Env} {R : Room} {s : State} {m : MethodId} {args : Array Value} {below : List Frame} {meth : Method} {c : Code} {Q : State → Prop} {V : EV} {y d n0 s0 : Nat} {hF : AH}
variable {call : Nat → List Value → AH → Res} {nx : AS → Res} {rv : Option Value}
theorem clamp_nn (z : Int32) (hz : ¬ z < 0) : z.toInt = (z.toNatClampNeg : Int) := by
  have hz0 : (0 : Int) ≤ z.toInt := by
    have := Int32.not_lt.mp hz
    simpa using Int32.le_iff_toInt_le.mp this
  show z.toInt = ((z.toInt.toNat : Nat) : Int)
  omega
theorem copyT {H : Heap} {locs : List Loc} {cells slots pc : Nat} {ls : Array Slot} {rest : List Value} {cc : ByteArray} {D : va_G} {cl : List vw_C} {A : Nat → Prop} {a : Nat} {tys : List (ClassId × FieldType)} {ws : va_W} (hexec : p.tables.exec = Jvm.exec) (hb : c.code = cc) (hml : c.maxLocals = ls.size) {own : String} {index : Nat} (hown : s.vm.findClass own = some m.cls) (hlink : (Cond.methodLink own index arraycopyName).before args s = true) (hnat : (Cond.native arraycopyName).before args s = true) (hstat : (Cond.static arraycopyName).before args s = true) (hini : (Cond.initialized "java/lang/System").before args s = true)
    (hK : va_K D cl tys s) (hP : va_P D cl ws H) (hD : va_D A ws) (hS : va_S A s.heap H locs) {b0 n0 : Nat} {f : Nat → Int32} (hX : va_T .int b0 n0 (fun j => .int (f j)) A s s.heap) (q1 t1 : Nat) {c1 : ClassId} {n1 : Nat} {g : Nat → Int32} (ha1 : ws[q1]? = some (a, .inl (c1, n1, .inl g))) (ht1 : tys[t1]? = some (c1, .int))
    {sp dp n : Int32} (h1 : ¬ sp < 0) (h2 : ¬ dp < 0) (h3 : ¬ n < 0) (h4 : sp.toNatClampNeg + n.toNatClampNeg ≤ n0) (h5 : dp.toNatClampNeg + n.toNatClampNeg ≤ n1)
    (hframes : 1 ≤ R.frames) (hlocals : (rest.map fun v => v.category).sum + (nativeFrameWords "java/lang/System" "arraycopy" 5 + 11) ≤ R.locals) (hdg : decode cc pc = .ok (.invokestatic index, 3))
    (kk : ∀ (H1 : Heap) (locs1 : List Loc), va_P D cl (ws.set q1 (a, .inl (c1, n1, .inl (va_cpy f g sp.toNatClampNeg dp.toNatClampNeg n.toNatClampNeg)))) H1 → va_S A s.heap H1 locs1 → W p l e R s m args below meth c H1 locs1 cells slots Q (F0 m (pc + 3) ls rest)) : W p l e R s m args below meth c H locs cells slots Q (F0 m pc ls (.int n :: .int dp :: .ref a :: .int sp :: .ref b0 :: rest)) := by
  intro T hT X
  obtain ⟨scr, hs1, hs2, hs3, hs4, -, hs5, hs7⟩ := hX
  have hc0 : H[b0]? = some scr := by rw [hS.2.1 b0 (Array.getElem?_eq_some_iff.mp hs1).1 hs7]; exact hs1
  have hc1 : H[a]? = some (vp_cell c1 (n1, .inl g)) := hP q1 _ ha1
  obtain ⟨hs6, k0, hk0, cm0, hkk0⟩ := hs2
  obtain ⟨-, k1, hk1, cm1, hkk1⟩ := (hK.2 t1 _ ht1).1 n1 (fun j => .int (g j))
  obtain ⟨vm', X', step⟩ := X.arraycopy hexec hown hlink hnat hstat hini (src := b0) (dst := a) (cs := scr) (cd := vp_cell c1 (n1, .inl g)) (srcPos := sp) (destPos := dp) (n := n) (by rw [hT]; exact hc0) (by rw [hT]; exact hc1)
    hs6 (fun _ h => by cases h) hs3 (fun h => by cases h) hk0 hk1 hkk0 hkk1 (by simp [refKind]) h1 h2 h3
    (by rw [clamp_nn sp h1, clamp_nn n h3]; omega)
    (by rw [clamp_nn dp h2, clamp_nn n h3]; show ¬ _ > ((arrV c1 n1 (fun j => .int (g j))).slots.size : Int); rw [arrV_size]; omega)
    (fun vm₁ _ i hi => by
      have e0 : scr.slots.getD (sp.toNatClampNeg + i) .null = .int (f (sp.toNatClampNeg + i)) := by
        rw [Array.getD_eq_getD_getElem?, hs5 _ (by omega)]
        rfl
      rw [e0]
      exact ⟨rfl, trivial⟩)
    (g := F0 m pc ls (.int n :: .int dp :: .ref a :: .int sp :: .ref b0 :: rest)) rfl (by rw [hml]) (rest := rest) rfl (by rw [hb]; exact hdg) hframes (by show 2 * 0 + _ + _ ≤ _; omega)
  have e1 : copied scr (vp_cell c1 (n1, .inl g)) sp dp n = vp_cell c1 (n1, .inl (va_cpy f g sp.toNatClampNeg dp.toNatClampNeg n.toNatClampNeg)) := va_copiedX (fun z => .int z) scr c1 f g hs5 h4
  rw [e1] at X' step
  have hl : a < H.size := (Array.getElem?_eq_some_iff.mp hc1).1
  have hheap : ((T.setVm vm').setCell a (vp_cell c1 (n1, .inl (va_cpy f g sp.toNatClampNeg dp.toNatClampNeg n.toNatClampNeg)))).heap = H.setIfInBounds a (vp_cell c1 (n1, .inl (va_cpy f g sp.toNatClampNeg dp.toNatClampNeg n.toNatClampNeg))) := by rw [← hT]; rfl
  have oq : ∀ q : Nat, q ≠ a → (H.setIfInBounds a (vp_cell c1 (n1, .inl (va_cpy f g sp.toNatClampNeg dp.toNatClampNeg n.toNatClampNeg))))[q]? = H[q]? := fun q hq => by simp [Array.getElem?_setIfInBounds, Ne.symm hq]
  obtain ⟨t, a1, b1⟩ := kk _ _ (hP.set hD ha1 (show (H.setIfInBounds a _)[a]? = some _ by simp [Array.getElem?_setIfInBounds, hl]) oq) ⟨by simp; exact hS.1, fun q g1 g2 => by
      rw [oq q (fun e => g2 (by rw [e]; exact hD.2 q1 _ ha1))]
      exact hS.2.1 q g1 g2, fun q hq => by
      rcases List.mem_append.mp hq with h | h
      · exact hS.2.2 q h
      · obtain ⟨z, -, hz⟩ := List.mem_map.mp h
        rw [← hz]
        exact hD.2 q1 _ ha1⟩ _ hheap X'
  exact ⟨t, step t a1, b1⟩
theorem okCop_spec {h : AH} {a b : Nat} {sp dp n : Int32} (hp : okCop h a b sp dp n = true) : ∃ m0 f m1 g, hat h a = some (.inl (.int, m0, .inl f)) ∧ hat h b = some (.inl (.int, m1, .inl g)) ∧ 12 ≤ b ∧ ¬ sp < 0 ∧ ¬ dp < 0 ∧ ¬ n < 0 ∧ sp.toNatClampNeg + n.toNatClampNeg ≤ m0 ∧ dp.toNatClampNeg + n.toNatClampNeg ≤ m1 := by
  unfold okCop at hp
  split at hp
  · rename_i m0 f m1 g h1 h2
    simp only [Bool.and_eq_true, decide_eq_true_eq] at hp
    obtain ⟨⟨⟨⟨⟨p1, p2⟩, p3⟩, p4⟩, p5⟩, p6⟩ := hp
    exact ⟨m0, f, m1, g, h1, h2, Nat.le_of_ble_eq_true p1, Int32.not_lt.mpr p2, Int32.not_lt.mpr p3, Int32.not_lt.mpr p4, p5, p6⟩
  · cases hp
theorem s_copy {pc np x q a b : Nat} {n dp sp : Int32} {h : AH} {ls : LV} {r : List Value} (C : Cxt p R s m args meth c V y d n0 s0 hF) (hnp : np = pc + 3) (hd : decode (mby y) pc = .ok (.invokestatic x, 3)) (hw : wd q (.methodLink (mnm y).cls x arraycopyName) = true) (hok : okCop h a b sp dp n = true) (hv : vsum r ≤ 8)
    (G : Gd p l e R s m args below meth c Q V (mloc y) n0 s0 hF (np, ls, r, copA h a b sp dp n)) : Gd p l e R s m args below meth c Q V (mloc y) n0 s0 hF (pc, ls, .int n :: .int dp :: .ref b :: .int sp :: .ref a :: r, h) := by
  have CC := C
  obtain ⟨hx, hb, hml, hown, hts, Gs0, hnam, hfr, hlo, -⟩ := C
  subst hnp
  obtain ⟨m0, f, m1, g, ha, hbb, hb12, p1, p2, p3, p4, p5⟩ := okCop_spec hok
  have hcop : copA h a b sp dp n = h.set b (.inl (.int, m1, .inl (va_cpy f g sp.toNatClampNeg dp.toNatClampNeg n.toNatClampNeg))) := by unfold copA; rw [ha, hbb]
  rw [hcop] at G
  have hs1 : ∀ g', slc (.inl (.int, m1, .inl g')) = slc (.inl (.int, m1, .inl g)) := fun g' => rfl
  refine gd_wr CC (by simp) (sl_set h b _ _ hbb (hs1 _)) (take_set hb12) G (fun H locs lsR ce sc w S L kk => ?_)
  have hnat : Cond.native arraycopyName ∈ tblG := List.mem_filter.mpr ⟨by decide +kernel, by decide +kernel⟩
  have hstat : Cond.static arraycopyName ∈ tblG := List.mem_filter.mpr ⟨by decide +kernel, by decide +kernel⟩
  have hini : Cond.initialized "java/lang/System" ∈ tblG := List.mem_filter.mpr ⟨by decide +kernel, by decide +kernel⟩
  have hwb := wsO_at (V := V) hb12 hbb
  have hloc : ((r.map (cv V)).map fun v => v.category).sum + (nativeFrameWords "java/lang/System" "arraycopy" 5 + 11) ≤ R.locals := by
    rw [vsum_eq V Gs0.2.2.1]
    have : nativeFrameWords "java/lang/System" "arraycopy" 5 = 7 := by decide +kernel
    omega
  by_cases ha12 : a < 12
  · have h9 : ¬ a = 9 := by
      intro z
      subst z
      rw [hat_gc w ha12, Gs0.2.2.2.2.2.2.2.2.2.2.2.2.2.2] at ha
      cases ha
    have e0 : (Value.int n :: .int dp :: .ref b :: .int sp :: .ref a :: r).map (cv V) = .int n :: .int dp :: .ref (adr V b) :: .int sp :: .ref (V.2.1 a) :: r.map (cv V) := by
      simp only [List.map_cons]
      rw [cv_ref (k := b) (by omega), cv_ref (k := a) h9, show adr V a = V.2.1 a by unfold adr; rw [if_pos ha12]]
      rfl
    rw [e0]
    exact copyT (D := V.1) (cl := vwCl) (tys := tys4 V) (A := fun q => V.B ≤ q) hx hb (by rw [hml]; exact L.symm) hown (hts _ (wd_in hw)) (hts _ hnat) (hts _ hstat) (hts _ hini) Gs0.1 w.1 wsO_D S (Gs0.2.2.2.2.2.2.2.1 a .int m0 f (by rw [← hat_gc w ha12]; exact ha)) (b - 12) 0 hwb rfl p1 p2 p3 p4 p5 (by omega) hloc hd (fun H1 locs1 P1 S1 => kk H1 locs1 (by rw [wsO_set hb12]; exact P1) S1)
  · have e0 : (Value.int n :: .int dp :: .ref b :: .int sp :: .ref a :: r).map (cv V) = .int n :: .int dp :: .ref (adr V b) :: .int sp :: .ref (adr V a) :: r.map (cv V) := by
      simp only [List.map_cons]
      rw [cv_ref (k := b) (by omega), cv_ref (k := a) (by omega)]
      rfl
    rw [e0]
    exact va_copyi (D := V.1) (cl := vwCl) (tys := tys4 V) (H0 := s.heap) (A := fun q => V.B ≤ q) (ty := .int) hx hb (by rw [hml]; exact L.symm) hown (hts _ (wd_in hw)) (hts _ hnat) (hts _ hstat) (hts _ hini) Gs0.1 w.1 wsO_D S (a - 12) (b - 12) 0 0 (wsO_at (V := V) (by omega) ha) hwb rfl rfl rfl p1 p2 p3 p4 p5 (fun i _ => rfl) (by omega) hloc hd (fun H1 locs1 P1 _ S1 => kk H1 locs1 (by rw [wsO_set hb12]; exact P1) S1)
theorem s_clone {pc np x q a : Nat} {h : AH} {ls : LV} {r : List Value} (C : Cxt p R s m args meth c V y d n0 s0 hF) (hnp : np = pc + 3) (hd : decode (mby y) pc = .ok (.invokevirtual x, 3)) (hw : wd q (.methodLink (mnm y).cls x ⟨"[I", "clone", "()Ljava/lang/Object;"⟩) = true) (hi : isI h a = true) (ha : 12 ≤ a) (hv : vsum r ≤ 8)
    (G : Gd p l e R s m args below meth c Q V (mloc y) n0 s0 hF (np, ls, .ref h.length :: r, cloA h a)) : Gd p l e R s m args below meth c Q V (mloc y) n0 s0 hF (pc, ls, .ref a :: r, h) := by
  have CC := C
  obtain ⟨hx, hb, hml, hown, hts, Gs0, hnam, hfr, hlo, -⟩ := C
  subst hnp
  unfold isI at hi
  split at hi
  · rename_i n f hc
    have hcl : cloA h a = h ++ [.inl (.int, n, .inl f)] := by unfold cloA; rw [hc]
    rw [hcl] at G
    refine gd_new CC G (fun H locs lsR ce sc h1 h2 w S L kk => ?_)
    have h2' : sc + n ≤ R.slots := h2
    have w1 : Cond.sameMethod "[I" "java/lang/Object" "clone" "()Ljava/lang/Object;" ∈ tblG := List.mem_filter.mpr ⟨by decide +kernel, by decide +kernel⟩
    have w2 : Cond.native ⟨"java/lang/Object", "clone", "()Ljava/lang/Object;"⟩ ∈ tblG := List.mem_filter.mpr ⟨by decide +kernel, by decide +kernel⟩
    have w3 : Cond.instanceMethod ⟨"java/lang/Object", "clone", "()Ljava/lang/Object;"⟩ ∈ tblG := List.mem_filter.mpr ⟨by decide +kernel, by decide +kernel⟩
    have w4 : Cond.selects "[I" ⟨"[I", "clone", "()Ljava/lang/Object;"⟩ ⟨"java/lang/Object", "clone", "()Ljava/lang/Object;"⟩ ∈ tblG := List.mem_filter.mpr ⟨by decide +kernel, by decide +kernel⟩
    have w5 : Cond.castable "[I" "java/lang/Cloneable" ∈ nestL := List.mem_filter.mpr ⟨by decide +kernel, rfl⟩
    rw [List.map_cons, cv_ref (by omega)]
    exact va_clone (D := V.1) (cl := vwCl) (tys := tys4 V) (H0 := s.heap) (A := fun q => V.B ≤ q) (ty := .int) hx hb (by rw [hml]; exact L.symm) hown (hts _ (wd_in hw)) (hts _ w1) (hts _ w2) (hts _ w3) (hts _ w4) (Gs0.2.2.2.1 _ w5) Gs0.1 w.1 wsO_D S (fun q hq => Nat.le_trans Gs0.2.1 hq) (a - 12) 0 (wsO_at (V := V) ha hc) rfl (tc_int Gs0)
      (fun i v hv => by
        have hv2 : (arrV (V.tc .int) n (fun j => .int (f j))).slots[i]? = some v := hv
        by_cases hin : i < n
        · rw [arrV_read _ _ hin] at hv2
          cases hv2
          rfl
        · have : (arrV (V.tc .int) n (fun j => .int (f j))).slots.size = n := arrV_size _ _ _
          rw [Array.getElem?_eq_none (by omega)] at hv2
          cases hv2)
      (by omega) (by rw [vsum_eq V Gs0.2.2.1]; omega) h1 h2' hd (fun q H1 K1 P1 D1 S1 => kk q H1 P1 D1 S1)
  · cases hi
theorem s_mna {pc np x q : Nat} {k n : Int32} {h : AH} {ls : LV} {r : List Value} (C : Cxt p R s m args meth c V y d n0 s0 hF) (hnp : np = pc + 4) (hd : decode (mby y) pc = .ok (.multianewarray x 2, 4)) (hw : wd q (.classLink (mnm y).cls x "[[I") = true) (hsn : small n = true) (hsk : small k = true)
    (G : Gd p l e R s m args below meth c Q V (mloc y) n0 s0 hF (np, ls, .ref h.length :: r, h ++ gridC h.length n.toNatClampNeg k.toNatClampNeg)) : Gd p l e R s m args below meth c Q V (mloc y) n0 s0 hF (pc, ls, .int k :: .int n :: r, h) := by
  obtain ⟨hx, hb, hml, hown, hts, Gs0, hnam, hfr, hlo, hRc, hRs, hs, h12, -⟩ := C
  subst hnp
  obtain ⟨hn1, hn2⟩ := small_spec hsn
  obtain ⟨hk1, hk2⟩ := small_spec hsk
  have e1 : (h ++ gridC h.length n.toNatClampNeg k.toNatClampNeg).length = h.length + 1 + n.toNatClampNeg := by simp [gridC]; omega
  have esr : ∀ j, sl (List.replicate j (.inl (.int, ints k.toNatClampNeg))) = j * k.toNatClampNeg := by
    intro j
    induction j with
    | zero => simp [sl]
    | succ j ih =>
      rw [List.replicate_succ, sl, ih, Nat.succ_mul]
      show k.toNatClampNeg + _ = _
      omega
  have e2 : sl (h ++ gridC h.length n.toNatClampNeg k.toNatClampNeg) = sl h + n.toNatClampNeg + n.toNatClampNeg * k.toNatClampNeg := by
    rw [sl_app, gridC, sl, esr]
    show sl h + (n.toNatClampNeg + _) = _
    omega
  have G1 := G.1
  dsimp only at G1
  rw [e1, e2] at G1
  refine ⟨⟨by dsimp only; omega, by dsimp only; omega⟩, fun h1 h2 H locs lsR w S L => ?_⟩
  have h1 : n0 ≤ h.length := h1
  have h2 : s0 ≤ sl h := h2
  show W p l e R s m args below meth c H locs (h.length - n0) (sl h - s0) Q (F0 m pc lsR ((Value.int k :: .int n :: r).map (cv V)))
  have w : Wh V h H := w
  have hl12 := w.2.2.2
  have hsz := w.2.1
  have e0 : (Value.int k :: .int n :: r).map (cv V) = .int k :: .int n :: r.map (cv V) := rfl
  rw [e0]
  refine W.mna2 hx hb hown (hts _ (wd_in hw)) Gs0.2.2.2.2.2.1 (hts _ (arr_in .int (Or.inl rfl))) hn1 hk1 rfl rfl (by omega) (by omega) (by omega) (by omega) (by omega) hd (fun cA cy H1 f1 f2 z1 o1 c1 c2 => ?_)
  have hcA : cA = V.tc (.array .int) := Option.some.inj (f1.symm.trans (tc_grid Gs0))
  have hcy : cy = V.tc .int := Option.some.inj (f2.symm.trans (tc_int Gs0))
  subst hcA
  subst hcy
  have hB : V.B + (h.length - 12) = H.size := by omega
  have P1 : va_P V.1 vwCl (wsO V (h ++ gridC h.length n.toNatClampNeg k.toNatClampNeg)) H1 := by
    rw [wsO_app hl12, hB]
    refine va_P.app (w.1.kept (fun i q hq => o1 q.1 ((w.1 i q hq).lt))) (fun i q hq => ?_)
    rw [List.getElem?_mapIdx] at hq
    cases i with
    | zero =>
      simp only [gridC, List.getElem?_cons_zero, Option.map_some, Option.some.injEq] at hq
      subst hq
      show H1[H.size + 0]? = some (vp_cell _ _)
      rw [Nat.add_zero, c1]
      show _ = some (vp_cell (V.tc (.array .int)) (n.toNatClampNeg, .inr (.inr (.inr (.inr (fun i => (if i < n.toNatClampNeg then some (h.length + 1 + i) else none).map (adr V)))))))
      rw [vp_cell_q]
      congr 2
      funext j
      by_cases hj : j < n.toNatClampNeg
      · simp only [hj, if_true, Option.map_some]
        rw [adr_hi (by omega)]
        congr 2
        omega
      · simp only [hj, if_false, Option.map_none]
    | succ i =>
      simp only [gridC, List.getElem?_cons_succ] at hq
      by_cases hi : i < n.toNatClampNeg
      · rw [List.getElem?_replicate, if_pos hi] at hq
        simp only [Option.map_some, Option.some.injEq] at hq
        subst hq
        show H1[H.size + (i + 1)]? = some (vp_cell _ _)
        rw [show H.size + (i + 1) = H.size + 1 + i by omega, c2 i hi]
        rfl
      · rw [List.getElem?_replicate, if_neg hi] at hq
        cases hq
  have S1 : va_S (fun q => V.B ≤ q) s.heap H1 locs := ⟨by have := S.1; omega, fun q g1 g2 => (o1 q (Nat.lt_of_lt_of_le g1 S.1)).trans (S.2.1 q g1 g2), S.2.2⟩
  have wh1 : Wh V (h ++ gridC h.length n.toNatClampNeg k.toNatClampNeg) H1 := ⟨P1, by rw [e1]; omega, by rw [List.take_append_of_le_length hl12]; exact w.2.2.1, by rw [e1]; omega⟩
  have := G.2 (by dsimp only; rw [e1]; omega) (by dsimp only; rw [e2]; omega) H1 locs lsR wh1 S1 L
  dsimp only at this
  rw [e1, e2] at this
  rw [show h.length + 1 + n.toNatClampNeg - n0 = h.length - n0 + 1 + n.toNatClampNeg by omega, show sl h + n.toNatClampNeg + n.toNatClampNeg * k.toNatClampNeg - s0 = sl h - s0 + n.toNatClampNeg + n.toNatClampNeg * k.toNatClampNeg by omega] at this
  rw [List.map_cons, cv_ref (by omega), adr_hi (by omega), hB] at this
  exact this
end STEP7
