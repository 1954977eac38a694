/-! Soundness: calls. -/
theorem aft_road {nx : AS → Res} {t : Nat} {a : AS} {v : Option Value} {h' : AH} {r : Option Value × AH} (h : pick (aft t a v h') none nx = some r) : nx (a.1, a.2.1, v.toList ++ a.2.2.1, h') = some r := by
  unfold aft at h
  split at h
  · exact h
  · exact h
  · exact h
  · cases h
section STEP8
variable {p : Program} {l : Launch} {e : Env} {R : Room} {s : State} {m : MethodId} {args : Array Value} {below : List Frame} {meth : Method} {c : Code} {Q : State → Prop} {V : EV} {y d n0 s0 : Nat} {hF : AH}
variable {call : Nat → List Value → AH → Res} {nx : AS → Res} {rv : Option Value}
theorem run_go {pc : Nat} {lsR : Array Slot} {st0 rest : List Value} {H : Heap} {locs : List Loc} {cells slots mc ms : Nat} {r : Option Value} {h' : AH} {a : Array Value} (hr : va_Run p l e R s m args below meth c H locs cells slots mc ms (F0 m pc lsR st0) rest (QcA V r h' a) (fun q => V.B ≤ q)) (S : va_S (fun q => V.B ≤ q) s.heap H locs)
    (kk : ∀ (H1 : Heap) (locs1 : List Loc), Wh V h' H1 → va_S (fun q => V.B ≤ q) s.heap H1 locs1 → W p l e R s m args below meth c H1 locs1 (cells + mc) (slots + ms) Q (F0 m (pc + 3) lsR ((r.map (cv V)).toList ++ rest))) : W p l e R s m args below meth c H locs cells slots Q (F0 m pc lsR st0) := by
  intro T hT X
  obtain ⟨v, st₀, t, T', L, h0, X', hL, e1, e2, ⟨hv, hw, hz, hk⟩, st⟩ := hr T hT X
  cases hv
  rw [h0] at hz hk
  have hw' : Wh V h' T'.heap := by rw [e1]; exact hw
  obtain ⟨t2, a1, b1⟩ := kk T'.heap (locs ++ L) hw' ⟨Nat.le_trans S.1 (by rw [e1]; exact hz), fun q h1 h2 => by rw [e1, hk q (Nat.lt_of_lt_of_le h1 S.1) h2]; exact S.2.1 q h1 h2, fun q hq => by
      rcases List.mem_append.mp hq with h | h
      · exact S.2.2 q h
      · exact hL q h⟩ T' rfl X'
  exact ⟨t2, st t2 a1, b1⟩
theorem pre_go {h : AH} {H : Heap} {locs : List Loc} {as : List Value} (G : Gs V s) (w : Wh V h H) (S : va_S (fun q => V.B ≤ q) s.heap H locs) : ∀ U : State, U.heap = H → s.WarmedH U.vm → PcA V as h ((as.map (cv V)).toArray) U := by
  intro U hU hW
  refine ⟨rfl, Gs.moved hW (by rw [hU]; exact S.1) (fun q h1 h2 => by rw [hU]; exact S.2.1 q h1 h2) G, by rw [hU]; exact w⟩
theorem good_tbl {l1 : List Cond} (h : ∀ w ∈ l1, w ∈ tblG) {y' : Nat} (hc : Cond.code (mnm y') (mby y') (mloc y') (mret y') ∈ tblG) : GoodIn tblG (l1 ++ wsM y') := by
  intro w hw
  rcases List.mem_append.mp hw with h1 | h1
  · exact tblG_good w (h w h1)
  · unfold wsM at h1
    rcases List.mem_cons.mp h1 with h2 | h2
    · exact tblG_good w (h2 ▸ hc)
    · exact tblG_good w h2
theorem mOK_spec {y' : Nat} (h : mOK y' = true) : Cond.code (mnm y') (mby y') (mloc y') (mret y') ∈ tblG ∧ Cond.initialized (mnm y').cls ∈ tblG ∧ plainName (mnm y').cls = true ∧ (mnm y').cls ≠ "java/lang/invoke/MethodHandle" ∧ (mnm y').cls ≠ "java/lang/invoke/VarHandle" ∧ mloc y' ≤ 12 := by
  unfold mOK at h
  simp only [Bool.and_eq_true, decide_eq_true_eq] at h
  obtain ⟨⟨⟨⟨⟨h1, h2⟩, h3⟩, h4⟩, h5⟩, h6⟩ := h
  exact ⟨wd_in h1, wd_in h2, h3, h4, h5, Nat.le_of_ble_eq_true h6⟩
/-- the way on behind any call -/
theorem call_on {pc np t y' : Nat} {ls : LV} {st rest as : List Value} {h h' : AH} {r : Option Value} (C : Cxt p R s m args meth c V y d n0 s0 hF) (hnp : np = pc + 3) (hn : ∀ a, nx a = some (rv, hF) → Gd p l e R s m args below meth c Q V (mloc y) n0 s0 hF a) (hok : CallOK V d y' as h r h') (hp : pick (aft t (np, ls, rest, h) r h') none nx = some (rv, hF))
    (hrun : ∀ (H : Heap) (locs : List Loc) (lsR : Array Slot) (cells slots : Nat), Wh V h H → va_S (fun q => V.B ≤ q) s.heap H locs → lsR.size = mloc y → cells + (h'.length - h.length) ≤ R.cells → slots + (sl h' - sl h) ≤ R.slots → ∃ a, va_Run p l e R s m args below meth c H locs cells slots (h'.length - h.length) (sl h' - sl h) (F0 m pc lsR (st.map (cv V))) (rest.map (cv V)) (QcA V r h' a) (fun q => V.B ≤ q)) :
    Gd p l e R s m args below meth c Q V (mloc y) n0 s0 hF (pc, ls, st, h) := by
  have G := hn _ (aft_road hp)
  obtain ⟨-, -, -, -, -, -, -, -, -, hRc, hRs, -⟩ := C
  subst hnp
  have G1 := G.1
  dsimp only at G1
  obtain ⟨⟨m1, m2⟩, -⟩ := hok
  refine ⟨⟨by dsimp only; omega, by dsimp only; omega⟩, fun h1 h2 H locs lsR w S L => ?_⟩
  have h1 : n0 ≤ h.length := h1
  have h2 : s0 ≤ sl h := h2
  show W p l e R s m args below meth c H locs (h.length - n0) (sl h - s0) Q (F0 m pc lsR (st.map (cv V)))
  obtain ⟨a, hr⟩ := hrun H locs lsR (h.length - n0) (sl h - s0) w S L.1.1 (by omega) (by omega)
  refine run_go hr S (fun H1 locs1 w1 S1 => ?_)
  have := G.2 (by dsimp only; omega) (by dsimp only; omega) H1 locs1 lsR w1 S1 L
  dsimp only at this
  rw [show h'.length - n0 = h.length - n0 + (h'.length - h.length) by omega, show sl h' - s0 = sl h - s0 + (sl h' - sl h) by omega] at this
  have e0 : (r.toList ++ rest).map (cv V) = (r.map (cv V)).toList ++ rest.map (cv V) := by
    cases r <;> simp
  rw [e0] at this
  exact this
theorem lnk_spec {own : String} {x q nest y' : Nat} (h : lnk own x q nest y' = true) : (nest = 0 ∧ Cond.methodLink own x (mnm y') ∈ tblG) ∨ (Cond.methodLinkNest own x (mnm y') "BullStreet" ∈ nestL) := by
  unfold lnk at h
  cases hn : Nat.beq nest 0 with
  | true =>
    rw [hn] at h
    exact Or.inl ⟨Nat.eq_of_beq_eq_true hn, wd_in h⟩
  | false =>
    rw [hn] at h
    exact Or.inr (List.mem_filter.mpr ⟨List.mem_of_getElem? (of_decide_eq_true h), rfl⟩)
theorem split_args {n : Nat} {st : List Value} (V : EV) (h : n ≤ st.length) : st.map (cv V) = (((st.take n).reverse).map (cv V)).reverse ++ (st.drop n).map (cv V) := by
  rw [← List.map_reverse, List.reverse_reverse, ← List.map_append, List.take_append_drop]
theorem par_spec {y' n : Nat} (h : par y' n = true) : (parseMethodDescriptor (mnm y').desc).map (fun d => d.parameters.length) = some n := of_decide_eq_true h
theorem s_callS {pc np x y' n t q nest : Nat} {o : List Nat} {ls : LV} {st : List Value} {h h' : AH} {r : Option Value} (C : Cxt p R s m args meth c V y d n0 s0 hF) (hnp : np = pc + 3) (hd : decode (mby y) pc = .ok (.invokestatic x, 3)) (hok : callOK (mnm y).cls x 0 (0 :: y' :: n :: t :: q :: nest :: o) = true)
    (hn : ∀ a, nx a = some (rv, hF) → Gd p l e R s m args below meth c Q V (mloc y) n0 s0 hF a) (hc : CallOK V d y' (st.take n).reverse h r h') (hl : n ≤ st.length) (hv : vsum (st.drop n) ≤ 8) (hp : pick (aft t (np, ls, st.drop n, h) r h') none nx = some (rv, hF)) : Gd p l e R s m args below meth c Q V (mloc y) n0 s0 hF (pc, ls, st, h) := by
  have CC := C
  obtain ⟨hx, hb, hml, hown, hts, Gs0, hnam, hfr, hlo, -⟩ := C
  simp only [callOK, Bool.and_eq_true] at hok
  obtain ⟨⟨⟨⟨⟨⟨-, -⟩, k1⟩, k2⟩, k3⟩, k4⟩, -⟩ := hok
  obtain ⟨w1, w2, w3, w4, w5, w6⟩ := mOK_spec k1
  refine call_on CC hnp hn hc hp (fun H locs lsR ce sc w S L hcl hsl => ?_)
  have hlen : ((st.take n).reverse.map (cv V)).length = n := by simp; omega
  have hroom : 2 * (F0 m pc lsR (st.map (cv V))).monitorRoom + (((st.drop n).map (cv V)).map fun v => v.category).sum ≤ 8 := by
    rw [vsum_eq V Gs0.2.2.1]
    show 2 * 0 + _ ≤ 8
    omega
  have hR : (rmA d (h'.length - h.length) (sl h' - sl h)).frames + 1 ≤ R.frames ∧ 8 + (mloc y' + 11) + (rmA d (h'.length - h.length) (sl h' - sl h)).locals ≤ R.locals := ⟨hfr, by show 8 + (mloc y' + 11) + 40 * d ≤ _; omega⟩
  rcases lnk_spec k2 with ⟨-, k5⟩ | k5
  · refine ⟨_, va_runS (As := (st.take n).reverse.map (cv V)) (rest := (st.drop n).map (cv V)) (Ts := tblG) ⟨hx, hb, hml, hown, hts⟩ (hc.2 l) (va_cwS (ws' := tblG) n hts (good_tbl ?_ w1) rfl rfl rfl ⟨w4, w5, par_spec k3⟩ hR) ⟨PcA.blind V _ h, pre_go Gs0 w S⟩ rfl hlen L (split_args V hl) hroom hd ⟨hcl, hsl⟩⟩
    intro w' hw'
    simp only [List.mem_cons, List.not_mem_nil, or_false] at hw'
    rcases hw' with rfl | rfl | rfl
    · exact k5
    · exact wd_in k4
    · exact w2
  · exact ⟨_, va_runSN (As := (st.take n).reverse.map (cv V)) (rest := (st.drop n).map (cv V)) (Ts := tblG) ⟨hx, hb, hml, hown, hts⟩ (hc.2 l) ⟨va_cnB (ws' := tblG) n hts (good_tbl (l1 := []) (fun _ h => absurd h List.not_mem_nil) w1) rfl rfl rfl (Gs0.2.2.2.1 _ k5) (hts _ w2) ⟨w4, w5, par_spec k3⟩ hR, hts _ (wd_in k4), trivial⟩ ⟨PcA.blind V _ h, pre_go Gs0 w S⟩ rfl hlen L (split_args V hl) hroom hd ⟨hcl, hsl⟩⟩
theorem split_recv {n a : Nat} {st tl : List Value} (V : EV) (h : n ≤ st.length) (ha : ¬ a = 9) (he : (st.take n).reverse = .ref a :: tl) : st.map (cv V) = (tl.map (cv V)).reverse ++ .ref (adr V a) :: (st.drop n).map (cv V) := by
  rw [split_args V h, he, List.map_cons, List.reverse_cons, List.append_assoc, cv_ref ha]
  rfl
theorem recv_ok {a ci : Nat} {h : AH} {H : Heap} {locs : List Loc} (G : Gs V s) (w : Wh V h H) (S : va_S (fun q => V.B ≤ q) s.heap H locs) (hk : okC h a ci = true) (C0 : String) (hC : (ci = 99 ∧ C0 = "java/lang/String") ∨ (ci < 8 ∧ C0 = nms ci)) : ¬ a = 9 ∧ ∃ cellB : Cell, H[adr V a]? = some cellB ∧ cellB.vm.isStatics = false ∧ s.vm.findClass C0 = some cellB.cls := by
  obtain ⟨fs, hc⟩ := okC_spec hk
  by_cases ha : a < 12
  · rw [hat_gc w ha] at hc
    rcases G.2.2.2.2.2.2.2.2.2.2.2.2.2.1 a ci fs ha hc with ⟨rfl, rfl⟩ | ⟨rfl, rfl⟩
    · refine ⟨by decide, ?_⟩
      rcases hC with ⟨-, rfl⟩ | ⟨h8, -⟩
      · obtain ⟨cell, h1, h2, h3, h4⟩ := G.2.2.2.2.2.2.2.2.1.kept S.2.1
        exact ⟨cell, h1, h2, h3⟩
      · omega
    · rcases hC with ⟨h8, -⟩ | ⟨h8, -⟩ <;> omega
  · refine ⟨by omega, ?_⟩
    have hw := wsO_at (V := V) (by omega) hc
    rw [cel_obj] at hw
    obtain ⟨r0, hr0, -⟩ := w.1 _ _ hw
    obtain ⟨C1, T1, N1⟩ := r0
    obtain ⟨-, -, -, -, -, c6, -, c8⟩ := cls_ok V ci C1 T1 N1 hr0
    obtain ⟨cell, h1, h2, h3⟩ := va_recv (tys := tys4 V) G.1 w.1 hr0 hw
    have hC2 : C0 = C1 := by
      rcases hC with ⟨h9, -⟩ | ⟨-, h9⟩
      · omega
      · rw [h9, c6]
    exact ⟨cell, h1, h2, by rw [hC2]; exact h3⟩
theorem s_callV {pc np x y' n t ci q nest a : Nat} {o : List Nat} {ls : LV} {st tl : List Value} {h h' : AH} {r : Option Value} (C : Cxt p R s m args meth c V y d n0 s0 hF) (hnp : np = pc + 3) (hd : decode (mby y) pc = .ok (.invokevirtual x, 3)) (hok : callOK (mnm y).cls x 1 (4 :: y' :: n :: t :: ci :: q :: nest :: o) = true) (he : (st.take n).reverse = .ref a :: tl) (hk : okC h a ci = true)
    (hn : ∀ a, nx a = some (rv, hF) → Gd p l e R s m args below meth c Q V (mloc y) n0 s0 hF a) (hc : CallOK V d y' (st.take n).reverse h r h') (hl : n ≤ st.length) (hv : vsum (st.drop n) ≤ 8) (hp : pick (aft t (np, ls, st.drop n, h) r h') none nx = some (rv, hF)) : Gd p l e R s m args below meth c Q V (mloc y) n0 s0 hF (pc, ls, st, h) := by
  have CC := C
  obtain ⟨hx, hb, hml, hown, hts, Gs0, hnam, hfr, hlo, -⟩ := C
  simp only [callOK, Bool.and_eq_true] at hok
  obtain ⟨⟨⟨⟨⟨⟨⟨⟨⟨⟨-, -⟩, k1⟩, k0⟩, k2⟩, k3⟩, k6⟩, k4⟩, k5⟩, -⟩, k7⟩ := hok
  obtain ⟨w1, w2, w3, w4, w5, w6⟩ := mOK_spec k1
  have hC : (ci = 99 ∧ (mnm y').cls = "java/lang/String") ∨ (ci < 8 ∧ (mnm y').cls = nms ci) := by
    cases hb9 : Nat.beq ci 99 with
    | true =>
      rw [hb9] at k7
      exact Or.inl ⟨Nat.eq_of_beq_eq_true hb9, of_decide_eq_true k7⟩
    | false =>
      rw [hb9] at k7
      rw [cond_false, Bool.and_eq_true] at k7
      exact Or.inr ⟨Nat.le_of_ble_eq_true k7.1, of_decide_eq_true k7.2⟩
  refine call_on CC hnp hn hc hp (fun H locs lsR ce sc w S L hcl hsl => ?_)
  obtain ⟨h9, hrecv⟩ := recv_ok Gs0 w S hk _ hC
  have hlen : (tl.map (cv V)).length = n - 1 := by
    have := congrArg List.length he
    simp only [List.length_reverse, List.length_take, List.length_cons] at this
    rw [List.length_map]
    omega
  have hroom : 2 * (F0 m pc lsR (st.map (cv V))).monitorRoom + (((st.drop n).map (cv V)).map fun v => v.category).sum ≤ 8 := by
    rw [vsum_eq V Gs0.2.2.1]
    show 2 * 0 + _ ≤ 8
    omega
  have hR : (rmA d (h'.length - h.length) (sl h' - sl h)).frames + 1 ≤ R.frames ∧ 8 + (mloc y' + 11) + (rmA d (h'.length - h.length) (sl h' - sl h)).locals ≤ R.locals := ⟨hfr, by show 8 + (mloc y' + 11) + 40 * d ≤ _; omega⟩
  have eas : ((st.take n).reverse.map (cv V)).toArray = (Value.ref (adr V a) :: tl.map (cv V)).toArray := by
    rw [he, List.map_cons, cv_ref h9]
  have hpre := pre_go (as := (st.take n).reverse) Gs0 w S
  rw [eas] at hpre
  rcases lnk_spec k2 with ⟨-, k8⟩ | k8
  · refine ⟨_, va_runV (As := tl.map (cv V)) (b := adr V a) (C := (mnm y').cls) (rest := (st.drop n).map (cv V)) (Ts := tblG) ⟨hx, hb, hml, hown, hts⟩ (hc.2 l) (cwV (ws' := tblG) (n - 1) hts (good_tbl ?_ w1) rfl rfl rfl ⟨rfl, w4, w5, par_spec k3⟩ hR) ⟨PcA.blind V _ h, hrecv, hpre⟩ rfl hlen L (split_recv V hl h9 he) hroom hd ⟨hcl, hsl⟩⟩
    intro w' hw'
    simp only [List.mem_cons, List.not_mem_nil, or_false] at hw'
    rcases hw' with rfl | rfl | rfl | rfl
    · exact k8
    · exact wd_in k4
    · exact wd_in k5
    · exact w2
  · exact ⟨_, va_runVN (As := tl.map (cv V)) (b := adr V a) (C := (mnm y').cls) (rest := (st.drop n).map (cv V)) (Ts := tblG) ⟨hx, hb, hml, hown, hts⟩ (hc.2 l) ⟨va_cnB (ws' := tblG) (n - 1) hts (good_tbl (l1 := []) (fun _ h => absurd h List.not_mem_nil) w1) rfl rfl rfl (Gs0.2.2.2.1 _ k8) (hts _ w2) ⟨w4, w5, par_spec k3⟩ hR, hts _ (wd_in k4), hts _ (wd_in k5)⟩ ⟨PcA.blind V _ h, hrecv, hpre⟩ rfl hlen L (split_recv V hl h9 he) hroom hd ⟨hcl, hsl⟩⟩
theorem s_callI {pc np x y' n t q nest a : Nat} {o : List Nat} {ls : LV} {st tl : List Value} {h h' : AH} {r : Option Value} (C : Cxt p R s m args meth c V y d n0 s0 hF) (hnp : np = pc + 3) (hd : decode (mby y) pc = .ok (.invokespecial x, 3)) (hok : callOK (mnm y).cls x 2 (5 :: y' :: n :: t :: q :: nest :: o) = true) (he : (st.take n).reverse = .ref a :: tl) (ha : 12 ≤ a)
    (hn : ∀ a, nx a = some (rv, hF) → Gd p l e R s m args below meth c Q V (mloc y) n0 s0 hF a) (hc : CallOK V d y' (st.take n).reverse h r h') (hl : n ≤ st.length) (hv : vsum (st.drop n) ≤ 8) (hp : pick (aft t (np, ls, st.drop n, h) r h') none nx = some (rv, hF)) : Gd p l e R s m args below meth c Q V (mloc y) n0 s0 hF (pc, ls, st, h) := by
  have CC := C
  obtain ⟨hx, hb, hml, hown, hts, Gs0, hnam, hfr, hlo, -⟩ := C
  simp only [callOK, Bool.and_eq_true, decide_eq_true_eq] at hok
  obtain ⟨⟨⟨⟨⟨⟨⟨⟨⟨-, -⟩, k1⟩, k2⟩, k3⟩, k6⟩, k4⟩, k5⟩, -⟩, k7⟩ := hok
  obtain ⟨w1, w2, w3, w4, w5, w6⟩ := mOK_spec k1
  have hws : wsM y' = Cond.code (mnm y') (mby y') (mloc y') none :: tblG := by rw [← k7]; rfl
  refine call_on CC hnp hn hc hp (fun H locs lsR ce sc w S L hcl hsl => ?_)
  have hlen : (tl.map (cv V)).length = n - 1 := by
    have := congrArg List.length he
    simp only [List.length_reverse, List.length_take, List.length_cons] at this
    rw [List.length_map]
    omega
  have hroom : 2 * (F0 m pc lsR (st.map (cv V))).monitorRoom + (((st.drop n).map (cv V)).map fun v => v.category).sum ≤ 8 := by
    rw [vsum_eq V Gs0.2.2.1]
    show 2 * 0 + _ ≤ 8
    omega
  have hR : (rmA d (h'.length - h.length) (sl h' - sl h)).frames + 1 ≤ R.frames ∧ 8 + (mloc y' + 11) + (rmA d (h'.length - h.length) (sl h' - sl h)).locals ≤ R.locals := ⟨hfr, by show 8 + (mloc y' + 11) + 40 * d ≤ _; omega⟩
  have eas : ((st.take n).reverse.map (cv V)).toArray = (Value.ref (adr V a) :: tl.map (cv V)).toArray := by
    rw [he, List.map_cons, cv_ref (by omega)]
  have hpre := pre_go (as := (st.take n).reverse) Gs0 w S
  rw [eas] at hpre
  have hM := hc.2 l
  rw [hws] at hM
  have hG : GoodIn tblG (Cond.code (mnm y') (mby y') (mloc y') none :: tblG) := by rw [← hws]; exact good_tbl (l1 := []) (fun _ h => absurd h List.not_mem_nil) w1
  rcases lnk_spec k2 with ⟨-, k8⟩ | k8
  · exact ⟨_, va_runI (As := tl.map (cv V)) (b := adr V a) (rest := (st.drop n).map (cv V)) (Ts := tblG) ⟨hx, hb, hml, hown, hts⟩ hM (cwI (n - 1) hts hG rfl rfl rfl (hts _ w2) (hts _ k8) (hts _ (wd_in k4)) k5 ⟨w4, w5, par_spec k3⟩ hR) ⟨PcA.blind V _ h, hpre⟩ rfl hlen L (split_recv V hl (by omega) he) hroom hd ⟨hcl, hsl⟩⟩
  · exact ⟨_, va_runIN (As := tl.map (cv V)) (b := adr V a) (rest := (st.drop n).map (cv V)) (Ts := tblG) ⟨hx, hb, hml, hown, hts⟩ hM ⟨va_cnB (ws' := tblG) (n - 1) hts hG rfl rfl rfl (Gs0.2.2.2.1 _ k8) (hts _ w2) ⟨w4, w5, par_spec k3⟩ hR, k5, hts _ (wd_in k4)⟩ ⟨PcA.blind V _ h, hpre⟩ rfl hlen L (split_recv V hl (by omega) he) hroom hd ⟨hcl, hsl⟩⟩
/-- Math.max, Math.min -/
theorem s_math {pc np : Nat} {z : Int32} {ls : LV} {st r : List Value} {h : AH} (C : Cxt p R s m args meth c V y d n0 s0 hF) (G : Gd p l e R s m args below meth c Q V (mloc y) n0 s0 hF (np, ls, .int z :: r, h))
    (row : ∀ (H : Heap) (locs : List Loc) (lsR : Array Slot) (cells slots : Nat), lsR.size = mloc y → cells ≤ R.cells → slots ≤ R.slots → W p l e R s m args below meth c H locs cells slots Q (F0 m np lsR (.int z :: r.map (cv V))) → W p l e R s m args below meth c H locs cells slots Q (F0 m pc lsR (st.map (cv V)))) : Gd p l e R s m args below meth c Q V (mloc y) n0 s0 hF (pc, ls, st, h) := by
  obtain ⟨-, -, -, -, -, -, -, -, -, hRc, hRs, -⟩ := C
  have G1 := G.1
  dsimp only at G1
  refine ⟨G1, fun h1 h2 H locs lsR w S L => row H locs lsR _ _ L.1.1 (by dsimp only; omega) (by dsimp only; omega) (G.2 h1 h2 H locs lsR w S L)⟩
end STEP8
