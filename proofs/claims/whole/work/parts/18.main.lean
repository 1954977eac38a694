/-! Soundness: one step, all steps, all calls. -/
theorem cat1_eq {v : Value} (h : cat1 v = true) : v.category = 1 := by
  cases v <;> first | rfl | cases h
theorem beq9 {a : Nat} (h : (!(Nat.beq a 9)) = true) : ¬ a = 9 := by
  intro z
  subst z
  cases h
section MAIN
variable {p : Program} {l : Launch} {e : Env} {R : Room} {s : State} {m : MethodId} {args : Array Value} {below : List Frame} {meth : Method} {c : Code} {Q : State → Prop} {V : EV} {y d n0 s0 : Nat} {hF : AH}
variable {call : Nat → List Value → AH → Res} {nx : AS → Res} {rv : Option Value}
/-- what the method's end needs -/
def RetOK (p : Program) (l : Launch) (e : Env) (R : Room) (s : State) (m : MethodId) (args : Array Value) (below : List Frame) (meth : Method) (c : Code) (Q : State → Prop) (V : EV) (y n0 s0 : Nat) (hF : AH) (rv : Option Value) : Prop :=
  ∀ (pc : Nat) (H : Heap) (locs : List Loc) (lsR : Array Slot) (i : Instr), decode (mby y) pc = .ok (i, 1) → Wh V hF H → va_S (fun q => V.B ≤ q) s.heap H locs →
    ((i = .ireturn ∧ ∃ x ty, rv = some (.int x) ∧ mret y = some ty ∧ narrow ty (.int x) = .int x) ∨ (i = .areturn ∧ ∃ a, rv = some (.ref a) ∧ ¬ a = 9 ∧ retT (mret y) = 2) ∨ (i = .return_ ∧ rv = none ∧ mret y = none)) →
    W p l e R s m args below meth c H locs (hF.length - n0) (sl hF - s0) Q (F0 m pc lsR (rv.toList.map (cv V)))
theorem ret_go {pc : Nat} {ls : LV} {st : List Value} {i : Instr} (hR : RetOK p l e R s m args below meth c Q V y n0 s0 hF rv) (hd : decode (mby y) pc = .ok (i, 1)) (hst : st = rv.toList)
    (hi : (i = .ireturn ∧ ∃ x ty, rv = some (.int x) ∧ mret y = some ty ∧ narrow ty (.int x) = .int x) ∨ (i = .areturn ∧ ∃ a, rv = some (.ref a) ∧ ¬ a = 9 ∧ retT (mret y) = 2) ∨ (i = .return_ ∧ rv = none ∧ mret y = none)) :
    Gd p l e R s m args below meth c Q V (mloc y) n0 s0 hF (pc, ls, st, hF) := by
  subst hst
  exact ⟨⟨Nat.le_refl _, Nat.le_refl _⟩, fun h1 h2 H locs lsR w S L => hR pc H locs lsR i hd w S hi⟩
theorem rt_go {b : Bool} {v : Option Value} {h : AH} {kc : Nat → AS → Res → Res} (hr : act (.inr (.inr (b, v, h))) call kc nx = some (rv, hF)) : b = true ∧ v = rv ∧ h = hF := by
  cases b with
  | true =>
    have : (v, h) = (rv, hF) := Option.some.inj hr
    cases this
    exact ⟨rfl, rfl, rfl⟩
  | false => cases hr
theorem s_inv {pc np x : Nat} {ops : List Nat} {ls : LV} {st : List Value} {h : AH} (hc : ∀ y' as h q, Nat.blt y' 238 = true → mOK y' = true → call y' as h = some q → CallOK V d y' as h q.1 q.2) (C : Cxt p R s m args meth c V y d n0 s0 hF) (hnp : np = pc + 3) (kd : Nat) (hd0 : kd = 0 → decode (mby y) pc = .ok (.invokestatic x, 3)) (hd1 : kd = 1 → decode (mby y) pc = .ok (.invokevirtual x, 3)) (hd2 : kd = 2 → decode (mby y) pc = .ok (.invokespecial x, 3))
    (hok : callOK (mnm y).cls x kd ops = true) (hn : ∀ a, nx a = some (rv, hF) → Gd p l e R s m args below meth c Q V (mloc y) n0 s0 hF a) (hr : act (stpCall np ops ls st h) call (aftK nx) nx = some (rv, hF)) : Gd p l e R s m args below meth c Q V (mloc y) n0 s0 hF (pc, ls, st, h) := by
  have hcall : ∀ {b : Bool} {y' n t : Nat} {as : List Value}, act (.inr (.inl (b, y', as, t, (np, ls, st.drop n, h)))) call (aftK nx) nx = some (rv, hF) → b = true ∧ ∃ q, call y' as h = some q ∧ pick (aft t (np, ls, st.drop n, h) q.1 q.2) none nx = some (rv, hF) := by
    intro b y' n t as hr0
    cases b with
    | false => cases hr0
    | true =>
      refine ⟨rfl, ?_⟩
      have hr1 : (call y' as h).bind (fun q => pick (aft t (np, ls, st.drop n, h) q.1 q.2) none nx) = some (rv, hF) := hr0
      cases hq : call y' as h with
      | none => rw [hq] at hr1; cases hr1
      | some q => rw [hq] at hr1; exact ⟨q, rfl, hr1⟩
  have hkd : ∀ {k : Nat} {b : Bool}, (Nat.beq kd k && b) = true → kd = k := fun hz => by
    rw [Bool.and_eq_true] at hz
    exact Nat.eq_of_beq_eq_true hz.1
  unfold stpCall at hr
  split at hr
  · rename_i y' n t o
    obtain ⟨hb0, q, hq, hp⟩ := hcall hr
    rw [Bool.and_eq_true, decide_eq_true_eq] at hb0
    match o, hok with
    | [], hok => simp [callOK] at hok
    | [_], hok => simp [callOK] at hok
    | qq :: nest :: o', hok =>
      have hok2 := hok
      simp only [callOK, Bool.and_eq_true] at hok2
      obtain ⟨⟨⟨⟨⟨⟨z0, z1⟩, z2⟩, -⟩, -⟩, -⟩, -⟩ := hok2
      have e0 := Nat.eq_of_beq_eq_true z0
      subst e0
      exact s_callS C hnp (hd0 rfl) hok hn (hc _ _ _ _ z1 z2 hq) hb0.1 (Nat.le_of_ble_eq_true hb0.2) hp
  · rename_i y' n t ci o
    split at hr
    · rename_i a tl he
      obtain ⟨hb0, q, hq, hp⟩ := hcall hr
      rw [Bool.and_eq_true, Bool.and_eq_true, decide_eq_true_eq] at hb0
      match o, hok with
      | [], hok => simp [callOK] at hok
      | [_], hok => simp [callOK] at hok
      | qq :: nest :: o', hok =>
        have hok2 := hok
        simp only [callOK, Bool.and_eq_true] at hok2
        obtain ⟨⟨⟨⟨⟨⟨⟨⟨⟨⟨z0, z1⟩, z2⟩, -⟩, -⟩, -⟩, -⟩, -⟩, -⟩, -⟩, -⟩ := hok2
        have e0 := Nat.eq_of_beq_eq_true z0
        subst e0
        exact s_callV C hnp (hd1 rfl) hok he hb0.1.2 hn (hc _ _ _ _ z1 z2 hq) hb0.1.1 (Nat.le_of_ble_eq_true hb0.2) hp
    · cases hr
  · rename_i y' n t o
    split at hr
    · rename_i a tl he
      obtain ⟨hb0, q, hq, hp⟩ := hcall hr
      rw [Bool.and_eq_true, Bool.and_eq_true, decide_eq_true_eq] at hb0
      match o, hok with
      | [], hok => simp [callOK] at hok
      | [_], hok => simp [callOK] at hok
      | qq :: nest :: o', hok =>
        have hok2 := hok
        simp only [callOK, Bool.and_eq_true] at hok2
        obtain ⟨⟨⟨⟨⟨⟨⟨⟨⟨z0, z1⟩, z2⟩, -⟩, -⟩, -⟩, -⟩, -⟩, -⟩, -⟩ := hok2
        have e0 := Nat.eq_of_beq_eq_true z0
        subst e0
        exact s_callI C hnp (hd2 rfl) hok he (Nat.le_of_ble_eq_true hb0.1.2) hn (hc _ _ _ _ z1 z2 hq) hb0.1.1 (Nat.le_of_ble_eq_true hb0.2) hp
    · cases hr
  · rename_i o
    match o, hok with
    | [], hok => simp [callOK] at hok
    | qq :: o', hok =>
      have hok2 : (Nat.beq kd 0 && wd qq (.methodLink (mnm y).cls x arraycopyName)) = true := hok
      have e0 := hkd hok2
      subst e0
      rw [Bool.and_eq_true] at hok2
      split at hr
      · obtain ⟨hb0, hr2⟩ := chk_go hr
        rw [Bool.and_eq_true] at hb0
        exact s_copy C hnp (hd0 rfl) hok2.2 hb0.1 (Nat.le_of_ble_eq_true hb0.2) (hn _ hr2)
      · cases hr
  · rename_i o
    match o, hok with
    | [], hok => simp [callOK] at hok
    | qq :: o', hok =>
      have hok2 : (Nat.beq kd 1 && wd qq (.methodLink (mnm y).cls x ⟨"[I", "clone", "()Ljava/lang/Object;"⟩)) = true := hok
      have e0 := hkd hok2
      subst e0
      rw [Bool.and_eq_true] at hok2
      split at hr
      · obtain ⟨hb0, hr2⟩ := chk_go hr
        rw [Bool.and_eq_true, Bool.and_eq_true] at hb0
        exact s_clone C hnp (hd1 rfl) hok2.2 hb0.1.1 (Nat.le_of_ble_eq_true hb0.1.2) (Nat.le_of_ble_eq_true hb0.2) (hn _ hr2)
      · cases hr
  · rename_i o
    match o, hok with
    | [], hok => simp [callOK] at hok
    | qq :: o', hok =>
      have hok2 : (Nat.beq kd 2 && wd qq (.methodLink (mnm y).cls x objectInit)) = true := hok
      have e0 := hkd hok2
      subst e0
      rw [Bool.and_eq_true] at hok2
      split at hr
      · obtain ⟨hb0, hr2⟩ := chk_go hr
        rw [Bool.and_eq_true] at hb0
        exact s_oinit C hnp (hd2 rfl) hok2.2 (Nat.le_of_ble_eq_true hb0.1) (Nat.le_of_ble_eq_true hb0.2) (hn _ hr2)
      · cases hr
  · rename_i o
    match o, hok with
    | [], hok => simp [callOK] at hok
    | qq :: o', hok =>
      have hok2 : (Nat.beq kd 0 && wd qq (.methodLink (mnm y).cls x Lib.Math.max.name)) = true := hok
      have e0 := hkd hok2
      subst e0
      rw [Bool.and_eq_true] at hok2
      split at hr
      · obtain ⟨hb0, hr2⟩ := chk_go hr
        have hv := Nat.le_of_ble_eq_true hb0
        have CC := C
        obtain ⟨hx, hb, hml, hown, hts, Gs0, hnam, hfr, hlo, -⟩ := C
        subst hnp
        refine s_math CC (hn _ hr2) (fun H locs lsR ce sc L h1 h2 k => va_mmax hx hb (by rw [hml]; exact L.symm) hown (hts _ (wd_in hok2.2)) (hts _ (List.mem_filter.mpr ⟨by decide +kernel, by decide +kernel⟩)) (hts _ (List.mem_filter.mpr ⟨by decide +kernel, by decide +kernel⟩)) (hts _ (List.mem_filter.mpr ⟨by decide +kernel, by decide +kernel⟩)) (by omega) ?_ h1 h2 (hd0 rfl) k)
        rw [vsum_eq V Gs0.2.2.1]
        omega
      · cases hr
  · rename_i o
    match o, hok with
    | [], hok => simp [callOK] at hok
    | qq :: o', hok =>
      have hok2 : (Nat.beq kd 0 && wd qq (.methodLink (mnm y).cls x Lib.Math.min.name)) = true := hok
      have e0 := hkd hok2
      subst e0
      rw [Bool.and_eq_true] at hok2
      split at hr
      · obtain ⟨hb0, hr2⟩ := chk_go hr
        have hv := Nat.le_of_ble_eq_true hb0
        have CC := C
        obtain ⟨hx, hb, hml, hown, hts, Gs0, hnam, hfr, hlo, -⟩ := C
        subst hnp
        refine s_math CC (hn _ hr2) (fun H locs lsR ce sc L h1 h2 k => va_mmin hx hb (by rw [hml]; exact L.symm) hown (hts _ (wd_in hok2.2)) (hts _ (List.mem_filter.mpr ⟨by decide +kernel, by decide +kernel⟩)) (hts _ (List.mem_filter.mpr ⟨by decide +kernel, by decide +kernel⟩)) (hts _ (List.mem_filter.mpr ⟨by decide +kernel, by decide +kernel⟩)) (by omega) ?_ h1 h2 (hd0 rfl) k)
        rw [vsum_eq V Gs0.2.2.1]
        omega
      · cases hr
  · cases hr
theorem snd_step {pc : Nat} {ls : LV} {st : List Value} {h : AH} {en : EN} (C : Cxt p R s m args meth c V y d n0 s0 hF) (ht : tchk y = true) (hn : ∀ a, nx a = some (rv, hF) → Gd p l e R s m args below meth c Q V (mloc y) n0 s0 hF a)
    (hc : ∀ y' as h q, Nat.blt y' 238 = true → mOK y' = true → call y' as h = some q → CallOK V d y' as h q.1 q.2) (hR : RetOK p l e R s m args below meth c Q V y n0 s0 hF rv) (he : tabs y pc = some en) (hr : act (stp dfls nms en ls st h) call (aftK nx) nx = some (rv, hF)) :
    Gd p l e R s m args below meth c Q V (mloc y) n0 s0 hF (pc, ls, st, h) := by
  obtain ⟨hok, hde, hle⟩ := ent_ok ht he
  have CC := C
  obtain ⟨hx, hb, hml, hown, hts, Gs0, hnam, hfr, hlo, hRc, hRs, hs, h12, hfv⟩ := C
  have hf := Gs0.2.2.1
  obtain ⟨i, np, ops, v, w⟩ := en
  dsimp only at hde hle
  cases i with
  | iconst n =>
    simp only [okE, Bool.and_eq_true, decide_eq_true_eq] at hok
    have hnp := np_of hok.1
    have hd := dlen hde hnp
    subst hnp
    exact gd_go rfl (hn _ hr) (fun H locs lsR ce sc w' S L k => lv_iconst hx hb hd hok.2 (k lsR L))
  | bipush n =>
    simp only [okE, Bool.and_eq_true, decide_eq_true_eq] at hok
    have hnp := np_of hok.1
    have hd := dlen hde hnp
    subst hnp
    exact gd_go rfl (hn _ hr) (fun H locs lsR ce sc w' S L k => lv_bipush hx hb hd hok.2 (k lsR L))
  | sipush n =>
    simp only [okE, Bool.and_eq_true, decide_eq_true_eq] at hok
    have hnp := np_of hok.1
    have hd := dlen hde hnp
    subst hnp
    exact gd_go rfl (hn _ hr) (fun H locs lsR ce sc w' S L k => lv_sipush hx hb hd hok.2 (k lsR L))
  | lconst n =>
    simp only [okE, Bool.and_eq_true, decide_eq_true_eq] at hok
    have hnp := np_of hok.1
    have hd := dlen hde hnp
    subst hnp
    exact gd_go rfl (hn _ hr) (fun H locs lsR ce sc w' S L k => lv_lconst hx hb hd hok.2 (k lsR L))
  | ldc2_w x =>
    simp only [okE, Bool.and_eq_true] at hok
    have hnp := np_of hok.1
    have hd := dlen hde hnp
    subst hnp
    obtain ⟨-, h2⟩ := hok
    split at h2
    · exact gd_go rfl (hn _ hr) (fun H locs lsR ce sc w' S L k => lv_ldc2 hx hb hown (hts _ (wd_in h2)) hd (k lsR L))
    · cases h2
  | ldc x =>
    simp only [okE, Bool.and_eq_true] at hok
    have hnp := np_of hok.1
    have hd := dlen hde hnp
    subst hnp
    obtain ⟨-, h2⟩ := hok
    split at h2
    · exact gd_go rfl (hn _ hr) (fun H locs lsR ce sc w' S L k => lv_ldc hx hb hown (hts _ (wd_in h2)) hd (k lsR L))
    · rw [Bool.and_eq_true, decide_eq_true_eq] at h2
      have h3 := Nat.eq_of_beq_eq_true h2.2
      subst h3
      refine gd_go rfl (hn _ hr) (fun H locs lsR ce sc w' S L k => va_ldcS (own := (mnm y).cls) hx hb hown (by rw [h2.1]; exact Gs0.2.2.2.2.2.2.2.2.2.2.2.1) hd ?_)
      have := k lsR L
      rw [List.map_cons, cv_ref (by decide)] at this
      exact this
    · cases h2
  | ldc_w x =>
    simp only [okE, Bool.and_eq_true] at hok
    have hnp := np_of hok.1
    have hd := dlen hde hnp
    subst hnp
    obtain ⟨-, h2⟩ := hok
    split at h2
    · exact gd_go rfl (hn _ hr) (fun H locs lsR ce sc w' S L k => lv_ldcw hx hb hown (hts _ (wd_in h2)) hd (k lsR L))
    · cases h2
  | aconst_null =>
    have hnp := np_of hok
    have hd := dlen hde hnp
    subst hnp
    exact gd_go rfl (hn _ hr) (fun H locs lsR ce sc w' S L k => lv_null hx hb hd (k lsR L))
  | iload k =>
    have hnp := np_of hok
    have hd := dlen hde hnp
    subst hnp
    exact s_ld CC hn hr (fun _ => fun h1 h2 => lv_iload hx hb hd h1 h2) (fun z => by cases z) (fun z => by cases z) hfv
  | iload_n k =>
    have hnp := np_of hok
    have hd := dlen hde hnp
    subst hnp
    exact s_ld CC hn hr (fun _ => fun h1 h2 => lv_iload_n hx hb hd rfl h1 h2) (fun z => by cases z) (fun z => by cases z) hfv
  | lload k =>
    have hnp := np_of hok
    have hd := dlen hde hnp
    subst hnp
    exact s_ld CC hn hr (fun z => by cases z) (fun _ => fun h1 h2 => lv_lload hx hb hd h1 h2) (fun z => by cases z) hfv
  | lload_n k =>
    have hnp := np_of hok
    have hd := dlen hde hnp
    subst hnp
    exact s_ld CC hn hr (fun z => by cases z) (fun _ => fun h1 h2 => lv_lload_n hx hb hd rfl h1 h2) (fun z => by cases z) hfv
  | aload k =>
    have hnp := np_of hok
    have hd := dlen hde hnp
    subst hnp
    refine s_ld CC hn hr (fun z => by cases z) (fun z => by cases z) (fun _ => fun h0 h1 h2 => ?_) hfv
    rcases h0 with rfl | ⟨a, rfl⟩
    · exact lv_aloadN hx hb hd h1 h2
    · exact lv_aload hx hb hd h1 h2
  | aload_n k =>
    have hnp := np_of hok
    have hd := dlen hde hnp
    subst hnp
    refine s_ld CC hn hr (fun z => by cases z) (fun z => by cases z) (fun _ => fun h0 h1 h2 => ?_) hfv
    rcases h0 with rfl | ⟨a, rfl⟩
    · exact lv_aload_nN hx hb hd rfl h1 h2
    · exact lv_aload_n hx hb hd rfl h1 h2
  | istore k =>
    have hnp := np_of hok
    have hd := dlen hde hnp
    subst hnp
    exact s_st CC hn hr (fun _ hk => fun h1 h2 => lv_istore hx hb hd h1 hk rfl h2) (fun z => by cases z) (fun z => by cases z) hfv
  | istore_n k =>
    have hnp := np_of hok
    have hd := dlen hde hnp
    subst hnp
    exact s_st CC hn hr (fun _ hk => fun h1 h2 => lv_istore_n hx hb hd rfl h1 hk rfl h2) (fun z => by cases z) (fun z => by cases z) hfv
  | lstore k =>
    have hnp := np_of hok
    have hd := dlen hde hnp
    subst hnp
    exact s_st CC hn hr (fun z => by cases z) (fun _ hk => fun h1 h2 => lv_lstore hx hb hd h1 hk rfl h2) (fun z => by cases z) hfv
  | astore k =>
    have hnp := np_of hok
    have hd := dlen hde hnp
    subst hnp
    refine s_st CC hn hr (fun z => by cases z) (fun z => by cases z) (fun _ hk => fun h0 h1 h2 => ?_) hfv
    rcases h0 with rfl | ⟨a, rfl⟩
    · exact lv_astoreN hx hb hd h1 hk rfl h2
    · exact lv_astore hx hb hd h1 hk rfl h2
  | astore_n k =>
    have hnp := np_of hok
    have hd := dlen hde hnp
    subst hnp
    refine s_st CC hn hr (fun z => by cases z) (fun z => by cases z) (fun _ hk => fun h0 h1 h2 => ?_) hfv
    rcases h0 with rfl | ⟨a, rfl⟩
    · exact lv_astore_nN hx hb hd rfl h1 hk rfl h2
    · exact lv_astore_n hx hb hd rfl h1 hk rfl h2
  | iinc k n =>
    simp only [okE, Bool.and_eq_true, decide_eq_true_eq] at hok
    have hnp := np_of hok.1
    have hd := dlen hde hnp
    subst hnp
    have hr' : act (match (generalizing := false) lget ls k with | some (.int x) => chk (lok ls k && lroom ls k) (pc + 3, lset ls k (some (.int (x + v))), st, h) | _ => stop) call (aftK nx) nx = some (rv, hF) := hr
    split at hr'
    · rename_i x hx0
      obtain ⟨hb0, hr2⟩ := chk_go hr'
      rw [Bool.and_eq_true] at hb0
      refine gd_go rfl (hn _ hr2) (fun H locs lsR ce sc w' S L kk => ?_)
      have hm : (k, Value.int x) ∈ lvl V 0 ls := lvl_mem.mpr ⟨k, .int x, hx0, by rw [Nat.zero_add]; rfl⟩
      obtain ⟨j, hj⟩ := List.getElem?_of_mem hm
      exact lv_iinc hx hb hd L.1 hj (by rw [hok.2]) (L.2 ▸ Nat.le_of_ble_eq_true hb0.2) rfl (fun lsR' L' => kk lsR' ⟨lv_put1 (v := .int (x + v)) hf hb0.1 hb0.2 L', lset_len.trans L.2⟩)
    · cases hr'
  | iadd =>
    have hnp := np_of hok
    have hd := dlen hde hnp
    subst hnp
    exact s_op2 (i := .iadd) (np := pc + 1) hn hr (fun ho k => by cases ho; exact lv_iadd hx hb hd k)
  | isub =>
    have hnp := np_of hok
    have hd := dlen hde hnp
    subst hnp
    exact s_op2 (i := .isub) (np := pc + 1) hn hr (fun ho k => by cases ho; exact lv_isub hx hb hd k)
  | imul =>
    have hnp := np_of hok
    have hd := dlen hde hnp
    subst hnp
    exact s_op2 (i := .imul) (np := pc + 1) hn hr (fun ho k => by cases ho; exact lv_imul hx hb hd k)
  | iand =>
    have hnp := np_of hok
    have hd := dlen hde hnp
    subst hnp
    exact s_op2 (i := .iand) (np := pc + 1) hn hr (fun ho k => by cases ho; exact lv_iand hx hb hd k)
  | ior =>
    have hnp := np_of hok
    have hd := dlen hde hnp
    subst hnp
    exact s_op2 (i := .ior) (np := pc + 1) hn hr (fun ho k => by cases ho; exact lv_ior hx hb hd k)
  | ixor =>
    have hnp := np_of hok
    have hd := dlen hde hnp
    subst hnp
    exact s_op2 (i := .ixor) (np := pc + 1) hn hr (fun ho k => by cases ho; exact lv_ixor hx hb hd k)
  | ishl =>
    have hnp := np_of hok
    have hd := dlen hde hnp
    subst hnp
    exact s_op2 (i := .ishl) (np := pc + 1) hn hr (fun ho k => by cases ho; exact lv_ishl hx hb hd k)
  | ishr =>
    have hnp := np_of hok
    have hd := dlen hde hnp
    subst hnp
    exact s_op2 (i := .ishr) (np := pc + 1) hn hr (fun ho k => by cases ho; exact lv_ishr hx hb hd k)
  | iushr =>
    have hnp := np_of hok
    have hd := dlen hde hnp
    subst hnp
    exact s_op2 (i := .iushr) (np := pc + 1) hn hr (fun ho k => by cases ho; exact lv_iushr hx hb hd rfl k)
  | i2l =>
    have hnp := np_of hok
    have hd := dlen hde hnp
    subst hnp
    have hr' : act (match (generalizing := false) st with | .int x :: r => go (pc + 1, ls, .long x.toInt64 :: r, h) | _ => stop) call (aftK nx) nx = some (rv, hF) := hr
    split at hr'
    · exact gd_go rfl (hn _ hr') (fun H locs lsR ce sc w' S L k => lv_i2l hx hb hd rfl (k lsR L))
    · cases hr'
  | l2i =>
    have hnp := np_of hok
    have hd := dlen hde hnp
    subst hnp
    have hr' : act (match (generalizing := false) st with | .long x :: r => go (pc + 1, ls, .int x.toInt32 :: r, h) | _ => stop) call (aftK nx) nx = some (rv, hF) := hr
    split at hr'
    · exact gd_go rfl (hn _ hr') (fun H locs lsR ce sc w' S L k => lv_l2i hx hb hd rfl (k lsR L))
    · cases hr'
  | i2b =>
    have hnp := np_of hok
    have hd := dlen hde hnp
    subst hnp
    have hr' : act (match (generalizing := false) st with | .int x :: r => go (pc + 1, ls, .int x.toInt8.toInt32 :: r, h) | _ => stop) call (aftK nx) nx = some (rv, hF) := hr
    split at hr'
    · exact gd_go rfl (hn _ hr') (fun H locs lsR ce sc w' S L k => lv_i2b hx hb hd rfl (k lsR L))
    · cases hr'
  | i2s =>
    have hnp := np_of hok
    have hd := dlen hde hnp
    subst hnp
    have hr' : act (match (generalizing := false) st with | .int x :: r => go (pc + 1, ls, .int x.toInt16.toInt32 :: r, h) | _ => stop) call (aftK nx) nx = some (rv, hF) := hr
    split at hr'
    · exact gd_go rfl (hn _ hr') (fun H locs lsR ce sc w' S L k => lv_i2s hx hb hd rfl (k lsR L))
    · cases hr'
  | i2c =>
    have hnp := np_of hok
    have hd := dlen hde hnp
    subst hnp
    have hr' : act (match (generalizing := false) st with | .int x :: r => go (pc + 1, ls, .int (x.toUInt32 % 65536).toInt32 :: r, h) | _ => stop) call (aftK nx) nx = some (rv, hF) := hr
    split at hr'
    · exact gd_go rfl (hn _ hr') (fun H locs lsR ce sc w' S L k => lv_i2c hx hb hd rfl (k lsR L))
    · cases hr'
  | lcmp =>
    have hnp := np_of hok
    have hd := dlen hde hnp
    subst hnp
    have hr' : act (match (generalizing := false) st with | .long y :: .long x :: r => go (pc + 1, ls, .int (lg_cmp x y) :: r, h) | _ => stop) call (aftK nx) nx = some (rv, hF) := hr
    split at hr'
    · exact gd_go rfl (hn _ hr') (fun H locs lsR ce sc w' S L k => W.lcmp hx hb hd (k lsR L))
    · cases hr'
  | ladd =>
    have hnp := np_of hok
    have hd := dlen hde hnp
    subst hnp
    have hr' : act (match (generalizing := false) st with | .long y :: .long x :: r => go (pc + 1, ls, .long (x + y) :: r, h) | _ => stop) call (aftK nx) nx = some (rv, hF) := hr
    split at hr'
    · exact gd_go rfl (hn _ hr') (fun H locs lsR ce sc w' S L k => lv_ladd hx hb hd (k lsR L))
    · cases hr'
  | land =>
    have hnp := np_of hok
    have hd := dlen hde hnp
    subst hnp
    have hr' : act (match (generalizing := false) st with | .long y :: .long x :: r => go (pc + 1, ls, .long (x &&& y) :: r, h) | _ => stop) call (aftK nx) nx = some (rv, hF) := hr
    split at hr'
    · exact gd_go rfl (hn _ hr') (fun H locs lsR ce sc w' S L k => lv_land hx hb hd (k lsR L))
    · cases hr'
  | lor =>
    have hnp := np_of hok
    have hd := dlen hde hnp
    subst hnp
    have hr' : act (match (generalizing := false) st with | .long y :: .long x :: r => go (pc + 1, ls, .long (x ||| y) :: r, h) | _ => stop) call (aftK nx) nx = some (rv, hF) := hr
    split at hr'
    · exact gd_go rfl (hn _ hr') (fun H locs lsR ce sc w' S L k => lv_lor hx hb hd (k lsR L))
    · cases hr'
  | lshl =>
    have hnp := np_of hok
    have hd := dlen hde hnp
    subst hnp
    have hr' : act (match (generalizing := false) st with | .int y :: .long x :: r => go (pc + 1, ls, .long (x <<< (y.toInt64 &&& 63)) :: r, h) | _ => stop) call (aftK nx) nx = some (rv, hF) := hr
    split at hr'
    · exact gd_go rfl (hn _ hr') (fun H locs lsR ce sc w' S L k => lv_lshl hx hb hd rfl (k lsR L))
    · cases hr'
  | lshr =>
    have hnp := np_of hok
    have hd := dlen hde hnp
    subst hnp
    have hr' : act (match (generalizing := false) st with | .int y :: .long x :: r => go (pc + 1, ls, .long (x >>> (y.toInt64 &&& 63)) :: r, h) | _ => stop) call (aftK nx) nx = some (rv, hF) := hr
    split at hr'
    · exact gd_go rfl (hn _ hr') (fun H locs lsR ce sc w' S L k => lv_lshr hx hb hd rfl (k lsR L))
    · cases hr'
  | idiv =>
    have hnp := np_of hok
    have hd := dlen hde hnp
    subst hnp
    have hr' : act (match (generalizing := false) st with | .int y :: .int x :: r => chk (!decide (y = 0)) (pc + 1, ls, .int (x / y) :: r, h) | _ => stop) call (aftK nx) nx = some (rv, hF) := hr
    split at hr'
    · obtain ⟨hb0, hr2⟩ := chk_go hr'
      exact gd_go rfl (hn _ hr2) (fun H locs lsR ce sc w' S L k => lv_idiv hx hb hd (by simpa using hb0) (k lsR L))
    · cases hr'
  | irem =>
    have hnp := np_of hok
    have hd := dlen hde hnp
    subst hnp
    have hr' : act (match (generalizing := false) st with | .int y :: .int x :: r => chk (!decide (y = 0)) (pc + 1, ls, .int (x - x / y * y) :: r, h) | _ => stop) call (aftK nx) nx = some (rv, hF) := hr
    split at hr'
    · obtain ⟨hb0, hr2⟩ := chk_go hr'
      exact gd_go rfl (hn _ hr2) (fun H locs lsR ce sc w' S L k => lv_irem hx hb hd (by simpa using hb0) (k lsR L))
    · cases hr'
  | dup =>
    have hnp := np_of hok
    have hd := dlen hde hnp
    subst hnp
    have hr' : act (match (generalizing := false) st with | a :: r => chk (cat1 a) (pc + 1, ls, a :: a :: r, h) | _ => stop) call (aftK nx) nx = some (rv, hF) := hr
    split at hr'
    · obtain ⟨hb0, hr2⟩ := chk_go hr'
      exact gd_go rfl (hn _ hr2) (fun H locs lsR ce sc w' S L k => lv_dup hx hb hd (by rw [cv_cat V hf]; exact cat1_eq hb0) (k lsR L))
    · cases hr'
  | dup2 =>
    have hnp := np_of hok
    have hd := dlen hde hnp
    subst hnp
    have hr' : act (match (generalizing := false) st with | a :: b :: r => chk (cat1 a && cat1 b) (pc + 1, ls, a :: b :: a :: b :: r, h) | _ => stop) call (aftK nx) nx = some (rv, hF) := hr
    split at hr'
    · obtain ⟨hb0, hr2⟩ := chk_go hr'
      rw [Bool.and_eq_true] at hb0
      exact gd_go rfl (hn _ hr2) (fun H locs lsR ce sc w' S L k => lv_dup2_11 hx hb hd (by rw [cv_cat V hf]; exact cat1_eq hb0.1) (by rw [cv_cat V hf]; exact cat1_eq hb0.2) (k lsR L))
    · cases hr'
  | pop =>
    have hnp := np_of hok
    have hd := dlen hde hnp
    subst hnp
    have hr' : act (match (generalizing := false) st with | a :: r => chk (cat1 a) (pc + 1, ls, r, h) | _ => stop) call (aftK nx) nx = some (rv, hF) := hr
    split at hr'
    · obtain ⟨hb0, hr2⟩ := chk_go hr'
      exact gd_go rfl (hn _ hr2) (fun H locs lsR ce sc w' S L k => lv_pop hx hb hd (by rw [cv_cat V hf]; exact cat1_eq hb0) (k lsR L))
    · cases hr'
  | ifCond cd o =>
    simp only [okE, Bool.and_eq_true] at hok
    have hnp := np_of hok.1
    have hd := dlen hde hnp
    obtain ⟨-, htg⟩ := hok
    have hr' : act (match (generalizing := false) st, ops with | .int x :: r, t :: _ => br (cnd cd x 0) (t, ls, r, h) (np, ls, r, h) | _, _ => stop) call (aftK nx) nx = some (rv, hF) := hr
    split at hr'
    · rcases br_go hr' with ⟨hb0, hr2⟩ | ⟨hb0, hr2⟩
      · exact gd_go rfl (hn _ hr2) (fun H locs lsR ce sc w' S L k => cnd_row0 hx hb hd (tgt_of htg) hnp hb0 (k lsR L))
      · exact gd_go rfl (hn _ hr2) (fun H locs lsR ce sc w' S L k => cnd_row0 hx hb hd (tgt_of htg) hnp hb0 (k lsR L))
    · cases hr'
  | if_icmp cd o =>
    simp only [okE, Bool.and_eq_true] at hok
    have hnp := np_of hok.1
    have hd := dlen hde hnp
    obtain ⟨-, htg⟩ := hok
    have hr' : act (match (generalizing := false) st, ops with | .int y :: .int x :: r, t :: _ => br (cnd cd x y) (t, ls, r, h) (np, ls, r, h) | _, _ => stop) call (aftK nx) nx = some (rv, hF) := hr
    split at hr'
    · rcases br_go hr' with ⟨hb0, hr2⟩ | ⟨hb0, hr2⟩
      · exact gd_go rfl (hn _ hr2) (fun H locs lsR ce sc w' S L k => cnd_row hx hb hd (tgt_of htg) hnp hb0 (k lsR L))
      · exact gd_go rfl (hn _ hr2) (fun H locs lsR ce sc w' S L k => cnd_row hx hb hd (tgt_of htg) hnp hb0 (k lsR L))
    · cases hr'
  | ifnull o =>
    simp only [okE, Bool.and_eq_true] at hok
    have hnp := np_of hok.1
    have hd := dlen hde hnp
    obtain ⟨-, htg⟩ := hok
    subst hnp
    have hr' : act (match (generalizing := false) st, ops with | .null :: r, t :: _ => go (t, ls, r, h) | .ref a :: r, _ :: _ => chk (!(Nat.beq a 9)) (pc + 3, ls, r, h) | _, _ => stop) call (aftK nx) nx = some (rv, hF) := hr
    split at hr'
    · exact gd_go rfl (hn _ hr') (fun H locs lsR ce sc w' S L k => lv_ifnullN hx hb hd (tgt_of htg) (k lsR L))
    · rename_i a r _ _
      obtain ⟨hb0, hr2⟩ := chk_go hr'
      refine gd_go rfl (hn _ hr2) (fun H locs lsR ce sc w' S L k => ?_)
      rw [List.map_cons, cv_ref (beq9 hb0)]
      exact lv_ifnull hx hb hd (k lsR L)
    · cases hr'
  | ifnonnull o =>
    simp only [okE, Bool.and_eq_true] at hok
    have hnp := np_of hok.1
    have hd := dlen hde hnp
    obtain ⟨-, htg⟩ := hok
    subst hnp
    have hr' : act (match (generalizing := false) st, ops with | .null :: r, _ :: _ => go (pc + 3, ls, r, h) | .ref a :: r, t :: _ => chk (!(Nat.beq a 9)) (t, ls, r, h) | _, _ => stop) call (aftK nx) nx = some (rv, hF) := hr
    split at hr'
    · exact gd_go rfl (hn _ hr') (fun H locs lsR ce sc w' S L k => lv_ifnonnullN hx hb hd (k lsR L))
    · rename_i a r t _
      obtain ⟨hb0, hr2⟩ := chk_go hr'
      refine gd_go rfl (hn _ hr2) (fun H locs lsR ce sc w' S L k => ?_)
      rw [List.map_cons, cv_ref (beq9 hb0)]
      exact lv_ifnonnull hx hb hd (tgt_of htg) (k lsR L)
    · cases hr'
  | goto o =>
    simp only [okE, Bool.and_eq_true] at hok
    have hnp := np_of hok.1
    have hd := dlen hde hnp
    obtain ⟨-, htg⟩ := hok
    have hr' : act (match (generalizing := false) ops with | t :: _ => go (t, ls, st, h) | _ => stop) call (aftK nx) nx = some (rv, hF) := hr
    split at hr'
    · exact gd_go rfl (hn _ hr') (fun H locs lsR ce sc w' S L k => lv_goto hx hb hd (tgt_of htg) (k lsR L))
    · cases hr'
  | tableswitch dd lo hi offs =>
    have hr' : act (match (generalizing := false) st, ops with | .int x :: r, t :: ts => .inl (swT x ls r h lo ts, some (t, ls, r, h)) | _, _ => stop) call (aftK nx) nx = some (rv, hF) := hr
    split at hr'
    · rename_i x r t ts
      simp only [okE, Bool.and_eq_true, decide_eq_true_eq] at hok
      obtain ⟨⟨⟨⟨k1, k2⟩, k3⟩, k4⟩, k5⟩ := hok
      have hlen : offs.toList.length = ts.length := by
        have := congrArg List.length k2
        simpa using this
      have hs0 : Int32.size = 4294967296 := rfl
      rcases swT_road ts lo hr' with ⟨j, t', h1, h2, h3⟩ | ⟨h1, h2⟩
      · have hj : j < ts.length := (List.getElem?_eq_some_iff.mp h1).1
        have hxi : x.toInt = lo + j := by
          rw [h2, Int32.toInt_ofInt]
          rw [Int.bmod_eq_of_le] <;> omega
        have hoff : ∃ o, offs[j]? = some o ∧ (pc : Int) + o = (t' : Int) := by
          have h4 := congrArg (fun z => z[j]?) k2
          simp only [List.getElem?_map, h1, Option.map_some, Array.getElem?_toList] at h4
          cases ho : offs[j]? with
          | none => rw [ho] at h4; cases h4
          | some o =>
            rw [ho] at h4
            exact ⟨o, rfl, Option.some.inj h4⟩
        obtain ⟨o, ho1, ho2⟩ := hoff
        exact gd_go rfl (hn _ h3) (fun H locs lsR ce sc w' S L k => lv_tableIn hx hb hde (by omega) (by omega) (by rw [hxi, show lo + (j : Int) - lo = (j : Int) by omega]; exact ho1) ho2 (k lsR L))
      · refine gd_go rfl (hn _ h2) (fun H locs lsR ce sc w' S L k => lv_tableOut hx hb hde ?_ k1 (k lsR L))
        by_cases c1 : x.toInt < lo
        · exact Or.inl c1
        · by_cases c2 : hi < x.toInt
          · exact Or.inr c2
          · exfalso
            refine h1 (x.toInt - lo).toNat (by omega) ?_
            rw [show lo + ((x.toInt - lo).toNat : Int) = x.toInt by omega]
            exact (Int32.ofInt_toInt x).symm
    · cases hr'
  | lookupswitch dd ps =>
    have hr' : act (match (generalizing := false) st, ops with | .int x :: r, t :: ts => .inl (swL x ls r h ps.toList ts, some (t, ls, r, h)) | _, _ => stop) call (aftK nx) nx = some (rv, hF) := hr
    split at hr'
    · rename_i x r t ts
      simp only [okE, Bool.and_eq_true, decide_eq_true_eq] at hok
      obtain ⟨⟨⟨k1, k2⟩, k3⟩, k4⟩ := hok
      obtain ⟨t', h1, h2⟩ := swL_road (pc := pc) (dd := dd) (dflt := (t, ls, r, h)) k1 rfl ps.toList ts k2 (fun o ho => by
        have := List.all_eq_true.mp k4 o ho
        simpa using this) hr'
      exact gd_go rfl (hn _ h2) (fun H locs lsR ce sc w' S L k => lv_lookup hx hb hde k3 rfl h1 (k lsR L))
    · cases hr'
  | getfield x =>
    simp only [okE, Bool.and_eq_true] at hok
    have hnp := np_of hok.1
    have hd := dlen hde hnp
    obtain ⟨-, hk⟩ := hok
    have hr' : act (stpGet np ops ls st h) call (aftK nx) nx = some (rv, hF) := hr
    unfold stpGet at hr'
    split at hr'
    · rename_i a r ci k ot
      obtain ⟨hb0, hr2⟩ := chk_go hr'
      unfold okI at hb0
      split at hb0
      · rename_i c0 fs hc0
        rw [Bool.and_eq_true] at hb0
        obtain ⟨hb1, hb2⟩ := hb0
        have e0 := Nat.eq_of_beq_eq_true hb1
        subst e0
        split at hb2
        · rename_i z hz
          refine gd_go rfl (hn _ hr2) (fun H locs lsR ce sc w' S L kk => s_getf CC hk hnp hd hc0 hz w' S ?_)
          have := kk lsR L
          have hg : gI h a k = z := by unfold gI; rw [hc0]; simp only [hz]
          rw [hg] at this
          exact this
        · cases hb2
      · cases hb0
    · rename_i a r ci k tt ot hne
      rcases pick2 hr' with ⟨hb0, hr2⟩ | ⟨hb0, hr2⟩
      · unfold okN at hb0
        split at hb0
        · rename_i c0 fs hc0
          rw [Bool.and_eq_true] at hb0
          obtain ⟨hb1, hb2⟩ := hb0
          have e0 := Nat.eq_of_beq_eq_true hb1
          subst e0
          split at hb2
          · rename_i hz
            exact gd_go rfl (hn _ hr2) (fun H locs lsR ce sc w' S L kk => s_getf CC hk hnp hd hc0 hz w' S (kk lsR L))
          · cases hb2
        · cases hb0
      · unfold okR at hb0
        split at hb0
        · rename_i c0 fs hc0
          rw [Bool.and_eq_true] at hb0
          obtain ⟨hb1, hb2⟩ := hb0
          have e0 := Nat.eq_of_beq_eq_true hb1
          subst e0
          split at hb2
          · rename_i z hz
            refine gd_go rfl (hn _ hr2) (fun H locs lsR ce sc w' S L kk => s_getf CC hk hnp hd hc0 hz w' S ?_)
            have := kk lsR L
            have hg : gR h a k = z := by unfold gR; rw [hc0]; simp only [hz]
            rw [hg] at this
            exact this
          · cases hb2
        · cases hb0
    · cases hr'
  | putfield x =>
    simp only [okE, Bool.and_eq_true] at hok
    have hnp := np_of hok.1
    have hd := dlen hde hnp
    obtain ⟨-, hk⟩ := hok
    have hr' : act (stpPut np ops ls st h) call (aftK nx) nx = some (rv, hF) := hr
    unfold stpPut at hr'
    split at hr'
    · obtain ⟨hb0, hr2⟩ := chk_go hr'
      exact s_putf CC hk hnp hd hb0 (Or.inl ⟨rfl, _, rfl⟩) (hn _ hr2)
    · obtain ⟨hb0, hr2⟩ := chk_go hr'
      rw [Bool.and_eq_true] at hb0
      exact s_putf CC hk hnp hd hb0.1 (Or.inr (Or.inl ⟨rfl, _, rfl, isB_or hb0.2⟩)) (hn _ hr2)
    · obtain ⟨hb0, hr2⟩ := chk_go hr'
      rw [Bool.and_eq_true] at hb0
      exact s_putf CC hk hnp hd hb0.1 (Or.inr (Or.inr ⟨rfl, Or.inr ⟨_, rfl, beq9 hb0.2⟩⟩)) (hn _ hr2)
    · obtain ⟨hb0, hr2⟩ := chk_go hr'
      exact s_putf CC hk hnp hd hb0 (Or.inr (Or.inr ⟨rfl, Or.inl rfl⟩)) (hn _ hr2)
    · cases hr'
  | getstatic x =>
    simp only [okE, Bool.and_eq_true] at hok
    have hnp := np_of hok.1
    have hd := dlen hde hnp
    obtain ⟨-, hk⟩ := hok
    exact s_stat CC hnp hd hk hn hr
  | iaload =>
    have hnp := np_of hok
    have hd := dlen hde hnp
    subst hnp
    have hr' : act (stpAld 0 (pc + 1) ls st h) call (aftK nx) nx = some (rv, hF) := hr
    unfold stpAld at hr'
    split at hr'
    · obtain ⟨hb0, hr2⟩ := chk_go hr'
      exact s_ald (t := 0) CC rfl hd hb0 (hn _ hr2)
    · cases hr'
  | baload =>
    have hnp := np_of hok
    have hd := dlen hde hnp
    subst hnp
    have hr' : act (stpAld 1 (pc + 1) ls st h) call (aftK nx) nx = some (rv, hF) := hr
    unfold stpAld at hr'
    split at hr'
    · obtain ⟨hb0, hr2⟩ := chk_go hr'
      exact s_ald (t := 1) CC rfl hd hb0 (hn _ hr2)
    · cases hr'
  | iastore =>
    have hnp := np_of hok
    have hd := dlen hde hnp
    subst hnp
    have hr' : act (stpAst 0 (pc + 1) ls st h) call (aftK nx) nx = some (rv, hF) := hr
    unfold stpAst at hr'
    split at hr'
    · obtain ⟨hb0, hr2⟩ := chk_go hr'
      rw [Bool.and_eq_true] at hb0
      exact s_ast (t := 0) CC rfl hd (Nat.le_of_ble_eq_true hb0.1) hb0.2 (hn _ hr2)
    · cases hr'
  | bastore =>
    have hnp := np_of hok
    have hd := dlen hde hnp
    subst hnp
    have hr' : act (stpAst 1 (pc + 1) ls st h) call (aftK nx) nx = some (rv, hF) := hr
    unfold stpAst at hr'
    split at hr'
    · obtain ⟨hb0, hr2⟩ := chk_go hr'
      rw [Bool.and_eq_true] at hb0
      exact s_ast (t := 1) CC rfl hd (Nat.le_of_ble_eq_true hb0.1) hb0.2 (hn _ hr2)
    · cases hr'
  | aaload =>
    have hnp := np_of hok
    have hd := dlen hde hnp
    exact s_aald CC hnp hd hn hr
  | aastore =>
    simp only [okE, Bool.and_eq_true] at hok
    have hnp := np_of hok.1
    have hd := dlen hde hnp
    obtain ⟨-, hk⟩ := hok
    refine s_aast CC hnp hd ?_ hn hr
    split at hk
    · exact ⟨_, rfl⟩
    · cases hk
  | arraylength =>
    have hnp := np_of hok
    have hd := dlen hde hnp
    subst hnp
    have hr' : act (match (generalizing := false) st with | .ref a :: r => chk (okL h a) (pc + 1, ls, .int (nI (lenA h a)) :: r, h) | _ => stop) call (aftK nx) nx = some (rv, hF) := hr
    split at hr'
    · obtain ⟨hb0, hr2⟩ := chk_go hr'
      exact s_len CC rfl hd hb0 (hn _ hr2)
    · cases hr'
  | new x =>
    simp only [okE, Bool.and_eq_true] at hok
    have hnp := np_of hok.1
    have hd := dlen hde hnp
    obtain ⟨-, hk⟩ := hok
    have hr' : act (match (generalizing := false) ops with | ci :: _ => go (np, ls, .ref h.length :: st, h ++ [objOf dfls ci]) | _ => stop) call (aftK nx) nx = some (rv, hF) := hr
    split at hk
    · rename_i ci q rest
      cases hci : vwCl[ci]? with
      | none => rw [hci] at hk; cases hk
      | some r0 =>
        obtain ⟨C0, T0, N0⟩ := r0
        rw [hci] at hk
        exact s_new (ops := []) CC hnp hd hci hk (hn _ hr')
    · cases hk
  | newarray at0 =>
    simp only [okE, Bool.and_eq_true] at hok
    have hnp := np_of hok.1
    have hd := dlen hde hnp
    obtain ⟨-, hk⟩ := hok
    have hr' : act (match (generalizing := false) st, ops with | .int n :: r, t :: _ => chk (small n) (np, ls, .ref h.length :: r, h ++ [.inl (tyN t, ints n.toNatClampNeg)]) | _, _ => stop) call (aftK nx) nx = some (rv, hF) := hr
    split at hr'
    · obtain ⟨hb0, hr2⟩ := chk_go hr'
      split at hk
      · rename_i heq
        cases heq
        exact s_newa CC hnp hd (Or.inl ⟨rfl, of_decide_eq_true hk⟩) hb0 (hn _ hr2)
      · rename_i heq
        cases heq
        exact s_newa CC hnp hd (Or.inr ⟨rfl, of_decide_eq_true hk⟩) hb0 (hn _ hr2)
      · cases hk
    · cases hr'
  | anewarray x =>
    simp only [okE, Bool.and_eq_true] at hok
    have hnp := np_of hok.1
    have hd := dlen hde hnp
    obtain ⟨-, hk⟩ := hok
    have hr' : act (match (generalizing := false) st, ops with | .int n :: r, _ :: _ => chk (small n) (np, ls, .ref h.length :: r, h ++ [.inl (.char, refs n.toNatClampNeg (fun _ => none))]) | _, _ => stop) call (aftK nx) nx = some (rv, hF) := hr
    split at hr'
    · obtain ⟨hb0, hr2⟩ := chk_go hr'
      split at hk
      · rename_i heq
        cases heq
        exact s_newq CC hnp hd hk hb0 (hn _ hr2)
      · cases hk
    · cases hr'
  | multianewarray x nd =>
    simp only [okE, Bool.and_eq_true, decide_eq_true_eq] at hok
    obtain ⟨⟨hnp0, rfl⟩, hk⟩ := hok
    have hnp := np_of hnp0
    have hd := dlen hde hnp
    have hr' : act (match (generalizing := false) st with | .int k :: .int n :: r => chk (small n && small k) (np, ls, .ref h.length :: r, h ++ gridC h.length n.toNatClampNeg k.toNatClampNeg) | _ => stop) call (aftK nx) nx = some (rv, hF) := hr
    split at hr'
    · obtain ⟨hb0, hr2⟩ := chk_go hr'
      rw [Bool.and_eq_true] at hb0
      split at hk
      · exact s_mna CC hnp hd hk hb0.1 hb0.2 (hn _ hr2)
      · cases hk
    · cases hr'
  | checkcast x =>
    simp only [okE, Bool.and_eq_true] at hok
    have hnp := np_of hok.1
    have hd := dlen hde hnp
    obtain ⟨-, hk⟩ := hok
    have hr' : act (match (generalizing := false) st with | .ref a :: r => chk (isI h a && Nat.ble 12 a) (np, ls, .ref a :: r, h) | _ => stop) call (aftK nx) nx = some (rv, hF) := hr
    split at hr'
    · obtain ⟨hb0, hr2⟩ := chk_go hr'
      rw [Bool.and_eq_true] at hb0
      split at hk
      · exact s_cast CC hnp hd hk hb0.1 (Nat.le_of_ble_eq_true hb0.2) (hn _ hr2)
      · cases hk
    · cases hr'
  | invokestatic x =>
    simp only [okE, Bool.and_eq_true] at hok
    have hnp := np_of hok.1
    have hd := dlen hde hnp
    obtain ⟨-, hk⟩ := hok
    exact s_inv hc CC hnp 0 (fun _ => hd) (fun z => by cases z) (fun z => by cases z) hk hn hr
  | invokevirtual x =>
    simp only [okE, Bool.and_eq_true] at hok
    have hnp := np_of hok.1
    have hd := dlen hde hnp
    obtain ⟨-, hk⟩ := hok
    exact s_inv hc CC hnp 1 (fun z => by cases z) (fun _ => hd) (fun z => by cases z) hk hn hr
  | invokespecial x =>
    simp only [okE, Bool.and_eq_true] at hok
    have hnp := np_of hok.1
    have hd := dlen hde hnp
    obtain ⟨-, hk⟩ := hok
    exact s_inv hc CC hnp 2 (fun z => by cases z) (fun z => by cases z) (fun _ => hd) hk hn hr
  | ireturn =>
    simp only [okE, Bool.and_eq_true] at hok
    have hnp := np_of hok.1
    have hd := dlen hde hnp
    obtain ⟨-, hk⟩ := hok
    have hr' : act (match (generalizing := false) st, ops with | [.int x], 0 :: _ => .inr (.inr (true, some (.int x), h)) | [.int x], 1 :: _ => .inr (.inr (isB x, some (.int x), h)) | [.int x], 2 :: _ => .inr (.inr (nck .byte x, some (.int x), h)) | [.int x], 3 :: _ => .inr (.inr (nck .char x, some (.int x), h)) | _, _ => stop) call (aftK nx) nx = some (rv, hF) := hr
    split at hr'
    · cases hr'
      exact ret_go hR hd rfl (Or.inl ⟨rfl, _, .int, rfl, of_decide_eq_true hk, rfl⟩)
    · obtain ⟨hb0, h1, h2⟩ := rt_go hr'
      subst h1
      subst h2
      refine ret_go hR hd rfl (Or.inl ⟨rfl, _, .boolean, rfl, of_decide_eq_true hk, ?_⟩)
      rcases isB_or hb0 with rfl | rfl <;> decide +kernel
    · obtain ⟨hb0, h1, h2⟩ := rt_go hr'
      subst h1
      subst h2
      exact ret_go hR hd rfl (Or.inl ⟨rfl, _, .byte, rfl, of_decide_eq_true hk, of_decide_eq_true hb0⟩)
    · obtain ⟨hb0, h1, h2⟩ := rt_go hr'
      subst h1
      subst h2
      exact ret_go hR hd rfl (Or.inl ⟨rfl, _, .char, rfl, of_decide_eq_true hk, of_decide_eq_true hb0⟩)
    · cases hr'
  | areturn =>
    simp only [okE, Bool.and_eq_true] at hok
    have hnp := np_of hok.1
    have hd := dlen hde hnp
    obtain ⟨-, hk⟩ := hok
    have hr' : act (match (generalizing := false) st with | [.ref a] => .inr (.inr (!(Nat.beq a 9), some (.ref a), h)) | _ => stop) call (aftK nx) nx = some (rv, hF) := hr
    split at hr'
    · obtain ⟨hb0, h1, h2⟩ := rt_go hr'
      subst h1
      subst h2
      exact ret_go hR hd rfl (Or.inr (Or.inl ⟨rfl, _, rfl, beq9 hb0, Nat.eq_of_beq_eq_true hk⟩))
    · cases hr'
  | return_ =>
    simp only [okE, Bool.and_eq_true] at hok
    have hnp := np_of hok.1
    have hd := dlen hde hnp
    obtain ⟨-, hk⟩ := hok
    have hr' : act (match (generalizing := false) st with | [] => .inr (.inr (true, none, h)) | _ => stop) call (aftK nx) nx = some (rv, hF) := hr
    split at hr'
    · cases hr'
      exact ret_go hR hd rfl (Or.inr (Or.inr ⟨rfl, rfl, of_decide_eq_true hk⟩))
    · cases hr'
  | _ => cases hr
end MAIN
