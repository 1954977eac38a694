/-! Heaps only grow. -/
def geH (h h' : AH) : Prop := h.length ≤ h'.length ∧ sl h ≤ sl h'
theorem ge_rf (h : AH) : geH h h := ⟨Nat.le_refl _, Nat.le_refl _⟩
theorem ge_tr {a b c : AH} (h1 : geH a b) (h2 : geH b c) : geH a c := ⟨Nat.le_trans h1.1 h2.1, Nat.le_trans h1.2 h2.2⟩
theorem ge_app (h t : AH) : geH h (h ++ t) := ⟨by simp, by rw [sl_app]; omega⟩
theorem ge_set {h : AH} {a : Nat} {c c' : AC} (hc : hat h a = some c) (e : slc c' = slc c) : geH h (h.set a c') := ⟨by simp, by rw [sl_set h a c c' hc e]; exact Nat.le_refl _⟩
theorem ge_pF (h : AH) (a k : Nat) (v : Value) : geH h (pF h a k v) := by
  unfold pF
  split
  · rename_i hc
    exact ge_set hc (by simp [slc])
  · exact ge_rf h
theorem ge_wA (h : AH) (a : Nat) (i x : Int32) : geH h (wA h a i x) := by
  unfold wA
  split
  · rename_i hc
    exact ge_set hc rfl
  · exact ge_rf h
theorem ge_wO (h : AH) (a : Nat) (i : Int32) (o : Option Nat) : geH h (wO h a i o) := by
  unfold wO
  split
  · rename_i hc
    exact ge_set hc rfl
  · exact ge_rf h
theorem ge_copA (h : AH) (a b : Nat) (sp dp n : Int32) : geH h (copA h a b sp dp n) := by
  unfold copA
  split
  · rename_i hc
    exact ge_set hc rfl
  · exact ge_rf h
theorem ge_cloA (h : AH) (a : Nat) : geH h (cloA h a) := by
  unfold cloA
  split
  · exact ge_app h _
  · exact ge_rf h
/-- every road of an action goes to no smaller heap -/
def actM (h : AH) (a : ACT) : Prop := match a with
  | .inl (cs, d) => (∀ q ∈ cs, geH h q.2.2.2.2) ∧ ∀ s, d = some s → geH h s.2.2.2
  | .inr (.inl (_, _, _, _, s)) => s.2.2.2 = h
  | .inr (.inr (_, _, h')) => h' = h
theorem am_go {h : AH} {s : AS} (g : geH h s.2.2.2) : actM h (go s) := ⟨fun q hq => absurd hq List.not_mem_nil, fun _ e => by cases e; exact g⟩
theorem am_stop {h : AH} : actM h stop := ⟨fun q hq => absurd hq List.not_mem_nil, fun _ e => by cases e⟩
theorem am_chk {h : AH} {b : Bool} {s : AS} (g : geH h s.2.2.2) : actM h (chk b s) := ⟨fun q hq => by rw [List.mem_singleton.mp hq]; exact g, fun _ e => by cases e⟩
theorem am_br {h : AH} {b : Bool} {s t : AS} (g : geH h s.2.2.2) (g2 : geH h t.2.2.2) : actM h (br b s t) := ⟨fun q hq => by rw [List.mem_singleton.mp hq]; exact g, fun _ e => by cases e; exact g2⟩
theorem am_two {h : AH} {b1 b2 : Bool} {s t : AS} (g : geH h s.2.2.2) (g2 : geH h t.2.2.2) : actM h (.inl ([(b1, s), (b2, t)], none)) := ⟨fun q hq => by
  rcases List.mem_cons.mp hq with rfl | hq
  · exact g
  · rw [List.mem_singleton.mp hq]; exact g2, fun _ e => by cases e⟩
theorem am_swT {h : AH} {x : Int32} {ls : LV} {st : List Value} : ∀ (ts : List Nat) (k : Int), ∀ q ∈ swT x ls st h k ts, geH h q.2.2.2.2
  | [], _, q, hq => absurd hq List.not_mem_nil
  | t :: ts, k, q, hq => by
    rcases List.mem_cons.mp hq with rfl | hq
    · exact ge_rf h
    · exact am_swT ts (k + 1) q hq
theorem am_swL {h : AH} {x : Int32} {ls : LV} {st : List Value} : ∀ (ps : List (Int × Int)) (ts : List Nat), ∀ q ∈ swL x ls st h ps ts, geH h q.2.2.2.2
  | [], [], q, hq => absurd hq List.not_mem_nil
  | [], t :: ts, q, hq => absurd hq List.not_mem_nil
  | p :: ps, [], q, hq => absurd hq List.not_mem_nil
  | p :: ps, t :: ts, q, hq => by
    rcases List.mem_cons.mp hq with rfl | hq
    · exact ge_rf h
    · exact am_swL ps ts q hq
theorem am_grd {h : AH} {a : Nat} {i : Int32} {np : Nat} {ls : LV} {st : List Value} : ∀ (n : Nat), ∀ q ∈ grd h a i np ls st n, geH h q.2.2.2.2
  | 0, q, hq => absurd hq List.not_mem_nil
  | n + 1, q, hq => by
    rw [grd] at hq
    rcases List.mem_append.mp hq with hq | hq
    · exact am_grd n q hq
    · rw [List.mem_singleton.mp hq]
      exact ge_rf h
theorem am_ld {h : AH} {k np t : Nat} {ls : LV} {st : List Value} : actM h (stpLd k np t ls st h) := by
  unfold stpLd
  split <;> first | exact am_go (ge_rf h) | exact am_stop
theorem am_st {h : AH} {k np t : Nat} {ls : LV} {st : List Value} : actM h (stpSt k np t ls st h) := by
  unfold stpSt
  split <;> first | exact am_chk (ge_rf h) | exact am_stop
theorem am_op2 {h : AH} {i : Instr} {np : Nat} {ls : LV} {st : List Value} : actM h (stp2 i np ls st h) := by
  unfold stp2
  split
  · split <;> first | exact am_go (ge_rf h) | exact am_stop
  · exact am_stop
theorem am_get {h : AH} {np : Nat} {ops : List Nat} {ls : LV} {st : List Value} : actM h (stpGet np ops ls st h) := by
  unfold stpGet
  split <;> first | exact am_chk (ge_rf h) | exact am_two (ge_rf h) (ge_rf h) | exact am_stop
theorem am_put {h : AH} {np : Nat} {ops : List Nat} {ls : LV} {st : List Value} : actM h (stpPut np ops ls st h) := by
  unfold stpPut
  split <;> first | exact am_chk (ge_pF h _ _ _) | exact am_stop
theorem am_ald {h : AH} {t np : Nat} {ls : LV} {st : List Value} : actM h (stpAld t np ls st h) := by
  unfold stpAld
  split <;> first | exact am_chk (ge_rf h) | exact am_stop
theorem am_ast {h : AH} {t np : Nat} {ls : LV} {st : List Value} : actM h (stpAst t np ls st h) := by
  unfold stpAst
  split <;> first | exact am_chk (ge_wA h _ _ _) | exact am_stop
theorem am_aald {h : AH} {np : Nat} {ls : LV} {st : List Value} : actM h (stpAald np ls st h) := by
  unfold stpAald
  split
  · rename_i i a r
    cases (isG h a && Nat.ble 12 a) with
    | true => exact ⟨am_grd _, fun _ e => by cases e⟩
    | false => exact am_two (ge_rf h) (ge_rf h)
  · exact am_stop
theorem am_aast {h : AH} {np : Nat} {ops : List Nat} {ls : LV} {st : List Value} : actM h (stpAast np ops ls st h) := by
  unfold stpAast
  split <;> first | exact am_chk (ge_wO h _ _ _) | exact am_stop
theorem am_call {h : AH} {np : Nat} {ops : List Nat} {ls : LV} {st : List Value} : actM h (stpCall np ops ls st h) := by
  unfold stpCall
  split
  · exact rfl
  · split <;> first | exact rfl | exact am_stop
  · split <;> first | exact rfl | exact am_stop
  · split <;> first | exact am_chk (ge_copA h _ _ _ _ _) | exact am_stop
  · split <;> first | exact am_chk (ge_cloA h _) | exact am_stop
  · split <;> first | exact am_chk (ge_rf h) | exact am_stop
  · split <;> first | exact am_chk (ge_rf h) | exact am_stop
  · split <;> first | exact am_chk (ge_rf h) | exact am_stop
  · exact am_stop
theorem stp_mono {dfl : Nat → List Value} {nm : Nat → String} {en : EN} {ls : LV} {st : List Value} {h : AH} : actM h (stp dfl nm en ls st h) := by
  obtain ⟨i, np, ops, v, w⟩ := en
  cases i <;> simp only [stp] <;> first
    | exact am_stop
    | exact am_go (ge_rf h)
    | exact am_ld
    | exact am_st
    | exact am_op2
    | exact am_get
    | exact am_put
    | exact am_ald
    | exact am_ast
    | exact am_aald
    | exact am_aast
    | exact am_call
    | (split <;> first
        | exact am_go (ge_rf h)
        | exact am_stop
        | exact am_chk (ge_rf h)
        | exact am_br (ge_rf h) (ge_rf h)
        | exact am_go (ge_app h _)
        | exact am_chk (ge_app h _)
        | exact rfl
        | exact ⟨am_swT _ _, fun _ e => by cases e; exact ge_rf h⟩
        | exact ⟨am_swL _ _, fun _ e => by cases e; exact ge_rf h⟩)
theorem pick_mem {nx : AS → Res} {r : Option Value × AH} : ∀ (cs : List (Bool × AS)) (d : Option AS), pick cs d nx = some r → ∃ s, nx s = some r ∧ ((∃ b, (b, s) ∈ cs) ∨ d = some s)
  | [], none, h => by cases h
  | [], some s, h => ⟨s, h, Or.inr rfl⟩
  | (true, s) :: t, d, h => ⟨s, h, Or.inl ⟨true, List.mem_cons_self⟩⟩
  | (false, s) :: t, d, h => by
    obtain ⟨s', h1, h2⟩ := pick_mem t d h
    rcases h2 with ⟨b, h2⟩ | h2
    · exact ⟨s', h1, Or.inl ⟨b, List.mem_cons_of_mem _ h2⟩⟩
    · exact ⟨s', h1, Or.inr h2⟩
theorem sem_mono (P : PG) : ∀ (n d y : Nat) (a : AS) (r : Option Value × AH), semN P n d y a = some r → geH a.2.2.2 r.2
  | 0, d, y, a, r, h => by rw [semN] at h; cases h
  | n + 1, d, y, a, r, h => by
    rw [semN_s] at h
    unfold one at h
    cases ht : P.2.2.1 y a.1 with
    | none => rw [ht] at h; cases h
    | some en =>
      rw [ht] at h
      have hm := stp_mono (dfl := P.1) (nm := P.2.1) (en := en) (ls := a.2.1) (st := a.2.2.1) (h := a.2.2.2)
      dsimp only at h
      generalize stp P.1 P.2.1 en a.2.1 a.2.2.1 a.2.2.2 = ac at h hm
      match ac, h, hm with
      | .inl (cs, dd), h, hm =>
        obtain ⟨s', h1, h2⟩ := pick_mem cs dd h
        have h3 := sem_mono P n d y s' r h1
        rcases h2 with ⟨b, h2⟩ | h2
        · exact ge_tr (hm.1 _ h2) h3
        · exact ge_tr (hm.2 _ h2) h3
      | .inr (.inl (b, y', as, t, s')), h, hm =>
        cases b with
        | false => cases h
        | true =>
          have h1 : (callN P n d y' as s'.2.2.2).bind (fun q => pick (aft t s' q.1 q.2) none (semN P n d y)) = some r := h
          have hm : s'.2.2.2 = a.2.2.2 := hm
          cases hq : callN P n d y' as s'.2.2.2 with
          | none => rw [hq] at h1; cases h1
          | some q =>
            rw [hq] at h1
            have h2 := sem_mono P n d y _ r (aft_road h1)
            have h3 : geH s'.2.2.2 q.2 := by
              unfold callN at hq
              cases d with
              | zero => cases hq
              | succ d' =>
                cases hb : Nat.ble (argL as).length (P.2.2.2 y') with
                | false => simp only [hb] at hq; cases hq
                | true =>
                  simp only [hb] at hq
                  exact sem_mono P n d' y' (0, mkL (P.2.2.2 y') as, [], s'.2.2.2) q hq
            rw [hm] at h3
            exact ge_tr h3 h2
      | .inr (.inr (b, v, h')), h, hm =>
        cases b with
        | false => cases h
        | true =>
          have h1 : (v, h') = r := Option.some.inj h
          subst h1
          have hm : h' = a.2.2.2 := hm
          subst hm
          exact ge_rf _
theorem callN_mono (P : PG) {n d y : Nat} {as : List Value} {h : AH} {q : Option Value × AH} (hq : callN P n d y as h = some q) : geH h q.2 := by
  unfold callN at hq
  cases d with
  | zero => cases hq
  | succ d' =>
    cases hb : Nat.ble (argL as).length (P.2.2.2 y) with
    | false => simp only [hb] at hq; cases hq
    | true =>
      simp only [hb] at hq
      exact sem_mono P n d' y _ q hq
