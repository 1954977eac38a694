/-! Soundness, instruction by instruction. -/
/-- the machine, standing in a method of this program with the abstract state a -/
def Wst (p : Program) (l : Launch) (e : Env) (R : Room) (s : State) (m : MethodId) (args : Array Value) (below : List Frame) (meth : Method) (c : Code) (Q : State → Prop) (V : EV) (nL n0 s0 : Nat) (a : AS) : Prop :=
  n0 ≤ a.2.2.2.length → s0 ≤ sl a.2.2.2 → ∀ (H : Heap) (locs : List Loc) (lsR : Array Slot), Wh V a.2.2.2 H → va_S (fun q => V.B ≤ q) s.heap H locs → lv_has lsR nL (lvl V 0 a.2.1) →
    W p l e R s m args below meth c H locs (a.2.2.2.length - n0) (sl a.2.2.2 - s0) Q (F0 m a.1 lsR (a.2.2.1.map (cv V)))
def Gd (p : Program) (l : Launch) (e : Env) (R : Room) (s : State) (m : MethodId) (args : Array Value) (below : List Frame) (meth : Method) (c : Code) (Q : State → Prop) (V : EV) (nL n0 s0 : Nat) (hF : AH) (a : AS) : Prop :=
  (a.2.2.2.length ≤ hF.length ∧ sl a.2.2.2 ≤ sl hF) ∧ Wst p l e R s m args below meth c Q V nL n0 s0 a
/-- what stands fast in the method -/
def Cxt (p : Program) (R : Room) (s : State) (m : MethodId) (args : Array Value) (meth : Method) (c : Code) (V : EV) (y d n0 s0 : Nat) (hF : AH) : Prop :=
  p.tables.exec = Jvm.exec ∧ c.code = mby y ∧ c.maxLocals = mloc y ∧ s.vm.findClass (mnm y).cls = some m.cls ∧ (∀ w ∈ tblG, w.before args s = true) ∧ Gs V s ∧ meth.name = (mnm y).name ∧ d + 1 ≤ R.frames ∧ 40 * (d + 1) ≤ R.locals ∧ hF.length - n0 ≤ R.cells ∧ sl hF - s0 ≤ R.slots
section STEP
variable {p : Program} {l : Launch} {e : Env} {R : Room} {s : State} {m : MethodId} {args : Array Value} {below : List Frame} {meth : Method} {c : Code} {Q : State → Prop} {V : EV} {y d n0 s0 : Nat} {hF : AH}
theorem gd_go {pc : Nat} {ls : LV} {st : List Value} {h : AH} {a' : AS} (hh : a'.2.2.2 = h) (G : Gd p l e R s m args below meth c Q V (mloc y) n0 s0 hF a')
    (row : ∀ (H : Heap) (locs : List Loc) (lsR : Array Slot) (cells slots : Nat), Wh V h H → va_S (fun q => V.B ≤ q) s.heap H locs → lv_has lsR (mloc y) (lvl V 0 ls) → (∀ lsR', lv_has lsR' (mloc y) (lvl V 0 a'.2.1) → W p l e R s m args below meth c H locs cells slots Q (F0 m a'.1 lsR' (a'.2.2.1.map (cv V)))) → W p l e R s m args below meth c H locs cells slots Q (F0 m pc lsR (st.map (cv V)))) :
    Gd p l e R s m args below meth c Q V (mloc y) n0 s0 hF (pc, ls, st, h) := by
  subst hh
  exact ⟨G.1, fun h1 h2 H locs lsR w S L => row H locs lsR _ _ w S L (fun lsR' L' => G.2 h1 h2 H locs lsR' w S L')⟩
theorem chk_go {call : Nat → List Value → AH → Res} {kc : Nat → AS → Res → Res} {nx : AS → Res} {b : Bool} {a : AS} {r : Option Value × AH} (h : act (chk b a) call kc nx = some r) : b = true ∧ nx a = some r := by
  cases b with
  | true => exact ⟨rfl, h⟩
  | false => cases h
theorem br_go {call : Nat → List Value → AH → Res} {kc : Nat → AS → Res → Res} {nx : AS → Res} {b : Bool} {a a2 : AS} {r : Option Value × AH} (h : act (br b a a2) call kc nx = some r) : (b = true ∧ nx a = some r) ∨ (b = false ∧ nx a2 = some r) := by
  cases b with
  | true => exact Or.inl ⟨rfl, h⟩
  | false => exact Or.inr ⟨rfl, h⟩
theorem np_of {np pc n : Nat} (h : Nat.beq np (pc + n) = true) : np = pc + n := Nat.eq_of_beq_eq_true h
theorem tgt_of {pc t : Nat} {o : Int} {r : List Nat} (h : tgt1 pc o (t :: r) = true) : (pc : Int) + o = (t : Int) := of_decide_eq_true h
variable {call : Nat → List Value → AH → Res} {nx : AS → Res} {rv : Option Value}
/-- loads -/
theorem s_ld {pc k np t : Nat} {ls : LV} {st : List Value} {h : AH} (C : Cxt p R s m args meth c V y d n0 s0 hF) (hn : ∀ a, nx a = some (rv, hF) → Gd p l e R s m args below meth c Q V (mloc y) n0 s0 hF a)
    (hr : act (stpLd k np t ls st h) call (aftK nx) nx = some (rv, hF))
    (hi : t = 0 → ∀ {x : Int32} {H : Heap} {locs : List Loc} {cells slots : Nat} {lsR : Array Slot} {rest : List Value}, lsR[k]? = some (.val (.int x)) → W p l e R s m args below meth c H locs cells slots Q (F0 m np lsR (.int x :: rest)) → W p l e R s m args below meth c H locs cells slots Q (F0 m pc lsR rest))
    (hl : t = 1 → ∀ {x : Int64} {H : Heap} {locs : List Loc} {cells slots : Nat} {lsR : Array Slot} {rest : List Value}, lsR[k]? = some (.val (.long x)) → W p l e R s m args below meth c H locs cells slots Q (F0 m np lsR (.long x :: rest)) → W p l e R s m args below meth c H locs cells slots Q (F0 m pc lsR rest))
    (ha : t = 2 → ∀ {x : Value} {H : Heap} {locs : List Loc} {cells slots : Nat} {lsR : Array Slot} {rest : List Value}, (x = .null ∨ ∃ a, x = .ref a) → lsR[k]? = some (.val x) → W p l e R s m args below meth c H locs cells slots Q (F0 m np lsR (x :: rest)) → W p l e R s m args below meth c H locs cells slots Q (F0 m pc lsR rest))
    (hfv : V.2.2.1 = .null ∨ ∃ a, V.2.2.1 = .ref a) :
    Gd p l e R s m args below meth c Q V (mloc y) n0 s0 hF (pc, ls, st, h) := by
  unfold stpLd at hr
  split at hr
  · rename_i x hx
    exact gd_go rfl (hn _ hr) (fun H locs lsR ce sc w S L k => hi rfl (lv_read L hx) (k lsR L))
  · rename_i x hx
    exact gd_go rfl (hn _ hr) (fun H locs lsR ce sc w S L k => hl rfl (lv_read L hx) (k lsR L))
  · rename_i x hx
    refine gd_go rfl (hn _ hr) (fun H locs lsR ce sc w S L k => ha rfl ?_ (lv_read L hx) (k lsR L))
    by_cases e9 : x = 9
    · subst e9
      exact hfv
    · rw [cv_ref e9]
      exact Or.inr ⟨_, rfl⟩
  · rename_i hx
    exact gd_go rfl (hn _ hr) (fun H locs lsR ce sc w S L k => ha rfl (Or.inl rfl) (lv_read L hx) (k lsR L))
  · cases hr
/-- stores -/
theorem s_st {pc k np t : Nat} {ls : LV} {st : List Value} {h : AH} (C : Cxt p R s m args meth c V y d n0 s0 hF) (hn : ∀ a, nx a = some (rv, hF) → Gd p l e R s m args below meth c Q V (mloc y) n0 s0 hF a)
    (hnL : ls.length = mloc y)
    (hr : act (stpSt k np t ls st h) call (aftK nx) nx = some (rv, hF))
    (hi : t = 0 → k < mloc y → ∀ {x : Int32} {H : Heap} {locs : List Loc} {cells slots : Nat} {lsR : Array Slot} {rest : List Value} {lv : List (Nat × Value)}, lv_has lsR (mloc y) lv → (∀ lsR', lv_has lsR' (mloc y) ((k, Value.int x) :: lv.filter (fun q => !(q.1 == k) && !(q.1 + 1 == k && q.2.category == 2))) → W p l e R s m args below meth c H locs cells slots Q (F0 m np lsR' rest)) → W p l e R s m args below meth c H locs cells slots Q (F0 m pc lsR (.int x :: rest)))
    (hl : t = 1 → k + 1 < mloc y → ∀ {x : Int64} {H : Heap} {locs : List Loc} {cells slots : Nat} {lsR : Array Slot} {rest : List Value} {lv : List (Nat × Value)}, lv_has lsR (mloc y) lv → (∀ lsR', lv_has lsR' (mloc y) ((k, Value.long x) :: lv.filter (fun q => !(q.1 == k) && (!(q.1 == k + 1) && !(q.1 + 1 == k && q.2.category == 2)))) → W p l e R s m args below meth c H locs cells slots Q (F0 m np lsR' rest)) → W p l e R s m args below meth c H locs cells slots Q (F0 m pc lsR (.long x :: rest)))
    (ha : t = 2 → k < mloc y → ∀ {x : Value} {H : Heap} {locs : List Loc} {cells slots : Nat} {lsR : Array Slot} {rest : List Value} {lv : List (Nat × Value)}, (x = .null ∨ ∃ a, x = .ref a) → lv_has lsR (mloc y) lv → (∀ lsR', lv_has lsR' (mloc y) ((k, x) :: lv.filter (fun q => !(q.1 == k) && !(q.1 + 1 == k && q.2.category == 2))) → W p l e R s m args below meth c H locs cells slots Q (F0 m np lsR' rest)) → W p l e R s m args below meth c H locs cells slots Q (F0 m pc lsR (x :: rest)))
    (hfv : V.2.2.1 = .null ∨ ∃ a, V.2.2.1 = .ref a) :
    Gd p l e R s m args below meth c Q V (mloc y) n0 s0 hF (pc, ls, st, h) := by
  have hf : V.2.2.1.category = 1 := C.2.2.2.2.2.1.2.2.1
  have hroom : ∀ {j : Nat}, lroom ls j = true → j < mloc y := fun q => hnL ▸ Nat.le_of_ble_eq_true q
  unfold stpSt at hr
  split at hr
  · rename_i x r
    obtain ⟨hb, hx⟩ := chk_go hr
    rw [Bool.and_eq_true] at hb
    exact gd_go rfl (hn _ hx) (fun H locs lsR ce sc w S L k => hi rfl (hroom hb.2) L (fun lsR' L' => k lsR' (lv_put1 (v := .int x) hf hb.1 hb.2 L')))
  · rename_i x r
    obtain ⟨hb, hx⟩ := chk_go hr
    rw [Bool.and_eq_true] at hb
    exact gd_go rfl (hn _ hx) (fun H locs lsR ce sc w S L k => hl rfl (hroom hb.2) L (fun lsR' L' => k lsR' (lv_put2 (v := .long x) hf hb.1 hb.2 L')))
  · rename_i x r
    obtain ⟨hb, hx⟩ := chk_go hr
    rw [Bool.and_eq_true] at hb
    refine gd_go rfl (hn _ hx) (fun H locs lsR ce sc w S L k => ha rfl (hroom hb.2) ?_ L (fun lsR' L' => k lsR' (lv_put1 (v := .ref x) hf hb.1 hb.2 L')))
    by_cases e9 : x = 9
    · subst e9
      exact hfv
    · rw [cv_ref e9]
      exact Or.inr ⟨_, rfl⟩
  · rename_i r
    obtain ⟨hb, hx⟩ := chk_go hr
    rw [Bool.and_eq_true] at hb
    exact gd_go rfl (hn _ hx) (fun H locs lsR ce sc w S L k => ha rfl (hroom hb.2) (Or.inl rfl) L (fun lsR' L' => k lsR' (lv_put1 (v := .null) hf hb.1 hb.2 L')))
  · cases hr
end STEP
