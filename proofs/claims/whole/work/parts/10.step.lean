/-! Soundness, instruction by instruction. -/
def LH (V : EV) (lsR : Array Slot) (nL : Nat) (ls : LV) : Prop := lv_has lsR nL (lvl V 0 ls) ∧ ls.length = nL
/-- the machine, standing in a method of this program with the abstract state a -/
def Wst (p : Program) (l : Launch) (e : Env) (R : Room) (s : State) (m : MethodId) (args : Array Value) (below : List Frame) (meth : Method) (c : Code) (Q : State → Prop) (V : EV) (nL n0 s0 : Nat) (a : AS) : Prop :=
  n0 ≤ a.2.2.2.length → s0 ≤ sl a.2.2.2 → ∀ (H : Heap) (locs : List Loc) (lsR : Array Slot), Wh V a.2.2.2 H → va_S (fun q => V.B ≤ q) s.heap H locs → LH V lsR nL a.2.1 →
    W p l e R s m args below meth c H locs (a.2.2.2.length - n0) (sl a.2.2.2 - s0) Q (F0 m a.1 lsR (a.2.2.1.map (cv V)))
def Gd (p : Program) (l : Launch) (e : Env) (R : Room) (s : State) (m : MethodId) (args : Array Value) (below : List Frame) (meth : Method) (c : Code) (Q : State → Prop) (V : EV) (nL n0 s0 : Nat) (hF : AH) (a : AS) : Prop :=
  (a.2.2.2.length ≤ hF.length ∧ sl a.2.2.2 ≤ sl hF) ∧ Wst p l e R s m args below meth c Q V nL n0 s0 a
/-- what stands fast in the method -/
def Cxt (p : Program) (R : Room) (s : State) (m : MethodId) (args : Array Value) (meth : Method) (c : Code) (V : EV) (y d n0 s0 : Nat) (hF : AH) : Prop :=
  p.tables.exec = Jvm.exec ∧ c.code = mby y ∧ c.maxLocals = mloc y ∧ s.vm.findClass (mnm y).cls = some m.cls ∧ (∀ w ∈ tblG, w.before args s = true) ∧ Gs V s ∧ ((mnm y).name = "<init>" → meth.name = "<init>") ∧ d + 1 ≤ R.frames ∧ 40 * (d + 1) ≤ R.locals ∧ hF.length - n0 ≤ R.cells ∧ sl hF - s0 ≤ R.slots ∧ s.heap.size + 12 = V.B + n0 ∧ 12 ≤ n0 ∧ (V.2.2.1 = .null ∨ ∃ a, V.2.2.1 = .ref a)
section STEP
variable {p : Program} {l : Launch} {e : Env} {R : Room} {s : State} {m : MethodId} {args : Array Value} {below : List Frame} {meth : Method} {c : Code} {Q : State → Prop} {V : EV} {y d n0 s0 : Nat} {hF : AH}
theorem gd_go {pc : Nat} {ls : LV} {st : List Value} {h : AH} {a' : AS} (hh : a'.2.2.2 = h) (G : Gd p l e R s m args below meth c Q V (mloc y) n0 s0 hF a')
    (row : ∀ (H : Heap) (locs : List Loc) (lsR : Array Slot) (cells slots : Nat), Wh V h H → va_S (fun q => V.B ≤ q) s.heap H locs → LH V lsR (mloc y) ls → (∀ lsR', LH V lsR' (mloc y) a'.2.1 → W p l e R s m args below meth c H locs cells slots Q (F0 m a'.1 lsR' (a'.2.2.1.map (cv V)))) → W p l e R s m args below meth c H locs cells slots Q (F0 m pc lsR (st.map (cv V)))) :
    Gd p l e R s m args below meth c Q V (mloc y) n0 s0 hF (pc, ls, st, h) := by
  subst hh
  exact ⟨G.1, fun h1 h2 H locs lsR w S L => row H locs lsR _ _ w S L (fun lsR' L' => G.2 h1 h2 H locs lsR' w S L')⟩
theorem chk_go {call : Nat → List Value → AH → Res} {kc : Nat → AS → Res → Res} {nx : AS → Res} {b : Bool} {a : AS} {r : Option Value × AH} (h : act (chk b a) call kc nx = some r) : b = true ∧ nx a = some r := by
  cases b with
  | true => exact ⟨rfl, h⟩
  | false => cases h
theorem br_go {call : Nat → List Value → AH → Res} {kc : Nat → AS → Res → Res} {nx : AS → Res} {b : Bool} {a a2 : AS} {r : Option Value × AH} (h : act (br b a a2) call kc nx = some r) : (b = true ∧ nx a = some r) ∨ (b = false ∧ nx a2 = some r) := by
  cases b with
  | true => exact Or.inl ⟨rfl, h⟩
  | false => exact Or.inr ⟨rfl, h⟩
theorem np_of {np pc n : Nat} (h : Nat.beq np (pc + n) = true) : np = pc + n := Nat.eq_of_beq_eq_true h
theorem tgt_of {pc t : Nat} {o : Int} {r : List Nat} (h : tgt1 pc o (t :: r) = true) : (pc : Int) + o = (t : Int) := of_decide_eq_true h
variable {call : Nat → List Value → AH → Res} {nx : AS → Res} {rv : Option Value}
/-- loads -/
theorem s_ld {pc k np t : Nat} {ls : LV} {st : List Value} {h : AH} (C : Cxt p R s m args meth c V y d n0 s0 hF) (hn : ∀ a, nx a = some (rv, hF) → Gd p l e R s m args below meth c Q V (mloc y) n0 s0 hF a)
    (hr : act (stpLd k np t ls st h) call (aftK nx) nx = some (rv, hF))
    (hi : t = 0 → ∀ {x : Int32} {H : Heap} {locs : List Loc} {cells slots : Nat} {lsR : Array Slot} {rest : List Value}, lsR[k]? = some (.val (.int x)) → W p l e R s m args below meth c H locs cells slots Q (F0 m np lsR (.int x :: rest)) → W p l e R s m args below meth c H locs cells slots Q (F0 m pc lsR rest))
    (hl : t = 1 → ∀ {x : Int64} {H : Heap} {locs : List Loc} {cells slots : Nat} {lsR : Array Slot} {rest : List Value}, lsR[k]? = some (.val (.long x)) → W p l e R s m args below meth c H locs cells slots Q (F0 m np lsR (.long x :: rest)) → W p l e R s m args below meth c H locs cells slots Q (F0 m pc lsR rest))
    (ha : t = 2 → ∀ {x : Value} {H : Heap} {locs : List Loc} {cells slots : Nat} {lsR : Array Slot} {rest : List Value}, (x = .null ∨ ∃ a, x = .ref a) → lsR[k]? = some (.val x) → W p l e R s m args below meth c H locs cells slots Q (F0 m np lsR (x :: rest)) → W p l e R s m args below meth c H locs cells slots Q (F0 m pc lsR rest))
    (hfv : V.2.2.1 = .null ∨ ∃ a, V.2.2.1 = .ref a) :
    Gd p l e R s m args below meth c Q V (mloc y) n0 s0 hF (pc, ls, st, h) := by
  unfold stpLd at hr
  split at hr
  · rename_i x hx
    exact gd_go rfl (hn _ hr) (fun H locs lsR ce sc w S L k => hi rfl (lv_read L.1 hx) (k lsR L))
  · rename_i x hx
    exact gd_go rfl (hn _ hr) (fun H locs lsR ce sc w S L k => hl rfl (lv_read L.1 hx) (k lsR L))
  · rename_i x hx
    refine gd_go rfl (hn _ hr) (fun H locs lsR ce sc w S L k => ha rfl ?_ (lv_read L.1 hx) (k lsR L))
    by_cases e9 : x = 9
    · subst e9
      exact hfv
    · rw [cv_ref e9]
      exact Or.inr ⟨_, rfl⟩
  · rename_i hx
    exact gd_go rfl (hn _ hr) (fun H locs lsR ce sc w S L k => ha rfl (Or.inl rfl) (lv_read L.1 hx) (k lsR L))
  · cases hr
/-- stores -/
theorem s_st {pc k np t : Nat} {ls : LV} {st : List Value} {h : AH} (C : Cxt p R s m args meth c V y d n0 s0 hF) (hn : ∀ a, nx a = some (rv, hF) → Gd p l e R s m args below meth c Q V (mloc y) n0 s0 hF a)
    (hr : act (stpSt k np t ls st h) call (aftK nx) nx = some (rv, hF))
    (hi : t = 0 → k < mloc y → ∀ {x : Int32} {H : Heap} {locs : List Loc} {cells slots : Nat} {lsR : Array Slot} {rest : List Value} {lv : List (Nat × Value)}, lv_has lsR (mloc y) lv → (∀ lsR', lv_has lsR' (mloc y) ((k, Value.int x) :: lv.filter (fun q => !(q.1 == k) && !(q.1 + 1 == k && q.2.category == 2))) → W p l e R s m args below meth c H locs cells slots Q (F0 m np lsR' rest)) → W p l e R s m args below meth c H locs cells slots Q (F0 m pc lsR (.int x :: rest)))
    (hl : t = 1 → k + 1 < mloc y → ∀ {x : Int64} {H : Heap} {locs : List Loc} {cells slots : Nat} {lsR : Array Slot} {rest : List Value} {lv : List (Nat × Value)}, lv_has lsR (mloc y) lv → (∀ lsR', lv_has lsR' (mloc y) ((k, Value.long x) :: lv.filter (fun q => !(q.1 == k) && (!(q.1 == k + 1) && !(q.1 + 1 == k && q.2.category == 2)))) → W p l e R s m args below meth c H locs cells slots Q (F0 m np lsR' rest)) → W p l e R s m args below meth c H locs cells slots Q (F0 m pc lsR (.long x :: rest)))
    (ha : t = 2 → k < mloc y → ∀ {x : Value} {H : Heap} {locs : List Loc} {cells slots : Nat} {lsR : Array Slot} {rest : List Value} {lv : List (Nat × Value)}, (x = .null ∨ ∃ a, x = .ref a) → lv_has lsR (mloc y) lv → (∀ lsR', lv_has lsR' (mloc y) ((k, x) :: lv.filter (fun q => !(q.1 == k) && !(q.1 + 1 == k && q.2.category == 2))) → W p l e R s m args below meth c H locs cells slots Q (F0 m np lsR' rest)) → W p l e R s m args below meth c H locs cells slots Q (F0 m pc lsR (x :: rest)))
    (hfv : V.2.2.1 = .null ∨ ∃ a, V.2.2.1 = .ref a) :
    Gd p l e R s m args below meth c Q V (mloc y) n0 s0 hF (pc, ls, st, h) := by
  have hf : V.2.2.1.category = 1 := C.2.2.2.2.2.1.2.2.1
  have hroom : ∀ {j : Nat}, ls.length = mloc y → lroom ls j = true → j < mloc y := fun z q => z ▸ Nat.le_of_ble_eq_true q
  unfold stpSt at hr
  split at hr
  · rename_i x r
    obtain ⟨hb, hx⟩ := chk_go hr
    rw [Bool.and_eq_true] at hb
    exact gd_go rfl (hn _ hx) (fun H locs lsR ce sc w S L k => hi rfl (hroom L.2 hb.2) L.1 (fun lsR' L' => k lsR' ⟨lv_put1 (v := .int x) hf hb.1 hb.2 L', lset_len.trans L.2⟩))
  · rename_i x r
    obtain ⟨hb, hx⟩ := chk_go hr
    rw [Bool.and_eq_true] at hb
    exact gd_go rfl (hn _ hx) (fun H locs lsR ce sc w S L k => hl rfl (hroom L.2 hb.2) L.1 (fun lsR' L' => k lsR' ⟨lv_put2 (v := .long x) hf hb.1 hb.2 L', lset_len.trans (lset_len.trans L.2)⟩))
  · rename_i x r
    obtain ⟨hb, hx⟩ := chk_go hr
    rw [Bool.and_eq_true] at hb
    refine gd_go rfl (hn _ hx) (fun H locs lsR ce sc w S L k => ha rfl (hroom L.2 hb.2) ?_ L.1 (fun lsR' L' => k lsR' ⟨lv_put1 (v := .ref x) hf hb.1 hb.2 L', lset_len.trans L.2⟩))
    by_cases e9 : x = 9
    · subst e9
      exact hfv
    · rw [cv_ref e9]
      exact Or.inr ⟨_, rfl⟩
  · rename_i r
    obtain ⟨hb, hx⟩ := chk_go hr
    rw [Bool.and_eq_true] at hb
    exact gd_go rfl (hn _ hx) (fun H locs lsR ce sc w S L k => ha rfl (hroom L.2 hb.2) (Or.inl rfl) L.1 (fun lsR' L' => k lsR' ⟨lv_put1 (v := .null) hf hb.1 hb.2 L', lset_len.trans L.2⟩))
  · cases hr
/-- no heap is larger than what was made -/
theorem W_sz {H : Heap} {locs : List Loc} {cells slots : Nat} {g : JFrame} (k : H.size ≤ s.heap.size + cells → W p l e R s m args below meth c H locs cells slots Q g) : W p l e R s m args below meth c H locs cells slots Q g := by
  intro T hT X
  have := X.heapSize
  rw [hT] at this
  exact k this T hT X
theorem wh_mk {h : AH} {H1 : Heap} {locs : List Loc} (hP : va_P V.1 vwCl (wsO V h) H1) (S : va_S (fun q => V.B ≤ q) s.heap H1 locs) (hs : s.heap.size + 12 = V.B + n0) (h12 : 12 ≤ n0) (hn : n0 ≤ h.length) (hz : H1.size ≤ s.heap.size + (h.length - n0)) (ht : h.take 12 = V.gc) : Wh V h H1 := by
  refine ⟨hP, ?_, ht, by omega⟩
  have lo : V.B + h.length ≤ H1.size + 12 := by
    by_cases e0 : h.length = n0
    · have := S.1
      omega
    · have hl : h.length - 1 < h.length := by omega
      have hc : hat h (h.length - 1) = some h[h.length - 1] := by rw [hat_get]; exact List.getElem?_eq_getElem hl
      have hw := wsO_at (V := V) (by omega) hc
      have h2 := (hP _ _ hw).lt
      rw [adr_hi (by omega)] at h2
      dsimp only at h2
      omega
  omega
/-- an instruction that writes one cell -/
theorem gd_wr {pc : Nat} {ls : LV} {st st' : List Value} {h h' : AH} {np : Nat} (C : Cxt p R s m args meth c V y d n0 s0 hF) (hlen : h'.length = h.length) (hsl : sl h' = sl h) (ht : h'.take 12 = h.take 12) (G : Gd p l e R s m args below meth c Q V (mloc y) n0 s0 hF (np, ls, st', h'))
    (row : ∀ (H : Heap) (locs : List Loc) (lsR : Array Slot) (cells slots : Nat), Wh V h H → va_S (fun q => V.B ≤ q) s.heap H locs → lsR.size = mloc y → (∀ (H1 : Heap) (locs1 : List Loc), va_P V.1 vwCl (wsO V h') H1 → va_S (fun q => V.B ≤ q) s.heap H1 locs1 → W p l e R s m args below meth c H1 locs1 cells slots Q (F0 m np lsR (st'.map (cv V)))) → W p l e R s m args below meth c H locs cells slots Q (F0 m pc lsR (st.map (cv V)))) :
    Gd p l e R s m args below meth c Q V (mloc y) n0 s0 hF (pc, ls, st, h) := by
  obtain ⟨-, -, -, -, -, -, -, -, -, -, -, hs, h12, -⟩ := C
  have G1 := G.1
  refine ⟨by rw [← hlen, ← hsl]; exact G1, fun h1 h2 H locs lsR w S L => ?_⟩
  have h1' : n0 ≤ h'.length := by rw [hlen]; exact h1
  have h2' : s0 ≤ sl h' := by rw [hsl]; exact h2
  refine row H locs lsR _ _ w S L.1.1 (fun H1 locs1 P1 S1 => ?_)
  refine W_sz (fun hz => ?_)
  have hz' : H1.size ≤ s.heap.size + (h'.length - n0) := by rw [hlen]; exact hz
  have := G.2 h1' h2' H1 locs1 lsR (wh_mk P1 S1 hs h12 h1' hz' (by rw [ht]; exact w.2.2.1)) S1 L
  dsimp only at this
  rw [hlen, hsl] at this
  exact this
/-- an instruction that makes one cell -/
theorem gd_new {pc : Nat} {ls : LV} {st r : List Value} {h : AH} {cl : AC} {np : Nat} (C : Cxt p R s m args meth c V y d n0 s0 hF) (G : Gd p l e R s m args below meth c Q V (mloc y) n0 s0 hF (np, ls, .ref h.length :: r, h ++ [cl]))
    (row : ∀ (H : Heap) (locs : List Loc) (lsR : Array Slot) (cells slots : Nat), cells + 1 ≤ R.cells → slots + slc cl ≤ R.slots → Wh V h H → va_S (fun q => V.B ≤ q) s.heap H locs → lsR.size = mloc y → (∀ (q : Nat) (H1 : Heap), va_P V.1 vwCl (wsO V h ++ [(q, cel V cl)]) H1 → va_D (fun q => V.B ≤ q) (wsO V h ++ [(q, cel V cl)]) → va_S (fun q => V.B ≤ q) s.heap H1 locs → W p l e R s m args below meth c H1 locs (cells + 1) (slots + slc cl) Q (F0 m np lsR (.ref q :: r.map (cv V)))) → W p l e R s m args below meth c H locs cells slots Q (F0 m pc lsR (st.map (cv V)))) :
    Gd p l e R s m args below meth c Q V (mloc y) n0 s0 hF (pc, ls, st, h) := by
  obtain ⟨-, -, -, -, -, -, -, -, -, hRc, hRs, hs, h12, -⟩ := C
  have e1 : (h ++ [cl]).length = h.length + 1 := by simp
  have e2 : sl (h ++ [cl]) = sl h + slc cl := by rw [sl_app]; simp [sl]
  have G1 := G.1
  dsimp only at G1
  rw [e1, e2] at G1
  refine ⟨⟨by dsimp only; omega, by dsimp only; omega⟩, fun h1 h2 H locs lsR w S L => ?_⟩
  have h1 : n0 ≤ h.length := h1
  have h2 : s0 ≤ sl h := h2
  refine row H locs lsR _ _ (by dsimp only; omega) (by dsimp only; omega) w S L.1.1 (fun q H1 P1 D1 S1 => ?_)
  refine W_sz (fun hz => ?_)
  have hl12 := w.2.2.2
  have hq : q = V.B + (h.length - 12) := by
    have hat0 : (wsO V h ++ [(q, cel V cl)])[(wsO V h).length]? = some (q, cel V cl) := by simp
    have lt := (P1 _ _ hat0).lt
    have ge := D1.2 _ _ hat0
    dsimp only at lt ge hz
    have hsz := w.2.1
    have hlen : (wsO V h).length = h.length - 12 := by simp [wsO]
    by_cases hne : q = V.B + (h.length - 12)
    · exact hne
    · exfalso
      have hk : q - V.B < h.length - 12 := by omega
      have hh : ∃ c0, hat h (q - V.B + 12) = some c0 := ⟨h[q - V.B + 12]'(by omega), by rw [hat_get]; exact List.getElem?_eq_getElem (by omega)⟩
      obtain ⟨c0, hc0⟩ := hh
      have hw := wsO_at (V := V) (by omega) hc0
      rw [show q - V.B + 12 - 12 = q - V.B by omega, adr_hi (by omega)] at hw
      have hw2 : (wsO V h ++ [(q, cel V cl)])[q - V.B]? = some (V.B + (q - V.B + 12 - 12), cel V c0) := by rw [List.getElem?_append_left (by rw [hlen]; exact hk)]; exact hw
      have := D1.1 _ _ _ _ hw2 hat0 (by dsimp only; omega)
      rw [hlen] at this
      omega
  have hws : wsO V (h ++ [cl]) = wsO V h ++ [(q, cel V cl)] := by
    rw [wsO_app hl12, hq]
    rfl
  have P1' : va_P V.1 vwCl (wsO V (h ++ [cl])) H1 := by rw [hws]; exact P1
  have := G.2 (by dsimp only; rw [e1]; omega) (by dsimp only; rw [e2]; omega) H1 locs lsR (wh_mk P1' S1 hs h12 (by rw [e1]; omega) (by rw [e1]; dsimp only at hz; omega) (by rw [List.take_append_of_le_length hl12]; exact w.2.2.1)) S1 L
  dsimp only at this
  rw [e1, e2] at this
  rw [show h.length + 1 - n0 = h.length - n0 + 1 by omega, show sl h + slc cl - s0 = sl h - s0 + slc cl by omega] at this
  rw [List.map_cons, cv_ref (by omega), adr_hi (by omega), ← hq] at this
  exact this
end STEP
