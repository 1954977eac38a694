/-! Soundness: a run of the abstract machine is a run of the machine. First what stands at a method's start, and how it moves. -/
theorem nest_warm {s U : State} (hW : s.WarmedH U.vm) {w : Cond} (hw : w ∈ nestL) (h : va_Nw w s) : va_Nw w U := by
  have h2 := (List.mem_filter.mp hw).2
  cases w <;> first | exact va_Nw.warmM hW h | exact va_Nw.warmF hW h | exact va_Nw.warmC hW h | (exfalso; revert h2; simp)
theorem Gs.moved {V : EV} {s U : State} (hW : s.WarmedH U.vm) (hz : s.heap.size ≤ U.heap.size) (hk : ∀ q, q < s.heap.size → ¬ V.B ≤ q → U.heap[q]? = s.heap[q]?) (g : Gs V s) : Gs V U := by
  obtain ⟨g1, g2, g3, g4, g5, g6, g7, g8, g9, g10, g11, g12, g13, g14⟩ := g
  exact ⟨va_K.moved hW.alike g1, Nat.le_trans g2 hz, g3, fun w h => nest_warm hW h (g4 w h), va_AO.moved hW.alike g5, AOA.moved hW.alike g6,
    fun q hq => (va_Z.moved hW.alike (g7 q hq)).kept hk, fun k ty n f h => (va_T.moved hW.alike (g8 k ty n f h)).kept hk, (va_O.moved hW.alike g9).kept hk, (va_OF.moved hW.alike g10).kept hk, (va_OF.moved hW.alike g11).kept hk, vk_R.warm hW g12, g13, g14⟩
def PcA (V : EV) (as : List Value) (h : AH) : Array Value → State → Prop := va_Pc (as.map (cv V)) (fun U => Gs V U ∧ Wh V h U.heap)
theorem PcA.blind (V : EV) (as : List Value) (h : AH) : FrameBlind (PcA V as h) := by
  intro a U g mk hp
  obtain ⟨h1, h2, h3⟩ := hp
  exact ⟨h1, Gs.moved (U := U.calling g mk a) (State.WarmedH.refl U) (Nat.le_refl _) (fun _ _ _ => rfl) h2, h3⟩
def QcA (V : EV) (r : Option Value) (h' : AH) : Array Value → State → Outcome → State → Prop := fun _ st o t => o = .returned (r.map (cv V)) ∧ Wh V h' t.heap ∧ va_F (fun q => V.B ≤ q) st t
def wsM (y : Nat) : List Cond := .code (mnm y) (mby y) (mloc y) (mret y) :: tblG
def rmA (d mc ms : Nat) : Room := { frames := d, cells := mc, slots := ms, locals := 40 * d }
/-- a method that ends with r and h' from h: at every launch -/
def CallOK (V : EV) (d y : Nat) (as : List Value) (h : AH) (r : Option Value) (h' : AH) : Prop :=
  (h.length ≤ h'.length ∧ sl h ≤ sl h') ∧ ∀ l : Launch, Met l (mnm y) (wsM y) (rmA d (h'.length - h.length) (sl h' - sl h)) (PcA V as h) (QcA V r h') (h'.length - h.length) (sl h' - sl h) (fun q => V.B ≤ q)
-- locals
def lvl (V : EV) : Nat → LV → List (Nat × Value)
  | _, [] => []
  | k, none :: t => lvl V (k + 1) t
  | k, some v :: t => (k, cv V v) :: lvl V (k + 1) t
theorem lvl_mem {V : EV} {q : Nat × Value} : ∀ {ls : LV} {k : Nat}, q ∈ lvl V k ls ↔ ∃ (i : Nat) (v : Value), lget ls i = some v ∧ q = (k + i, cv V v)
  | [], k => by simp [lvl, lget]
  | none :: t, k => by
    rw [lvl, lvl_mem]
    constructor
    · rintro ⟨i, v, h1, h2⟩
      exact ⟨i + 1, v, h1, by rw [h2]; congr 1; omega⟩
    · rintro ⟨i, v, h1, h2⟩
      cases i with
      | zero => cases h1
      | succ i => exact ⟨i, v, h1, by rw [h2]; congr 1; omega⟩
  | some w :: t, k => by
    rw [lvl, List.mem_cons, lvl_mem]
    constructor
    · rintro (h | ⟨i, v, h1, h2⟩)
      · exact ⟨0, w, rfl, h⟩
      · exact ⟨i + 1, v, h1, by rw [h2]; congr 1; omega⟩
    · rintro ⟨i, v, h1, h2⟩
      cases i with
      | zero =>
        cases h1
        exact Or.inl h2
      | succ i => exact Or.inr ⟨i, v, h1, by rw [h2]; congr 1; omega⟩
theorem lget_lset {ls : LV} {k i : Nat} {o : Option Value} : lget (lset ls k o) i = if i = k then (if k < ls.length then o else none) else lget ls i := by
  induction ls generalizing k i with
  | nil => simp [lset, lget]
  | cons x t ih =>
    cases k with
    | zero => cases i with
      | zero => simp [lset, lget]
      | succ i => simp [lset, lget]
    | succ k => cases i with
      | zero => simp [lset, lget]
      | succ i => simp [lset, lget, ih]
theorem lset_len {ls : LV} {k : Nat} {o : Option Value} : (lset ls k o).length = ls.length := by
  induction ls generalizing k with
  | nil => rfl
  | cons x t ih => cases k with
    | zero => rfl
    | succ k => simp [lset, ih]
theorem lv_read {V : EV} {lsR : Array Slot} {nL : Nat} {ls : LV} (h : lv_has lsR nL (lvl V 0 ls)) {k : Nat} {v : Value} (hv : lget ls k = some v) : lsR[k]? = some (.val (cv V v)) := h.2.2 (k, cv V v) (lvl_mem.mpr ⟨k, v, hv, by rw [Nat.zero_add]⟩)
/-- behind a store of one word -/
theorem lv_put1 {V : EV} (hf : V.2.2.1.category = 1) {lsR : Array Slot} {nL : Nat} {ls : LV} {k : Nat} {v : Value} (hok : lok ls k = true) (hr : lroom ls k = true)
    (h : lv_has lsR nL ((k, cv V v) :: (lvl V 0 ls).filter (fun q => !(q.1 == k) && !(q.1 + 1 == k && q.2.category == 2)))) : lv_has lsR nL (lvl V 0 (lset ls k (some v))) := by
  refine ⟨h.1, h.2.1, fun q hq => ?_⟩
  obtain ⟨i, w, h1, h2⟩ := lvl_mem.mp hq
  rw [lget_lset] at h1
  by_cases e : i = k
  · subst e
    rw [if_pos rfl, if_pos (show i < ls.length from Nat.le_of_ble_eq_true hr)] at h1
    cases h1
    rw [h2, Nat.zero_add]
    exact h.2.2 _ List.mem_cons_self
  · rw [if_neg e] at h1
    refine h.2.2 q (List.mem_cons_of_mem _ (List.mem_filter.mpr ⟨lvl_mem.mpr ⟨i, w, h1, h2⟩, ?_⟩))
    subst h2
    rw [Nat.zero_add, cv_cat V hf]
    simp only [Bool.and_eq_true, Bool.not_eq_true', beq_eq_false_iff_ne, ne_eq, Bool.and_eq_false_iff]
    refine ⟨e, ?_⟩
    by_cases e2 : i + 1 = k
    · right
      subst e2
      have hok' : (match lget ls i with | some (.long _) => false | some (.double _) => false | _ => true) = true := hok
      rw [h1] at hok'
      cases w with
      | long x => cases hok'
      | double x => cases hok'
      | _ => simp [Value.category]
    · exact Or.inl e2
theorem lv_put2 {V : EV} (hf : V.2.2.1.category = 1) {lsR : Array Slot} {nL : Nat} {ls : LV} {k : Nat} {v : Value} (hok : lok ls k = true) (hr : lroom ls (k + 1) = true)
    (h : lv_has lsR nL ((k, cv V v) :: (lvl V 0 ls).filter (fun q => !(q.1 == k) && (!(q.1 == k + 1) && !(q.1 + 1 == k && q.2.category == 2))))) : lv_has lsR nL (lvl V 0 (lset (lset ls k (some v)) (k + 1) none)) := by
  refine ⟨h.1, h.2.1, fun q hq => ?_⟩
  have hr' : k + 1 < ls.length := Nat.le_of_ble_eq_true hr
  obtain ⟨i, w, h1, h2⟩ := lvl_mem.mp hq
  rw [lget_lset, lget_lset, lset_len] at h1
  by_cases e0 : i = k + 1
  · rw [if_pos e0, if_pos hr'] at h1
    cases h1
  rw [if_neg e0] at h1
  by_cases e : i = k
  · subst e
    rw [if_pos rfl, if_pos (by omega)] at h1
    cases h1
    rw [h2, Nat.zero_add]
    exact h.2.2 _ List.mem_cons_self
  · rw [if_neg e] at h1
    refine h.2.2 q (List.mem_cons_of_mem _ (List.mem_filter.mpr ⟨lvl_mem.mpr ⟨i, w, h1, h2⟩, ?_⟩))
    subst h2
    rw [Nat.zero_add, cv_cat V hf]
    simp only [Bool.and_eq_true, Bool.not_eq_true', beq_eq_false_iff_ne, ne_eq, Bool.and_eq_false_iff]
    refine ⟨e, e0, ?_⟩
    by_cases e2 : i + 1 = k
    · right
      subst e2
      have hok' : (match lget ls i with | some (.long _) => false | some (.double _) => false | _ => true) = true := hok
      rw [h1] at hok'
      cases w with
      | long x => cases hok'
      | double x => cases hok'
      | _ => simp [Value.category]
    · exact Or.inl e2
