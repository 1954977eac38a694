/-! What ties the abstract heap to the machine's: addresses, values, cells, worlds. -/
def tblG : List Cond := lw_tbl.filter goodWord
/-- classes' numbers and slots; addresses of the given cells; the formatter; the first address made here; array classes; the given cells -/
abbrev EV : Type := va_G × (Nat → Nat) × Value × Nat × (FieldType → ClassId) × AH
abbrev EV.B (V : EV) : Nat := V.2.2.2.1
abbrev EV.tc (V : EV) : FieldType → ClassId := V.2.2.2.2.1
abbrev EV.gc (V : EV) : AH := V.2.2.2.2.2
def adr (V : EV) (k : Nat) : Nat := if k < 12 then V.2.1 k else V.2.2.2.1 + (k - 12)
def cv (V : EV) : Value → Value
  | .ref k => if k = 9 then V.2.2.1 else .ref (adr V k)
  | v => v
abbrev DT : Type := (Nat → Int32) ⊕ (Nat → Int64) ⊕ (Nat → UInt32) ⊕ (Nat → UInt64) ⊕ (Nat → Option Nat)
def cdat (V : EV) : DT → DT
  | .inr (.inr (.inr (.inr f))) => .inr (.inr (.inr (.inr (fun i => (f i).map (adr V)))))
  | d => d
def cel (V : EV) : AC → va_E
  | .inl (ty, n, d) => .inl (V.2.2.2.2.1 ty, n, cdat V d)
  | .inr (ci, fs) => .inr (ci, fs.map (cv V))
def wsO (V : EV) (h : AH) : va_W := (h.drop 12).mapIdx (fun k c => (V.2.2.2.1 + k, cel V c))
def slc : AC → Nat
  | .inl (_, n, _) => n
  | .inr (_, fs) => fs.length
def sl : AH → Nat
  | [] => 0
  | c :: t => slc c + sl t
theorem sl_app (a b : AH) : sl (a ++ b) = sl a + sl b := by
  induction a with
  | nil => simp [sl]
  | cons c t ih => simp [sl, ih, Nat.add_assoc]
theorem hat_get (h : AH) (k : Nat) : hat h k = h[k]? := by
  induction h generalizing k with
  | nil => simp [hat]
  | cons c t ih => cases k with
    | zero => simp [hat]
    | succ k => simp [hat, ih]
theorem fget_get (h : List Value) (k : Nat) : fget h k = h[k]? := by
  induction h generalizing k with
  | nil => simp [fget]
  | cons c t ih => cases k with
    | zero => simp [fget]
    | succ k => simp [fget, ih]
theorem sl_set (h : AH) (k : Nat) (c c' : AC) (hk : hat h k = some c) (e : slc c' = slc c) : sl (h.set k c') = sl h := by
  induction h generalizing k with
  | nil => simp [hat] at hk
  | cons x t ih => cases k with
    | zero =>
      simp only [hat, Option.some.injEq] at hk
      subst hk
      simp [sl, e]
    | succ k =>
      simp only [hat] at hk
      simp [sl, ih k hk]
theorem adr_hi {V : EV} {k : Nat} (h : 12 ≤ k) : adr V k = V.B + (k - 12) := by
  unfold adr
  rw [if_neg (by omega)]
theorem cv_ref {V : EV} {k : Nat} (h : ¬ k = 9) : cv V (.ref k) = .ref (adr V k) := by
  show (if k = 9 then V.2.2.1 else Value.ref (adr V k)) = _
  rw [if_neg h]
theorem cv_int {V : EV} {x : Int32} : cv V (.int x) = .int x := rfl
theorem cv_cat (V : EV) (hf : V.2.2.1.category = 1) (v : Value) : (cv V v).category = v.category := by
  cases v with
  | ref k =>
    unfold cv
    by_cases e : k = 9
    · simp only [e, if_true]
      rw [hf]
      rfl
    · simp only [e, if_false]
      rfl
  | _ => rfl
theorem vcat_eq (v : Value) : vcat v = v.category := by cases v <;> rfl
theorem vsum_eq (V : EV) (hf : V.2.2.1.category = 1) (l : List Value) : ((l.map (cv V)).map fun v => v.category).sum = vsum l := by
  induction l with
  | nil => rfl
  | cons v t ih => simp only [List.map_cons, List.sum_cons, vsum, ih, cv_cat V hf, vcat_eq]
theorem wsO_at {V : EV} {h : AH} {a : Nat} {c : AC} (ha : 12 ≤ a) (hc : hat h a = some c) : (wsO V h)[a - 12]? = some (adr V a, cel V c) := by
  rw [hat_get] at hc
  unfold wsO
  rw [List.getElem?_mapIdx, List.getElem?_drop, show 12 + (a - 12) = a by omega, hc, adr_hi ha]
  rfl
theorem wsO_set {V : EV} {h : AH} {a : Nat} {c : AC} (ha : 12 ≤ a) : wsO V (h.set a c) = (wsO V h).set (a - 12) (adr V a, cel V c) := by
  unfold wsO
  apply List.ext_getElem?
  intro i
  rw [List.getElem?_mapIdx, List.getElem?_drop, List.getElem?_set, List.getElem?_set, List.length_mapIdx, List.length_drop, List.getElem?_mapIdx, List.getElem?_drop, adr_hi ha]
  by_cases e : a - 12 = i
  · subst e
    rw [if_pos (by omega), if_pos rfl]
    by_cases l : a < h.length
    · rw [if_pos (by omega), if_pos (by omega)]
      rfl
    · rw [if_neg (by omega), if_neg (by omega)]
      rfl
  · rw [if_neg (by omega), if_neg e]
theorem wsO_app {V : EV} {h : AH} (hl : 12 ≤ h.length) (t : AH) : wsO V (h ++ t) = wsO V h ++ t.mapIdx (fun k c => (V.B + (h.length - 12) + k, cel V c)) := by
  unfold wsO
  rw [List.drop_append_of_le_length hl, List.mapIdx_append]
  congr 1
  simp only [List.length_drop]
  congr 1
  funext k c
  congr 1
  show V.2.2.2.1 + (_ + _) = V.2.2.2.1 + _ + _
  omega
theorem wsO_D {V : EV} {h : AH} : va_D (fun q => V.B ≤ q) (wsO V h) := by
  refine ⟨fun i j p q hi hj e => ?_, fun k q hk => ?_⟩
  · unfold wsO at hi hj
    rw [List.getElem?_mapIdx] at hi hj
    cases h1 : (h.drop 12)[i]? with
    | none => rw [h1] at hi; cases hi
    | some c =>
      cases h2 : (h.drop 12)[j]? with
      | none => rw [h2] at hj; cases hj
      | some c2 =>
        rw [h1] at hi
        rw [h2] at hj
        cases hi
        cases hj
        have e' : V.2.2.2.1 + i = V.2.2.2.1 + j := e
        omega
  · unfold wsO at hk
    rw [List.getElem?_mapIdx] at hk
    cases h1 : (h.drop 12)[k]? with
    | none => rw [h1] at hk; cases hk
    | some c =>
      rw [h1] at hk
      cases hk
      exact Nat.le_add_right _ _
/-- the heap H holds h -/
def Wh (V : EV) (h : AH) (H : Heap) : Prop := va_P V.1 vwCl (wsO V h) H ∧ H.size + 12 = V.B + h.length ∧ h.take 12 = V.gc ∧ 12 ≤ h.length
theorem hat_gc {V : EV} {h : AH} {H : Heap} (w : Wh V h H) {k : Nat} (hk : k < 12) : hat h k = hat V.gc k := by
  rw [← w.2.2.1, hat_get, hat_get, List.getElem?_take, if_pos hk]
theorem take_set {h : AH} {a : Nat} {c : AC} (ha : 12 ≤ a) : (h.set a c).take 12 = h.take 12 := by
  rw [List.take_set_of_le ha]
def tys4 (V : EV) : List (ClassId × FieldType) := [(V.tc .int, .int), (V.tc .byte, .byte), (V.tc (.array .int), .array .int), (V.tc .char, .object "BullStreet$Sheet")]
def nestL : List Cond := lw_tbl.filter (fun w => match w with | .methodLinkNest .. => true | .fieldLinkNest .. => true | .castable .. => true | _ => false)
/-- static fields that are read, with their values -/
def statL : List (String × String × String × Value) := [("BullStreet", "UNDER", "[I", .ref 1), ("BullStreet", "HURT_OF", "[I", .ref 2), ("BullStreet", "TRAIT_FIRST", "[I", .ref 3), ("BullStreet", "TRAIT_LEAST", "[I", .ref 4), ("BullStreet", "TRAIT_MOST", "[I", .ref 5), ("BullStreet", "RULE_FIRST", "[I", .ref 6), ("BullStreet", "RULE_LEAST", "[I", .ref 7), ("BullStreet", "RULE_MOST", "[I", .ref 8), ("java/lang/String", "COMPACT_STRINGS", "Z", .int 1), ("jdk/internal/util/Preconditions", "SIOOBE_FORMATTER", "Ljava/util/function/BiFunction;", .ref 9)]
/-- what holds of the machine's tables and of the given cells, at a state -/
def Gs (V : EV) (U : State) : Prop :=
  va_K V.1 vwCl (tys4 V) U ∧ V.B ≤ U.heap.size ∧ V.2.2.1.category = 1 ∧
  (∀ w ∈ nestL, va_Nw w U) ∧ va_AO "BullStreet$Sheet" U ∧ AOA .int U ∧
  (∀ q ∈ statL, va_Z q.1 q.2.1 q.2.2.1 (cv V q.2.2.2) (fun q => V.B ≤ q) U U.heap) ∧
  (∀ (k : Nat) (ty : FieldType) (n : Nat) (f : Nat → Int32), hat V.gc k = some (.inl (ty, n, .inl f)) → va_T ty (V.2.1 k) n (fun j => .int (f j)) (fun q => V.B ≤ q) U U.heap) ∧
  va_O "java/lang/String" (V.2.1 10) (fun q => V.B ≤ q) U U.heap ∧ va_OF "java/lang/String" "value" "[B" (.ref (V.2.1 11)) (V.2.1 10) (fun q => V.B ≤ q) U U.heap ∧ va_OF "java/lang/String" "coder" "B" (.int 0) (V.2.1 10) (fun q => V.B ≤ q) U U.heap ∧
  vk_R "BullStreet$Reader" 85 "near crowd ahead place tick lone all running standing fallen touching new heaped leaving run stand leave down if or and not" (V.2.1 10) U ∧ hat V.gc 10 = some (.inr (99, [.ref 11, .int 0])) ∧ (∀ k ci fs, k < 12 → hat V.gc k = some (.inr (ci, fs)) → ci = 99 ∧ k = 10 ∨ ci = 98 ∧ fs = []) ∧ hat V.gc 9 = some (.inr (98, []))
theorem tblG_good : GoodIn tblG tblG := fun w h => ⟨h, good_of_word (List.mem_filter.mp h).2⟩
