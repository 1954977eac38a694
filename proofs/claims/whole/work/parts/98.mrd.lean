/-! The model reads VALUES. -/
def wrL : (Nat → Int32) → Nat → List Int32 → Nat → Int32
  | G, _, [] => G
  | G, s, x :: l => wrL (upd G s x) (s + 1) l
theorem wrL_app : ∀ (l l' : List Int32) (G : Nat → Int32) (s : Nat), wrL G s (l ++ l') = wrL (wrL G s l) (s + l.length) l'
  | [], l', G, s => rfl
  | x :: l, l', G, s => by
    show wrL (upd G s x) (s + 1) (l ++ l') = wrL (wrL (upd G s x) (s + 1) l) (s + (l.length + 1)) l'
    rw [wrL_app l l', show s + (l.length + 1) = s + 1 + l.length by omega]
/-- the model amid a TEXT -/
def QM (n : Nat) (B : Nat → Nat) (M0 M : MS) (a s o : Nat) (w : Bool) (G : Nat → Int32) : Prop := M.2 2 = nI (Pp n B a) ∧ M.2 3 = nI (Ee n B a) ∧ M.2 4 = nI o ∧ M.2 5 = nI s ∧ M.2 7 = bI w ∧ M.1 4 = G ∧ (∀ k, k ≠ 2 → k ≠ 3 → k ≠ 4 → k ≠ 5 → k ≠ 7 → M.2 k = M0.2 k) ∧ (∀ k, k ≠ 4 → M.1 k = M0.1 k)
def Tm (n : Nat) (B : Nat → Nat) (a : Nat) : Int32 := tkI n B (Pp n B a)
section
variable {n : Nat} {B : Nat → Nat} {M0 : MS}
theorem QM_tp (hb : tpM n B M0) {M : MS} {a s o : Nat} {w : Bool} {G : Nat → Int32} (h : QM n B M0 M a s o w G) : tpM n B M := by
  obtain ⟨h1, h2, h3, h4, h5, h6, h7, h8⟩ := h
  exact ⟨by rw [h7 1 (by omega) (by omega) (by omega) (by omega) (by omega)]; exact hb.1, hb.2.1, by rw [h8 3 (by omega)]; exact hb.2.2⟩
theorem QM_nx {M : MS} {a s o : Nat} {w : Bool} {G : Nat → Int32} (h : QM n B M0 M a s o w G) (v : Int32) (w' : Bool) (hv : v = bI w') (a' : Nat) : QM n B M0 (mV (mV (mV M 7 v) 2 (nI (Pp n B a'))) 3 (nI (Ee n B a'))) a' s o w' G := by
  obtain ⟨h1, h2, h3, h4, h5, h6, h7, h8⟩ := h
  refine ⟨by rw [mV_n (by omega), mV_s], mV_s _ _ _, by rw [mV_n (by omega), mV_n (by omega), mV_n (by omega)]; exact h3, by rw [mV_n (by omega), mV_n (by omega), mV_n (by omega)]; exact h4, by rw [mV_n (by omega), mV_n (by omega), mV_s]; exact hv, h6, fun k k2 k3 k4 k5 k7 => by rw [mV_n k3, mV_n k2, mV_n k7]; exact h7 k k2 k3 k4 k5 k7, h8⟩
theorem QM_w {M : MS} {a s o : Nat} {w : Bool} {G : Nat → Int32} (h : QM n B M0 M a s o w G) (v : Int32) (w' : Bool) (hv : v = bI w') : QM n B M0 (mV M 7 v) a s o w' G := by
  obtain ⟨h1, h2, h3, h4, h5, h6, h7, h8⟩ := h
  exact ⟨by rw [mV_n (by omega)]; exact h1, by rw [mV_n (by omega)]; exact h2, by rw [mV_n (by omega)]; exact h3, by rw [mV_n (by omega)]; exact h4, by rw [mV_s]; exact hv, h6, fun k k2 k3 k4 k5 k7 => by rw [mV_n k7]; exact h7 k k2 k3 k4 k5 k7, h8⟩
theorem QM_o {M : MS} {a s o : Nat} {w : Bool} {G : Nat → Int32} (h : QM n B M0 M a s o w G) (o' : Nat) : QM n B M0 (mV M 4 (nI o')) a s o' w G := by
  obtain ⟨h1, h2, h3, h4, h5, h6, h7, h8⟩ := h
  exact ⟨by rw [mV_n (by omega)]; exact h1, by rw [mV_n (by omega)]; exact h2, mV_s _ _ _, by rw [mV_n (by omega)]; exact h4, by rw [mV_n (by omega)]; exact h5, h6, fun k k2 k3 k4 k5 k7 => by rw [mV_n k4]; exact h7 k k2 k3 k4 k5 k7, h8⟩
theorem QM_e {M : MS} {a s o : Nat} {w : Bool} {G : Nat → Int32} (h : QM n B M0 M a s o w G) (v : Int32) : QM n B M0 (mV (mA M 4 (upd G s v)) 5 (nI (s + 1))) a (s + 1) o w (upd G s v) := by
  obtain ⟨h1, h2, h3, h4, h5, h6, h7, h8⟩ := h
  refine ⟨by rw [mV_n (by omega)]; exact h1, by rw [mV_n (by omega)]; exact h2, by rw [mV_n (by omega)]; exact h3, mV_s _ _ _, by rw [mV_n (by omega)]; exact h5, ?_, fun k k2 k3 k4 k5 k7 => by rw [mV_n k5]; exact h7 k k2 k3 k4 k5 k7, fun k k4 => ?_⟩
  · show (mA M 4 (upd G s v)).1 4 = _
    exact mA_s _ _ _
  · show (mA M 4 (upd G s v)).1 k = _
    rw [mA_n k4]
    exact h8 k k4
-- one who is wrong
theorem cM_isNameW (d : Nat) (Z : ZT) {M : MS} (h : M.2 7 = bI true) (a b c x y u v t : Int32) : call PGM (d + 1) yM_isName [.ref 91, .int a, .int b, .int c, .int x, .int y, .int u, .int v, .int t] (hM Z M) = some (some (.int 0), hM Z M) := by
  rw [kM_isName, eM_isName_0, h]
  cases decide (c = 0) <;> cases decide (x = 0) <;> cases decide (y = 0) <;> cases decide (u = 0) <;> cases decide (v = 0) <;> cases decide (t = 0) <;> rfl
theorem cM_needsW (d : Nat) (Z : ZT) {M : MS} (h : M.2 7 = bI true) (b : Int32) : call PGM (d + 1) yM_needs [.ref 91, .int b] (hM Z M) = some (none, hM Z M) := by
  have e : mV M 7 1 = M := by
    have : (1 : Int32) = M.2 7 := h.symm
    rw [this, mV_id]
  rw [kM_needs, eM_needs_0, h]
  show sem PGM d yM_needs (20, _, [], hM Z (mV M 7 1)) = _
  rw [e, eM_needs_20, h]
  rfl
theorem cM_emitsW (d : Nat) (Z : ZT) {M : MS} (h : M.2 7 = bI true) (v : Int32) : call PGM (d + 1) yM_emits [.ref 91, .int v] (hM Z M) = some (none, hM Z M) := by
  rw [kM_emits, eM_emits_0, h]
  rfl
theorem cM_valueW (d : Nat) (Z : ZT) {M : MS} (h : M.2 7 = bI true) : call PGM (d + 1) yM_value [.ref 91] (hM Z M) = some (none, hM Z M) := by
  rw [kM_value, eM_value_0, h]
  rfl
theorem cM_singleW (d : Nat) (Z : ZT) {M : MS} (h : M.2 7 = bI true) : call PGM (d + 2) yM_single [.ref 91] (hM Z M) = some (none, hM Z M) := by
  rw [kM_single, eM_single_0, eM_single_2, cM_isNameW d Z h, aft1, eM_single_17, h]
  rfl
theorem cM_everyW (d : Nat) (Z : ZT) {M : MS} (h : M.2 7 = bI true) : call PGM (d + 3) yM_every [.ref 91] (hM Z M) = some (none, hM Z M) := by
  rw [kM_every, eM_every_0, cM_singleW d Z h, aft0, eM_every_4, cM_isNameW (d + 1) Z h, aft1, eM_every_19]
  rfl
theorem cM_conditionW (d : Nat) (Z : ZT) {M : MS} (h : M.2 7 = bI true) : call PGM (d + 4) yM_condition [.ref 91] (hM Z M) = some (none, hM Z M) := by
  rw [kM_condition, eM_condition_0, cM_everyW d Z h, aft0, eM_condition_4, cM_isNameW (d + 2) Z h, aft1, eM_condition_18]
  rfl
-- one who is not
theorem cM_needs1 (d : Nat) (Z : ZT) (hb : tpM n B M0) {M : MS} {a s o : Nat} {G : Nat → Int32} (h : QM n B M0 M a s o false G) : ∃ M', call PGM (d + 4) yM_needs [.ref 91, .int 1] (hM Z M) = some (none, hM Z M') ∧ QM n B M0 M' (a + 1) s o false G := by
  have q := QM_w h 0 false rfl
  have t := QM_tp hb q
  refine ⟨_, ?_, QM_nx h 0 false rfl (a + 1)⟩
  rw [kM_needs, eM_needs_0, h.2.2.2.2.1]
  show sem PGM (d + 3) yM_needs (20, _, [], hM Z (mV M 7 0)) = _
  rw [eM_needs_20, mV_s]
  show aftK _ 0 _ (call PGM (d + 3) yM_next [.ref 91] (hM Z (mV M 7 0))) = _
  rw [cM_next d Z t (Ee_le n B a).2.1 q.2.1, aft0, eM_needs_31]
  rfl
theorem cM_needs0 (d : Nat) (Z : ZT) {M : MS} {a s o : Nat} {G : Nat → Int32} (h : QM n B M0 M a s o false G) : ∃ M', call PGM (d + 1) yM_needs [.ref 91, .int 0] (hM Z M) = some (none, hM Z M') ∧ QM n B M0 M' a s o true G := by
  refine ⟨_, ?_, QM_w h 1 true rfl⟩
  rw [kM_needs, eM_needs_0, h.2.2.2.2.1]
  show sem PGM d yM_needs (20, _, [], hM Z (mV M 7 1)) = _
  rw [eM_needs_20, mV_s]
  rfl
theorem cM_emits (d : Nat) (Z : ZT) {M : MS} {a s o : Nat} {G : Nat → Int32} (h : QM n B M0 M a s o false G) (hs : s < 200) (v : Int32) : call PGM (d + 1) yM_emits [.ref 91, .int v] (hM Z M) = some (none, hM Z (mV (mA M 4 (upd G s v)) 5 (nI (s + 1)))) := by
  have y : inb (nI s) 200 = true := by rw [inb_nI (by omega)]; simp; omega
  have z : ∀ f, (mA M 4 f).2 5 = nI s := fun f => h.2.2.2.1
  rw [kM_emits, eM_emits_0, h.2.2.2.2.1, h.2.2.2.1, y, nclamp (by omega), h.2.2.2.2.2.1]
  show sem PGM d yM_emits (17, _, [], hM Z (mA M 4 (upd G s v))) = _
  rw [eM_emits_17, z, nI_1]
theorem cM_name (d : Nat) (Z : ZT) (hb : tpM n B M0) {M : MS} {a s o : Nat} {w : Bool} {G : Nat → Int32} (h : QM n B M0 M a s o w G) (i : Nat) (hi : i < 22) : call PGM (d + 3) yM_isName [.ref 91, .int (nI ((WL.getD i []).getD 0 0)), .int (nI ((WL.getD i []).getD 1 0)), .int (nI ((WL.getD i []).getD 2 0)), .int (nI ((WL.getD i []).getD 3 0)), .int (nI ((WL.getD i []).getD 4 0)), .int (nI ((WL.getD i []).getD 5 0)), .int (nI ((WL.getD i []).getD 6 0)), .int (nI ((WL.getD i []).getD 7 0))] (hM Z M) = some (some (.int (bI (!w && decide (Tm n B a = nI (10000 + i))))), hM Z M) := by
  obtain ⟨w2, w8, w1, wz⟩ := WL_1 ⟨i, hi⟩
  have el := Ee_le n B a
  rw [cM_isName d Z (QM_tp hb h) el.1 el.2.1 h.1 h.2.1 h.2.2.2.2.1 (WL.getD i []) w2 w8 wz]
  have := tk_word (Pp_le n B a) (fun k hk => (hb.2.2 k hk).1) (Pp_ns n B a) i hi
  unfold Ee Tm
  rw [this]
theorem cM_sign (d : Nat) (Z : ZT) (hb : tpM n B M0) {M : MS} {a s o : Nat} {w : Bool} {G : Nat → Int32} (h : QM n B M0 M a s o w G) : call PGM (d + 1) yM_byteAt [.ref 91, .int (M.2 2)] (hM Z M) = some (some (.int (bv n B (Pp n B a))), hM Z M) := by
  have := Pp_le n B a
  have := hb.2.1
  rw [h.1, cM_byteAt d Z (QM_tp hb h) _ (by omega)]
theorem bv_sign (hb : tpM n B M0) (a c : Nat) (hc : c < 128) (h3 : srt c = 3) : decide (bv n B (Pp n B a) = nI c) = decide (Tm n B a = nI (20000 + c)) := by
  have hB : ∀ k, k < n → B k < 256 := fun k hk => (hb.2.2 k hk).1
  rw [bv_c hB _ _ (by omega), tk_sign hB (Pp_ns n B a) c hc h3]
  rfl
/-- FACTS by number, or none -/
def fcI (t : Int32) : Int32 := bif decide (t = nI 10000) then 0 else bif decide (t = nI 10001) then 1 else bif decide (t = nI 10002) then 2 else bif decide (t = nI 10003) then 3 else bif decide (t = nI 10004) then 4 else bif decide (t = nI 10005) then 5 else -1
theorem cM_factHere (d : Nat) (Z : ZT) (hb : tpM n B M0) {M : MS} {a s o : Nat} {G : Nat → Int32} (h : QM n B M0 M a s o false G) : call PGM (d + 4) yM_factHere [.ref 91] (hM Z M) = some (some (.int (fcI (Tm n B a))), hM Z M) := by
  have r0 : call PGM (d + 3) yM_isName [.ref 91, .int 110, .int 101, .int 97, .int 114, .int 0, .int 0, .int 0, .int 0] (hM Z M) = _ := cM_name d Z hb h 0 (by omega)
  have r1 : call PGM (d + 3) yM_isName [.ref 91, .int 99, .int 114, .int 111, .int 119, .int 100, .int 0, .int 0, .int 0] (hM Z M) = _ := cM_name d Z hb h 1 (by omega)
  have r2 : call PGM (d + 3) yM_isName [.ref 91, .int 97, .int 104, .int 101, .int 97, .int 100, .int 0, .int 0, .int 0] (hM Z M) = _ := cM_name d Z hb h 2 (by omega)
  have r3 : call PGM (d + 3) yM_isName [.ref 91, .int 112, .int 108, .int 97, .int 99, .int 101, .int 0, .int 0, .int 0] (hM Z M) = _ := cM_name d Z hb h 3 (by omega)
  have r4 : call PGM (d + 3) yM_isName [.ref 91, .int 116, .int 105, .int 99, .int 107, .int 0, .int 0, .int 0, .int 0] (hM Z M) = _ := cM_name d Z hb h 4 (by omega)
  have r5 : call PGM (d + 3) yM_isName [.ref 91, .int 108, .int 111, .int 110, .int 101, .int 0, .int 0, .int 0, .int 0] (hM Z M) = _ := cM_name d Z hb h 5 (by omega)
  rw [kM_factHere, eM_factHere_0, r0, aft1, eM_factHere_16, bI_0, r1, aft1, eM_factHere_40, bI_0, r2, aft1, eM_factHere_64, bI_0, r3, aft1, eM_factHere_88, bI_0, r4, aft1, eM_factHere_111, bI_0, r5, aft1, eM_factHere_134, bI_0]
  unfold fcI
  show (bif !(true && decide (Tm n B a = nI 10000)) then (bif !(true && decide (Tm n B a = nI 10001)) then (bif !(true && decide (Tm n B a = nI 10002)) then (bif !(true && decide (Tm n B a = nI 10003)) then (bif !(true && decide (Tm n B a = nI 10004)) then (bif !(true && decide (Tm n B a = nI 10005)) then _ else _) else _) else _) else _) else _) else _) = _
  cases decide (Tm n B a = nI 10000) with
  | true => rfl
  | false =>
    cases decide (Tm n B a = nI 10001) with
    | true => rfl
    | false =>
      cases decide (Tm n B a = nI 10002) with
      | true => rfl
      | false =>
        cases decide (Tm n B a = nI 10003) with
        | true => rfl
        | false =>
          cases decide (Tm n B a = nI 10004) with
          | true => rfl
          | false => cases decide (Tm n B a = nI 10005) <;> rfl
theorem fcI_c (t : Int32) : (∃ i, i < 6 ∧ t = nI (10000 + i) ∧ fcI t = nI i) ∨ ((∀ i, i < 6 → t ≠ nI (10000 + i)) ∧ fcI t = -1) := by
  unfold fcI
  by_cases e0 : t = nI 10000
  · exact Or.inl ⟨0, by omega, e0, by simp [e0]; rfl⟩
  · by_cases e1 : t = nI 10001
    · exact Or.inl ⟨1, by omega, e1, by subst e1; decide⟩
    · by_cases e2 : t = nI 10002
      · exact Or.inl ⟨2, by omega, e2, by subst e2; decide⟩
      · by_cases e3 : t = nI 10003
        · exact Or.inl ⟨3, by omega, e3, by subst e3; decide⟩
        · by_cases e4 : t = nI 10004
          · exact Or.inl ⟨4, by omega, e4, by subst e4; decide⟩
          · by_cases e5 : t = nI 10005
            · exact Or.inl ⟨5, by omega, e5, by subst e5; decide⟩
            · refine Or.inr ⟨fun i hi => ?_, by simp [e0, e1, e2, e3, e4, e5]⟩
              have e : i = 0 ∨ i = 1 ∨ i = 2 ∨ i = 3 ∨ i = 4 ∨ i = 5 := by omega
              rcases e with e | e | e | e | e | e <;> subst e <;> assumption
theorem num_loopM (d : Nat) (Z : ZT) (hb : tpM n B M0) {M : MS} {a s o : Nat} {w : Bool} {G : Nat → Int32} (h : QM n B M0 M a s o w G) (hd : ∀ j, j < Ee n B a - Pp n B a → 48 ≤ B (Pp n B a + j) ∧ B (Pp n B a + j) ≤ 57) : ∀ (q i v : Nat), i + q = min (Ee n B a - Pp n B a) 4 → sem PGM d yM_value (29, [some (.ref 91), some (.int (nI v)), some (.int (nI (Pp n B a + i)))], [], hM Z M) = aftK (sem PGM d yM_value) 0 (73, [some (.ref 91), some (.int (nI (nmF B (Pp n B a) q i v))), some (.int (nI (Pp n B a + (i + q))))], [], hM Z M) (call PGM d yM_emits [.ref 91, .int (nI (nmF B (Pp n B a) q i v))] (hM Z M))
  | 0, i, v, hi => by
    have el := Ee_le n B a
    have hn := hb.2.1
    rw [eM_value_29, h.2.1, h.1, show (4 : Int32) = nI 4 from rfl, nI_add, dle (by omega) (by omega), dle (by omega) (by omega)]
    by_cases e : Ee n B a ≤ Pp n B a + i
    · have x : decide (Ee n B a ≤ Pp n B a + i) = true := by simp [e]
      rw [x]
      rfl
    · have x : decide (Ee n B a ≤ Pp n B a + i) = false := by simp [e]
      have y : decide (Pp n B a + 4 ≤ Pp n B a + i) = true := by simp; omega
      rw [x, y]
      rfl
  | q + 1, i, v, hi => by
    have el := Ee_le n B a
    have hn := hb.2.1
    have x : decide (Ee n B a ≤ Pp n B a + i) = false := by simp; omega
    have y : decide (Pp n B a + 4 ≤ Pp n B a + i) = false := by simp; omega
    have ib : inb (nI (Pp n B a + i)) 200 = true := by rw [inb_nI (by omega)]; simp; omega
    have h0 := hd i (by omega)
    have t := QM_tp hb h
    have z : 10 * nI v + nI (B (Pp n B a + i)) - 48 = nI (v * 10 + (B (Pp n B a + i) - 48)) := by
      have : (10 : Int32) * nI v + nI (B (Pp n B a + i)) = nI (v * 10 + (B (Pp n B a + i) - 48)) + 48 := by
        rw [show (10 : Int32) = nI 10 from rfl, show (48 : Int32) = nI 48 from rfl, pk_mul, nI_add, nI_add]
        congr 1
        omega
      rw [this, Int32.add_sub_cancel]
    rw [eM_value_29, h.2.1, h.1, show (4 : Int32) = nI 4 from rfl, nI_add, dle (by omega) (by omega), dle (by omega) (by omega), x, y, ib, nclamp (by omega), (t.2.2 _ (by omega)).2, z, nI_1]
    have := num_loopM d Z hb h hd q (i + 1) (v * 10 + (B (Pp n B a + i) - 48)) (by omega)
    rw [show i + (q + 1) = i + 1 + q by omega]
    exact this
theorem cM_value (d : Nat) (Z : ZT) (hb : tpM n B M0) {M : MS} {a s o : Nat} {G : Nat → Int32} (h : QM n B M0 M a s o false G) (hs : s < 200) : ∃ M' G', call PGM (d + 5) yM_value [.ref 91] (hM Z M) = some (none, hM Z M') ∧ (isV (Tm n B a) = true → QM n B M0 M' (a + 1) (s + 1) o false (upd G s (Tm n B a))) ∧ (isV (Tm n B a) = false → QM n B M0 M' a (s + 1) o true G') := by
  have hn := hb.2.1
  have hB : ∀ k, k < n → B k < 256 := fun k hk => (hb.2.2 k hk).1
  have el := Ee_le n B a
  have m1 : isV (-1) = false := by decide
  have m2 : isV (-2) = false := by decide
  have vn : ∀ v, v < 10006 → isV (nI v) = true := by
    intro v hv
    unfold isV
    rw [l0, show (10006 : Int32) = nI 10006 from rfl, dle (by omega) (by omega), dlt (by omega) (by omega)]
    simp; omega
  rw [kM_value, eM_value_0, h.2.2.2.2.1]
  show ∃ M' G', aftK _ 1 _ (call PGM (d + 4) yM_byteAt [.ref 91, .int (M.2 2)] (hM Z M)) = _ ∧ _
  rw [cM_sign (d + 3) Z hb h, aft1, eM_value_16, cM_isDigit (d + 2), bv_2 hB, aft1, eM_value_19, bI_0]
  by_cases dg : Pp n B a < n ∧ srt (B (Pp n B a)) = 2
  · have x : decide (Pp n B a < n ∧ srt (B (Pp n B a)) = 2) = true := by simp [dg]
    have hd : ∀ j, j < Ee n B a - Pp n B a → 48 ≤ B (Pp n B a + j) ∧ B (Pp n B a + j) ≤ 57 := fun j hj => srt_2 (eo_dig dg.1 dg.2 (Or.inr rfl) j hj)
    have nl := num_loopM (d + 4) Z hb h hd (min (Ee n B a - Pp n B a) 4) 0 0 (by omega)
    have sub : nI (Ee n B a) - nI (Pp n B a) = nI (Ee n B a - Pp n B a) := by
      have : nI (Ee n B a) = nI (Ee n B a - Pp n B a) + nI (Pp n B a) := by rw [nI_add]; congr 1; omega
      rw [this, Int32.add_sub_cancel]
    have q1 := QM_e h (nI (nmF B (Pp n B a) (min (Ee n B a - Pp n B a) 4) 0 0))
    have fu : ∀ l, Tm n B a = (if Ee n B a - Pp n B a ≤ 4 then nI (nmF B (Pp n B a) l 0 0) else -2) ∨ l ≠ Ee n B a - Pp n B a := by
      intro l
      by_cases el : l = Ee n B a - Pp n B a
      · left
        rw [el]
        unfold Tm tkI
        rw [if_pos dg.1, if_neg (by omega), if_neg (by omega)]
        rfl
      · exact Or.inr el
    have fu' := (fu (Ee n B a - Pp n B a)).resolve_right (fun z => z rfl)
    rw [x, Bool.not_true, cond_false, h.1]
    show ∃ M' G', sem PGM (d + 4) yM_value (29, [some (.ref 91), some (.int (nI 0)), some (.int (nI (Pp n B a + 0)))], [], hM Z M) = _ ∧ _
    rw [nl, cM_emits (d + 3) Z h hs, aft0, eM_value_73, q1.1, q1.2.1, sub, show (4 : Int32) = nI 4 from rfl, dlt (by omega) (by omega)]
    by_cases l4 : Ee n B a - Pp n B a ≤ 4
    · have y : decide (4 < Ee n B a - Pp n B a) = false := by simp; omega
      rw [if_pos l4] at fu'
      obtain ⟨M', r1, r2⟩ := cM_needs1 d Z hb q1
      have tn := tk_num dg.1 dg.2 (show eo n B (Pp n B a) - Pp n B a ≤ 4 from l4)
      have iv : isV (Tm n B a) = true := by rw [fu']; exact vn _ (by show nmF B (Pp n B a) (eo n B (Pp n B a) - Pp n B a) 0 0 < 10006; omega)
      rw [y, cond_false, r1, aft0, eM_value_95]
      refine ⟨M', G, rfl, fun _ => ?_, fun z => by rw [iv] at z; cases z⟩
      rw [fu', ← show min (Ee n B a - Pp n B a) 4 = Ee n B a - Pp n B a by omega]
      exact r2
    · have y : decide (4 < Ee n B a - Pp n B a) = true := by simp; omega
      rw [if_neg l4] at fu'
      obtain ⟨M', r1, r2⟩ := cM_needs0 (d + 3) Z q1
      rw [y, cond_true, r1, aft0, eM_value_95]
      exact ⟨M', _, rfl, (fun z => by rw [fu', m2] at z; cases z), fun _ => r2⟩
  · have x : decide (Pp n B a < n ∧ srt (B (Pp n B a)) = 2) = false := by simp [dg]
    rw [x, Bool.not_false, cond_true, cM_factHere d Z hb h, aft1, eM_value_100, cM_emits (d + 3) Z h hs, aft0, eM_value_110]
    rcases fcI_c (Tm n B a) with ⟨i, hi, e1, e2⟩ | ⟨e1, e2⟩
    · have y : decide (nI i < 0) = false := by rw [l0, dlt (by omega) (by omega)]; simp
      have q1 := QM_e h (10000 + nI i)
      obtain ⟨M', r1, r2⟩ := cM_needs1 d Z hb q1
      have iv : isV (Tm n B a) = true := by rw [e1]; exact vn _ (by omega)
      rw [e2, y, cond_false, r1, aft0, eM_value_123]
      refine ⟨M', G, rfl, fun _ => ?_, fun z => by rw [iv] at z; cases z⟩
      rw [e1, ← nI_add]
      exact r2
    · have y : decide ((-1 : Int32) < 0) = true := by decide
      have q1 := QM_e h (10000 + -1)
      obtain ⟨M', r1, r2⟩ := cM_needs0 (d + 3) Z q1
      have iv : isV (Tm n B a) = false := by
        cases iv : isV (Tm n B a) with
        | false => rfl
        | true =>
          exfalso
          obtain ⟨v, hv, ev⟩ := isV_n iv
          by_cases lf : Pp n B a < n
          · unfold Tm tkI at ev e1
            rw [if_pos lf] at ev e1
            have hbb := hB _ lf
            have s := srt_le (B (Pp n B a))
            have s0 : srt (B (Pp n B a)) ≠ 0 := fun z => Pp_ns n B a lf ((srt_0 _).mp z)
            have s2 : srt (B (Pp n B a)) ≠ 2 := fun z => dg ⟨lf, z⟩
            by_cases s1 : srt (B (Pp n B a)) = 1
            · rw [if_pos s1] at ev e1
              rcases wV_le (txt B (Pp n B a) (eo n B (Pp n B a) - Pp n B a)) WL 0 with g | ⟨j, hj, g⟩
              · rw [g] at ev
                have := congrArg Int32.toInt ev
                rw [show (-2 : Int32).toInt = -2 from rfl, nI_toInt (by omega)] at this
                omega
              · rw [WL_len] at hj
                rw [g] at ev e1
                have := congrArg Int32.toInt ev
                rw [nI_toInt (by omega), nI_toInt (by omega)] at this
                exact e1 j (by omega) rfl
            · rw [if_neg s1, if_pos (by omega)] at ev
              split at ev
              · have := congrArg Int32.toInt ev
                rw [nI_toInt (by omega), nI_toInt (by omega)] at this
                omega
              · have := congrArg Int32.toInt ev
                rw [show (-2 : Int32).toInt = -2 from rfl, nI_toInt (by omega)] at this
                omega
          · unfold Tm tkI at ev
            rw [if_neg lf] at ev
            have := congrArg Int32.toInt ev
            rw [show (-1 : Int32).toInt = -1 from rfl, nI_toInt (by omega)] at this
            omega
      rw [e2, y, cond_true, r1, aft0, eM_value_123]
      exact ⟨M', _, rfl, (fun z => by rw [iv] at z; cases z), fun _ => r2⟩
end
