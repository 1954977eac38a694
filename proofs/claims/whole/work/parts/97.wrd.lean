/-! The model's words. -/
theorem txt_eq (B : Nat → Nat) : ∀ (w : List Nat) (f q : Nat), txt B f q = w ↔ q = w.length ∧ ∀ j, j < w.length → B (f + j) = w.getD j 0
  | [], f, q => by
    rw [txt_0]
    exact ⟨fun h => ⟨h, fun j hj => by cases hj⟩, fun h => h.1⟩
  | a :: w, f, 0 => by
    constructor
    · intro h; cases h
    · intro h; have := h.1; simp at this
  | a :: w, f, q + 1 => by
    rw [txt, List.cons.injEq, txt_eq B w (f + 1) q]
    constructor
    · rintro ⟨h1, h2, h3⟩
      refine ⟨by rw [h2]; rfl, fun j hj => ?_⟩
      cases j with
      | zero => exact h1
      | succ j =>
        have := h3 j (by simpa using hj)
        rw [show f + (j + 1) = f + 1 + j by omega, this]
        rfl
    · rintro ⟨h1, h2⟩
      refine ⟨h2 0 (by simp), by simpa using h1, fun j hj => ?_⟩
      have := h2 (j + 1) (by simpa using hj)
      rw [show f + 1 + j = f + (j + 1) by omega, this]
      rfl
theorem getD_z {w : List Nat} (hz : ∀ c ∈ w, 0 < c ∧ c < 256) (j : Nat) : w.getD j 0 = 0 ↔ w.length ≤ j := by
  rw [List.getD_eq_getElem?_getD]
  by_cases h : j < w.length
  · rw [List.getElem?_eq_getElem h]
    have := (hz w[j] (List.getElem_mem h)).1
    simp
    omega
  · rw [List.getElem?_eq_none (by omega)]
    simp
    omega
theorem getD_lt {w : List Nat} (hz : ∀ c ∈ w, 0 < c ∧ c < 256) (j : Nat) : w.getD j 0 < 256 := by
  rw [List.getD_eq_getElem?_getD]
  by_cases h : j < w.length
  · rw [List.getElem?_eq_getElem h]
    exact (hz w[j] (List.getElem_mem h)).2
  · rw [List.getElem?_eq_none (by omega)]
    simp
/-- a letter stands there, or none is asked -/
def atB (n : Nat) (B : Nat → Nat) (f l : Nat) : Bool := decide (l = 0) || decide (f < n ∧ B f = l)
section
variable {n : Nat} {B : Nat → Nat}
theorem cM_isAt (d : Nat) (Z : ZT) {M : MS} (h : tpM n B M) {f : Nat} (hf : f ≤ n) (h2 : M.2 2 = nI f) (k l : Nat) (hk : k < 8) (hl : l < 256) : call PGM (d + 2) yM_isAt [.ref 91, .int (nI k), .int (nI l)] (hM Z M) = some (some (.int (bI (atB n B (f + k) l))), hM Z M) := by
  have hn := h.2.1
  have hB : ∀ k, k < n → B k < 256 := fun k hk => (h.2.2 k hk).1
  have z : decide (nI l = 0) = decide (l = 0) := by rw [l0, deq (by omega) (by omega)]
  rw [kM_isAt, eM_isAt_0, z, h2, nI_add, cM_byteAt d Z h (f + k) (by omega), aft1, eM_isAt_14, bv_c hB _ _ hl, atB]
  cases decide (l = 0) with
  | true => rfl
  | false => cases decide (f + k < n ∧ B (f + k) = l) <;> rfl
theorem cM_isName0 (d : Nat) (Z : ZT) {M : MS} (h : tpM n B M) {f e : Nat} {w : Bool} (hf : f ≤ e) (he : e ≤ n) (h2 : M.2 2 = nI f) (h3 : M.2 3 = nI e) (h7 : M.2 7 = bI w) (a b c x y u v t : Nat) (la : a < 256) (lb : b < 256) (lc : c < 256) (lx : x < 256) (ly : y < 256) (lu : u < 256) (lv : v < 256) (lt : t < 256) : call PGM (d + 3) yM_isName [.ref 91, .int (nI a), .int (nI b), .int (nI c), .int (nI x), .int (nI y), .int (nI u), .int (nI v), .int (nI t)] (hM Z M) = some (some (.int (bI (!w && (decide (e - f = if c = 0 then 2 else if x = 0 then 3 else if y = 0 then 4 else if u = 0 then 5 else if v = 0 then 6 else if t = 0 then 7 else 8) && (atB n B (f + 0) a && (atB n B (f + 1) b && (atB n B (f + 2) c && (atB n B (f + 3) x && (atB n B (f + 4) y && (atB n B (f + 5) u && (atB n B (f + 6) v && atB n B (f + 7) t))))))))))), hM Z M) := by
  have hn := h.2.1
  have at' : ∀ k l, k < 8 → l < 256 → call PGM (d + 2) yM_isAt [.ref 91, .int (nI k), .int (nI l)] (hM Z M) = some (some (.int (bI (atB n B (f + k) l))), hM Z M) := fun k l hk hl => cM_isAt d Z h (by omega) h2 k l hk hl
  have t0 := at' 0 a (by omega) la
  have t1 : call PGM (d + 2) yM_isAt [.ref 91, .int 1, .int (nI b)] (hM Z M) = _ := at' 1 b (by omega) lb
  have t2 : call PGM (d + 2) yM_isAt [.ref 91, .int 2, .int (nI c)] (hM Z M) = _ := at' 2 c (by omega) lc
  have t3 : call PGM (d + 2) yM_isAt [.ref 91, .int 3, .int (nI x)] (hM Z M) = _ := at' 3 x (by omega) lx
  have t4 : call PGM (d + 2) yM_isAt [.ref 91, .int 4, .int (nI y)] (hM Z M) = _ := at' 4 y (by omega) ly
  have t5 : call PGM (d + 2) yM_isAt [.ref 91, .int 5, .int (nI u)] (hM Z M) = _ := at' 5 u (by omega) lu
  have t6 : call PGM (d + 2) yM_isAt [.ref 91, .int 6, .int (nI v)] (hM Z M) = _ := at' 6 v (by omega) lv
  have t7 : call PGM (d + 2) yM_isAt [.ref 91, .int 7, .int (nI t)] (hM Z M) = _ := at' 7 t (by omega) lt
  have t0' : call PGM (d + 2) yM_isAt [.ref 91, .int 0, .int (nI a)] (hM Z M) = _ := t0
  have tail : ∀ u9 : Option Value, aftK (sem PGM (d + 2) yM_isName) 1 (86, [some (.ref 91), some (.int (nI a)), some (.int (nI b)), some (.int (nI c)), some (.int (nI x)), some (.int (nI y)), some (.int (nI u)), some (.int (nI v)), some (.int (nI t)), u9], [], hM Z M) (call PGM (d + 2) yM_isAt [.ref 91, .int 0, .int (nI a)] (hM Z M)) = some (some (.int (bI (atB n B (f + 0) a && (atB n B (f + 1) b && (atB n B (f + 2) c && (atB n B (f + 3) x && (atB n B (f + 4) y && (atB n B (f + 5) u && (atB n B (f + 6) v && atB n B (f + 7) t))))))))), hM Z M) := by
    intro u9
    rw [t0', aft1, eM_isName_86, bI_0, t1, aft1, eM_isName_95, bI_0, t2, aft1, eM_isName_104, bI_0, t3, aft1, eM_isName_114, bI_0, t4, aft1, eM_isName_124, bI_0, t5, aft1, eM_isName_134, bI_0, t6, aft1, eM_isName_145, bI_0, t7, aft1, eM_isName_156, bI_0]
    cases atB n B (f + 0) a with
    | false => rfl
    | true =>
      cases atB n B (f + 1) b with
      | false => rfl
      | true =>
        cases atB n B (f + 2) c with
        | false => rfl
        | true =>
          cases atB n B (f + 3) x with
          | false => rfl
          | true =>
            cases atB n B (f + 4) y with
            | false => rfl
            | true =>
              cases atB n B (f + 5) u with
              | false => rfl
              | true =>
                cases atB n B (f + 6) v with
                | false => rfl
                | true => cases atB n B (f + 7) t <;> rfl
  have zz : ∀ l, l < 256 → decide (nI l = 0) = decide (l = 0) := fun l hl => by rw [l0, deq (by omega) (by omega)]
  have sub : nI e - nI f = nI (e - f) := by
    have : nI e = nI (e - f) + nI f := by rw [nI_add]; congr 1; omega
    rw [this, Int32.add_sub_cancel]
  have sz : ∀ m, m < 9 → decide (nI (e - f) = nI m) = decide (e - f = m) := fun m hm => deq (by omega) (by omega)
  have s2 : decide (nI (e - f) = 2) = decide (e - f = 2) := sz 2 (by omega)
  have s3 : decide (nI (e - f) = 3) = decide (e - f = 3) := sz 3 (by omega)
  have s4 : decide (nI (e - f) = 4) = decide (e - f = 4) := sz 4 (by omega)
  have s5 : decide (nI (e - f) = 5) = decide (e - f = 5) := sz 5 (by omega)
  have s6 : decide (nI (e - f) = 6) = decide (e - f = 6) := sz 6 (by omega)
  have s7 : decide (nI (e - f) = 7) = decide (e - f = 7) := sz 7 (by omega)
  have s8 : decide (nI (e - f) = 8) = decide (e - f = 8) := sz 8 (by omega)
  rw [kM_isName, eM_isName_0, h2, h3, h7, sub, s2, s3, s4, s5, s6, s7, s8, zz c lc, zz x lx, zz y ly, zz u lu, zz v lv, zz t lt, bI_0, tail, tail, tail, tail, tail, tail, tail]
  generalize (atB n B (f + 0) a && (atB n B (f + 1) b && (atB n B (f + 2) c && (atB n B (f + 3) x && (atB n B (f + 4) y && (atB n B (f + 5) u && (atB n B (f + 6) v && atB n B (f + 7) t))))))) = R
  cases w with
  | true => by_cases e3 : c = 0 <;> by_cases e4 : x = 0 <;> by_cases e5 : y = 0 <;> by_cases e6 : u = 0 <;> by_cases e7 : v = 0 <;> by_cases e8 : t = 0 <;> simp only [e3, e4, e5, e6, e7, e8, decide_true, decide_false, Bool.not_true, Bool.not_false, cond_true, cond_false, Bool.false_and] <;> rfl
  | false =>
    by_cases e3 : c = 0
    · simp only [e3, decide_true, if_true, Bool.not_true, Bool.not_false, cond_true, cond_false, Bool.true_and]
      cases decide (e - f = 2) <;> rfl
    · by_cases e4 : x = 0
      · simp only [e3, e4, decide_true, decide_false, if_true, if_false, Bool.not_true, Bool.not_false, cond_true, cond_false, Bool.true_and]
        cases decide (e - f = 3) <;> rfl
      · by_cases e5 : y = 0
        · simp only [e3, e4, e5, decide_true, decide_false, if_true, if_false, Bool.not_true, Bool.not_false, cond_true, cond_false, Bool.true_and]
          cases decide (e - f = 4) <;> rfl
        · by_cases e6 : u = 0
          · simp only [e3, e4, e5, e6, decide_true, decide_false, if_true, if_false, Bool.not_true, Bool.not_false, cond_true, cond_false, Bool.true_and]
            cases decide (e - f = 5) <;> rfl
          · by_cases e7 : v = 0
            · simp only [e3, e4, e5, e6, e7, decide_true, decide_false, if_true, if_false, Bool.not_true, Bool.not_false, cond_true, cond_false, Bool.true_and]
              cases decide (e - f = 6) <;> rfl
            · by_cases e8 : t = 0
              · simp only [e3, e4, e5, e6, e7, e8, decide_true, decide_false, if_true, if_false, Bool.not_true, Bool.not_false, cond_true, cond_false, Bool.true_and]
                cases decide (e - f = 7) <;> rfl
              · simp only [e3, e4, e5, e6, e7, e8, decide_true, decide_false, if_true, if_false, Bool.not_true, Bool.not_false, cond_true, cond_false, Bool.true_and]
                cases decide (e - f = 8) <;> rfl
theorem cM_isName (d : Nat) (Z : ZT) {M : MS} (h : tpM n B M) {f e : Nat} {wr : Bool} (hf : f ≤ e) (he : e ≤ n) (h2 : M.2 2 = nI f) (h3 : M.2 3 = nI e) (h7 : M.2 7 = bI wr) (w : List Nat) (w2 : 2 ≤ w.length) (w8 : w.length ≤ 8) (hz : ∀ c ∈ w, 0 < c ∧ c < 256) : call PGM (d + 3) yM_isName [.ref 91, .int (nI (w.getD 0 0)), .int (nI (w.getD 1 0)), .int (nI (w.getD 2 0)), .int (nI (w.getD 3 0)), .int (nI (w.getD 4 0)), .int (nI (w.getD 5 0)), .int (nI (w.getD 6 0)), .int (nI (w.getD 7 0))] (hM Z M) = some (some (.int (bI (!wr && decide (txt B f (e - f) = w)))), hM Z M) := by
  rw [cM_isName0 d Z h hf he h2 h3 h7 _ _ _ _ _ _ _ _ (getD_lt hz 0) (getD_lt hz 1) (getD_lt hz 2) (getD_lt hz 3) (getD_lt hz 4) (getD_lt hz 5) (getD_lt hz 6) (getD_lt hz 7)]
  have g := getD_z hz
  have gl : (if w.getD 2 0 = 0 then 2 else if w.getD 3 0 = 0 then 3 else if w.getD 4 0 = 0 then 4 else if w.getD 5 0 = 0 then 5 else if w.getD 6 0 = 0 then 6 else if w.getD 7 0 = 0 then 7 else 8) = w.length := by
    simp only [g]
    split
    · omega
    · split
      · omega
      · split
        · omega
        · split
          · omega
          · split
            · omega
            · split <;> omega
  rw [gl]
  have key : (decide (e - f = w.length) && (atB n B (f + 0) (w.getD 0 0) && (atB n B (f + 1) (w.getD 1 0) && (atB n B (f + 2) (w.getD 2 0) && (atB n B (f + 3) (w.getD 3 0) && (atB n B (f + 4) (w.getD 4 0) && (atB n B (f + 5) (w.getD 5 0) && (atB n B (f + 6) (w.getD 6 0) && atB n B (f + 7) (w.getD 7 0))))))))) = decide (txt B f (e - f) = w) := by
    have at' : ∀ j, atB n B (f + j) (w.getD j 0) = true ↔ (w.length ≤ j ∨ f + j < n ∧ B (f + j) = w.getD j 0) := by
      intro j
      unfold atB
      rw [Bool.or_eq_true, decide_eq_true_eq, decide_eq_true_eq, g j]
    rw [Bool.eq_iff_iff, decide_eq_true_eq, txt_eq]
    simp only [Bool.and_eq_true, decide_eq_true_eq, at']
    constructor
    · rintro ⟨a, a0, a1, a2, a3, a4, a5, a6, a7⟩
      refine ⟨a, fun j hj => ?_⟩
      have e : j = 0 ∨ j = 1 ∨ j = 2 ∨ j = 3 ∨ j = 4 ∨ j = 5 ∨ j = 6 ∨ j = 7 := by omega
      rcases e with e | e | e | e | e | e | e | e <;> subst e
      · exact (a0.resolve_left (by omega)).2
      · exact (a1.resolve_left (by omega)).2
      · exact (a2.resolve_left (by omega)).2
      · exact (a3.resolve_left (by omega)).2
      · exact (a4.resolve_left (by omega)).2
      · exact (a5.resolve_left (by omega)).2
      · exact (a6.resolve_left (by omega)).2
      · exact (a7.resolve_left (by omega)).2
    · rintro ⟨a, b⟩
      have r : ∀ j, w.length ≤ j ∨ f + j < n ∧ B (f + j) = w.getD j 0 := by
        intro j
        by_cases hj : j < w.length
        · exact Or.inr ⟨by omega, b j hj⟩
        · exact Or.inl (by omega)
      exact ⟨a, r 0, r 1, r 2, r 3, r 4, r 5, r 6, r 7⟩
  rw [key]
-- words by number
theorem wV_eq (t : List Nat) : ∀ (ws : List (List Nat)) (k i : Nat), ws.Nodup → i < ws.length → k + ws.length < 1000 → (wV t ws k = nI (10000 + k + i) ↔ t = ws.getD i [])
  | [], k, i, _, hi, _ => by cases hi
  | w :: ws, k, 0, hd, _, hk => by
    show (if t = w then nI (10000 + k) else wV t ws (k + 1)) = nI (10000 + k) ↔ t = w
    by_cases e : t = w
    · simp [e]
    · rw [if_neg e]
      refine ⟨fun h => ?_, fun h => absurd h e⟩
      exfalso
      have : ∀ (ws : List (List Nat)) (k' : Nat), k < k' → k' + ws.length < 1000 → wV t ws k' ≠ nI (10000 + k) := by
        intro ws
        induction ws with
        | nil =>
          intro k' _ _ q
          have := congrArg Int32.toInt q
          rw [nI_toInt (by simp at hk; omega)] at this
          have z : (wV t [] k').toInt = -2 := rfl
          rw [z] at this
          omega
        | cons v vs ih =>
          intro k' h1 h2 q
          rw [wV] at q
          by_cases ev : t = v
          · rw [if_pos ev] at q
            have := congrArg Int32.toInt q
            simp at h2 hk
            rw [nI_toInt (by omega), nI_toInt (by omega)] at this
            omega
          · rw [if_neg ev] at q
            exact ih (k' + 1) (by omega) (by simp at h2; omega) q
      exact this ws (k + 1) (by omega) (by simp at hk; omega) h
  | w :: ws, k, i + 1, hd, hi, hk => by
    have hd' := List.nodup_cons.mp hd
    show (if t = w then nI (10000 + k) else wV t ws (k + 1)) = nI (10000 + k + (i + 1)) ↔ t = ws.getD i []
    have ih := wV_eq t ws (k + 1) i hd'.2 (by simpa using hi) (by simp at hk; omega)
    rw [show 10000 + (k + 1) + i = 10000 + k + (i + 1) by omega] at ih
    by_cases e : t = w
    · rw [if_pos e]
      constructor
      · intro q
        exfalso
        have := congrArg Int32.toInt q
        simp at hi hk
        rw [nI_toInt (by omega), nI_toInt (by omega)] at this
        omega
      · intro q
        exfalso
        have hi' : i < ws.length := by simpa using hi
        have : w ∈ ws := by
          rw [← e, q, List.getD_eq_getElem?_getD, List.getElem?_eq_getElem hi']
          exact List.getElem_mem hi'
        exact hd'.1 this
    · rw [if_neg e]
      exact ih
theorem WL_nd : WL.Nodup := by decide +kernel
theorem WL_len : WL.length = 22 := by decide +kernel
theorem WL_1 : ∀ i : Fin 22, 2 ≤ (WL.getD i.val []).length ∧ (WL.getD i.val []).length ≤ 8 ∧ srt ((WL.getD i.val []).getD 0 0) = 1 ∧ ∀ c ∈ WL.getD i.val [], 0 < c ∧ c < 256 := by decide +kernel
theorem tk_num {f : Nat} (hf : f < n) (h2 : srt (B f) = 2) (hl : eo n B f - f ≤ 4) : nmF B f (eo n B f - f) 0 0 < 10000 := by
  have := nmF_lt B f (eo n B f - f) 0 0 1 (fun j _ hj => srt_2 (eo_dig hf h2 (Or.inr rfl) j (by omega))) (by omega)
  have p : 10 ^ (eo n B f - f) ≤ 10 ^ 4 := Nat.pow_le_pow_right (by omega) hl
  omega
theorem tk_word {f : Nat} (hf : f ≤ n) (hB : ∀ k, k < n → B k < 256) (h32 : f < n → B f ≠ 32) (i : Nat) (hi : i < 22) : decide (txt B f (eo n B f - f) = WL.getD i []) = decide (tkI n B f = nI (10000 + i)) := by
  obtain ⟨w2, w8, w1, wz⟩ := WL_1 ⟨i, hi⟩
  rw [decide_eq_decide]
  unfold tkI
  by_cases e : f < n
  · rw [if_pos e]
    by_cases e1 : srt (B f) = 1
    · rw [if_pos e1]
      have := wV_eq (txt B f (eo n B f - f)) WL 0 i WL_nd (by rw [WL_len]; exact hi) (by rw [WL_len]; omega)
      rw [this]
    · rw [if_neg e1]
      have no : ¬ txt B f (eo n B f - f) = WL.getD i [] := by
        intro q
        have := ((txt_eq B _ _ _).mp q).2 0 (by have : 2 ≤ (WL.getD i []).length := w2; omega)
        rw [Nat.add_zero] at this
        rw [this] at e1
        exact e1 w1
      refine ⟨fun q => absurd q no, fun q => ?_⟩
      exfalso
      have q' := congrArg Int32.toInt q
      rw [nI_toInt (by omega)] at q'
      have m2 : (-2 : Int32).toInt = -2 := rfl
      have := hB f e
      split at q'
      · split at q'
        · rw [nI_toInt (by omega)] at q'; omega
        · rw [m2] at q'; omega
      · split at q'
        · have s := srt_le (B f)
          have s0 : srt (B f) ≠ 0 := fun z => h32 e ((srt_0 _).mp z)
          have := tk_num (B := B) e (show srt (B f) = 2 by omega) (by assumption)
          rw [nI_toInt (by omega)] at q'
          omega
        · rw [m2] at q'; omega
  · rw [if_neg e]
    have ef : eo n B f - f = 0 := by rw [eo_e (by omega)]; omega
    constructor
    · intro q
      exfalso
      have := ((txt_eq B _ _ _).mp q).1
      have : 2 ≤ (WL.getD i []).length := w2
      omega
    · intro q
      exfalso
      have q' := congrArg Int32.toInt q
      rw [nI_toInt (by omega)] at q'
      have m1 : (-1 : Int32).toInt = -1 := rfl
      rw [m1] at q'
      omega
theorem wV_le (t : List Nat) : ∀ (ws : List (List Nat)) (k : Nat), wV t ws k = -2 ∨ ∃ i, i < ws.length ∧ wV t ws k = nI (10000 + k + i)
  | [], k => Or.inl rfl
  | w :: ws, k => by
    rw [wV]
    by_cases e : t = w
    · rw [if_pos e]
      exact Or.inr ⟨0, by simp, rfl⟩
    · rw [if_neg e]
      rcases wV_le t ws (k + 1) with h | ⟨i, hi, h⟩
      · exact Or.inl h
      · exact Or.inr ⟨i + 1, by simpa using hi, by rw [h]; congr 1; omega⟩
theorem tk_sign {f : Nat} (hB : ∀ k, k < n → B k < 256) (h32 : f < n → B f ≠ 32) (c : Nat) (hc : c < 128) (h3 : srt c = 3) : decide (f < n ∧ B f = c) = decide (tkI n B f = nI (20000 + c)) := by
  rw [decide_eq_decide]
  unfold tkI
  have m1 : (-1 : Int32).toInt = -1 := rfl
  have m2 : (-2 : Int32).toInt = -2 := rfl
  by_cases e : f < n
  · rw [if_pos e]
    have hb := hB f e
    by_cases e1 : srt (B f) = 1
    · rw [if_pos e1]
      constructor
      · rintro ⟨_, q⟩
        rw [q, h3] at e1
        cases e1
      · intro q
        exfalso
        rcases wV_le (txt B f (eo n B f - f)) WL 0 with h | ⟨i, hi, h⟩
        · rw [h] at q
          have := congrArg Int32.toInt q
          rw [m2, nI_toInt (by omega)] at this
          omega
        · rw [h] at q
          rw [WL_len] at hi
          have := congrArg Int32.toInt q
          rw [nI_toInt (by omega), nI_toInt (by omega)] at this
          omega
    · rw [if_neg e1]
      by_cases e3 : srt (B f) = 3
      · rw [if_pos e3]
        by_cases l : B f < 128
        · rw [if_pos l]
          constructor
          · rintro ⟨_, q⟩; rw [q]
          · intro q
            have := congrArg Int32.toInt q
            rw [nI_toInt (by omega), nI_toInt (by omega)] at this
            exact ⟨e, by omega⟩
        · rw [if_neg l]
          constructor
          · rintro ⟨_, q⟩; omega
          · intro q
            exfalso
            have := congrArg Int32.toInt q
            rw [m2, nI_toInt (by omega)] at this
            omega
      · rw [if_neg e3]
        have s := srt_le (B f)
        have s0 : srt (B f) ≠ 0 := fun z => h32 e ((srt_0 _).mp z)
        constructor
        · rintro ⟨_, q⟩
          rw [q] at e3
          exact absurd h3 e3
        · intro q
          exfalso
          split at q
          · have tn := tk_num (B := B) e (show srt (B f) = 2 by omega) (by assumption)
            have := congrArg Int32.toInt q
            rw [nI_toInt (by omega), nI_toInt (by omega)] at this
            omega
          · have := congrArg Int32.toInt q
            rw [m2, nI_toInt (by omega)] at this
            omega
  · rw [if_neg e]
    constructor
    · rintro ⟨q, _⟩; exact absurd q e
    · intro q
      exfalso
      have := congrArg Int32.toInt q
      rw [m1, nI_toInt (by omega)] at this
      omega
end
