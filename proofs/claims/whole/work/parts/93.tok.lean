/-! What a word is: its number. -/
def WL : List (List Nat) := [[110, 101, 97, 114], [99, 114, 111, 119, 100], [97, 104, 101, 97, 100], [112, 108, 97, 99, 101], [116, 105, 99, 107], [108, 111, 110, 101], [97, 108, 108], [114, 117, 110, 110, 105, 110, 103], [115, 116, 97, 110, 100, 105, 110, 103], [102, 97, 108, 108, 101, 110], [116, 111, 117, 99, 104, 105, 110, 103], [110, 101, 119], [104, 101, 97, 112, 101, 100], [108, 101, 97, 118, 105, 110, 103], [114, 117, 110], [115, 116, 97, 110, 100], [108, 101, 97, 118, 101], [100, 111, 119, 110], [105, 102], [111, 114], [97, 110, 100], [110, 111, 116]]
def jnW : List (List Nat) → List Nat
  | [] => []
  | [w] => w
  | w :: v :: ws => w ++ 32 :: jnW (v :: ws)
theorem jnW_2 (w v : List Nat) (ws : List (List Nat)) : jnW (w :: v :: ws) = w ++ 32 :: jnW (v :: ws) := rfl
theorem str_jnW : strB = (jnW WL).map nI := by decide +kernel
theorem jnW_len : (jnW WL).length = 123 := by decide +kernel
theorem jnW_lt : ∀ c ∈ jnW WL, c < 128 := by decide +kernel
theorem str_at : ∀ p : Fin 123, ((((strB.getD p.val 0) &&& 255)).toUInt32 % 65536).toInt32 = strB.getD p.val 0 ∧ nck .char (strB.getD p.val 0) = true := by decide +kernel
set_option maxRecDepth 100000 in
theorem kJ_Pre9 (d : Nat) (Z : WT) (X : XS) (i0 i1 : Int32) : call PGM (d + 1) yJ_Preconditions_checkIndex [.int i0, .int i1, .ref 9] (hR Z X) = sem PGM d yJ_Preconditions_checkIndex (0, [some (.int i0), some (.int i1), some (.ref 9)], [], (hR Z X)) := rfl
set_option maxRecDepth 100000 in
theorem eJ_Pre9 (d : Nat) (Z : WT) (X : XS) (i0 i1 : Int32) : sem PGM d yJ_Preconditions_checkIndex (0, [some (.int i0), some (.int i1), some (.ref 9)], [], (hR Z X)) =
    bif decide (i0 < 0) then none
    else bif decide (i0 < i1) then some (some (.int i0), (hR Z X))
      else none := (ev_eq PGM d yJ_Preconditions_checkIndex [] 400 _).trans rfl
theorem cJ_length (d : Nat) (Z : WT) (X : XS) : call PGM (d + 2) yJ_String_length [.ref 10] (hR Z X) = some (some (.int (nI 123)), hR Z X) := by
  rw [kJ_String_length, eJ_String_length_0, kJ_String_coder, eJ_String_coder_0]
  have z : nck .byte 0 = true := by decide
  rw [z, cond_true, aft1, eJ_String_length_9]
  rfl
theorem cJ_charAt (d : Nat) (Z : WT) (X : XS) (p : Nat) (hp : p < 123) : call PGM (d + 4) yJ_String_charAt [.ref 10, .int (nI p)] (hR Z X) = some (some (.int (strB.getD p 0)), hR Z X) := by
  obtain ⟨a1, a2⟩ := str_at ⟨p, hp⟩
  have a1' : ((((strB.getD p 0) &&& 255)).toUInt32 % 65536).toInt32 = strB.getD p 0 := a1
  have a2' : nck .char (strB.getD p 0) = true := a2
  have v1 : decide (nI p < 0) = false := by rw [l0, dlt (by omega) (by omega)]; simp
  have v2 : decide (nI p < nI 123) = true := by rw [dlt (by omega) (by omega)]; simp; omega
  have ib : inb (nI p) 123 = true := by rw [inb_nI (by omega)]; simp; omega
  have z : decide ((1 : Int32) = 0) = false := by decide
  rw [kJ_String_charAt, eJ_String_charAt_0, kJ_String_isLatin1, eJ_String_isLatin1_0, aft1, eJ_String_charAt_4, z, cond_false, kJ_StringLatin1_charAt, eJ_StringLatin1_charAt_0, kJ_String_checkIndex, eJ_String_checkIndex_0, kJ_Pre9, eJ_Pre9, v1, v2, cond_false, cond_true, aft1, eJ_String_checkIndex_8, aft0, eJ_StringLatin1_charAt_6, ib, cond_true, nclamp (by omega)]
  show aftK _ 1 _ (bif nck .char ((((strB.getD p 0) &&& 255)).toUInt32 % 65536).toInt32 then some (some (.int ((((strB.getD p 0) &&& 255)).toUInt32 % 65536).toInt32), hR Z X) else none) = _
  rw [a1', a2', cond_true, aft1, eJ_String_charAt_15, a2', cond_true]
def txt (B : Nat → Nat) : Nat → Nat → List Nat
  | _, 0 => []
  | f, k + 1 => B f :: txt B (f + 1) k
def wlF (B : Nat → Nat) (f l : Nat) : List Nat → Nat → Option Nat → Int32
  | [], w, a => if a = some l then nI (10000 + w) else -2
  | c :: cs, w, a => if c = 32 then (if a = some l then nI (10000 + w) else wlF B f l cs (w + 1) (some 0)) else match a with
    | some k => if k < l ∧ B (f + k) = c then wlF B f l cs w (some (k + 1)) else wlF B f l cs w none
    | none => wlF B f l cs w none
theorem wlF_b (B : Nat → Nat) (f l : Nat) (cs : List Nat) (w : Nat) (a : Option Nat) : wlF B f l (32 :: cs) w a = if a = some l then nI (10000 + w) else wlF B f l cs (w + 1) (some 0) := by
  cases a <;> rw [wlF, if_pos rfl]
theorem wlF_s {B : Nat → Nat} {f l c : Nat} {cs : List Nat} {w k : Nat} (h : c ≠ 32) : wlF B f l (c :: cs) w (some k) = if k < l ∧ B (f + k) = c then wlF B f l cs w (some (k + 1)) else wlF B f l cs w none := by
  rw [wlF, if_neg h]
theorem wlF_o {B : Nat → Nat} {f l c : Nat} {cs : List Nat} {w : Nat} (h : c ≠ 32) : wlF B f l (c :: cs) w none = wlF B f l cs w none := by
  rw [wlF, if_neg h]
def wV (t : List Nat) : List (List Nat) → Nat → Int32
  | [], _ => -2
  | w :: ws, k => if t = w then nI (10000 + k) else wV t ws (k + 1)
theorem wlF_none (B : Nat → Nat) (f l : Nat) : ∀ (w cs : List Nat) (k : Nat), 32 ∉ w → wlF B f l (w ++ 32 :: cs) k none = wlF B f l cs (k + 1) (some 0)
  | [], cs, k, _ => by
    show wlF B f l (32 :: cs) k none = _
    rw [wlF, if_pos rfl, if_neg (by simp)]
  | c :: w, cs, k, h => by
    have h1 : c ≠ 32 := fun e => h (by simp [e])
    have h2 : 32 ∉ w := fun e => h (by simp [e])
    show wlF B f l (c :: (w ++ 32 :: cs)) k none = _
    rw [wlF, if_neg h1]
    exact wlF_none B f l w cs k h2
theorem wlF_none' (B : Nat → Nat) (f l : Nat) : ∀ (w : List Nat) (k : Nat), 32 ∉ w → wlF B f l w k none = -2
  | [], k, _ => by rw [wlF, if_neg (by simp)]
  | c :: w, k, h => by
    have h1 : c ≠ 32 := fun e => h (by simp [e])
    have h2 : 32 ∉ w := fun e => h (by simp [e])
    rw [wlF, if_neg h1]
    exact wlF_none' B f l w k h2
theorem txt_0 (B : Nat → Nat) (f k : Nat) : txt B f k = [] ↔ k = 0 := by
  cases k with
  | zero => simp [txt]
  | succ k => simp [txt]
theorem wlF_some (B : Nat → Nat) (f l : Nat) : ∀ (w cs : List Nat) (k a : Nat), 32 ∉ w → a ≤ l → wlF B f l (w ++ 32 :: cs) k (some a) = if txt B (f + a) (l - a) = w then nI (10000 + k) else wlF B f l cs (k + 1) (some 0)
  | [], cs, k, a, _, ha => by
    show wlF B f l (32 :: cs) k (some a) = _
    rw [wlF, if_pos rfl]
    by_cases e : a = l
    · rw [if_pos (by rw [e]), if_pos ((txt_0 _ _ _).mpr (by omega))]
    · rw [if_neg (by simpa using e), if_neg (fun q => e (by have := (txt_0 _ _ _).mp q; omega))]
  | c :: w, cs, k, a, h, ha => by
    have h1 : c ≠ 32 := fun e => h (by simp [e])
    have h2 : 32 ∉ w := fun e => h (by simp [e])
    show wlF B f l (c :: (w ++ 32 :: cs)) k (some a) = _
    rw [wlF, if_neg h1]
    by_cases e : a < l ∧ B (f + a) = c
    · show (if a < l ∧ B (f + a) = c then _ else _) = _
      rw [if_pos e, wlF_some B f l w cs k (a + 1) h2 (by omega)]
      obtain ⟨q, hq⟩ : ∃ q, l - a = q + 1 := ⟨l - a - 1, by omega⟩
      rw [hq, txt, e.2, show l - (a + 1) = q by omega, show f + (a + 1) = f + a + 1 by omega]
      by_cases e2 : txt B (f + a + 1) q = w
      · rw [if_pos e2, if_pos (by rw [e2])]
      · rw [if_neg e2, if_neg (fun z => e2 (List.cons.inj z).2)]
    · show (if a < l ∧ B (f + a) = c then _ else _) = _
      rw [if_neg e, wlF_none B f l w cs k h2]
      rw [if_neg]
      intro z
      by_cases al : a < l
      · obtain ⟨q, hq⟩ : ∃ q, l - a = q + 1 := ⟨l - a - 1, by omega⟩
        rw [hq, txt] at z
        exact e ⟨al, (List.cons.inj z).1⟩
      · rw [show l - a = 0 by omega, txt] at z
        cases z
theorem wlF_some' (B : Nat → Nat) (f l : Nat) : ∀ (w : List Nat) (k a : Nat), 32 ∉ w → a ≤ l → wlF B f l w k (some a) = if txt B (f + a) (l - a) = w then nI (10000 + k) else -2
  | [], k, a, _, ha => by
    rw [wlF]
    by_cases e : a = l
    · rw [if_pos (by rw [e]), if_pos ((txt_0 _ _ _).mpr (by omega))]
    · rw [if_neg (by simpa using e), if_neg (fun q => e (by have := (txt_0 _ _ _).mp q; omega))]
  | c :: w, k, a, h, ha => by
    have h1 : c ≠ 32 := fun e => h (by simp [e])
    have h2 : 32 ∉ w := fun e => h (by simp [e])
    rw [wlF, if_neg h1]
    by_cases e : a < l ∧ B (f + a) = c
    · show (if a < l ∧ B (f + a) = c then _ else _) = _
      rw [if_pos e, wlF_some' B f l w k (a + 1) h2 (by omega)]
      obtain ⟨q, hq⟩ : ∃ q, l - a = q + 1 := ⟨l - a - 1, by omega⟩
      rw [hq, txt, e.2, show l - (a + 1) = q by omega, show f + (a + 1) = f + a + 1 by omega]
      by_cases e2 : txt B (f + a + 1) q = w
      · rw [if_pos e2, if_pos (by rw [e2])]
      · rw [if_neg e2, if_neg (fun z => e2 (List.cons.inj z).2)]
    · show (if a < l ∧ B (f + a) = c then _ else _) = _
      rw [if_neg e, wlF_none' B f l w k h2]
      rw [if_neg]
      intro z
      by_cases al : a < l
      · obtain ⟨q, hq⟩ : ∃ q, l - a = q + 1 := ⟨l - a - 1, by omega⟩
        rw [hq, txt] at z
        exact e ⟨al, (List.cons.inj z).1⟩
      · rw [show l - a = 0 by omega, txt] at z
        cases z
theorem wlF_jnW (B : Nat → Nat) (f l : Nat) : ∀ (ws : List (List Nat)) (k : Nat), ws ≠ [] → (∀ w ∈ ws, 32 ∉ w) → wlF B f l (jnW ws) k (some 0) = wV (txt B f l) ws k
  | [], _, h, _ => absurd rfl h
  | [w], k, _, h => by
    rw [jnW, wlF_some' B f l w k 0 (h w (by simp)) (by omega), Nat.add_zero, Nat.sub_zero]
    rfl
  | w :: v :: ws, k, _, h => by
    rw [jnW_2, wlF_some B f l w _ k 0 (h w (by simp)) (by omega), Nat.add_zero, Nat.sub_zero, wlF_jnW B f l (v :: ws) (k + 1) (by simp) (fun x hx => h x (by simp [hx]))]
    rfl
def alI (a : Option Nat) : Int32 := match a with
  | some k => nI k
  | none => -1
theorem alI_eq {a : Option Nat} {l : Nat} (hl : l ≤ 200) (ha : ∀ k, a = some k → k ≤ l) : decide (alI a = nI l) = decide (a = some l) := by
  cases a with
  | none =>
    have : ¬ alI none = nI l := by
      intro q
      have := congrArg Int32.toInt q
      rw [nI_toInt (by omega)] at this
      have z : (alI none).toInt = -1 := rfl
      rw [z] at this
      omega
    simp [this]
  | some k =>
    have := ha k rfl
    show decide (nI k = nI l) = _
    rw [deq (by omega) (by omega)]
    simp
theorem word_loop (d : Nat) (Z : WT) {X : XS} {n : Nat} {B : Nat → Nat} (hX : tpX n B X) {f l : Nat} (hf : f + l ≤ n) : ∀ (cs pre : List Nat) (w : Nat) (a : Option Nat) (u6 : Option Value), pre ++ cs = jnW WL → (∀ k, a = some k → k ≤ l) → w + cs.length ≤ 200 → sem PGM (d + 4) yR_wordAt (8, [some (.ref 13), some (.int (nI f)), some (.int (nI l)), some (.int (nI w)), some (.int (alI a)), some (.int (nI pre.length)), u6], [], hR Z X) = some (some (.int (wlF B f l cs w a)), hR Z X)
  | [], pre, w, a, u6, hp, ha, hw => by
    have hn := hX.1
    have pl : pre.length = 123 := by
      have := congrArg List.length hp
      rw [jnW_len] at this
      simpa using this
    have v : decide (nI 123 ≤ nI 123) = true := by decide
    rw [eR_wordAt_8, cJ_length (d + 2), aft1, eR_wordAt_15, pl, v, cond_true, alI_eq (by omega) ha, show (10000 : Int32) = nI 10000 from rfl, nI_add, wlF]
    by_cases e : a = some l
    · simp [e]
    · simp [e]
  | c :: cs, pre, w, a, u6, hp, ha, hw => by
    have hn := hX.1
    have pl : pre.length + (cs.length + 1) = 123 := by
      have := congrArg List.length hp
      rw [jnW_len] at this
      simpa using this
    have hc : c < 128 := jnW_lt c (by rw [← hp]; simp)
    have sc : strB.getD pre.length 0 = nI c := by
      rw [str_jnW, ← hp, List.getD_eq_getElem?_getD]
      simp
    have v : decide (nI 123 ≤ nI pre.length) = false := by rw [dle (by omega) (by omega)]; simp; omega
    have c32 : decide (nI c = 32) = decide (c = 32) := by rw [show (32 : Int32) = nI 32 from rfl, deq (by omega) (by omega)]
    have ih : ∀ (w' : Nat) (a' : Option Nat), (∀ k, a' = some k → k ≤ l) → w' ≤ w + 1 → sem PGM (d + 4) yR_wordAt (8, [some (.ref 13), some (.int (nI f)), some (.int (nI l)), some (.int (nI w')), some (.int (alI a')), some (.int (nI (pre.length + 1))), some (.int (nI c))], [], hR Z X) = some (some (.int (wlF B f l cs w' a')), hR Z X) := by
      intro w' a' ha' hw'
      have := word_loop d Z hX hf cs (pre ++ [c]) w' a' (some (.int (nI c))) (by rw [← hp]; simp) ha' (by simp at hw; omega)
      simpa using this
    rw [eR_wordAt_8, cJ_length (d + 2), aft1, eR_wordAt_15, v, cond_false, cJ_charAt d Z X _ (by omega), sc, aft1, eR_wordAt_25, c32, alI_eq (by omega) ha, show (10000 : Int32) = nI 10000 from rfl, nI_add, nI_1, nI_1]
    by_cases e : c = 32
    · subst e
      have x : decide ((32 : Nat) = 32) = true := rfl
      rw [x, wlF_b]
      by_cases q : a = some l
      · simp [q]
      · have x2 : decide (a = some l) = false := by simp [q]
        rw [x2, if_neg q]
        exact ih (w + 1) (some 0) (fun k hk => by cases hk; omega) (by omega)
    · have x : decide (c = 32) = false := by simp [e]
      rw [x]
      cases a with
      | none =>
        rw [wlF_o e]
        have : decide (alI none < 0) = true := by decide
        rw [this]
        exact ih w none (fun k hk => by cases hk) (by omega)
      | some k =>
        have hk := ha k rfl
        have y1 : decide (alI (some k) < 0) = false := by
          show decide (nI k < 0) = false
          rw [l0, dlt (by omega) (by omega)]; simp
        have y2 : decide (nI l ≤ alI (some k)) = decide (l ≤ k) := by
          show decide (nI l ≤ nI k) = _
          rw [dle (by omega) (by omega)]
        rw [y1, y2, wlF_s e]
        show (bif true then bif false then _ else bif decide (l ≤ k) then _ else bif inb (nI f + nI k) 200 then bif !decide (X.1 0 (nI f + nI k).toNatClampNeg = nI c) then _ else _ else _ else _) = _
        by_cases kl : k < l
        · have y3 : decide (l ≤ k) = false := by simp; omega
          have y4 : inb (nI f + nI k) 200 = true := by rw [nI_add, inb_nI (by omega)]; simp; omega
          have hb := hX.2 (f + k) (by omega)
          rw [y3, y4, nI_add, nclamp (by omega), hb.2, sgn_eq hb.1 hc]
          by_cases e2 : B (f + k) = c
          · have y5 : decide (B (f + k) = c) = true := by simp [e2]
            rw [y5, if_pos ⟨kl, e2⟩]
            show sem PGM (d + 4) yR_wordAt (8, [some (.ref 13), some (.int (nI f)), some (.int (nI l)), some (.int (nI w)), some (.int (nI k + 1)), some (.int (nI (pre.length + 1))), some (.int (nI c))], [], hR Z X) = _
            rw [nI_1]
            exact ih w (some (k + 1)) (fun j hj => by cases hj; omega) (by omega)
          · have y5 : decide (B (f + k) = c) = false := by simp [e2]
            rw [y5, if_neg (fun z => e2 z.2)]
            exact ih w none (fun j hj => by cases hj) (by omega)
        · have y3 : decide (l ≤ k) = true := by simp; omega
          rw [y3, if_neg (fun z => kl z.1)]
          exact ih w none (fun j hj => by cases hj) (by omega)
theorem WL_32 : ∀ w ∈ WL, 32 ∉ w := by decide +kernel
theorem cR_wordAt (d : Nat) (Z : WT) {X : XS} {n : Nat} {B : Nat → Nat} (hX : tpX n B X) {f l : Nat} (hf : f + l ≤ n) : call PGM (d + 5) yR_wordAt [.ref 13, .int (nI f), .int (nI l)] (hR Z X) = some (some (.int (wV (txt B f l) WL 0)), hR Z X) := by
  have := word_loop d Z hX hf (jnW WL) [] 0 (some 0) none rfl (fun k hk => by cases hk; omega) (by rw [jnW_len]; omega)
  rw [wlF_jnW B f l WL 0 (by decide) WL_32] at this
  rw [kR_wordAt, eR_wordAt_0]
  exact this
