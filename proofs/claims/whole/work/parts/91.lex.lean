/-! TEXTS: bytes, words, places; how the model goes on. -/
def srt (c : Nat) : Nat := if c = 32 then 0 else if 97 ≤ c ∧ c ≤ 122 then 1 else if 48 ≤ c ∧ c ≤ 57 then 2 else 3
def skF (B : Nat → Nat) : Nat → Nat → Nat
  | 0, f => f
  | k + 1, f => if B f = 32 then skF B k (f + 1) else f
def skp (n : Nat) (B : Nat → Nat) (f : Nat) : Nat := skF B (n - f) f
theorem skp_b {n : Nat} {B : Nat → Nat} {f : Nat} (h : f < n) (e : B f = 32) : skp n B f = skp n B (f + 1) := by
  unfold skp
  obtain ⟨k, hk⟩ : ∃ k, n - f = k + 1 := ⟨n - f - 1, by omega⟩
  rw [hk, skF, if_pos e, show n - (f + 1) = k by omega]
theorem skp_n {n : Nat} {B : Nat → Nat} {f : Nat} (h : f < n) (e : B f ≠ 32) : skp n B f = f := by
  unfold skp
  obtain ⟨k, hk⟩ : ∃ k, n - f = k + 1 := ⟨n - f - 1, by omega⟩
  rw [hk, skF, if_neg e]
theorem skp_e {n : Nat} {B : Nat → Nat} {f : Nat} (h : n ≤ f) : skp n B f = f := by
  unfold skp
  rw [show n - f = 0 by omega, skF]
def rnF (B : Nat → Nat) (s : Nat) : Nat → Nat → Nat
  | 0, f => f
  | k + 1, f => if srt (B f) = s then rnF B s k (f + 1) else f
def rnl (n : Nat) (B : Nat → Nat) (s f : Nat) : Nat := rnF B s (n - f) f
theorem rnl_b {n : Nat} {B : Nat → Nat} {s f : Nat} (h : f < n) (e : srt (B f) = s) : rnl n B s f = rnl n B s (f + 1) := by
  unfold rnl
  obtain ⟨k, hk⟩ : ∃ k, n - f = k + 1 := ⟨n - f - 1, by omega⟩
  rw [hk, rnF, if_pos e, show n - (f + 1) = k by omega]
theorem rnl_n {n : Nat} {B : Nat → Nat} {s f : Nat} (h : f < n) (e : srt (B f) ≠ s) : rnl n B s f = f := by
  unfold rnl
  obtain ⟨k, hk⟩ : ∃ k, n - f = k + 1 := ⟨n - f - 1, by omega⟩
  rw [hk, rnF, if_neg e]
theorem rnl_e {n : Nat} {B : Nat → Nat} {s f : Nat} (h : n ≤ f) : rnl n B s f = f := by
  unfold rnl
  rw [show n - f = 0 by omega, rnF]
theorem skp_le {n : Nat} {B : Nat → Nat} : ∀ (k f : Nat), f + k = n → f ≤ skp n B f ∧ skp n B f ≤ n ∧ (skp n B f < n → B (skp n B f) ≠ 32)
  | 0, f, h => by rw [skp_e (by omega)]; omega
  | k + 1, f, h => by
    by_cases e : B f = 32
    · rw [skp_b (by omega) e]
      have := skp_le k (f + 1) (by omega) (n := n) (B := B)
      exact ⟨by omega, this.2⟩
    · rw [skp_n (by omega) e]
      exact ⟨by omega, by omega, fun _ => e⟩
theorem rnl_le {n : Nat} {B : Nat → Nat} {s : Nat} : ∀ (k f : Nat), f + k = n → f ≤ rnl n B s f ∧ rnl n B s f ≤ n ∧ ∀ j, f ≤ j → j < rnl n B s f → srt (B j) = s
  | 0, f, h => by rw [rnl_e (by omega)]; exact ⟨by omega, by omega, fun j h1 h2 => by omega⟩
  | k + 1, f, h => by
    by_cases e : srt (B f) = s
    · rw [rnl_b (by omega) e]
      have := rnl_le k (f + 1) (by omega) (n := n) (B := B) (s := s)
      refine ⟨by omega, this.2.1, fun j h1 h2 => ?_⟩
      by_cases ej : j = f
      · subst ej; exact e
      · exact this.2.2 j (by omega) h2
    · rw [rnl_n (by omega) e]
      exact ⟨by omega, by omega, fun j h1 h2 => by omega⟩
def eo (n : Nat) (B : Nat → Nat) (f : Nat) : Nat := if f < n then (if srt (B f) = 1 ∨ srt (B f) = 2 then rnl n B (srt (B f)) (f + 1) else f + 1) else f
theorem eo_e {n : Nat} {B : Nat → Nat} {f : Nat} (h : n ≤ f) : eo n B f = f := if_neg (by omega)
theorem eo_w {n : Nat} {B : Nat → Nat} {f : Nat} (h : f < n) (e : srt (B f) = 1 ∨ srt (B f) = 2) : eo n B f = rnl n B (srt (B f)) (f + 1) := by
  unfold eo
  rw [if_pos h, if_pos e]
theorem eo_o {n : Nat} {B : Nat → Nat} {f : Nat} (h : f < n) (e : ¬ (srt (B f) = 1 ∨ srt (B f) = 2)) : eo n B f = f + 1 := by
  unfold eo
  rw [if_pos h, if_neg e]
theorem eo_le {n : Nat} {B : Nat → Nat} {f : Nat} (h : f ≤ n) : f ≤ eo n B f ∧ eo n B f ≤ n ∧ (f < n → f < eo n B f) := by
  by_cases h' : f < n
  · by_cases e : srt (B f) = 1 ∨ srt (B f) = 2
    · rw [eo_w h' e]
      have := rnl_le (n - (f + 1)) (f + 1) (by omega) (n := n) (B := B) (s := srt (B f))
      omega
    · rw [eo_o h' e]
      omega
  · rw [eo_e (by omega)]
    omega
/-- where a word begins, where it ends -/
def Pp (n : Nat) (B : Nat → Nat) : Nat → Nat
  | 0 => skp n B 0
  | t + 1 => skp n B (eo n B (Pp n B t))
def Ee (n : Nat) (B : Nat → Nat) (t : Nat) : Nat := eo n B (Pp n B t)
theorem Pp_le (n : Nat) (B : Nat → Nat) : ∀ t, Pp n B t ≤ n
  | 0 => (skp_le n 0 (by omega)).2.1
  | t + 1 => by
    have h := Pp_le n B t
    have h2 := (eo_le h (B := B)).2.1
    exact (skp_le (n - eo n B (Pp n B t)) _ (by omega)).2.1
theorem Pp_lt (n : Nat) (B : Nat → Nat) (t : Nat) (h : Pp n B t < n) : Pp n B t < Pp n B (t + 1) := by
  have h2 := eo_le (Nat.le_of_lt h) (B := B)
  have h3 := (skp_le (n - eo n B (Pp n B t)) (eo n B (Pp n B t)) (by omega) (n := n) (B := B)).1
  show _ < skp n B (eo n B (Pp n B t))
  omega
theorem Ee_le (n : Nat) (B : Nat → Nat) (t : Nat) : Pp n B t ≤ Ee n B t ∧ Ee n B t ≤ n ∧ (Pp n B t < n → Pp n B t < Ee n B t) := eo_le (Pp_le n B t)
theorem Pp_ns (n : Nat) (B : Nat → Nat) : ∀ t, Pp n B t < n → B (Pp n B t) ≠ 32
  | 0, h => (skp_le n 0 (by omega)).2.2 h
  | t + 1, h => by
    have h2 := (eo_le (Pp_le n B t) (B := B)).2.1
    exact (skp_le (n - eo n B (Pp n B t)) _ (by omega)).2.2 h
-- the model's bytes
def tpM (n : Nat) (B : Nat → Nat) (M : MS) : Prop := M.2 1 = nI n ∧ n ≤ 200 ∧ ∀ k, k < n → B k < 256 ∧ M.1 3 k = nI (B k)
def bv (n : Nat) (B : Nat → Nat) (f : Nat) : Int32 := if f < n then nI (B f) else MO
theorem cM_byteAt (d : Nat) (Z : ZT) {M : MS} {n : Nat} {B : Nat → Nat} (h : tpM n B M) (f : Nat) (hf : f < 100000) : call PGM (d + 1) yM_byteAt [.ref 91, .int (nI f)] (hM Z M) = some (some (.int (bv n B f)), hM Z M) := by
  obtain ⟨h1, h2, h3⟩ := h
  rw [kM_byteAt, eM_byteAt_0, h1, dle (by omega) (by omega), bv]
  by_cases e : f < n
  · have x1 : decide (n ≤ f) = false := by simp; omega
    have x2 : inb (nI f) 200 = true := by rw [inb_nI (by omega)]; simp; omega
    rw [x1, x2, nclamp (by omega), (h3 f e).2, if_pos e]
    rfl
  · have x1 : decide (n ≤ f) = true := by simp; omega
    rw [x1, if_neg e]
    rfl
theorem rng_MO (lo hi : Nat) (h : lo < 2147483648) : rng MO lo hi = false := by
  unfold rng
  have : decide (nI lo ≤ MO) = false := by
    have : ¬ nI lo ≤ MO := by rw [Int32.le_iff_toInt_le, nI_toInt h, MO_int]; omega
    simp [this]
  rw [this]
  rfl
theorem bv_1 {n : Nat} {B : Nat → Nat} (hB : ∀ k, k < n → B k < 256) (f : Nat) : rng (bv n B f) 97 122 = decide (f < n ∧ srt (B f) = 1) := by
  unfold bv
  by_cases e : f < n
  · have := hB f e
    rw [if_pos e, rng_n (by omega) (by omega) (by omega), ← Bool.decide_and, decide_eq_decide]
    unfold srt
    split
    · constructor <;> intro h <;> omega
    · split
      · constructor <;> intro h <;> omega
      · split <;> constructor <;> intro h <;> omega
  · rw [if_neg e, rng_MO _ _ (by omega)]
    simp [e]
theorem bv_2 {n : Nat} {B : Nat → Nat} (hB : ∀ k, k < n → B k < 256) (f : Nat) : rng (bv n B f) 48 57 = decide (f < n ∧ srt (B f) = 2) := by
  unfold bv
  by_cases e : f < n
  · have := hB f e
    rw [if_pos e, rng_n (by omega) (by omega) (by omega), ← Bool.decide_and, decide_eq_decide]
    unfold srt
    split
    · constructor <;> intro h <;> omega
    · split
      · constructor <;> intro h <;> omega
      · split <;> constructor <;> intro h <;> omega
  · rw [if_neg e, rng_MO _ _ (by omega)]
    simp [e]
theorem bv_c {n : Nat} {B : Nat → Nat} (hB : ∀ k, k < n → B k < 256) (f c : Nat) (hc : c < 256) : decide (bv n B f = nI c) = decide (f < n ∧ B f = c) := by
  unfold bv
  by_cases e : f < n
  · have := hB f e
    rw [if_pos e, deq (by omega) (by omega), decide_eq_decide]
    omega
  · rw [if_neg e]
    have : ¬ MO = nI c := by
      intro q
      have := congrArg Int32.toInt q
      rw [MO_int, nI_toInt (by omega)] at this
      omega
    simp [e, this]
theorem cM_isLetter (d : Nat) (h : AH) (i : Int32) : call PGM (d + 2) yM_isLetter [.int i] h = some (some (.int (bI (rng i 97 122))), h) := by
  rw [kM_isLetter, eM_isLetter_0, show (97 : Int64) = (nI 97).toInt64 from rfl, show (122 : Int64) = (nI 122).toInt64 from rfl, cM_rng d, aft1, eM_isLetter_11, bI_B, cond_true]
theorem cM_isDigit (d : Nat) (h : AH) (i : Int32) : call PGM (d + 2) yM_isDigit [.int i] h = some (some (.int (bI (rng i 48 57))), h) := by
  rw [kM_isDigit, eM_isDigit_0, show (48 : Int64) = (nI 48).toInt64 from rfl, show (57 : Int64) = (nI 57).toInt64 from rfl, cM_rng d, aft1, eM_isDigit_11, bI_B, cond_true]
theorem tpM_V {n : Nat} {B : Nat → Nat} {M : MS} (h : tpM n B M) {k : Nat} (hk : k ≠ 1) (v : Int32) : tpM n B (mV M k v) := ⟨by rw [mV_n (by omega)]; exact h.1, h.2⟩
theorem tpM_A {n : Nat} {B : Nat → Nat} {M : MS} (h : tpM n B M) {k : Nat} (hk : k ≠ 3) (v : Nat → Int32) : tpM n B (mA M k v) := ⟨h.1, h.2.1, by rw [mA_n (by omega)]; exact h.2.2⟩
theorem cM_next (d : Nat) (Z : ZT) {M : MS} {n : Nat} {B : Nat → Nat} (h : tpM n B M) {e : Nat} (he : e ≤ n) (h3 : M.2 3 = nI e) : call PGM (d + 3) yM_next [.ref 91] (hM Z M) = some (none, hM Z (mV (mV M 2 (nI (skp n B e))) 3 (nI (eo n B (skp n B e))))) := by
  have hB : ∀ k, k < n → B k < 256 := fun k hk => (h.2.2 k hk).1
  have hn := h.2.1
  have lp1 : ∀ k f, f + k = n → sem PGM (d + 2) yM_next (8, [some (.ref 91), none, none], [], hM Z (mV M 2 (nI f))) = sem PGM (d + 2) yM_next (42, [some (.ref 91), none, none], [.int (bv n B (skp n B f))], hM Z (mV M 2 (nI (skp n B f)))) := by
    intro k
    induction k with
    | zero =>
      intro f hf
      have x : decide (bv n B f = 32) = false := by
        show decide (bv n B f = nI 32) = false
        rw [bv_c hB f 32 (by omega)]; simp; omega
      rw [eM_next_8, mV_s, cM_byteAt (d + 1) Z (tpM_V h (by omega) _) f (by omega), aft1, eM_next_16, x, mV_s, cM_byteAt (d + 1) Z (tpM_V h (by omega) _) f (by omega), aft1, skp_e (by omega)]
      rfl
    | succ k ih =>
      intro f hf
      have x : decide (bv n B f = 32) = decide (B f = 32) := by
        show decide (bv n B f = nI 32) = _
        rw [bv_c hB f 32 (by omega), decide_eq_decide]; omega
      rw [eM_next_8, mV_s, cM_byteAt (d + 1) Z (tpM_V h (by omega) _) f (by omega), aft1, eM_next_16, x, mV_s, cM_byteAt (d + 1) Z (tpM_V h (by omega) _) f (by omega), aft1, eM_next_31, nI_1, mV_mV]
      by_cases e32 : B f = 32
      · rw [skp_b (by omega) e32, ← ih (f + 1) (by omega)]
        simp [e32]
      · rw [skp_n (by omega) e32]
        simp [e32]
  have lp2 : ∀ k t, t + k = n → ∀ (M2 : MS), tpM n B M2 → ∀ (s : Nat) (b1 b2 : Bool), s = 1 ∧ b1 = true ∧ b2 = false ∨ s = 2 ∧ b1 = false ∧ b2 = true → sem PGM (d + 2) yM_next (86, [some (.ref 91), some (.int (bI b1)), some (.int (bI b2))], [], hM Z (mV M2 3 (nI t))) = some (none, hM Z (mV M2 3 (nI (rnl n B s t)))) := by
    intro k
    induction k with
    | zero =>
      intro t ht M2 hM2 s b1 b2 hs
      have x1 : decide (t < n ∧ srt (B t) = 1) = false := by simp; omega
      have x2 : decide (t < n ∧ srt (B t) = 2) = false := by simp; omega
      rw [rnl_e (by omega)]
      rcases hs with ⟨rfl, rfl, rfl⟩ | ⟨rfl, rfl, rfl⟩
      · rw [eM_next_86]
        show aftK _ 1 _ (call PGM (d + 2) yM_byteAt [.ref 91, .int ((mV M2 3 (nI t)).2 3)] _) = _
        rw [mV_s, cM_byteAt (d + 1) Z (tpM_V hM2 (by omega) _) t (by omega), aft1, eM_next_98, cM_isLetter d, bv_1 hB, x1, aft1, eM_next_101]
        rfl
      · rw [eM_next_86]
        show aftK _ 1 _ (call PGM (d + 2) yM_byteAt [.ref 91, .int ((mV M2 3 (nI t)).2 3)] _) = _
        rw [mV_s, cM_byteAt (d + 1) Z (tpM_V hM2 (by omega) _) t (by omega), aft1, eM_next_116, cM_isDigit d, bv_2 hB, x2, aft1, eM_next_119]
        rfl
    | succ k ih =>
      intro t ht M2 hM2 s b1 b2 hs
      rcases hs with ⟨rfl, rfl, rfl⟩ | ⟨rfl, rfl, rfl⟩
      · rw [eM_next_86]
        show aftK _ 1 _ (call PGM (d + 2) yM_byteAt [.ref 91, .int ((mV M2 3 (nI t)).2 3)] _) = _
        rw [mV_s, cM_byteAt (d + 1) Z (tpM_V hM2 (by omega) _) t (by omega), aft1, eM_next_98, cM_isLetter d, bv_1 hB, aft1, eM_next_101, mV_s, nI_1, mV_mV, eM_next_132]
        by_cases e1 : srt (B t) = 1
        · have x1 : decide (t < n ∧ srt (B t) = 1) = true := by simp [e1]; omega
          rw [x1, rnl_b (by omega) e1]
          exact ih (t + 1) (by omega) M2 hM2 1 true false (Or.inl ⟨rfl, rfl, rfl⟩)
        · have x1 : decide (t < n ∧ srt (B t) = 1) = false := by simp [e1]
          rw [x1, rnl_n (by omega) e1]
          rfl
      · rw [eM_next_86]
        show aftK _ 1 _ (call PGM (d + 2) yM_byteAt [.ref 91, .int ((mV M2 3 (nI t)).2 3)] _) = _
        rw [mV_s, cM_byteAt (d + 1) Z (tpM_V hM2 (by omega) _) t (by omega), aft1, eM_next_116, cM_isDigit d, bv_2 hB, aft1, eM_next_119, mV_s, nI_1, mV_mV, eM_next_132]
        by_cases e1 : srt (B t) = 2
        · have x1 : decide (t < n ∧ srt (B t) = 2) = true := by simp [e1]; omega
          rw [x1, rnl_b (by omega) e1]
          exact ih (t + 1) (by omega) M2 hM2 2 false true (Or.inr ⟨rfl, rfl, rfl⟩)
        · have x1 : decide (t < n ∧ srt (B t) = 2) = false := by simp [e1]
          rw [x1, rnl_n (by omega) e1]
          rfl
  have sk := skp_le (n - e) e (by omega) (n := n) (B := B)
  generalize hf : skp n B e = f at sk
  have hF := tpM_V h (show (2 : Nat) ≠ 1 by omega) (nI f)
  rw [kM_next, eM_next_0, h3, lp1 (n - e) e (by omega), hf, eM_next_42, cM_isLetter d, bv_1 hB, aft1, eM_next_45, mV_s, cM_byteAt (d + 1) Z hF f (by omega), aft1, eM_next_54, cM_isDigit d, bv_2 hB, aft1, eM_next_57, mV_s, hF.1, dle (by omega) (by omega), nI_1]
  by_cases hfn : f < n
  · have x0 : decide (n ≤ f) = false := by simp; omega
    rw [x0, cond_false]
    by_cases e1 : srt (B f) = 1
    · have x1 : decide (f < n ∧ srt (B f) = 1) = true := by simp [e1]; omega
      have x2 : decide (f < n ∧ srt (B f) = 2) = false := by simp [e1]
      rw [x1, x2, eo_w hfn (Or.inl e1), e1]
      exact lp2 (n - (f + 1)) (f + 1) (by omega) _ hF 1 true false (Or.inl ⟨rfl, rfl, rfl⟩)
    · by_cases e2 : srt (B f) = 2
      · have x1 : decide (f < n ∧ srt (B f) = 1) = false := by simp [e1]
        have x2 : decide (f < n ∧ srt (B f) = 2) = true := by simp [e2]; omega
        rw [x1, x2, eo_w hfn (Or.inr e2), e2]
        exact lp2 (n - (f + 1)) (f + 1) (by omega) _ hF 2 false true (Or.inr ⟨rfl, rfl, rfl⟩)
      · have x1 : decide (f < n ∧ srt (B f) = 1) = false := by simp [e1]
        have x2 : decide (f < n ∧ srt (B f) = 2) = false := by simp [e2]
        rw [x1, x2, eo_o hfn (by omega), eM_next_86]
        rfl
  · have x0 : decide (n ≤ f) = true := by simp; omega
    have x1 : decide (f < n ∧ srt (B f) = 1) = false := by simp; omega
    have x2 : decide (f < n ∧ srt (B f) = 2) = false := by simp; omega
    rw [x0, x1, x2, cond_true, eo_e (by omega), eM_next_86]
    rfl
