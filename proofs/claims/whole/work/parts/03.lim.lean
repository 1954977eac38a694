/-! The limit of the runs with fuel, its equation, and the unrolling of a block. -/
theorem pick_road {nx : AS → Res} {r : Option Value × AH} : ∀ (cs : List (Bool × AS)) (d : Option AS), pick cs d nx = some r → ∃ s, nx s = some r ∧ ∀ nx' : AS → Res, pick cs d nx' = nx' s
  | [], none, h => by cases h
  | [], some s, h => ⟨s, h, fun _ => rfl⟩
  | (true, s) :: t, d, h => ⟨s, h, fun _ => rfl⟩
  | (false, s) :: t, d, h => pick_road t d h
theorem act_road {call : Nat → List Value → AH → Res} {nx : AS → Res} {r : Option Value × AH} (a : ACT) (h : act a call (aftK nx) nx = some r) :
    (∃ s, nx s = some r ∧ ∀ call' nx', act a call' (aftK nx') nx' = nx' s) ∨ (∃ y as hp q s, call y as hp = some q ∧ nx s = some r ∧ ∀ call' nx', call' y as hp = some q → act a call' (aftK nx') nx' = nx' s) ∨ ∀ call' nx', act a call' (aftK nx') nx' = some r := by
  match a, h with
  | .inl (cs, d), h =>
    obtain ⟨s, h1, h2⟩ := pick_road cs d h
    exact Or.inl ⟨s, h1, fun _ nx' => h2 nx'⟩
  | .inr (.inl (true, y, as, t, s0)), h =>
    have h' : (call y as s0.2.2.2).bind (fun q => pick (aft t s0 q.1 q.2) none nx) = some r := h
    cases hc : call y as s0.2.2.2 with
    | none => rw [hc] at h'; cases h'
    | some q =>
      rw [hc] at h'
      obtain ⟨s, h1, h2⟩ := pick_road _ _ (show pick (aft t s0 q.1 q.2) none nx = some r from h')
      refine Or.inr (Or.inl ⟨y, as, s0.2.2.2, q, s, hc, h1, fun call' nx' hc' => ?_⟩)
      show (call' y as s0.2.2.2).bind (fun q => pick (aft t s0 q.1 q.2) none nx') = _
      rw [hc']
      exact h2 nx'
  | .inr (.inl (false, y, as, t, s0)), h => cases h
  | .inr (.inr (true, v, hp)), h => exact Or.inr (Or.inr fun _ _ => h)
  | .inr (.inr (false, v, hp)), h => cases h
theorem one_road {dfl : Nat → List Value} {nm : Nat → String} {tab : Nat → Option EN} {call : Nat → List Value → AH → Res} {nx : AS → Res} {r : Option Value × AH} (s0 : AS) (h : one dfl nm tab call (aftK nx) s0 nx = some r) :
    (∃ s, nx s = some r ∧ ∀ call' nx', one dfl nm tab call' (aftK nx') s0 nx' = nx' s) ∨ (∃ y as hp q s, call y as hp = some q ∧ nx s = some r ∧ ∀ call' nx', call' y as hp = some q → one dfl nm tab call' (aftK nx') s0 nx' = nx' s) ∨ ∀ call' nx', one dfl nm tab call' (aftK nx') s0 nx' = some r := by
  unfold one at h ⊢
  cases ht : tab s0.1 with
  | none => rw [ht] at h; cases h
  | some e =>
    rw [ht] at h
    exact act_road _ h
theorem one_mono {dfl : Nat → List Value} {nm : Nat → String} {tab : Nat → Option EN} {call call' : Nat → List Value → AH → Res} {nx nx' : AS → Res} {r : Option Value × AH} (s0 : AS) (hc : ∀ y as hp q, call y as hp = some q → call' y as hp = some q) (hn : ∀ s, nx s = some r → nx' s = some r)
    (h : one dfl nm tab call (aftK nx) s0 nx = some r) : one dfl nm tab call' (aftK nx') s0 nx' = some r := by
  rcases one_road s0 h with ⟨s, h1, h2⟩ | ⟨y, as, hp, q, s, h1, h2, h3⟩ | h1
  · rw [h2]; exact hn s h1
  · rw [h3 _ _ (hc _ _ _ _ h1)]; exact hn s h2
  · exact h1 _ _
def callN (P : PG) (n d : Nat) (y : Nat) (as : List Value) (h : AH) : Res := match d with
  | 0 => none
  | d' + 1 => bif Nat.ble (argL as).length (P.2.2.2 y) then semN P n d' y (0, mkL (P.2.2.2 y) as, [], h) else none
theorem semN_s (P : PG) (n d y : Nat) (s : AS) : semN P (n + 1) d y s = one P.1 P.2.1 (P.2.2.1 y) (callN P n d) (aftK (semN P n d y)) s (semN P n d y) := by
  rw [semN]
  rfl
theorem semN_up (P : PG) : ∀ (n d y : Nat) (s : AS) (r : Option Value × AH), semN P n d y s = some r → semN P (n + 1) d y s = some r
  | 0, d, y, s, r, h => by rw [semN] at h; cases h
  | n + 1, d, y, s, r, h => by
    rw [semN_s] at h ⊢
    refine one_mono s (fun y' as hp q hq => ?_) (fun s' hs => semN_up P n d y s' r hs) h
    cases d with
    | zero => cases hq
    | succ d =>
      unfold callN at hq ⊢
      cases hb : Nat.ble (argL as).length (P.2.2.2 y') with
      | false => simp only [hb] at hq; cases hq
      | true =>
        simp only [hb] at hq ⊢
        exact semN_up P n d y' _ q hq
theorem semN_le (P : PG) {d y : Nat} {s : AS} {r : Option Value × AH} : ∀ {n m : Nat}, n ≤ m → semN P n d y s = some r → semN P m d y s = some r := by
  intro n m h h1
  induction m with
  | zero => rw [show n = 0 by omega] at h1; exact h1
  | succ m ih =>
    by_cases e : n = m + 1
    · rw [← e]; exact h1
    · exact semN_up P m d y s r (ih (by omega))
noncomputable def sem (P : PG) (d y : Nat) (s : AS) : Res := by
  classical
  exact if h : ∃ r, ∃ n, semN P n d y s = some r then some h.choose else none
theorem sem_iff (P : PG) (d y : Nat) (s : AS) (r : Option Value × AH) : sem P d y s = some r ↔ ∃ n, semN P n d y s = some r := by
  unfold sem
  constructor
  · intro h
    by_cases c : ∃ r, ∃ n, semN P n d y s = some r
    · simp only [c, dif_pos] at h
      have h1 := c.choose_spec
      rw [Option.some.inj h] at h1
      exact h1
    · simp only [c, dif_neg, not_false_eq_true] at h
      cases h
  · rintro ⟨n, h⟩
    have c : ∃ r, ∃ n, semN P n d y s = some r := ⟨r, n, h⟩
    simp only [c, dif_pos]
    obtain ⟨m, hm⟩ := c.choose_spec
    have h1 := semN_le P (Nat.le_max_left m n) hm
    have h2 := semN_le P (Nat.le_max_right m n) h
    rw [← h1, h2]
noncomputable def call (P : PG) (d : Nat) (y : Nat) (as : List Value) (h : AH) : Res := match d with
  | 0 => none
  | d' + 1 => bif Nat.ble (argL as).length (P.2.2.2 y) then sem P d' y (0, mkL (P.2.2.2 y) as, [], h) else none
theorem call_iff (P : PG) (d y : Nat) (as : List Value) (h : AH) (r : Option Value × AH) : call P d y as h = some r ↔ ∃ n, callN P n d y as h = some r := by
  cases d with
  | zero => exact ⟨fun h => (by cases h), fun ⟨_, h⟩ => (by cases h)⟩
  | succ d =>
    unfold call callN
    cases hb : Nat.ble (argL as).length (P.2.2.2 y) with
    | false => exact ⟨fun h => (by cases h), fun ⟨_, h⟩ => (by cases h)⟩
    | true => exact sem_iff P d y _ r
theorem callN_le (P : PG) {d y : Nat} {as : List Value} {h : AH} {r : Option Value × AH} {n m : Nat} (l : n ≤ m) (h1 : callN P n d y as h = some r) : callN P m d y as h = some r := by
  cases d with
  | zero => cases h1
  | succ d =>
    unfold callN at h1 ⊢
    cases hb : Nat.ble (argL as).length (P.2.2.2 y) with
    | false => simp only [hb] at h1; cases h1
    | true =>
      simp only [hb] at h1 ⊢
      exact semN_le P l h1
theorem sem_eq (P : PG) (d y : Nat) (s : AS) : sem P d y s = one P.1 P.2.1 (P.2.2.1 y) (call P d) (aftK (sem P d y)) s (sem P d y) := by
  apply Option.ext
  intro r
  constructor
  · intro h
    obtain ⟨n, hn⟩ := (sem_iff P d y s r).mp h
    cases n with
    | zero => rw [semN] at hn; cases hn
    | succ n =>
      rw [semN_s] at hn
      exact one_mono s (fun y' as hp q hq => (call_iff P d y' as hp q).mpr ⟨n, hq⟩) (fun s' hs => (sem_iff P d y s' r).mpr ⟨n, hs⟩) hn
  · intro h
    apply (sem_iff P d y s r).mpr
    rcases one_road s h with ⟨s', h1, h2⟩ | ⟨y', as, hp, q, s', h1, h2, h3⟩ | h1
    · obtain ⟨n, hn⟩ := (sem_iff P d y s' r).mp h1
      refine ⟨n + 1, ?_⟩
      rw [semN_s, h2]
      exact hn
    · obtain ⟨n, hn⟩ := (sem_iff P d y s' r).mp h2
      obtain ⟨m, hm⟩ := (call_iff P d y' as hp q).mp h1
      refine ⟨max n m + 1, ?_⟩
      rw [semN_s, h3 _ _ (callN_le P (Nat.le_max_right n m) hm)]
      exact semN_le P (Nat.le_max_left n m) hn
    · exact ⟨1, by rw [semN_s, h1]⟩
/-- a block: up to k instructions, ended at calls and at the pcs of the list -/
def ev (P : PG) (y : Nat) (stops : List Nat) (cl : Nat → List Value → AH → Res) (ct : AS → Res) : Nat → AS → Res
  | 0, s => ct s
  | k + 1, s => one P.1 P.2.1 (P.2.2.1 y) cl (aftK ct) s (fun s' => bif stops.elem s'.1 then ct s' else ev P y stops cl ct k s')
theorem ev_eq (P : PG) (d y : Nat) (stops : List Nat) : ∀ (k : Nat) (s : AS), sem P d y s = ev P y stops (call P d) (sem P d y) k s
  | 0, _ => rfl
  | k + 1, s => by
    rw [sem_eq, ev]
    congr 1
    funext s'
    cases stops.elem s'.1 with
    | true => rfl
    | false => exact ev_eq P d y stops k s'
