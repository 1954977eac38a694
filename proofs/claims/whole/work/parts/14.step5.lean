/-! Soundness: arrays of references, static fields, what is made. -/
theorem isG_spec {h : AH} {a : Nat} (hg : isG h a = true) : ∃ n f, hat h a = some (.inl (.array .int, n, .inr (.inr (.inr (.inr f))))) := by
  unfold isG at hg
  split at hg
  · rename_i n f hc
    exact ⟨n, f, hc⟩
  · cases hg
theorem isO_spec {h : AH} {a : Nat} (hg : isO h a = true) : ∃ n f, hat h a = some (.inl (.char, n, .inr (.inr (.inr (.inr f))))) := by
  unfold isO at hg
  split at hg
  · rename_i n f hc
    exact ⟨n, f, hc⟩
  · cases hg
theorem grd_road {h : AH} {a : Nat} {i : Int32} {np : Nat} {ls : LV} {st : List Value} {nx : AS → Res} {r : Option Value × AH} : ∀ (n : Nat) (t : List (Bool × AS)), pick (grd h a i np ls st n ++ t) none nx = some r →
    (∃ k, k < n ∧ i = nI k ∧ (rO h a k).isSome = true ∧ 12 ≤ (rO h a k).getD 0 ∧ k ≤ 1000 ∧ nx (np, ls, .ref ((rO h a k).getD 0) :: st, h) = some r) ∨ pick t none nx = some r
  | 0, t, hp => Or.inr hp
  | n + 1, t, hp => by
    rw [grd, List.append_assoc] at hp
    rcases grd_road n _ hp with ⟨k, h1, h2⟩ | h1
    · exact Or.inl ⟨k, by omega, h2⟩
    · have h2 : (bif (decide (i = nI n) && (rO h a n).isSome && Nat.ble 12 ((rO h a n).getD 0) && Nat.ble n 1000) then nx (np, ls, .ref ((rO h a n).getD 0) :: st, h) else pick t none nx) = some r := h1
      cases e0 : (decide (i = nI n) && (rO h a n).isSome && Nat.ble 12 ((rO h a n).getD 0) && Nat.ble n 1000) with
      | true =>
        rw [e0] at h2
        simp only [Bool.and_eq_true, decide_eq_true_eq] at e0
        exact Or.inl ⟨n, by omega, e0.1.1.1, e0.1.1.2, Nat.le_of_ble_eq_true e0.1.2, Nat.le_of_ble_eq_true e0.2, h2⟩
      | false =>
        rw [e0] at h2
        exact Or.inr h2
theorem pick2 {b1 b2 : Bool} {s1 s2 : AS} {nx : AS → Res} {r : Option Value × AH} (h : pick [(b1, s1), (b2, s2)] none nx = some r) : (b1 = true ∧ nx s1 = some r) ∨ (b2 = true ∧ nx s2 = some r) := by
  cases b1 with
  | true => exact Or.inl ⟨rfl, h⟩
  | false => cases b2 with
    | true => exact Or.inr ⟨rfl, h⟩
    | false => cases h
section STEP5
variable {p : Program} {l : Launch} {e : Env} {R : Room} {s : State} {m : MethodId} {args : Array Value} {below : List Frame} {meth : Method} {c : Code} {Q : State → Prop} {V : EV} {y d n0 s0 : Nat} {hF : AH}
variable {call : Nat → List Value → AH → Res} {nx : AS → Res} {rv : Option Value}
theorem s_aald {pc np : Nat} {h : AH} {ls : LV} {st : List Value} (C : Cxt p R s m args meth c V y d n0 s0 hF) (hnp : np = pc + 1) (hd : decode (mby y) pc = .ok (.aaload, 1))
    (hn : ∀ a, nx a = some (rv, hF) → Gd p l e R s m args below meth c Q V (mloc y) n0 s0 hF a) (hr : act (stpAald np ls st h) call (aftK nx) nx = some (rv, hF)) : Gd p l e R s m args below meth c Q V (mloc y) n0 s0 hF (pc, ls, st, h) := by
  obtain ⟨hx, hb, hml, hown, hts, Gs0, hnam, -⟩ := C
  subst hnp
  unfold stpAald at hr
  split at hr
  · rename_i i a r
    have rowq : ∀ (t0 : Nat) (ty ety : FieldType) (n : Nat) (f : Nat → Option Nat), Nat.le 12 a → hat h a = some (.inl (ty, n, .inr (.inr (.inr (.inr f))))) → (tys4 V)[t0]? = some (V.tc ty, ety) → ety.isReference = true → vp_in i n → ∀ {H : Heap} {locs : List Loc} {lsR : Array Slot} {ce sc : Nat}, Wh V h H → W p l e R s m args below meth c H locs ce sc Q (F0 m (pc + 1) lsR (va_rf ((f i.toNatClampNeg).map (adr V)) :: r.map (cv V))) → W p l e R s m args below meth c H locs ce sc Q (F0 m pc lsR ((Value.int i :: .ref a :: r).map (cv V))) := by
      intro t0 ty ety n f ha hc ht href hin H locs lsR ce sc w k
      have ha : (12 : Nat) ≤ a := ha
      have e0 : (Value.int i :: .ref a :: r).map (cv V) = .int i :: .ref (adr V a) :: r.map (cv V) := by
        rw [List.map_cons, List.map_cons, cv_ref (k := a) (by omega)]
        rfl
      rw [e0]
      have hw := wsO_at (V := V) ha hc
      have hlt : i.toNatClampNeg < n := Nat.not_le.mp fun q => hin (Or.inr q)
      exact W.aald (v := va_rf ((f i.toNatClampNeg).map (adr V))) (ty := ety) hx hb (w.1 _ _ hw) ((Gs0.1.2 t0 _ ht).1 n (fun j => va_rf ((f j).map (adr V)))) href (fun q => by cases q) (by show ¬ (i < 0 ∨ (arrV _ _ _).slots.size ≤ _); rw [arrV_size]; exact hin) (by show (arrV _ _ _).slots[_]? = _; rw [arrV_read _ _ hlt]) rfl rfl hd k
    cases hg : (isG h a && Nat.ble 12 a) with
    | true =>
      rw [hg] at hr
      rw [Bool.and_eq_true] at hg
      obtain ⟨n, f, hc⟩ := isG_spec hg.1
      have ha := Nat.le_of_ble_eq_true hg.2
      have hl : lenA h a = n := by unfold lenA; rw [hc]
      have hr' : pick (grd h a i (pc + 1) ls r (lenA h a) ++ []) none nx = some (rv, hF) := by rw [List.append_nil]; exact hr
      rcases grd_road _ _ hr' with ⟨k, h1, h2, h3, h9, h8, h4⟩ | h1
      · rw [hl] at h1
        have hro : rO h a k = f k := by unfold rO; rw [hc]
        rw [hro] at h3 h4 h9
        obtain ⟨j, hj⟩ := Option.isSome_iff_exists.mp h3
        rw [hj, Option.getD_some] at h4 h9
        refine gd_go rfl (hn _ h4) (fun H locs lsR ce sc w S L kk => rowq 2 _ _ n f ha hc rfl rfl ?_ w ?_)
        · rw [h2]
          exact inb_in (by unfold inb; rw [nI_clamp (by omega)]; simp only [Bool.not_eq_true', Bool.or_eq_false_iff, decide_eq_false_iff_not]; exact ⟨nI_pos (by omega), by omega⟩)
        · have := kk lsR L
          rw [h2, nI_clamp (by omega), hj]
          rw [List.map_cons, cv_ref (by omega)] at this
          exact this
      · cases h1
    | false =>
      rw [hg] at hr
      rcases pick2 hr with ⟨h1, h2⟩ | ⟨h1, h2⟩
      · simp only [Bool.and_eq_true] at h1
        obtain ⟨⟨⟨h3, h4⟩, h5⟩, h6⟩ := h1
        obtain ⟨n, f, hc⟩ := isO_spec h3
        have hl : lenA h a = n := by unfold lenA; rw [hc]
        have hro : rO h a i.toNatClampNeg = f i.toNatClampNeg := by unfold rO; rw [hc]
        rw [hl] at h5
        rw [hro] at h6
        refine gd_go rfl (hn _ h2) (fun H locs lsR ce sc w S L kk => rowq 3 _ _ n f (Nat.le_of_ble_eq_true h4) hc rfl rfl (inb_in h5) w ?_)
        have := kk lsR L
        rw [Option.isNone_iff_eq_none.mp h6]
        exact this
      · simp only [Bool.and_eq_true] at h1
        obtain ⟨⟨⟨⟨h3, h4⟩, h5⟩, h6⟩, h7⟩ := h1
        obtain ⟨n, f, hc⟩ := isO_spec h3
        have hl : lenA h a = n := by unfold lenA; rw [hc]
        have hro : rO h a i.toNatClampNeg = f i.toNatClampNeg := by unfold rO; rw [hc]
        rw [hl] at h5
        rw [hro] at h6 h2 h7
        obtain ⟨j, hj⟩ := Option.isSome_iff_exists.mp h6
        rw [hj, Option.getD_some] at h2 h7
        have h7' := Nat.le_of_ble_eq_true h7
        refine gd_go rfl (hn _ h2) (fun H locs lsR ce sc w S L kk => rowq 3 _ _ n f (Nat.le_of_ble_eq_true h4) hc rfl rfl (inb_in h5) w ?_)
        have := kk lsR L
        rw [hj]
        rw [List.map_cons, cv_ref (by omega)] at this
        exact this
  · cases hr
theorem okC_spec {h : AH} {a ci : Nat} (hp : okC h a ci = true) : ∃ fs, hat h a = some (.inr (ci, fs)) := by
  unfold okC at hp
  split at hp
  · rename_i c fs hc
    have e := Nat.eq_of_beq_eq_true hp
    subst e
    exact ⟨fs, hc⟩
  · cases hp
theorem cdat_up (V : EV) (f : Nat → Option Nat) (k : Nat) (o : Option Nat) : (fun i => (va_up f k o i).map (adr V)) = va_up (fun i => (f i).map (adr V)) k (o.map (adr V)) := by
  funext i
  unfold va_up
  by_cases e0 : i = k
  · simp [e0]
  · simp [e0]
theorem s_aast {pc np : Nat} {ops : List Nat} {h : AH} {ls : LV} {st : List Value} (C : Cxt p R s m args meth c V y d n0 s0 hF) (hnp : np = pc + 1) (hd : decode (mby y) pc = .ok (.aastore, 1)) (hops : ∃ r, ops = 4 :: r)
    (hn : ∀ a, nx a = some (rv, hF) → Gd p l e R s m args below meth c Q V (mloc y) n0 s0 hF a) (hr : act (stpAast np ops ls st h) call (aftK nx) nx = some (rv, hF)) : Gd p l e R s m args below meth c Q V (mloc y) n0 s0 hF (pc, ls, st, h) := by
  have C0 := C
  obtain ⟨hx, hb, hml, hown, hts, Gs0, hnam, -⟩ := C
  subst hnp
  obtain ⟨ro, rfl⟩ := hops
  unfold stpAast at hr
  split at hr
  · rename_i x i a r ci rest heq
    cases heq
    obtain ⟨hb0, h2⟩ := chk_go hr
    simp only [Bool.and_eq_true] at hb0
    obtain ⟨⟨⟨⟨h3, h4⟩, h5⟩, h6⟩, h7⟩ := hb0
    have ha := Nat.le_of_ble_eq_true h3
    have hx12 := Nat.le_of_ble_eq_true h4
    obtain ⟨n, f, hc⟩ := isO_spec h5
    obtain ⟨fs, hcx⟩ := okC_spec h6
    have hl : lenA h a = n := by unfold lenA; rw [hc]
    rw [hl] at h7
    have hwO : wO h a i (some x) = h.set a (.inl (.char, n, .inr (.inr (.inr (.inr (va_up f i.toNatClampNeg (some x))))))) := by unfold wO; rw [hc]
    rw [hwO] at h2
    have hs1 : ∀ g, slc (.inl (.char, n, g)) = slc (.inl (.char, n, .inr (.inr (.inr (.inr f))))) := fun g => rfl
    refine gd_wr C0 (by simp) (sl_set h a _ _ hc (hs1 _)) (take_set ha) (hn _ h2) (fun H locs lsR ce sc w S L kk => ?_)
    have e0 : (Value.ref x :: .int i :: .ref a :: r).map (cv V) = .ref (adr V x) :: .int i :: .ref (adr V a) :: r.map (cv V) := by
      rw [List.map_cons, List.map_cons, List.map_cons, cv_ref (by omega), cv_ref (by omega)]
      rfl
    rw [e0]
    refine va_astq (D := V.1) (cl := vwCl) (tys := tys4 V) (H0 := s.heap) (A := fun q => V.B ≤ q) (r := (RX4, TX4, 2)) hx hb Gs0.1 w.1 wsO_D S (a - 12) 3 (x - 12) 4 (wsO_at (V := V) ha hc) rfl (wsO_at (V := V) hx12 hcx) rfl (inb_in h7) hd (fun H1 locs1 P1 _ S1 => kk H1 locs1 ?_ S1)
    rw [wsO_set ha]
    show va_P _ _ ((wsO V h).set _ (_, .inl (_, n, .inr (.inr (.inr (.inr (fun j => (va_up f i.toNatClampNeg (some x) j).map (adr V)))))))) _
    rw [cdat_up]
    exact P1
  · rename_i i a r
    obtain ⟨hb0, h2⟩ := chk_go hr
    simp only [Bool.and_eq_true] at hb0
    obtain ⟨⟨h3, h5⟩, h7⟩ := hb0
    have ha := Nat.le_of_ble_eq_true h3
    obtain ⟨n, f, hc⟩ := isO_spec h5
    have hl : lenA h a = n := by unfold lenA; rw [hc]
    rw [hl] at h7
    have hwO : wO h a i none = h.set a (.inl (.char, n, .inr (.inr (.inr (.inr (va_up f i.toNatClampNeg none)))))) := by unfold wO; rw [hc]
    rw [hwO] at h2
    have hs1 : ∀ g, slc (.inl (.char, n, g)) = slc (.inl (.char, n, .inr (.inr (.inr (.inr f))))) := fun g => rfl
    refine gd_wr C0 (by simp) (sl_set h a _ _ hc (hs1 _)) (take_set ha) (hn _ h2) (fun H locs lsR ce sc w S L kk => ?_)
    have e0 : (Value.null :: .int i :: .ref a :: r).map (cv V) = .null :: .int i :: .ref (adr V a) :: r.map (cv V) := by
      rw [List.map_cons, List.map_cons, List.map_cons, cv_ref (by omega)]
      rfl
    rw [e0]
    refine va_astqN (D := V.1) (cl := vwCl) (tys := tys4 V) (H0 := s.heap) (A := fun q => V.B ≤ q) hx hb Gs0.1 w.1 wsO_D S (a - 12) 3 (wsO_at (V := V) ha hc) rfl (inb_in h7) hd (fun H1 locs1 P1 _ S1 => kk H1 locs1 ?_ S1)
    rw [wsO_set ha]
    show va_P _ _ ((wsO V h).set _ (_, .inl (_, n, .inr (.inr (.inr (.inr (fun j => (va_up f i.toNatClampNeg none j).map (adr V)))))))) _
    rw [cdat_up]
    exact P1
  · cases hr
end STEP5
