/-! Soundness: fields written, arrays, static fields, what is made. -/
theorem isB_or {x : Int32} (h : isB x = true) : x = 0 ∨ x = 1 := by
  unfold isB at h
  simpa using h
theorem okP_spec {h : AH} {a ci k : Nat} (hp : okP h a ci k = true) : 12 ≤ a ∧ ∃ fs, hat h a = some (.inr (ci, fs)) ∧ k < fs.length := by
  unfold okP at hp
  rw [Bool.and_eq_true] at hp
  refine ⟨Nat.le_of_ble_eq_true hp.1, ?_⟩
  have h2 := hp.2
  split at h2
  · rename_i c fs heq
    rw [Bool.and_eq_true] at h2
    have e := Nat.eq_of_beq_eq_true h2.1
    subst e
    exact ⟨fs, heq, Nat.le_of_ble_eq_true h2.2⟩
  · cases h2
theorem pF_eq {h : AH} {a ci k : Nat} {fs : List Value} {v : Value} (hc : hat h a = some (.inr (ci, fs))) : pF h a k v = h.set a (.inr (ci, fs.set k v)) := by
  unfold pF
  rw [hc]
section STEP4
variable {p : Program} {l : Launch} {e : Env} {R : Room} {s : State} {m : MethodId} {args : Array Value} {below : List Frame} {meth : Method} {c : Code} {Q : State → Prop} {V : EV} {y d n0 s0 : Nat} {hF : AH}
variable {call : Nat → List Value → AH → Res} {nx : AS → Res} {rv : Option Value}
theorem s_putf {pc np a ci k x t : Nat} {ops : List Nat} {v : Value} {h : AH} {ls : LV} {r : List Value} (C : Cxt p R s m args meth c V y d n0 s0 hF) (hok : putOK (mnm y).cls (decide ((mnm y).name = "<init>")) x (ci :: k :: t :: ops) = true) (hnp : np = pc + 3) (hd : decode (mby y) pc = .ok (.putfield x, 3)) (hp : okP h a ci k = true)
    (hv : (t = 0 ∧ ∃ z, v = .int z) ∨ (t = 2 ∧ ∃ z, v = .int z ∧ (z = 0 ∨ z = 1)) ∨ (t = 1 ∧ (v = .null ∨ ∃ z, v = .ref z ∧ ¬ z = 9)))
    (G : Gd p l e R s m args below meth c Q V (mloc y) n0 s0 hF (np, ls, r, pF h a k v)) : Gd p l e R s m args below meth c Q V (mloc y) n0 s0 hF (pc, ls, v :: .ref a :: r, h) := by
  obtain ⟨ha, fs, hc, hkf⟩ := okP_spec hp
  have C0 := C
  obtain ⟨hx, hb, hml, hown, hts, Gs0, hnam, -⟩ := C
  rw [pF_eq hc] at G
  subst hnp
  have hs1 : slc (.inr (ci, fs.set k v)) = slc (.inr (ci, fs)) := by simp [slc]
  refine gd_wr C0 (by simp) (sl_set h a _ _ hc hs1) (take_set ha) G (fun H locs lsR ce sc w S L kk => ?_)
  have hw := wsO_at (V := V) ha hc
  rw [cel_obj] at hw
  obtain ⟨r0, hr0, -⟩ := w.1 _ _ hw
  obtain ⟨C, T, N⟩ := r0
  obtain ⟨c1, ⟨ty, hty, -⟩, c3, c4, c5, c6, c7, c8⟩ := cls_ok V ci C T N hr0
  have hpo : ∃ q, k < N ∧ wd q (.fieldLink (mnm y).cls x (T k).1 (T k).2.1 (T k).2.2.1) = true ∧ ((T k).2.2.2 = false ∨ (meth.name = "<init>" ∧ (T k).1 = (mnm y).cls)) ∧ ((t = 0 → (T k).2.2.1 = "I") ∧ (t = 1 → refTy (T k).2.2.1 = true) ∧ (t = 2 → (T k).2.2.1 = "Z")) := by
    unfold putOK at hok
    split at hok
    · rename_i ci' k' t' q' rest heq
      cases heq
      rw [hr0] at hok
      simp only [Bool.and_eq_true, Bool.or_eq_true, Bool.not_eq_true', decide_eq_true_eq] at hok
      obtain ⟨⟨⟨h1, h2⟩, h3⟩, h4⟩ := hok
      refine ⟨_, Nat.le_of_ble_eq_true h1, h2, ?_, ?_⟩
      · rcases h3 with h3 | ⟨⟨h3, h5⟩, h6⟩
        · exact Or.inl h3
        · exact Or.inr ⟨hnam h3, h6.trans h5⟩
      · refine ⟨fun z => ?_, fun z => ?_, fun z => ?_⟩
        · subst z; simpa using h4
        · subst z; simpa using h4
        · subst z; simpa using h4
    · cases hok
  obtain ⟨q, hk, hwd, hfin, ht0, ht1, ht2⟩ := hpo
  have hnf : ∃ ty', parseFieldDescriptor (T k).2.2.1 = some ty' ∧ narrow ty' (cv V v) = cv V v ∧ fits ty' (cv V v) = true := by
    rcases hv with ⟨rfl, z, rfl⟩ | ⟨rfl, z, rfl, hz⟩ | ⟨rfl, hz⟩
    · rw [ht0 rfl]
      exact ⟨.int, by decide +kernel, rfl, rfl⟩
    · rw [ht2 rfl]
      refine ⟨.boolean, by decide +kernel, ?_⟩
      rcases hz with rfl | rfl
      · exact ⟨show narrow .boolean (.int 0) = .int 0 by decide +kernel, show fits .boolean (.int 0) = true by decide +kernel⟩
      · exact ⟨show narrow .boolean (.int 1) = .int 1 by decide +kernel, show fits .boolean (.int 1) = true by decide +kernel⟩
    · have h1 := ht1 rfl
      unfold refTy at h1
      have hcv : cv V v = .null ∨ ∃ z, cv V v = .ref z := by
        rcases hz with rfl | ⟨z, rfl, hz⟩
        · exact Or.inl rfl
        · exact Or.inr ⟨_, cv_ref hz⟩
      split at h1
      · rename_i n hpd
        refine ⟨_, hpd, ?_⟩
        rcases hcv with e0 | ⟨z, e0⟩ <;> rw [e0] <;> exact ⟨rfl, rfl⟩
      · rename_i n hpd
        refine ⟨_, hpd, ?_⟩
        rcases hcv with e0 | ⟨z, e0⟩ <;> rw [e0] <;> exact ⟨rfl, rfl⟩
      · cases h1
  obtain ⟨ty', hpd, hnar, hfit⟩ := hnf
  have hset : (wsO V h).set (a - 12) (adr V a, .inr (ci, (fs.map (cv V)).set k (cv V v))) = wsO V (h.set a (.inr (ci, fs.set k v))) := by
    rw [wsO_set ha, cel_obj, map_set_cv]
  have e0 : (v :: .ref a :: r).map (cv V) = cv V v :: .ref (adr V a) :: r.map (cv V) := by
    rw [List.map_cons, List.map_cons, cv_ref (by omega)]
  rw [e0]
  rcases hfin with hfin | ⟨hin, hdecl⟩
  · exact va_put (D := V.1) (cl := vwCl) (tys := tys4 V) (H0 := s.heap) (C := C) (T := T) (N := N) (ref := (T k).1) (A := fun q => V.B ≤ q) hx hb hts c1 ty hty c3 hown Gs0.1 w.1 wsO_D S (a - 12) hw hr0 k hk (hts _ (wd_in hwd)) (fun _ h => h) hfin hpd hnar hfit (by simpa using hkf) hd (fun H1 locs1 P1 _ S1 => kk H1 locs1 (by rw [← hset]; exact P1) S1)
  · by_cases hff : (T k).2.2.2 = false
    · exact va_put (D := V.1) (cl := vwCl) (tys := tys4 V) (H0 := s.heap) (C := C) (T := T) (N := N) (ref := (T k).1) (A := fun q => V.B ≤ q) hx hb hts c1 ty hty c3 hown Gs0.1 w.1 wsO_D S (a - 12) hw hr0 k hk (hts _ (wd_in hwd)) (fun _ h => h) hff hpd hnar hfit (by simpa using hkf) hd (fun H1 locs1 P1 _ S1 => kk H1 locs1 (by rw [← hset]; exact P1) S1)
    · exact va_putF (D := V.1) (cl := vwCl) (tys := tys4 V) (H0 := s.heap) (C := C) (T := T) (N := N) (ref := (T k).1) (A := fun q => V.B ≤ q) hx hb hts c1 ty hty c3 hown Gs0.1 w.1 wsO_D S (a - 12) hw hr0 k hk (hts _ (wd_in hwd)) (fun _ h => h) (by simpa using hff) hin hdecl hpd hnar hfit (by simpa using hkf) hd (fun H1 locs1 P1 _ S1 => kk H1 locs1 (by rw [← hset]; exact P1) S1)
/-- a read of an array of ints or bytes -/
theorem s_ald {pc np a t : Nat} {i : Int32} {h : AH} {ls : LV} {r : List Value} (C : Cxt p R s m args meth c V y d n0 s0 hF) (hnp : np = pc + 1) (hd : decode (mby y) pc = .ok (if t = 0 then .iaload else .baload, 1)) (hi : inA h a t i = true)
    (G : Gd p l e R s m args below meth c Q V (mloc y) n0 s0 hF (np, ls, .int (rA h a i) :: r, h)) : Gd p l e R s m args below meth c Q V (mloc y) n0 s0 hF (pc, ls, .int i :: .ref a :: r, h) := by
  obtain ⟨hx, hb, hml, hown, hts, Gs0, hnam, -⟩ := C
  subst hnp
  refine gd_go rfl G (fun H locs lsR ce sc w S L kk => ?_)
  unfold inA at hi
  split at hi
  · rename_i ty n f hc
    rw [Bool.and_eq_true] at hi
    have hin := inb_in hi.2
    have hr : rA h a i = f i.toNatClampNeg := by unfold rA; rw [hc]
    have k1 := kk lsR L
    rw [hr] at k1
    have e0 : (Value.int i :: .ref a :: r).map (cv V) = .int i :: cv V (.ref a) :: r.map (cv V) := rfl
    rw [e0]
    have hty : (t = 0 ∧ ty = .int) ∨ (t = 1 ∧ ty = .byte) := by
      have h1 := hi.1
      unfold tyB at h1
      split at h1
      · exact Or.inl ⟨rfl, rfl⟩
      · exact Or.inr ⟨rfl, rfl⟩
      · cases h1
    by_cases ha : a < 12
    · have h9 : ¬ a = 9 := by
        intro z
        subst z
        rw [hat_gc w ha, Gs0.2.2.2.2.2.2.2.2.2.2.2.2.2.2] at hc
        cases hc
      rw [cv_ref h9, show adr V a = V.2.1 a by unfold adr; rw [if_pos ha]]
      have hT := Gs0.2.2.2.2.2.2.2.1 a ty n f (by rw [← hat_gc w ha]; exact hc)
      rcases hty with ⟨rfl, rfl⟩ | ⟨rfl, rfl⟩
      · exact va_ti hx hb hT S hin rfl hd k1
      · exact va_tb hx hb hT S hin rfl hd k1
    · have ha' : 12 ≤ a := by omega
      rw [cv_ref (by omega)]
      have hw := wsO_at (V := V) ha' hc
      rcases hty with ⟨rfl, rfl⟩ | ⟨rfl, rfl⟩
      · exact va_iald (D := V.1) (cl := vwCl) (tys := tys4 V) hx hb Gs0.1 w.1 (a - 12) 0 hw rfl hin hd k1
      · exact va_bald (D := V.1) (cl := vwCl) (tys := tys4 V) hx hb Gs0.1 w.1 (a - 12) 1 hw rfl hin hd k1
  · cases hi
theorem inA_spec {h : AH} {a t : Nat} {i : Int32} (hi : inA h a t i = true) : ∃ ty n f, hat h a = some (.inl (ty, n, .inl f)) ∧ vp_in i n ∧ ((t = 0 ∧ ty = .int) ∨ (t = 1 ∧ ty = .byte)) := by
  unfold inA at hi
  split at hi
  · rename_i ty n f hc
    rw [Bool.and_eq_true] at hi
    refine ⟨ty, n, f, hc, inb_in hi.2, ?_⟩
    have h1 := hi.1
    unfold tyB at h1
    split at h1
    · exact Or.inl ⟨rfl, rfl⟩
    · exact Or.inr ⟨rfl, rfl⟩
    · cases h1
  · cases hi
theorem s_ast {pc np a t : Nat} {i x : Int32} {h : AH} {ls : LV} {r : List Value} (C : Cxt p R s m args meth c V y d n0 s0 hF) (hnp : np = pc + 1) (hd : decode (mby y) pc = .ok (if t = 0 then .iastore else .bastore, 1)) (ha : 12 ≤ a) (hi : inA h a t i = true)
    (G : Gd p l e R s m args below meth c Q V (mloc y) n0 s0 hF (np, ls, r, wA h a i (bif Nat.beq t 1 then vp_nar .byte x else x))) : Gd p l e R s m args below meth c Q V (mloc y) n0 s0 hF (pc, ls, .int x :: .int i :: .ref a :: r, h) := by
  obtain ⟨ty, n, f, hc, hin, hty⟩ := inA_spec hi
  have C0 := C
  obtain ⟨hx, hb, hml, hown, hts, Gs0, hnam, -⟩ := C
  subst hnp
  have hwA : ∀ z, wA h a i z = h.set a (.inl (ty, n, .inl (upd f i.toNatClampNeg z))) := fun z => by unfold wA; rw [hc]
  rw [hwA] at G
  have hs1 : ∀ g, slc (.inl (ty, n, .inl g)) = slc (.inl (ty, n, .inl f)) := fun g => rfl
  refine gd_wr C0 (by simp) (sl_set h a _ _ hc (hs1 _)) (take_set ha) G (fun H locs lsR ce sc w S L kk => ?_)
  have hw := wsO_at (V := V) ha hc
  have e0 : (Value.int x :: .int i :: .ref a :: r).map (cv V) = .int x :: .int i :: .ref (adr V a) :: r.map (cv V) := by
    rw [List.map_cons, List.map_cons, List.map_cons, cv_ref (by omega)]
    rfl
  rw [e0]
  rcases hty with ⟨rfl, rfl⟩ | ⟨rfl, rfl⟩
  · exact va_iast (D := V.1) (cl := vwCl) (tys := tys4 V) (H0 := s.heap) (A := fun q => V.B ≤ q) hx hb Gs0.1 w.1 wsO_D S (a - 12) 0 hw rfl hin hd (fun H1 locs1 P1 _ S1 => kk H1 locs1 (by rw [wsO_set ha]; exact P1) S1)
  · exact va_bast (D := V.1) (cl := vwCl) (tys := tys4 V) (H0 := s.heap) (A := fun q => V.B ≤ q) hx hb Gs0.1 w.1 wsO_D S (a - 12) 1 hw rfl hin hd (fun H1 locs1 P1 _ S1 => kk H1 locs1 (by rw [wsO_set ha]; exact P1) S1)
/-- the length of an array -/
theorem s_len {pc np a : Nat} {h : AH} {ls : LV} {r : List Value} (C : Cxt p R s m args meth c V y d n0 s0 hF) (hnp : np = pc + 1) (hd : decode (mby y) pc = .ok (.arraylength, 1)) (hi : okL h a = true)
    (G : Gd p l e R s m args below meth c Q V (mloc y) n0 s0 hF (np, ls, .int (nI (lenA h a)) :: r, h)) : Gd p l e R s m args below meth c Q V (mloc y) n0 s0 hF (pc, ls, .ref a :: r, h) := by
  obtain ⟨hx, hb, hml, hown, hts, Gs0, hnam, -⟩ := C
  subst hnp
  refine gd_go rfl G (fun H locs lsR ce sc w S L kk => ?_)
  have k1 := kk lsR L
  have key : ∀ (t0 : Nat) (ty : FieldType) (n : Nat) (dt : DT), hat h a = some (.inl (ty, n, dt)) → (tys4 V)[t0]? = some (V.tc ty, ty) → (a < 12 → ∃ f, dt = .inl f) → W p l e R s m args below meth c H locs ce sc Q (F0 m pc lsR ((Value.ref a :: r).map (cv V))) := by
    intro t0 ty n dt hc ht hg
    have hr : lenA h a = n := by unfold lenA; rw [hc]
    rw [hr] at k1
    by_cases ha : a < 12
    · have h9 : ¬ a = 9 := by
        intro z
        subst z
        rw [hat_gc w ha, Gs0.2.2.2.2.2.2.2.2.2.2.2.2.2.2] at hc
        cases hc
      rw [List.map_cons, cv_ref h9, show adr V a = V.2.1 a by unfold adr; rw [if_pos ha]]
      obtain ⟨f, rfl⟩ := hg ha
      exact va_tlen hx hb (Gs0.2.2.2.2.2.2.2.1 a ty n f (by rw [← hat_gc w ha]; exact hc)) S rfl hd k1
    · have ha' : 12 ≤ a := by omega
      rw [List.map_cons, cv_ref (by omega)]
      exact va_alen (D := V.1) (cl := vwCl) (tys := tys4 V) hx hb Gs0.1 w.1 (a - 12) t0 (wsO_at (V := V) ha' hc) ht rfl hd k1
  unfold okL at hi
  split at hi
  · rename_i n f hc
    exact key 0 _ _ _ hc rfl (fun _ => ⟨f, rfl⟩)
  · rename_i n f hc
    exact key 1 _ _ _ hc rfl (fun _ => ⟨f, rfl⟩)
  · rename_i n dt hc
    exact key 2 _ _ _ hc rfl (fun z => absurd (Nat.le_of_ble_eq_true hi) (by omega))
  · cases hi
end STEP4
