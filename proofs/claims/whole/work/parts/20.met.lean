/-! Soundness of all runs and calls. -/
theorem argL_len (V : EV) (hf : V.2.2.1.category = 1) : ∀ as : List Value, (lg_sl (as.map (cv V))).length = (argL as).length
  | [] => rfl
  | v :: t => by
    have ih := argL_len V hf t
    have e0 : lg_sl ((v :: t).map (cv V)) = (if (cv V v).category = 2 then [Slot.val (cv V v), Slot.second] else [Slot.val (cv V v)]) ++ lg_sl (t.map (cv V)) := by
      unfold lg_sl
      rw [List.map_cons, List.flatMap_cons]
    rw [e0, cv_cat V hf, List.length_append, ih]
    cases v <;> simp [argL, Value.category] <;> omega
theorem lvl_args (V : EV) (hf : V.2.2.1.category = 1) (j : Nat) : ∀ (as : List Value) (k : Nat), lvl V k (argL as ++ List.replicate j none) = lv_args k (as.map (cv V))
  | [], k => by
    show lvl V k (List.replicate j none) = []
    induction j generalizing k with
    | zero => rfl
    | succ j ih =>
      rw [List.replicate_succ, lvl]
      exact ih (k + 1)
  | v :: t, k => by
    rw [List.map_cons, lv_args, cv_cat V hf]
    cases v <;> simp only [argL, List.cons_append, lvl, Value.category] <;> (try rw [if_pos rfl]) <;> (try rw [if_neg (by decide)]) <;> rw [lvl_args V hf j t] <;> rfl
theorem mkL_len {n : Nat} {as : List Value} (h : (argL as).length ≤ n) : (mkL n as).length = n := by
  unfold mkL
  rw [List.length_append, List.length_replicate]
  omega
section MET
variable {V : EV}
theorem snd_body (htc : ∀ y, y < 238 → tchk y = true) (hfv : V.2.2.1 = .null ∨ ∃ a, V.2.2.1 = .ref a) : ∀ n : Nat,
    (∀ (d y : Nat) (as : List Value) (h : AH) (q : Option Value × AH), y < 238 → mOK y = true → callN PGM n d y as h = some q → CallOK V d y as h q.1 q.2) ∧
    (∀ (d y : Nat) (a : AS) (rv : Option Value) (hF : AH), y < 238 → semN PGM n d y a = some (rv, hF) → ∀ {p : Program} {l : Launch} {e : Env} {R : Room} {s : State} {m : MethodId} {args : Array Value} {below : List Frame} {meth : Method} {c : Code} {Q : State → Prop} {n0 s0 : Nat}, Cxt p R s m args meth c V y d n0 s0 hF → RetOK p l e R s m args below meth c Q V y n0 s0 hF rv → Gd p l e R s m args below meth c Q V (mloc y) n0 s0 hF a)
  | 0 => by
    refine ⟨fun d y as h q _ _ hq => ?_, fun d y a rv hF _ h => by rw [semN] at h; cases h⟩
    unfold callN at hq
    cases d with
    | zero => cases hq
    | succ d' =>
      cases hb : Nat.ble (argL as).length (PGM.2.2.2 y) with
      | false => simp only [hb] at hq; cases hq
      | true => simp only [hb] at hq; rw [cond_true, semN] at hq; cases hq
  | n + 1 => by
    obtain ⟨ihc, ihb⟩ := snd_body htc hfv n
    have body : ∀ (d y : Nat) (a : AS) (rv : Option Value) (hF : AH), y < 238 → semN PGM (n + 1) d y a = some (rv, hF) → ∀ {p : Program} {l : Launch} {e : Env} {R : Room} {s : State} {m : MethodId} {args : Array Value} {below : List Frame} {meth : Method} {c : Code} {Q : State → Prop} {n0 s0 : Nat}, Cxt p R s m args meth c V y d n0 s0 hF → RetOK p l e R s m args below meth c Q V y n0 s0 hF rv → Gd p l e R s m args below meth c Q V (mloc y) n0 s0 hF a := by
      intro d y a rv hF hy h p l e R s m args below meth c Q n0 s0 C hR
      rw [semN_s] at h
      unfold one at h
      cases ht : PGM.2.2.1 y a.1 with
      | none => rw [ht] at h; cases h
      | some en =>
        rw [ht] at h
        exact snd_step C (htc y hy) (fun a' h' => ihb d y a' rv hF hy h' C hR) (fun y' as h q k1 k2 hq => ihc d y' as h q (Nat.le_of_ble_eq_true k1) k2 hq) hR ht h
    refine ⟨fun d y as h q hy hm hq => ?_, body⟩
    refine ⟨callN_mono PGM hq, fun l => ?_⟩
    obtain ⟨w1, w2, w3, w4, w5, w6⟩ := mOK_spec hm
    unfold callN at hq
    cases d with
    | zero => cases hq
    | succ d' =>
      cases hb : Nat.ble (argL as).length (PGM.2.2.2 y) with
      | false => simp only [hb] at hq; cases hq
      | true =>
        simp only [hb] at hq
        have hle : (argL as).length ≤ mloc y := Nat.le_of_ble_eq_true hb
        refine Met.ofW (cc := mby y) (maxL := mloc y) (ret := mret y) w3 rfl ?_
        intro p e s m args below meth c s₁ B hml hP
        obtain ⟨hargs, hG, hW⟩ := hP
        subst hargs
        have hf := hG.2.2.1
        have hts : ∀ w ∈ tblG, w.before ((as.map (cv V)).toArray) s = true := fun w hw => atoms_spec (ws := wsM y) B.pre w (List.mem_cons_of_mem _ hw)
        have hown : s.vm.findClass (mnm y).cls = some m.cls := findClass_of_methodNamed B.named
        have hnam : meth.name = (mnm y).name := (name_of_methodNamed B.named B.method).1
        have hlocks := B.notSynchronized
        have hr := B.returns
        have hx := B.exec
        have hbb := B.bytes
        have Cx : Cxt p (headSpec (wsM y) (rmA (d' + 1) (q.2.length - h.length) (sl q.2 - sl h))).room s m ((as.map (cv V)).toArray) meth c V y d' h.length (sl h) q.2 :=
          ⟨hx, hbb, hml, hown, hts, hG, fun z => hnam.trans z, Nat.le_refl _, Nat.le_refl _, Nat.le_refl _, Nat.le_refl _, hW.2.1, hW.2.2.2, hfv⟩
        have hR : RetOK p l e (headSpec (wsM y) (rmA (d' + 1) (q.2.length - h.length) (sl q.2 - sl h))).room s m ((as.map (cv V)).toArray) below meth c (MQ below (QcA V q.1 q.2) ((as.map (cv V)).toArray) s (q.2.length - h.length) (sl q.2 - sl h) (fun q => V.B ≤ q)) V y h.length (sl h) q.2 q.1 := by
          intro pc H locs lsR i hd w S hi
          have hq0 : ∀ t : State, t.heap = H → s.WarmedH t.vm → QcA V q.1 q.2 ((as.map (cv V)).toArray) s (.returned (q.1.map (cv V))) t := fun t ht _ => ⟨rfl, by rw [ht]; exact w, S.F ht⟩
          rcases hi with ⟨rfl, x, ty, h1, h2, h3⟩ | ⟨rfl, a, h1, h2, h3⟩ | ⟨rfl, h1, h2⟩
          · rw [h1] at hq0 ⊢
            exact W.zret hx hbb (hr.trans h2) h3 hq0 S.2.2 hd
          · rw [h1] at hq0 ⊢
            have hrt : ∃ rt, mret y = some rt ∧ ((∃ n, rt = .object n) ∨ ∃ t, rt = .array t) := by
              unfold retT at h3
              split at h3
              · cases h3
              · rename_i nm he
                exact ⟨_, he, Or.inl ⟨_, rfl⟩⟩
              · rename_i nm he
                exact ⟨_, he, Or.inr ⟨_, rfl⟩⟩
              · cases h3
            obtain ⟨rt, hr1, hr2⟩ := hrt
            have hcv : cv V (.ref a) = .null ∨ ∃ b, cv V (.ref a) = .ref b := Or.inr ⟨_, cv_ref h2⟩
            exact W.aret hx hbb (hr.trans hr1) hr2 hcv hq0 S.2.2 hd
          · rw [h1] at hq0 ⊢
            exact W.vret hx hbb (hr.trans h2) hq0 S.2.2 hd
        have G := body d' y (0, mkL (mloc y) as, [], h) q.1 q.2 hy hq (l := l) (e := e) (below := below) Cx hR
        have hl := lv_entry (as.map (cv V)) (n := mloc y) (by rw [argL_len V hf]; exact hle)
        rw [lg_entry_eq]
        have := G.2 (Nat.le_refl _) (Nat.le_refl _) s.heap [] _ hW va_S.rf ⟨by
          rw [show lvl V 0 (mkL (mloc y) as) = lv_args 0 (as.map (cv V)) from lvl_args V hf _ as 0]
          exact hl, mkL_len hle⟩
        dsimp only at this
        rw [Nat.sub_self, Nat.sub_self] at this
        exact this
end MET
