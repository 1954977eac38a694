/-! Soundness, the straight instructions, branches and switches. -/
section STEP2
variable {p : Program} {l : Launch} {e : Env} {R : Room} {s : State} {m : MethodId} {args : Array Value} {below : List Frame} {meth : Method} {c : Code} {Q : State → Prop} {V : EV} {y d n0 s0 : Nat} {hF : AH}
variable {call : Nat → List Value → AH → Res} {nx : AS → Res} {rv : Option Value}
theorem dlen {b : ByteArray} {pc np n : Nat} {i : Instr} (h : decode b pc = .ok (i, np - pc)) (e : np = pc + n) : decode b pc = .ok (i, n) := by
  subst e
  rw [Nat.add_sub_cancel_left] at h
  exact h
theorem s_op2 {pc np : Nat} {i : Instr} {ls : LV} {st : List Value} {h : AH} (hn : ∀ a, nx a = some (rv, hF) → Gd p l e R s m args below meth c Q V (mloc y) n0 s0 hF a)
    (hr : act (stp2 i np ls st h) call (aftK nx) nx = some (rv, hF))
    (row : ∀ {x z w : Int32} {H : Heap} {locs : List Loc} {cells slots : Nat} {lsR : Array Slot} {rest : List Value}, op2 i x z = some w → W p l e R s m args below meth c H locs cells slots Q (F0 m np lsR (.int w :: rest)) → W p l e R s m args below meth c H locs cells slots Q (F0 m pc lsR (.int z :: .int x :: rest))) :
    Gd p l e R s m args below meth c Q V (mloc y) n0 s0 hF (pc, ls, st, h) := by
  unfold stp2 at hr
  split at hr
  · rename_i z x r
    cases ho : op2 i x z with
    | none => rw [ho] at hr; cases hr
    | some w =>
      rw [ho] at hr
      exact gd_go rfl (hn _ hr) (fun H locs lsR ce sc w' S L k => row ho (k lsR L))
  · cases hr
theorem cnd_row {pc np t : Nat} {o : Int} {cd : Jvm.ClassFile.Cond} {x z : Int32} {H : Heap} {locs : List Loc} {cells slots : Nat} {lsR : Array Slot} {rest : List Value} {b : Bool} (hx : p.tables.exec = Jvm.exec) (hb : c.code = mby y) (hd : decode (mby y) pc = .ok (.if_icmp cd o, 3)) (ht : (pc : Int) + o = (t : Int)) (hnp : np = pc + 3) (hc : cnd cd x z = b)
    (k : W p l e R s m args below meth c H locs cells slots Q (F0 m (bif b then t else np) lsR rest)) : W p l e R s m args below meth c H locs cells slots Q (F0 m pc lsR (.int z :: .int x :: rest)) := by
  subst hc
  subst hnp
  cases cd with
  | eq => exact lv_icmp_eq hx hb hd ht (fun q => by simpa [cnd, q] using k) (fun q => by simpa [cnd, q] using k)
  | ne => exact lv_icmp_ne hx hb hd ht (fun q => by simpa [cnd, q] using k) (fun q => by simpa [cnd, q] using k)
  | lt => exact lv_icmp_lt hx hb hd ht (fun q => by simpa [cnd, q] using k) (fun q => by simpa [cnd, q] using k)
  | ge => exact lv_icmp_ge hx hb hd ht (fun q => by simpa [cnd, q] using k) (fun q => by simpa [cnd, q] using k)
  | gt => exact lv_icmp_gt hx hb hd ht (fun q => by simpa [cnd, q] using k) (fun q => by simpa [cnd, q] using k)
  | le => exact lv_icmp_le hx hb hd ht (fun q => by simpa [cnd, q] using k) (fun q => by simpa [cnd, q] using k)
theorem cnd_row0 {pc np t : Nat} {o : Int} {cd : Jvm.ClassFile.Cond} {x : Int32} {H : Heap} {locs : List Loc} {cells slots : Nat} {lsR : Array Slot} {rest : List Value} {b : Bool} (hx : p.tables.exec = Jvm.exec) (hb : c.code = mby y) (hd : decode (mby y) pc = .ok (.ifCond cd o, 3)) (ht : (pc : Int) + o = (t : Int)) (hnp : np = pc + 3) (hc : cnd cd x 0 = b)
    (k : W p l e R s m args below meth c H locs cells slots Q (F0 m (bif b then t else np) lsR rest)) : W p l e R s m args below meth c H locs cells slots Q (F0 m pc lsR (.int x :: rest)) := by
  subst hc
  subst hnp
  cases cd with
  | eq => exact lv_if_eq hx hb hd ht (fun q => by simpa [cnd, q] using k) (fun q => by simpa [cnd, q] using k)
  | ne => exact lv_if_ne hx hb hd ht (fun q => by simpa [cnd, q] using k) (fun q => by simpa [cnd, q] using k)
  | lt => exact lv_if_lt hx hb hd ht (fun q => by simpa [cnd, q] using k) (fun q => by simpa [cnd, q] using k)
  | ge => exact lv_if_ge hx hb hd ht (fun q => by simpa [cnd, q] using k) (fun q => by simpa [cnd, q] using k)
  | gt => exact lv_if_gt hx hb hd ht (fun q => by simpa [cnd, q] using k) (fun q => by simpa [cnd, q] using k)
  | le => exact lv_if_le hx hb hd ht (fun q => by simpa [cnd, q] using k) (fun q => by simpa [cnd, q] using k)
/-- which road a switch takes -/
theorem swT_road {x : Int32} {ls : LV} {st : List Value} {h : AH} {dflt : AS} {r : Option Value × AH} : ∀ (ts : List Nat) (k : Int), pick (swT x ls st h k ts) (some dflt) nx = some r →
    (∃ (j : Nat) (t : Nat), ts[j]? = some t ∧ x = Int32.ofInt (k + j) ∧ nx (t, ls, st, h) = some r) ∨ ((∀ j : Nat, j < ts.length → x ≠ Int32.ofInt (k + j)) ∧ nx dflt = some r)
  | [], k, hp => Or.inr ⟨fun j hj => absurd hj (Nat.not_lt_zero j), hp⟩
  | t :: ts, k, hp => by
    by_cases e : x = Int32.ofInt k
    · refine Or.inl ⟨0, t, rfl, by simpa using e, ?_⟩
      have hp' : (bif decide (x = Int32.ofInt k) then nx (t, ls, st, h) else pick (swT x ls st h (k + 1) ts) (some dflt) nx) = some r := hp
      simpa [e] using hp'
    · have hp' : (bif decide (x = Int32.ofInt k) then nx (t, ls, st, h) else pick (swT x ls st h (k + 1) ts) (some dflt) nx) = some r := hp
      have hp2 : pick (swT x ls st h (k + 1) ts) (some dflt) nx = some r := by simpa [e] using hp'
      rcases swT_road ts (k + 1) hp2 with ⟨j, t', h1, h2, h3⟩ | ⟨h1, h2⟩
      · exact Or.inl ⟨j + 1, t', h1, by rw [h2]; congr 1; omega, h3⟩
      · refine Or.inr ⟨fun j hj => ?_, h2⟩
        cases j with
        | zero => simpa using e
        | succ j =>
          have := h1 j (by simpa using hj)
          rw [show k + ((j + 1 : Nat) : Int) = k + 1 + (j : Int) by omega]
          exact this
theorem swL_road {x : Int32} {ls : LV} {st : List Value} {h : AH} {dflt : AS} {r : Option Value × AH} {pc : Nat} {dd : Int} (hdd : (pc : Int) + dd = (dflt.1 : Int)) (hds : dflt = (dflt.1, ls, st, h)) : ∀ (ps : List (Int × Int)) (ts : List Nat), ps.map (fun o => (pc : Int) + o.2) = ts.map (fun t : Nat => (t : Int)) → (∀ o ∈ ps, -1000000 ≤ o.1 ∧ o.1 ≤ 1000000) → pick (swL x ls st h ps ts) (some dflt) nx = some r →
    ∃ (t : Nat), (pc : Int) + Op.lookupswitch.offset ps dd x.toInt = (t : Int) ∧ nx (t, ls, st, h) = some r
  | [], [], _, _, hp => ⟨dflt.1, hdd, hds ▸ hp⟩
  | q :: ps, [], hm, _, _ => by simp at hm
  | [], t :: ts, hm, _, _ => by simp at hm
  | q :: ps, t :: ts, hm, hb, hp => by
    simp only [List.map_cons, List.cons.injEq] at hm
    have hp' : (bif decide (x = Int32.ofInt q.1) then nx (t, ls, st, h) else pick (swL x ls st h ps ts) (some dflt) nx) = some r := hp
    have hq := hb q List.mem_cons_self
    have hi : (Int32.ofInt q.1).toInt = q.1 := by
      have hs : Int32.size = 4294967296 := rfl
      rw [Int32.toInt_ofInt]
      rw [Int.bmod_eq_of_le] <;> omega
    by_cases e : x = Int32.ofInt q.1
    · refine ⟨t, ?_, by simpa [e] using hp'⟩
      rw [← hm.1, e, hi]
      obtain ⟨a, b⟩ := q
      simp [Op.lookupswitch.offset]
    · have hp2 : pick (swL x ls st h ps ts) (some dflt) nx = some r := by simpa [e] using hp'
      obtain ⟨t', h1, h2⟩ := swL_road hdd hds ps ts hm.2 (fun o ho => hb o (List.mem_cons_of_mem _ ho)) hp2
      refine ⟨t', ?_, h2⟩
      rw [← h1]
      have hne : ¬ q.1 = x.toInt := fun z => e (Int32.toInt_inj.mp (by rw [hi]; exact z.symm))
      obtain ⟨a, b⟩ := q
      have hne2 : ¬ x.toInt = a := fun z => hne z.symm
      simp [Op.lookupswitch.offset, hne, hne2, Ne.symm]
end STEP2
