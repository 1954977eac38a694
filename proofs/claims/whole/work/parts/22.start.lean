/-! The law's start: what the Statement gives is what the abstract machine needs. -/
def flN : List Cond := flatC (Jvm.Cond.and given_1 narrow_1)
def stT (nm : String) : Term := .static "BullStreet" nm "[I"
theorem str_in : (flN.drop 73).take 123 = (List.range 123).map (fun j => Cond.eq (.elem (.field (Term.string "BullStreet$Reader" 85) "java/lang/String" "value" "[B") (.int (Int32.ofNat j))) (.int (strB.getD j 0))) := by decide +kernel
theorem tys_ok {s : State} (V : EV) (h0 : ArrOfT s (V.tc .int) .int ∧ va_RA s (V.tc .int) .int) (h1 : ArrOfT s (V.tc .byte) .byte ∧ va_RA s (V.tc .byte) .byte) (h2 : ArrOfT s (V.tc (.array .int)) (.array .int) ∧ va_RA s (V.tc (.array .int)) (.array .int)) (h3 : ArrOfT s (V.tc .char) (.object "BullStreet$Sheet") ∧ va_RA s (V.tc .char) (.object "BullStreet$Sheet")) : ∀ (k : Nat) (q : ClassId × FieldType), (tys4 V)[k]? = some q → ArrOfT s q.1 q.2 ∧ va_RA s q.1 q.2
  | 0, q, hk => by cases hk; exact h0
  | 1, q, hk => by cases hk; exact h1
  | 2, q, hk => by cases hk; exact h2
  | 3, q, hk => by cases hk; exact h3
  | k + 4, q, hk => by simp [tys4] at hk
theorem gvs_ok {s : State} (V : EV) (L : Nat) (xs : Nat → Int32) (hg : V.gc = gv (L, xs)) (P : Nat → Nat → FieldType → Nat → (Nat → Int32) → Prop) (h0 : P 0 (V.2.1 0) .int L xs) (h1 : P 1 (V.2.1 1) .int 9 (gvA 1)) (h2 : P 2 (V.2.1 2) .int 9 (gvA 2)) (h3 : P 3 (V.2.1 3) .int 3 (gvA 3)) (h4 : P 4 (V.2.1 4) .int 3 (gvA 4)) (h5 : P 5 (V.2.1 5) .int 3 (gvA 5)) (h6 : P 6 (V.2.1 6) .int 3 (gvA 6)) (h7 : P 7 (V.2.1 7) .int 3 (gvA 7)) (h8 : P 8 (V.2.1 8) .int 3 (gvA 8)) (h11 : P 11 (V.2.1 11) .byte 123 (fun j => strB.getD j 0)) :
    ∀ (k : Nat) (ty : FieldType) (n : Nat) (f : Nat → Int32), hat V.gc k = some (.inl (ty, n, .inl f)) → P k (V.2.1 k) ty n f := by
  rw [hg]
  intro k ty n f hk
  match k, hk with
  | 0, hk => cases hk; exact h0
  | 1, hk => cases hk; exact h1
  | 2, hk => cases hk; exact h2
  | 3, hk => cases hk; exact h3
  | 4, hk => cases hk; exact h4
  | 5, hk => cases hk; exact h5
  | 6, hk => cases hk; exact h6
  | 7, hk => cases hk; exact h7
  | 8, hk => cases hk; exact h8
  | 9, hk => cases hk
  | 10, hk => cases hk
  | 11, hk => cases hk; exact h11
  | k + 12, hk => cases hk
theorem gvo_ok (V : EV) (L : Nat) (xs : Nat → Int32) (hg : V.gc = gv (L, xs)) : ∀ k ci fs, k < 12 → hat V.gc k = some (.inr (ci, fs)) → ci = 99 ∧ k = 10 ∨ ci = 98 ∧ fs = [] := by
  rw [hg]
  intro k ci fs _ hc
  match k, hc with
  | 0, hc => cases hc
  | 1, hc => cases hc
  | 2, hc => cases hc
  | 3, hc => cases hc
  | 4, hc => cases hc
  | 5, hc => cases hc
  | 6, hc => cases hc
  | 7, hc => cases hc
  | 8, hc => cases hc
  | 9, hc => cases hc; exact Or.inr ⟨rfl, rfl⟩
  | 10, hc => cases hc; exact Or.inl ⟨rfl, rfl⟩
  | 11, hc => cases hc
  | k + 12, hc => cases hc
theorem stat_arr {args : Array Value} {s : State} (hs : ∀ w ∈ flN, w.before args s = true) (hts : ∀ w ∈ lw_tbl, w.before args s = true) (nm : String) (l : List Int32) (hl : l.length < 100) (w1 : Cond.arrayOf (stT nm) .int ∈ flN) (w2 : Cond.eq (.length (stT nm)) (.int (Int32.ofNat l.length)) ∈ flN) (w3 : (List.range l.length).all (fun j => decide (Cond.eq (.elem (stT nm) (.int (Int32.ofNat j))) (.int (l.getD j 0)) ∈ flN)) = true) (w4 : Cond.laysStatic "BullStreet" nm "[I" ∈ lw_tbl) (w5 : Cond.initialized "BullStreet" ∈ lw_tbl) :
    ∃ t : Nat, va_Z "BullStreet" nm "[I" (.ref t) (fun q => s.heap.size ≤ q) s s.heap ∧ va_T .int t l.length (fun j => .int (l.getD j 0)) (fun q => s.heap.size ≤ q) s s.heap := by
  have hA : ∀ a : Nat, a < s.heap.size → ¬ (fun q => s.heap.size ≤ q) a := fun a ha => Nat.not_le.mpr ha
  obtain ⟨t, h1, h2⟩ := va_Tof (args := args) (A := fun q => s.heap.size ≤ q) (f := fun j => .int (l.getD j 0)) (by omega) (hs _ w1) (va_eqt (hs _ w2)) (fun j hj => va_eqt (hs _ (of_decide_eq_true (List.all_eq_true.mp w3 j (List.mem_range.mpr hj))))) hA
  exact ⟨t, va_Zof (hts _ w4) (hts _ w5) h1 hA, h2⟩
theorem start_ok {p : Program} {s : State} {m : MethodId} {meth : Method} {c : Code} {b L : Nat} {xs : Nat → Int32} (hL : L ≤ 2048) (C0 : lw_At p s m meth c b L xs) : ∃ V : EV, V.B = s.heap.size ∧ V.gc = gv (L, xs) ∧ Gs V s ∧ Wh V (gv (L, xs)) s.heap ∧ (V.2.2.1 = .null ∨ ∃ a, V.2.2.1 = .ref a) ∧ V.2.1 0 = b := by
  obtain ⟨hx, hb, hr, hml, hown, hts, hX, hbl, hlocks, hgv⟩ := C0
  have hs : ∀ w ∈ flN, w.before #[Value.ref b] s = true := flat_of_before _ hgv
  have hA : ∀ a : Nat, a < s.heap.size → ¬ (fun q => s.heap.size ≤ q) a := fun a ha => Nat.not_le.mpr ha
  obtain ⟨t1, z1, a1⟩ := stat_arr hs hts "UNDER" gvL1 (by decide) (by decide +kernel) (by decide +kernel) (by decide +kernel) (by decide +kernel) (by decide +kernel)
  obtain ⟨t2, z2, a2⟩ := stat_arr hs hts "HURT_OF" gvL2 (by decide) (by decide +kernel) (by decide +kernel) (by decide +kernel) (by decide +kernel) (by decide +kernel)
  obtain ⟨t3, z3, a3⟩ := stat_arr hs hts "TRAIT_FIRST" gvL3 (by decide) (by decide +kernel) (by decide +kernel) (by decide +kernel) (by decide +kernel) (by decide +kernel)
  obtain ⟨t4, z4, a4⟩ := stat_arr hs hts "TRAIT_LEAST" gvL4 (by decide) (by decide +kernel) (by decide +kernel) (by decide +kernel) (by decide +kernel) (by decide +kernel)
  obtain ⟨t5, z5, a5⟩ := stat_arr hs hts "TRAIT_MOST" gvL5 (by decide) (by decide +kernel) (by decide +kernel) (by decide +kernel) (by decide +kernel) (by decide +kernel)
  obtain ⟨t6, z6, a6⟩ := stat_arr hs hts "RULE_FIRST" gvL6 (by decide) (by decide +kernel) (by decide +kernel) (by decide +kernel) (by decide +kernel) (by decide +kernel)
  obtain ⟨t7, z7, a7⟩ := stat_arr hs hts "RULE_LEAST" gvL7 (by decide) (by decide +kernel) (by decide +kernel) (by decide +kernel) (by decide +kernel) (by decide +kernel)
  obtain ⟨t8, z8, a8⟩ := stat_arr hs hts "RULE_MOST" gvL8 (by decide) (by decide +kernel) (by decide +kernel) (by decide +kernel) (by decide +kernel) (by decide +kernel)
  have zc : va_Z "java/lang/String" "COMPACT_STRINGS" "Z" (.int 1) (fun q => s.heap.size ≤ q) s s.heap := va_Zof (hts (.laysStatic "java/lang/String" "COMPACT_STRINGS" "Z") (by decide +kernel)) (hts (.initialized "java/lang/String") (by decide +kernel)) (va_eqi (hs _ (by decide +kernel))) hA
  have zf : va_Zq "jdk/internal/util/Preconditions" "SIOOBE_FORMATTER" "Ljava/util/function/BiFunction;" (fun q => s.heap.size ≤ q) s s.heap := va_Zqof (hts (.laysStatic "jdk/internal/util/Preconditions" "SIOOBE_FORMATTER" "Ljava/util/function/BiFunction;") (by decide +kernel)) (hts (.initialized "jdk/internal/util/Preconditions") (by decide +kernel)) (hs _ (by decide +kernel)) hA
  obtain ⟨fv, hfv, hzf⟩ : ∃ fv : Value, (fv = .null ∨ ∃ a, fv = .ref a) ∧ va_Z "jdk/internal/util/Preconditions" "SIOOBE_FORMATTER" "Ljava/util/function/BiFunction;" fv (fun q => s.heap.size ≤ q) s s.heap := by
    rcases zf with z | ⟨t, z⟩
    · exact ⟨.null, Or.inl rfl, z⟩
    · exact ⟨.ref t, Or.inr ⟨t, rfl⟩, z⟩
  obtain ⟨adK, adV, hvs, hev⟩ := vk_Sof (args := #[Value.ref b]) (N := 1) (tm := fun _ => Term.string "BullStreet$Reader" 85) (len := [123]) (byt := [strB]) (A := fun q => s.heap.size ≤ q) (fun i hi => by rw [show i = 0 by omega]; decide)
    (fun i hi => hs _ (by decide +kernel)) (fun i hi => hs _ (by decide +kernel)) (fun i hi => hs _ (by decide +kernel)) (fun i hi => by rw [show i = 0 by omega]; exact hs _ (by decide +kernel))
    (fun i hi j hj => by
      rw [show i = 0 by omega] at hj ⊢
      exact hs _ (List.mem_of_mem_drop (List.mem_of_mem_take (str_in ▸ List.mem_map.mpr ⟨j, List.mem_range.mpr hj, rfl⟩))))
    (fun i j hi hj hne => absurd (show i = j by omega) hne) hA
  obtain ⟨q1, q2, q3, q4⟩ := hvs.1 0 (by decide)
  have hcls : ∀ k : Nat, ∃ z : ClassId × (Nat → Nat), ∀ q : vw_C, vwCl[k]? = some q → u_Kn s q.1 q.2.1 q.2.2 z.1 z.2 := by
    intro k
    cases hk : vwCl[k]? with
    | none => exact ⟨(0, fun _ => 0), fun q hq => by cases hq⟩
    | some r =>
      obtain ⟨C, T, N⟩ := r
      obtain ⟨c1, -, -, c4, -⟩ := cls_ok (((fun _ => 0), (fun _ _ => 0)), (fun _ => 0), .null, 0, (fun _ => 0), []) k C T N hk
      have htg : ∀ w ∈ tblG, w.before #[Value.ref b] s = true := fun w hw => hts w (List.mem_filter.mp hw).1
      obtain ⟨cC, iS, hKn⟩ := u_known (C := C) (T := T) (N := N) (n := N) htg c1 (htg _ c4)
      exact ⟨(cC, iS), fun q hq => by cases hq; exact hKn⟩
  obtain ⟨ff, hff⟩ := Classical.axiomOfChoice hcls
  obtain ⟨cI, kI, mI, i1, i2, i3⟩ := Cond.arrayClass_spec (hts (.arrayClass .int) (by decide +kernel))
  obtain ⟨cB, kB, mB, b1, b2, b3⟩ := Cond.arrayClass_spec (hts (.arrayClass .byte) (by decide +kernel))
  obtain ⟨mG, cG, kG, g1, g2, g3, g4⟩ := Cond.arrayOver_specA (hts (.arrayOver (.array .int)) (by decide +kernel))
  obtain ⟨mO, cO, kO, o1, o2, o3, o4, o5⟩ := Cond.arrayOver_spec (hts (.arrayOver (.object "BullStreet$Sheet")) (by decide +kernel))
  let tc : FieldType → ClassId := fun ty => match ty with
    | .int => cI
    | .byte => cB
    | .array _ => cG
    | _ => cO
  let gad : Nat → Nat := fun k => match k with
    | 0 => b
    | 1 => t1
    | 2 => t2
    | 3 => t3
    | 4 => t4
    | 5 => t5
    | 6 => t6
    | 7 => t7
    | 8 => t8
    | 10 => adK 0
    | _ => adV 0
  let V : EV := (((fun k => (ff k).1), (fun k => (ff k).2)), gad, fv, s.heap.size, tc, gv (L, xs))
  have hcat : fv.category = 1 := by
    rcases hfv with rfl | ⟨a, rfl⟩ <;> rfl
  have hVV : ∃ V' : EV, V' = V := ⟨V, rfl⟩
  have e1 : ∀ k, V.1.1 k = (ff k).1 := fun _ => rfl
  have K1 : va_K V.1 vwCl (tys4 V) s := ⟨hff, tys_ok V ⟨fun n z => ⟨fun k h => (by cases h), kI, i2, mI, i3⟩, i1⟩ ⟨fun n z => ⟨fun k h => (by cases h), kB, b2, mB, b3⟩, b1⟩ ⟨fun n z => ⟨fun k h => (by cases h), kG, g2, mG, g3⟩, g4⟩ ⟨fun n z => ⟨fun k h => (by cases h), kO, o3, mO, o4⟩, ⟨kO, mO, o3, o4, o1, o5⟩⟩⟩
  have N1 : ∀ w ∈ nestL, va_Nw w s := fun w hw => by
    obtain ⟨hw1, hw2⟩ := List.mem_filter.mp hw
    have hw3 := hts w hw1
    cases w <;> first | exact va_Nw.of rfl hw3 | (exfalso; revert hw2; simp)
  have Z1 : ∀ q ∈ statL, va_Z q.1 q.2.1 q.2.2.1 (cv V q.2.2.2) (fun q => V.B ≤ q) s s.heap := fun q hq => by
    simp only [statL, List.mem_cons, List.not_mem_nil, or_false] at hq
    rcases hq with rfl | rfl | rfl | rfl | rfl | rfl | rfl | rfl | rfl | rfl
    · exact z1
    · exact z2
    · exact z3
    · exact z4
    · exact z5
    · exact z6
    · exact z7
    · exact z8
    · exact zc
    · exact hzf
  have T0 : va_T .int b L (fun j => .int (xs j)) (fun q => s.heap.size ≤ q) s s.heap := by
    obtain ⟨scr, x1, x2, x3, x4, x5⟩ := hX
    exact ⟨scr, x1, x2, x3, Nat.le_of_eq x4.symm, by first | (rw [x4]; done) | (rw [x4]; rfl), x5, hA b hbl⟩
  have T1 : ∀ (k : Nat) (ty : FieldType) (n : Nat) (f : Nat → Int32), hat V.gc k = some (.inl (ty, n, .inl f)) → va_T ty (V.2.1 k) n (fun j => .int (f j)) (fun q => V.B ≤ q) s s.heap :=
    gvs_ok (s := s) V L xs rfl (fun _ t ty n f => va_T ty t n (fun j => .int (f j)) (fun q => V.B ≤ q) s s.heap) T0 a1 a2 a3 a4 a5 a6 a7 a8 q4
  exact ⟨V, rfl, rfl, ⟨K1, Nat.le_refl _, hcat, N1, va_AO.of (hts (.arrayOver (.object "BullStreet$Sheet")) (by decide +kernel)), hts (.arrayOver (.array .int)) (by decide +kernel), Z1, T1, q1, q3, q2, vk_R.of (hts (.stringRef "BullStreet$Reader" 85 "near crowd ahead place tick lone all running standing fallen touching new heaped leaving run stand leave down if or and not") (by decide +kernel)) (hev 0 (by decide)), rfl, gvo_ok V L xs rfl, rfl⟩, ⟨fun k q hk => (by
    have hw0 : wsO V (gv (L, xs)) = [] := rfl
    rw [hw0] at hk
    cases hk), rfl, rfl, Nat.le_refl _⟩, hfv, rfl⟩
/-- the claim out of the abstract run of the law -/
theorem whole_open (hsem : ∀ (L : Nat) (xs : Nat → Int32), L ≤ 2048 → ∃ hF : AH, sem PGM 300 0 (0, [some (.ref 0), none, none, none], [], gv (L, xs)) = some (some (.int 1), hF) ∧ hF.length ≤ 600000 ∧ sl hF ≤ 7302250)
    {p : Program} {e : Env} {s : State} {m : MethodId} {below : List Frame} {meth : Method} {c : Code} (l : Launch) {b L : Nat} {xs : Nat → Int32} (hL : L ≤ 2048) (C0 : lw_At p s m meth c b L xs) : W p l e room_1 s m #[Value.ref b] below meth c s.heap [] 0 0 (lw_Z below #[Value.ref b] s) (entryFrame m ([Value.ref b] : List Value).toArray 4) := by
  obtain ⟨V, hB, hgc, hG, hW, hfv, hb0⟩ := start_ok hL C0
  obtain ⟨hx, hb, hr, hml, hown, hts, hX, hbl, hlocks, hgv⟩ := C0
  obtain ⟨hF, hs, hl1, hl2⟩ := hsem L xs hL
  obtain ⟨n, hn⟩ := (sem_iff PGM 300 0 _ _).mp hs
  have hf := hG.2.2.1
  have Cx : Cxt p room_1 s m #[Value.ref b] meth c V 0 300 (gv (L, xs)).length (sl (gv (L, xs))) hF := by
    refine ⟨hx, hb, hml, hown, fun w hw => hts w (List.mem_filter.mp hw).1, hG, fun z => absurd z (by decide), by decide, by decide, ?_, ?_, hW.2.1, hW.2.2.2, hfv⟩
    · exact Nat.le_trans (Nat.sub_le _ _) hl1
    · exact Nat.le_trans (Nat.sub_le _ _) hl2
  have hR : RetOK p l e room_1 s m #[Value.ref b] below meth c (lw_Z below #[Value.ref b] s) V 0 (gv (L, xs)).length (sl (gv (L, xs))) hF (some (.int 1)) := by
    intro pc H locs lsR i hd w S hi
    rcases hi with ⟨rfl, -⟩ | ⟨-, a, h1, -⟩ | ⟨-, h1, -⟩
    · refine va_forget (fun q hq => by have := S.2.2 q hq; rw [hB] at this; exact this) ?_
      refine W.widen (k := 600000) (n := 7302250) (Nat.le_trans (Nat.sub_le _ _) hl1) (Nat.le_trans (Nat.sub_le _ _) hl2) ?_
      exact lw_ret hx hb hr hlocks hd
    · cases h1
    · cases h1
  have G := (snd_body tchk_all hfv n).2 300 0 _ _ hF (by decide) hn (l := l) (e := e) (below := below) Cx hR
  have hlv := lv_entry ([Value.ref b] : List Value) (n := 4) (Nat.le_of_ble_eq_true rfl)
  rw [lg_entry_eq]
  have := G.2 (Nat.le_refl _) (Nat.le_refl _) s.heap [] _ hW va_S.rf ⟨by
    rw [show lvl V 0 [some (.ref 0), none, none, none] = lv_args 0 ([Value.ref b] : List Value) by
      show [(0, cv V (.ref 0))] = [(0, Value.ref b)]
      rw [cv_ref (by decide), show adr V 0 = V.2.1 0 from rfl, hb0]]
    exact hlv, rfl⟩
  dsimp only at this
  rw [Nat.sub_self, Nat.sub_self] at this
  exact this
