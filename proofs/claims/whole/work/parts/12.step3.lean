/-! Soundness: fields, arrays, static fields. -/
theorem cel_obj (V : EV) (ci : Nat) (fs : List Value) : cel V (.inr (ci, fs)) = .inr (ci, fs.map (cv V)) := rfl
theorem map_set_cv (V : EV) (fs : List Value) (k : Nat) (v : Value) : (fs.set k v).map (cv V) = (fs.map (cv V)).set k (cv V v) := by rw [List.map_set]
/-- what the tables have of a class -/
theorem cls_ok (V : EV) : ∀ (ci : Nat) (C : String) (T : u_T) (N : Nat), vwCl[ci]? = some (C, T, N) →
    (∀ w ∈ u_ws C T N, w ∈ tblG) ∧ (∃ ty : Nat → FieldType, (∀ k, k < N → parseFieldDescriptor (T k).2.2.1 = some (ty k)) ∧ ∀ j, j < N → defaultValue (ty j) = vp_V ((dfls ci).map (cv V)) j) ∧ (∀ a, a < N → ∀ b, b < N → a ≠ b → (T a).2.1 ≠ (T b).2.1) ∧ Cond.instantiable C N ∈ tblG ∧ Cond.initialized C ∈ tblG ∧ C = nms ci ∧ (dfls ci).length = N ∧ ci < 8 := by
  intro ci C T N h
  have hw : ∀ (l : List Cond), (l.all (fun w => decide (w ∈ lw_tbl) && goodWord w)) = true → ∀ w ∈ l, w ∈ tblG := fun l hl w hm => by
    have := List.all_eq_true.mp hl w hm
    rw [Bool.and_eq_true, decide_eq_true_eq] at this
    exact List.mem_filter.mpr this
  match ci, h with
  | 0, h => cases h; exact ⟨hw _ (by decide +kernel), ⟨tyX0, tyX0_ok, fun j hj => by rcases (show j = 0 ∨ j = 1 ∨ j = 2 ∨ j = 3 ∨ j = 4 ∨ j = 5 by omega) with rfl | rfl | rfl | rfl | rfl | rfl <;> rfl⟩, nmX0, hw [_] (by decide +kernel) _ List.mem_cons_self, hw [_] (by decide +kernel) _ List.mem_cons_self, rfl, rfl, by decide⟩
  | 1, h => cases h; exact ⟨hw _ (by decide +kernel), ⟨tyX1, tyX1_ok, fun j hj => by rcases (show j = 0 ∨ j = 1 ∨ j = 2 ∨ j = 3 ∨ j = 4 by omega) with rfl | rfl | rfl | rfl | rfl <;> rfl⟩, nmX1, hw [_] (by decide +kernel) _ List.mem_cons_self, hw [_] (by decide +kernel) _ List.mem_cons_self, rfl, rfl, by decide⟩
  | 2, h => cases h; exact ⟨hw _ (by decide +kernel), ⟨tyX2, tyX2_ok, fun j hj => by rcases (show j = 0 ∨ j = 1 ∨ j = 2 ∨ j = 3 ∨ j = 4 ∨ j = 5 ∨ j = 6 ∨ j = 7 ∨ j = 8 ∨ j = 9 ∨ j = 10 by omega) with rfl | rfl | rfl | rfl | rfl | rfl | rfl | rfl | rfl | rfl | rfl <;> rfl⟩, nmX2, hw [_] (by decide +kernel) _ List.mem_cons_self, hw [_] (by decide +kernel) _ List.mem_cons_self, rfl, rfl, by decide⟩
  | 3, h => cases h; exact ⟨hw _ (by decide +kernel), ⟨tyX3, tyX3_ok, fun j hj => by rcases (show j = 0 ∨ j = 1 by omega) with rfl | rfl <;> rfl⟩, nmX3, hw [_] (by decide +kernel) _ List.mem_cons_self, hw [_] (by decide +kernel) _ List.mem_cons_self, rfl, rfl, by decide⟩
  | 4, h => cases h; exact ⟨hw _ (by decide +kernel), ⟨tyX4, tyX4_ok, fun j hj => by rcases (show j = 0 ∨ j = 1 by omega) with rfl | rfl <;> rfl⟩, nmX4, hw [_] (by decide +kernel) _ List.mem_cons_self, hw [_] (by decide +kernel) _ List.mem_cons_self, rfl, rfl, by decide⟩
  | 5, h => cases h; exact ⟨hw _ (by decide +kernel), ⟨tyX5, tyX5_ok, fun j hj => by
      have hd : (List.range 19).all (fun j => decide (defaultValue (tyX5 j) = vp_V (dfls 5) j)) = true := by decide +kernel
      have h1 := of_decide_eq_true (List.all_eq_true.mp hd j (List.mem_range.mpr hj))
      rw [h1]
      congr 1⟩, nmX5, hw [_] (by decide +kernel) _ List.mem_cons_self, hw [_] (by decide +kernel) _ List.mem_cons_self, rfl, rfl, by decide⟩
  | 6, h => cases h; exact ⟨hw _ (by decide +kernel), ⟨tyX6, tyX6_ok, fun j hj => by
      have hd : (List.range 14).all (fun j => decide (defaultValue (tyX6 j) = vp_V (dfls 6) j)) = true := by decide +kernel
      have h1 := of_decide_eq_true (List.all_eq_true.mp hd j (List.mem_range.mpr hj))
      rw [h1]
      congr 1⟩, nmX6, hw [_] (by decide +kernel) _ List.mem_cons_self, hw [_] (by decide +kernel) _ List.mem_cons_self, rfl, rfl, by decide⟩
  | 7, h => cases h; exact ⟨hw _ (by decide +kernel), ⟨tyX7, tyX7_ok, fun j hj => by
      have hd : (List.range 36).all (fun j => decide (defaultValue (tyX7 j) = vp_V (dfls 7) j)) = true := by decide +kernel
      have h1 := of_decide_eq_true (List.all_eq_true.mp hd j (List.mem_range.mpr hj))
      rw [h1]
      congr 1⟩, nmX7, hw [_] (by decide +kernel) _ List.mem_cons_self, hw [_] (by decide +kernel) _ List.mem_cons_self, rfl, rfl, by decide⟩
  | k + 8, h => simp [vwCl] at h
theorem inb_in {i : Int32} {n : Nat} (h : inb i n = true) : vp_in i n := by
  unfold inb at h
  unfold vp_in
  simpa using h
section STEP3
variable {p : Program} {l : Launch} {e : Env} {R : Room} {s : State} {m : MethodId} {args : Array Value} {below : List Frame} {meth : Method} {c : Code} {Q : State → Prop} {V : EV} {y d n0 s0 : Nat} {hF : AH}
variable {call : Nat → List Value → AH → Res} {nx : AS → Res} {rv : Option Value}
/-- reading a field that holds v -/
theorem s_getf {pc np a ci k x : Nat} {t : Nat} {ops : List Nat} {fs : List Value} {v : Value} {h : AH} (C : Cxt p R s m args meth c V y d n0 s0 hF) (hok : fldOK (mnm y).cls x (ci :: k :: t :: ops) = true) (hnp : np = pc + 3) (hd : decode (mby y) pc = .ok (.getfield x, 3)) (hc : hat h a = some (.inr (ci, fs))) (hv : fget fs k = some v)
    {H : Heap} {locs : List Loc} {cells slots : Nat} {lsR : Array Slot} {rest : List Value} (w : Wh V h H) (S : va_S (fun q => V.B ≤ q) s.heap H locs)
    (kk : W p l e R s m args below meth c H locs cells slots Q (F0 m np lsR (cv V v :: rest))) : W p l e R s m args below meth c H locs cells slots Q (F0 m pc lsR (cv V (.ref a) :: rest)) := by
  obtain ⟨hx, hb, hml, hown, hts, G, -⟩ := C
  subst hnp
  by_cases ha : a < 12
  · rw [hat_gc w ha] at hc
    rcases G.2.2.2.2.2.2.2.2.2.2.2.2.2.1 a ci fs ha hc with ⟨rfl, rfl⟩ | ⟨rfl, rfl⟩
    · rw [G.2.2.2.2.2.2.2.2.2.2.2.2.1] at hc
      cases hc
      rw [cv_ref (by decide), show adr V 10 = V.2.1 10 from rfl]
      cases ops with
      | nil => simp [fldOK] at hok
      | cons q ops =>
      match k, hv with
      | 0, hv =>
        cases hv
        rw [cv_ref (by decide), show adr V 11 = V.2.1 11 from rfl] at kk
        match t, hok with
        | 0, hok => simp [fldOK, vwCl] at hok
        | 1, hok => exact vk_getf hx hb G.2.2.2.2.2.2.2.2.2.1 S hown (hts _ (wd_in hok)) (fun _ h => h) hd kk
        | t + 2, hok => simp [fldOK, vwCl] at hok
      | 1, hv =>
        cases hv
        match t, hok with
        | 0, hok => exact vk_getf hx hb G.2.2.2.2.2.2.2.2.2.2.1 S hown (hts _ (wd_in hok)) (fun _ h => h) hd kk
        | t + 1, hok => simp [fldOK, vwCl] at hok
      | k + 2, hv => simp [fget] at hv
    · simp [fget] at hv
  · have ha' : 12 ≤ a := by omega
    rw [cv_ref (by omega)]
    have hw := wsO_at (V := V) ha' hc
    rw [cel_obj] at hw
    have hfl : ∃ (C : String) (T : u_T) (N q : Nat), vwCl[ci]? = some (C, T, N) ∧ k < N ∧ wd q (.fieldLink (mnm y).cls x (T k).1 (T k).2.1 (T k).2.2.1) = true := by
      cases ops with
      | nil =>
        unfold fldOK at hok
        split at hok <;> simp_all
      | cons q ops =>
        cases hci : vwCl[ci]? with
        | none =>
          unfold fldOK at hok
          split at hok
          · exfalso
            obtain ⟨r, hr, -⟩ := w.1 _ _ hw
            rw [hci] at hr
            cases hr
          · exfalso
            obtain ⟨r, hr, -⟩ := w.1 _ _ hw
            rw [hci] at hr
            cases hr
          · rename_i heq
            cases heq
            rw [hci] at hok
            cases hok
          · cases hok
        | some r =>
          obtain ⟨C, T, N⟩ := r
          have h8 := (cls_ok V ci C T N hci).2.2.2.2.2.2.2
          unfold fldOK at hok
          split at hok
          · rename_i heq
            cases heq
            omega
          · rename_i heq
            cases heq
            omega
          · rename_i heq
            cases heq
            rw [hci] at hok
            rw [Bool.and_eq_true] at hok
            exact ⟨C, T, N, q, rfl, Nat.le_of_ble_eq_true hok.1, hok.2⟩
          · cases hok
    obtain ⟨C, T, N, q, hci, hk, hwd⟩ := hfl
    obtain ⟨c1, c2, c3, c4, c5, c6, c7, c8⟩ := cls_ok V ci C T N hci
    rw [fget_get] at hv
    exact va_get (D := V.1) (cl := vwCl) (tys := tys4 V) (C := C) (T := T) (N := N) (ref := (T k).1) hx hb hts c1 hown G.1 w.1 (a - 12) hw hci k hk (hts _ (wd_in hwd)) (fun _ h => h) (by rw [List.getElem?_map, hv]; rfl) hd kk
end STEP3
