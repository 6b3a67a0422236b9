-- what the start gives
set_option maxRecDepth 100000 in
set_option maxHeartbeats 4000000 in
theorem gv_W : ∀ j, j < 15 → Cond.eq (.elem (.static "RiddleMill$Speech" "WORDS" "[J") (.int (Int32.ofNat j))) (.long (wdF j)) ∈ flatC (Jvm.Cond.and given_1 narrow_1) := by
  have h : (List.range 15).all (fun j => decide (Cond.eq (.elem (.static "RiddleMill$Speech" "WORDS" "[J") (.int (Int32.ofNat j))) (.long (wdF j)) ∈ flatC (Jvm.Cond.and given_1 narrow_1))) = true := by decide +kernel
  intro j hj
  exact of_decide_eq_true (List.all_eq_true.mp h j (List.mem_range.mpr hj))
set_option maxRecDepth 100000 in
set_option maxHeartbeats 4000000 in
theorem gv_F : ∀ j, j < 70 → Cond.eq (.elem (.static "RiddleMill$Speech" "FORMS" "[J") (.int (Int32.ofNat j))) (.long (fmF j)) ∈ flatC (Jvm.Cond.and given_1 narrow_1) := by
  have h : (List.range 70).all (fun j => decide (Cond.eq (.elem (.static "RiddleMill$Speech" "FORMS" "[J") (.int (Int32.ofNat j))) (.long (fmF j)) ∈ flatC (Jvm.Cond.and given_1 narrow_1))) = true := by decide +kernel
  intro j hj
  exact of_decide_eq_true (List.all_eq_true.mp h j (List.mem_range.mpr hj))
theorem gv_no {s : State} {args : Array Value} (h : (Cond.not (.castable "java/lang/IllegalStateException" "java/lang/IllegalArgumentException")).before args s = true) : gNo s := by
  intro a b ha hb
  simp only [Cond.before, Cond.holds, Cond.value, ha, hb] at h
  simpa using h
theorem gv_str {args : Array Value} {s : State} {t : Term} (h : (Cond.exactly t "java/lang/String").before args s = true) : ∃ a : Nat, t.eval args s none [] s = some (.ref a) := by
  cases hv : t.eval args s none [] s with
  | none => simp [Cond.before, Cond.holds, Cond.value, hv] at h
  | some w =>
    cases w with
    | ref a => exact ⟨a, rfl⟩
    | null => cases hc : s.vm.findClass "java/lang/String" <;> simp [Cond.before, Cond.holds, Cond.value, hv, hc] at h
    | _ => simp [Cond.before, Cond.holds, Cond.value, hv] at h
theorem gv_arr {args : Array Value} {s : State} {ty : FieldType} (h : (Cond.arrayClass ty).before args s = true) : ∃ cA : ClassId, ArrOfT s cA ty ∧ s.vm.findClass ("[" ++ ty.toString) = some cA := by
  obtain ⟨c, k, comp, h1, h2, h3⟩ := Cond.arrayClass_spec h
  exact ⟨c, fun n z => ⟨fun k => by simp [arrV], k, h2, comp, h3⟩, h1⟩
set_option maxRecDepth 100000 in
theorem gv_nw : ∀ w ∈ gNW, w ∈ tables_1 ∧ w.onTables = true := by
  have h : gNW.all (fun w => decide (w ∈ tables_1) && w.onTables) = true := by decide +kernel
  intro w hw
  have := List.all_eq_true.mp h w hw
  rw [Bool.and_eq_true] at this
  exact ⟨of_decide_eq_true this.1, this.2⟩
set_option maxRecDepth 100000 in
theorem gv_st : ∀ e ∈ gStr, Cond.stringRef "RiddleMill" e.1 e.2 ∈ tables_1 ∧ Cond.exactly (.string "RiddleMill" e.1) "java/lang/String" ∈ flatC (Jvm.Cond.and given_1 narrow_1) := by
  have h : gStr.all (fun e => decide (Cond.stringRef "RiddleMill" e.1 e.2 ∈ tables_1) && decide (Cond.exactly (.string "RiddleMill" e.1) "java/lang/String" ∈ flatC (Jvm.Cond.and given_1 narrow_1))) = true := by decide +kernel
  intro e he
  have := List.all_eq_true.mp h e he
  rw [Bool.and_eq_true] at this
  exact ⟨of_decide_eq_true this.1, of_decide_eq_true this.2⟩
