/-! A method that throws: its contract, the throw itself, the call of one, in the layer's words. -/
/-- the handlers of the method that s invokes -/
def gEx (s : State) (tab : List (Nat × Nat × Nat × Nat)) : Prop := ∀ (m : MethodId) (args : Array Value) (below : List Frame) (meth : Method) (c : Code), s.frames = .invoking m args :: below → s.vm.method? m = some meth → meth.code = some c → c.exceptionTable.toList.map (fun x => (x.startPc, x.endPc, x.handlerPc, x.catchType)) = tab
/-- a static that holds a reference or null, and lies as it should -/
def gLq (C nm d : String) (A : Nat → Prop) (s : State) : Prop := ∃ (c : ClassId) (k : Class) (i : Nat) (f : Field) (a : Nat) (cell : Cell) (v : Value), s.vm.findClass C = some c ∧ s.fieldFound? C nm d = some (c, k, i, f) ∧ f.isStatic = true ∧ k.statics = some a ∧ s.heap[a]? = some cell ∧ cell.vm.isStatics = true ∧ cell.cls = c ∧ f.slot < cell.slots.size ∧ k.staticTypes[f.slot]? = some f.type ∧ cell.slots[f.slot]? = some v ∧ (v = .null ∨ ∃ t : Nat, v = .ref t) ∧ ¬ A a
theorem gLq.go {C nm d : String} {A B : Nat → Prop} {s U : State} (h : gLq C nm d A s) (hvm : s.vm.Alike U.vm) (hq : ∀ q : Nat, q < s.heap.size → ¬ A q → U.heap[q]? = s.heap[q]?) (hAB : ∀ q, B q → A q) : gLq C nm d B U := by
  obtain ⟨c, k, i, f, a, cell, v, h1, h2, h3, h4, h5, h6, h7, h8, h9, h10, h11, h12⟩ := h
  obtain ⟨k', hi', he⟩ := State.fieldFound?_setVm hvm h2
  exact ⟨c, k', i, f, a, cell, v, (hvm.findClass _ _).trans h1, hi', h3, by rw [he]; exact h4, (hq a (Array.getElem?_eq_some_iff.mp h5).1 h12).trans h5, h6, h7, h8, by rw [he]; exact h9, h10, h11, fun z => h12 (hAB a z)⟩
theorem gLq.word {C nm d : String} {A : Nat → Prop} {s : State} {args : Array Value} (h : gLq C nm d A s) : (Cond.isRef (.static C nm d)).before args s = true ∧ (Cond.laysStatic C nm d).before args s = true := by
  obtain ⟨c, k, i, f, a, cell, v, h1, h2, h3, h4, h5, h6, h7, h8, h9, h10, h11, h12⟩ := h
  refine ⟨?_, Cond.laysStatic_of h1 h2 h3 h4 h5 h6 h7 h8 h9⟩
  rcases h11 with rfl | ⟨t, rfl⟩ <;> simp [Cond.before, Cond.holds, Cond.value, Term.static_eval h2 h3 h4 h5 h6 h10]
theorem gLq.of {C nm d : String} {A : Nat → Prop} {s : State} {args : Array Value} (hl : (Cond.laysStatic C nm d).before args s = true) (h : (Cond.isRef (.static C nm d)).before args s = true) (hA : ∀ a : Nat, a < s.heap.size → ¬ A a) : gLq C nm d A s := by
  obtain ⟨c, k, i, f, a, cell, hc, hi, hst, ha, hcell, hs, hcls, hlt, hty⟩ := Cond.laysStatic_spec hl
  cases hv : (Term.static C nm d).eval args s none [] s with
  | none => simp [Cond.before, Cond.holds, Cond.value, hv] at h
  | some w =>
    obtain ⟨hst', a', cell', ha', hcell', -, hslot⟩ := Term.static_spec hi hv
    cases ha.symm.trans ha'
    cases hcell.symm.trans hcell'
    simp only [Cond.before, Cond.holds, Cond.value, hv] at h
    refine ⟨c, k, i, f, a, cell, w, hc, hi, hst, ha, hcell, hs, hcls, hlt, hty, hslot, ?_, hA a (Array.getElem?_eq_some_iff.mp hcell).1⟩
    cases w with
    | null => exact Or.inl rfl
    | ref t => exact Or.inr ⟨t, rfl⟩
    | _ => simp at h
def gLh (A : Nat → Prop) (s : State) : Prop := gLq "java/lang/Throwable" "UNASSIGNED_STACK" "[Ljava/lang/StackTraceElement;" A s ∧ gLq "java/lang/Throwable" "SUPPRESSED_SENTINEL" "Ljava/util/List;" A s
theorem gLh.go {A B : Nat → Prop} {s U : State} (h : gLh A s) (hvm : s.vm.Alike U.vm) (hq : ∀ q : Nat, q < s.heap.size → ¬ A q → U.heap[q]? = s.heap[q]?) (hAB : ∀ q, B q → A q) : gLh B U := ⟨h.1.go hvm hq hAB, h.2.go hvm hq hAB⟩
def gZl (h0 : gH) (Z : gZ) : gZ := fun below args s t => gLh (gA h0 s.heap.size) s → Z below args s t
def gZe (tab : List (Nat × Nat × Nat × Nat)) (Z : gZ) : gZ := fun below args s t => gEx s tab → Z below args s t
def gFT (first t : State) (L : List Loc) (k n : Nat) : Prop := first.WarmedH t.vm ∧ first.sameButNew ({ t with vm := first.vm } : State) L k n
def gQt (g : gG) (h0 : gH) (X : String) (Q : gH → Prop) (st : State) (a : Addr) (t : State) : Prop :=
  (∃ ce : Cell, t.heap[a]? = some ce ∧ ce.vm.isStatics = false ∧ t.vm.findClass X = some ce.cls) ∧ (∃ h' : gH, Q h' ∧ gP g.1 h' t.heap ∧ gD (gA h0 st.heap.size) h' ∧ va_K g.1 gCL g.2.1 t) ∧ va_F (gA h0 st.heap.size) st t
def gZt (g : gG) (h0 : gH) (mc ms : Nat) (X : String) (Q : gH → Prop) : gZ := fun below _ s t => ∃ a : Addr, t.status = .running ∧ Ended t below (.threw a) ∧ gQt g h0 X Q s a t ∧ ∃ L : List Loc, gFT s t L mc ms ∧ ∀ q ∈ L, gA h0 s.heap.size q.base
/-- a contract of a method that throws -/
def gT (l : Launch) (g : gG) (I : gI) (rm : Room) (as : List Value) (h0 : gH) (X : String) (Q : gH → Prop) : Prop :=
  ∀ sz : Nat, MetFree l I.1 (headSpec (.code I.1 I.2.1 I.2.2.1 I.2.2.2 :: gWS) rm) (va_Pc as (fun U => U.heap.size = sz ∧ gP g.1 h0 U.heap ∧ va_K g.1 gCL g.2.1 U ∧ (∀ w ∈ gNW, va_Nw w U) ∧ gSt g (gA h0 sz) U ∧ gLh (gA h0 sz) U)) (fun _ _ _ _ _ => True)
    (fun _ st o t => ∃ a : Addr, o = .threw a ∧ gQt g h0 X Q st a t ∧ ∃ L : List Loc, gFT st t L rm.cells rm.slots ∧ ∀ q ∈ L, gA h0 st.heap.size q.base)
section GTH
variable {l : Launch} {g : gG} {I J : gI} {R rm : Room} {h0 h : gH} {Z : gZ} {k n pc idx : Nat} {lv : gV} {st r as : List Value} {tab : List (Nat × Nat × Nat × Nat)} {q : Option Value → gH → Prop}
theorem gw_l {h1 : gH} (K : gw l g I R h0 Z k n pc lv st h) : gw l g I R h0 (gZl h1 Z) k n pc lv st h :=
  fun p e s m args below meth c C H locs hP hD hS ls hl T hT X => by
    obtain ⟨t, a1, b1⟩ := K p e s m args below meth c C H locs hP hD hS ls hl T hT X
    exact ⟨t, a1, fun _ => b1⟩
theorem gw_x {h1 : gH} (K : gw l g I R h0 Z k n pc lv st h) : gw l g I R h0 (gZl h1 (gZe tab Z)) k n pc lv st h :=
  fun p e s m args below meth c C H locs hP hD hS ls hl T hT X => by
    obtain ⟨t, a1, b1⟩ := K p e s m args below meth c C H locs hP hD hS ls hl T hT X
    exact ⟨t, a1, fun _ _ => b1⟩
theorem gRt_x {h1 : gH} (K : gRt l g I R h0 Z k n q) : gRt l g I R h0 (gZl h1 (gZe tab Z)) k n q := fun pc lv h => ⟨fun v a b c => gw_x ((K pc lv h).1 v a b c), fun v a b c => gw_x ((K pc lv h).2.1 v a b c), fun a b c => gw_x ((K pc lv h).2.2 a b c)⟩
theorem gRt_f : gRt l g I R h0 Z k n (fun _ _ => False) := fun _ _ _ => ⟨fun _ _ _ c => c.elim, fun _ _ _ c => c.elim, fun _ _ c => c.elim⟩
theorem th_thrown {p : Program} {e : Env} {s : State} {m : MethodId} {args : Array Value} {below : List Frame} {meth : Method} {c : Code} {H : Heap} {ls : Array Slot} {cc : ByteArray} {own X tx : String} {ix ic w : Nat} {names : List String} {cX : ClassId}
    (hx : p.tables.exec = Jvm.exec) (hb : c.code = cc) (hml : ls.size = c.maxLocals) (htr : e.platform.stackTraces = false) (hown : s.vm.findClass own = some m.cls)
    (hat : ∀ a ∈ Bundle.ownAtoms own ic X names, a.before args s = true) (hlk : (Cond.classLink own idx X).before args s = true) (hinst : (Cond.instantiable X 6).before args s = true) (hini : (Cond.initialized X).before args s = true) (hfc : s.vm.findClass X = some cX)
    (hZ : vk_R own ix tx w s) (hfit : Bundle.fit X = true) (hnames : ∀ n ∈ names, Bundle.fit n = true)
    (hd1 : decode cc pc = .ok (.new idx, 3)) (hd2 : decode cc (pc + 3) = .ok (.dup, 1)) (hd3 : decode cc (pc + 4) = .ok (.ldc ix, 2)) (hd4 : decode cc (pc + 6) = .ok (.invokespecial ic, 3)) (hd5 : decode cc (pc + 9) = .ok (.athrow, 1))
    (hempty : c.exceptionTable.toList = []) (hlocks : meth.locks = false) (hcells : 1 ≤ R.cells) (hslots : 6 ≤ R.slots) (hfr : names.length + 3 < R.frames) (hlo : (st.map fun v => v.category).sum + 1 + (13 * (names.length + 1) + 42) ≤ R.locals) (hH : s.heap.size ≤ H.size) :
    W p l e R s m args below meth c H [] 0 0 (fun t => ∃ (a : Addr) (ce : Cell), t.status = .running ∧ Ended t below (.threw a) ∧ s.WarmedH t.vm ∧ s.sameButNew ({ t with vm := s.vm } : State) [] 1 6 ∧ t.heap[a]? = some ce ∧ ce.vm.isStatics = false ∧ s.vm.findClass X = some ce.cls) (F0 m pc ls st) := by
  refine W.newcK hx hb hown hlk hinst hini rfl hd1 (by omega) (by omega) hfc rfl fun H1 kX hkX e1 z1 o1 => ?_
  refine lv_dup (pc := pc + 3) (ls := ls) (va := .ref H.size) hx hb hd2 rfl ?_
  refine va_ldcS (pc := pc + 4) (ls := ls) hx hb hown hZ hd3 ?_
  intro T hT X1
  obtain ⟨U, hsteps, hrun, hend, hW, hsame, ce, hce, K⟩ := X1.ctorThrowS hx htr (own := own) (cls := X) (names := names) (ic := ic) hown hfit hnames hat (fun x hx => by cases hx) hfc hkX (by rw [hT]; exact e1) hH (msg := .ref w) rfl
    (g := F0 m (pc + 6) ls (.ref w :: .ref H.size :: .ref H.size :: st)) rfl hml rfl rfl (rest := st) rfl (by rw [hb]; exact hd4) (by rw [hb]; exact hd5) (by rw [hempty]; intro x hx; cases hx) hfr (by
      have : ((Value.ref H.size :: st).map fun v => v.category).sum = (st.map fun v => v.category).sum + 1 := by simp [Value.category, Nat.add_comm]
      show 2 * 0 + _ + _ ≤ _
      omega) hlocks
  exact ⟨U, hsteps, H.size, ce, hrun, hend, hW, hsame, hce, by rw [K.vm]; rfl, K.cls⟩
theorem gEx_nil {s : State} {m : MethodId} {args : Array Value} {below : List Frame} {meth : Method} {c : Code} (h : gEx s []) (h1 : s.frames = .invoking m args :: below) (h2 : s.vm.method? m = some meth) (h3 : meth.code = some c) : c.exceptionTable.toList = [] := List.map_eq_nil_iff.mp (h m args below meth c h1 h2 h3)
theorem th_cast {U : State} {X : String} {cX : ClassId} {args : Array Value} (h : U.vm.findClass X = some cX) : (Cond.castable X X).before args U = true := by simp [Cond.before, Cond.holds, Cond.value, h, va_asg]
theorem th_decl {U : State} {y : MethodName} {b : ByteArray} {n : Nat} {t : Option FieldType} {args : Array Value} (h1 : (Cond.instanceMethod y).before args U = true) (h2 : (Cond.code y b n t).before args U = true) : (Cond.declares y).before args U = true := by
  obtain ⟨m9, meth9, q1, q2, q3, -⟩ := Cond.instanceMethod_spec h1
  obtain ⟨meth8, c8, q4, -, -, -, -, -, -, q5⟩ := Cond.code_spec q1 h2
  cases q2.symm.trans q4
  simp [Cond.before, Cond.holds, Cond.value, q1, q2, q3, q5]
/-- the throw: 'new', 'dup', 'ldc', the constructor, 'athrow' -/
theorem gw_throw {X tx : String} {ix ic : Nat} {Q : gH → Prop} (htl : ∀ e : Env, l.admits e → e.platform.stackTraces = false) (hI : I.1.cls = "RiddleMill")
    (hd1 : decode I.2.1 pc = .ok (.new idx, 3)) (hd2 : decode I.2.1 (pc + 3) = .ok (.dup, 1)) (hd3 : decode I.2.1 (pc + 4) = .ok (.ldc ix, 2)) (hd4 : decode I.2.1 (pc + 6) = .ok (.invokespecial ic, 3)) (hd5 : decode I.2.1 (pc + 9) = .ok (.athrow, 1))
    (hstr : (ix, tx) ∈ gStr) (hat : ∀ w ∈ Bundle.ownAtoms "RiddleMill" ic X thUp, thP X w) (hlk : Cond.classLink "RiddleMill" idx X ∈ gWS) (hinst : Cond.instantiable X 6 ∈ gWS) (hini : Cond.initialized X ∈ gWS) (hfit : Bundle.fit X = true)
    (hcells : k + 1 ≤ R.cells) (hslots : n + 6 ≤ R.slots) (hfr : 5 < R.frames) (hlo : (st.map fun v => v.category).sum + 82 ≤ R.locals) (hQ : Q h) : gw l g I R h0 (gZl h0 (gZe [] (gZt g h0 (k + 1) (n + 6) X Q))) k n pc lv st h := by
  intro p e s m args below meth c C H locs hP hD hS ls hl T hT X0
  by_cases hEL : gEx s [] ∧ gLh (gA h0 s.heap.size) s
  case neg => exact ⟨_, Steps.refl _, fun z1 z2 => absurd ⟨z2, z1⟩ hEL⟩
  obtain ⟨hE, hLs⟩ := hEL
  obtain ⟨hx, hb, hml, hown, hts, hK, hlocks, hr, hnm, hNw, hSt, hP0⟩ := id C
  subst hT
  have X1 := th_base X0 (kc := 1) (ns := 6) hcells hslots
  have hW2 : s.WarmedH (T.setFrames (.invoking m args :: below)).vm := X0.warmed
  have hws : ∀ w ∈ gWS, w.before args (T.setFrames (.invoking m args :: below)) = true := fun w hw => word_at hW2 (gWS_good w hw) (hts w hw)
  have hL2 : gLh (gA h0 s.heap.size) (T.setFrames (.invoking m args :: below)) := hLs.go hW2.alike hS.2.1 (fun _ z => z)
  obtain ⟨cX, kX, hfc, -⟩ := Cond.instantiable_spec (hws _ hinst)
  have hat' : ∀ w ∈ Bundle.ownAtoms "RiddleMill" ic X thUp, w.before args (T.setFrames (.invoking m args :: below)) = true := fun w hw => by
    rcases hat w hw with hq | (hq | hq | hq | hq) | hq | ⟨y, b9, n9, t9, hq, hi9, hc9⟩
    · exact hws w hq
    · rw [hq]; exact hL2.1.word.1
    · rw [hq]; exact hL2.2.word.1
    · rw [hq]; exact hL2.1.word.2
    · rw [hq]; exact hL2.2.word.2
    · rw [hq]; exact th_cast hfc
    · rw [hq]; exact th_decl (hws _ hi9) (hws _ hc9)
  have hown' : (T.setFrames (.invoking m args :: below)).vm.findClass "RiddleMill" = some m.cls := by
    rw [← hI]
    exact (hW2.alike.findClass _ _).trans hown
  have hR : vk_R "RiddleMill" ix tx (gsa g ix) (T.setFrames (.invoking m args :: below)) := vk_R.warm hW2 (hSt.2.2.2.2.1 _ hstr)
  obtain ⟨t, st1, a, ce, b1, b2, b3, b4, b5, b6, b7⟩ := th_thrown (R := { R with cells := 1, slots := 6 }) (l := l) (st := st) (pc := pc) (ls := ls) (H := T.heap) (names := thUp) hx hb (by rw [hml]; exact hl.1) (htl e X0.admits) hown' hat' (hws _ hlk) (hws _ hinst) (hws _ hini) hfc hR hfit thUp_fit hd1 hd2 hd3 hd4 hd5 (gEx_nil hE X0.frames X0.method X0.code) hlocks (Nat.le_refl _) (Nat.le_refl _) hfr (by
    show _ + 1 + 81 ≤ _
    exact hlo) (Nat.le_refl _) T rfl X1
  have hold : ∀ q : Nat, q < T.heap.size → t.heap[q]? = T.heap[q]? := fun q hq => by
    have hc : T.heap[q]? = some T.heap[q] := Array.getElem?_eq_getElem hq
    rw [hc]
    exact State.sameButNew.old_cell b4 hc
  have hWt : s.WarmedH t.vm := State.WarmedH.trans (t := T.setFrames (.invoking m args :: below)) hW2 b3
  refine ⟨t, st1, fun _ _ => ⟨a, b1, b2, ⟨⟨ce, b5, b6, ?_⟩, ⟨h, hQ, fun b x hx => (hP b x hx).kept (hold b (hP.lt hx)), hD, va_K.moved hWt.alike hK⟩, Nat.le_trans hS.1 b4.2.1, fun q h1 h2 => (hold q (Nat.lt_of_lt_of_le h1 hS.1)).trans (hS.2.1 q h1 h2)⟩, locs ++ [], ⟨hWt, ?_⟩, fun q hq => hS.2.2 q (by simpa using hq)⟩⟩
  · rw [b3.alike.findClass]
    exact b7
  · exact (X0.same.setFrames (.invoking m args :: below) X0.cur).trans (b4.setVm s.vm)
end GTH
