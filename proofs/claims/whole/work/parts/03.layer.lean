/-! THE LAYER. A heaplet is a partial map from addresses to cells; 'gw' says that the machine, in a frame of a method with these values, comes to the method's end; everything of the machine itself is hidden in it. -/
abbrev gH : Type := Nat → Option va_E
def gup (h : gH) (a : Nat) (e : va_E) : gH := fun q => if q = a then some e else h q
theorem gup_s (h : gH) (a : Nat) (e : va_E) : gup h a e a = some e := if_pos rfl
theorem gup_n (h : gH) {a b : Nat} (e : va_E) (n : b ≠ a) : gup h a e b = h b := if_neg n
theorem gup_m (h : gH) {a b : Nat} (e : va_E) (n : a ≠ b) : gup h a e b = h b := if_neg (Ne.symm n)
theorem gup_up (h : gH) (a : Nat) (e e2 : va_E) : gup (gup h a e) a e2 = gup h a e2 := by
  funext q
  by_cases hq : q = a <;> simp [gup, hq]
theorem gup_sw (h : gH) {a b : Nat} (e e2 : va_E) (n : a ≠ b) : gup (gup h a e) b e2 = gup (gup h b e2) a e := by
  funext q
  by_cases h1 : q = a
  · subst h1
    simp [gup, n]
  · simp [gup, h1]
theorem gup_id {h : gH} {a : Nat} {e : va_E} (hh : h a = some e) : gup h a e = h := by
  funext q
  by_cases hq : q = a
  · subst hq
    simp [gup, hh]
  · simp [gup, hq]
def gP (D : va_G) (h : gH) (H : Heap) : Prop := ∀ (a : Nat) (e : va_E), h a = some e → va_at D gCL (a, e) H
def gA (h0 : gH) (sz : Nat) : Nat → Prop := fun q => (∃ e : va_E, h0 q = some e) ∨ sz ≤ q
def gD (A : Nat → Prop) (h : gH) : Prop := ∀ (a : Nat) (e : va_E), h a = some e → A a
theorem gP.up {D : va_G} {h : gH} {H H1 : Heap} {a : Nat} {e : va_E} (hP : gP D h H) (he : va_at D gCL (a, e) H1) (oq : ∀ q : Nat, q ≠ a → H1[q]? = H[q]?) : gP D (gup h a e) H1 := by
  intro b x hb
  by_cases hq : b = a
  · subst hq
    rw [gup_s] at hb
    cases hb
    exact he
  · rw [gup_n h e hq] at hb
    exact (hP b x hb).kept (oq b hq)
theorem gD.up {A : Nat → Prop} {h : gH} {a : Nat} {e : va_E} (hD : gD A h) (ha : A a) : gD A (gup h a e) := by
  intro b x hb
  by_cases hq : b = a
  · subst hq
    exact ha
  · rw [gup_n h e hq] at hb
    exact hD b x hb
-- the values in a frame
abbrev gV : Type := List (Option Value)
def gL (lv : gV) : List (Nat × Value) := lv.zipIdx.filterMap (fun q => q.1.map (fun v => (q.2, v)))
theorem gL_mem {lv : gV} {i : Nat} {v : Value} : (i, v) ∈ gL lv ↔ lv[i]? = some (some v) := by
  unfold gL
  rw [List.mem_filterMap]
  constructor
  · rintro ⟨⟨o, j⟩, hm, hq⟩
    cases o with
    | none => simp at hq
    | some w =>
      simp at hq
      obtain ⟨rfl, rfl⟩ := hq
      exact List.mk_mem_zipIdx_iff_getElem?.mp hm
  · intro h
    exact ⟨(some v, i), List.mk_mem_zipIdx_iff_getElem?.mpr h, rfl⟩
theorem gL_at {ls : Array Slot} {nL : Nat} {lv : gV} {i : Nat} {v : Value} (h : lv_has ls nL (gL lv)) (hv : lv[i]? = some (some v)) : ls[i]? = some (.val v) := h.2.2 (i, v) (gL_mem.mpr hv)
def gKill (lv : gV) (i : Nat) : gV := match i with
  | 0 => lv
  | j + 1 => match lv[j]? with
    | some (some v) => if v.category = 2 then lv.set j none else lv
    | _ => lv
def gSet (lv : gV) (i : Nat) (v : Value) : gV := (gKill lv i).set i (some v)
def gSet2 (lv : gV) (i : Nat) (v : Value) : gV := (gSet lv i v).set (i + 1) none
theorem gKill_mem {lv : gV} {i j : Nat} {w : Value} (h : (gKill lv i)[j]? = some (some w)) : lv[j]? = some (some w) ∧ ¬ (j + 1 = i ∧ w.category = 2) := by
  cases i with
  | zero => exact ⟨h, fun q => by omega⟩
  | succ i =>
    unfold gKill at h
    dsimp only at h
    cases hq : lv[i]? with
    | none =>
      rw [hq] at h
      dsimp only at h
      refine ⟨h, fun q => ?_⟩
      have : j = i := by omega
      subst this
      rw [hq] at h
      cases h
    | some o =>
      rw [hq] at h
      cases o with
      | none =>
        dsimp only at h
        refine ⟨h, fun q => ?_⟩
        have : j = i := by omega
        subst this
        rw [hq] at h
        cases h
      | some v =>
        dsimp only at h
        by_cases hc : v.category = 2
        · rw [if_pos hc] at h
          by_cases hj : j = i
          · subst hj
            rw [List.getElem?_set_self (List.getElem?_eq_some_iff.mp hq).1] at h
            cases h
          · rw [List.getElem?_set_ne (Ne.symm hj)] at h
            exact ⟨h, fun q => by omega⟩
        · rw [if_neg hc] at h
          refine ⟨h, fun q => ?_⟩
          have : j = i := by omega
          subst this
          rw [hq] at h
          cases h
          exact hc q.2
theorem gSet_mem {lv : gV} {i j : Nat} {v w : Value} (h : (gSet lv i v)[j]? = some (some w)) : (j = i ∧ w = v) ∨ (j ≠ i ∧ lv[j]? = some (some w) ∧ ¬ (j + 1 = i ∧ w.category = 2)) := by
  unfold gSet at h
  by_cases hj : j = i
  · subst hj
    left
    have hl : j < (gKill lv j).length := by
      have := (List.getElem?_eq_some_iff.mp h).1
      simpa using this
    rw [List.getElem?_set_self hl] at h
    cases h
    exact ⟨rfl, rfl⟩
  · right
    rw [List.getElem?_set_ne (Ne.symm hj)] at h
    exact ⟨hj, gKill_mem h⟩
theorem gL_set1 {ls : Array Slot} {nL : Nat} {lv : gV} {i : Nat} {v : Value} (h : lv_has ls nL ((i, v) :: (gL lv).filter (fun q => !(q.1 == i) && !(q.1 + 1 == i && q.2.category == 2)))) : lv_has ls nL (gL (gSet lv i v)) := by
  refine ⟨h.1, h.2.1, fun q hq => h.2.2 q ?_⟩
  obtain ⟨j, w⟩ := q
  rcases gSet_mem (gL_mem.mp hq) with ⟨rfl, rfl⟩ | ⟨h1, h2, h3⟩
  · exact List.mem_cons_self
  · refine List.mem_cons_of_mem _ (List.mem_filter.mpr ⟨gL_mem.mpr h2, ?_⟩)
    by_cases hc : j + 1 = i
    · have : ¬ w.category = 2 := fun z => h3 ⟨hc, z⟩
      simp [h1, this]
    · simp [h1, hc]
theorem gL_set2 {ls : Array Slot} {nL : Nat} {lv : gV} {i : Nat} {v : Value} (h : lv_has ls nL ((i, v) :: (gL lv).filter (fun q => !(q.1 == i) && (!(q.1 == i + 1) && !(q.1 + 1 == i && q.2.category == 2))))) : lv_has ls nL (gL (gSet2 lv i v)) := by
  refine ⟨h.1, h.2.1, fun q hq => h.2.2 q ?_⟩
  obtain ⟨j, w⟩ := q
  have hm := gL_mem.mp hq
  unfold gSet2 at hm
  by_cases hj : j = i + 1
  · subst hj
    have hl : i + 1 < (gSet lv i v).length := by
      have := (List.getElem?_eq_some_iff.mp hm).1
      simpa using this
    rw [List.getElem?_set_self hl] at hm
    cases hm
  · rw [List.getElem?_set_ne (Ne.symm hj)] at hm
    rcases gSet_mem hm with ⟨rfl, rfl⟩ | ⟨h1, h2, h3⟩
    · exact List.mem_cons_self
    · refine List.mem_cons_of_mem _ (List.mem_filter.mpr ⟨gL_mem.mpr h2, ?_⟩)
      by_cases hc : j + 1 = i
      · have : ¬ w.category = 2 := fun z => h3 ⟨hc, z⟩
        simp [h1, hj, this]
      · simp [h1, hj, hc]
-- what is the same in a whole run: which cls is which, the array kinds, the script, the statics
def gx (g : gG) (I : gI) (h0 : gH) (p : Program) (s : State) (m : MethodId) (args : Array Value) (meth : Method) (c : Code) : Prop :=
  p.tables.exec = Jvm.exec ∧ c.code = I.2.1 ∧ c.maxLocals = I.2.2.1 ∧ s.vm.findClass I.1.cls = some m.cls ∧ (∀ w ∈ gWS, w.before args s = true) ∧ va_K g.1 gCL g.2.1 s ∧ meth.locks = false ∧ meth.sig.returnType = I.2.2.2 ∧ meth.name = I.1.name ∧ (∀ w ∈ gNW, va_Nw w s) ∧ gSt g (gA h0 s.heap.size) s ∧ gP g.1 h0 s.heap
abbrev gZ : Type := List Frame → Array Value → State → State → Prop
def gw (l : Launch) (g : gG) (I : gI) (R : Room) (h0 : gH) (Z : gZ) (k n : Nat) (pc : Nat) (lv : gV) (st : List Value) (h : gH) : Prop :=
  ∀ (p : Program) (e : Env) (s : State) (m : MethodId) (args : Array Value) (below : List Frame) (meth : Method) (c : Code), gx g I h0 p s m args meth c →
  ∀ (H : Heap) (locs : List Loc), gP g.1 h H → gD (gA h0 s.heap.size) h → va_S (gA h0 s.heap.size) s.heap H locs → ∀ ls : Array Slot, lv_has ls I.2.2.1 (gL lv) →
  W p l e R s m args below meth c H locs k n (Z below args s) (F0 m pc ls st)
/-- how a method ends that returns -/
def gQ (g : gG) (h0 : gH) (Q : Option Value → gH → Prop) : Array Value → State → Outcome → State → Prop := fun _ st o t =>
  (∃ (r : Option Value) (h' : gH), o = .returned r ∧ Q r h' ∧ gP g.1 h' t.heap ∧ gD (gA h0 st.heap.size) h' ∧ va_K g.1 gCL g.2.1 t) ∧ va_F (gA h0 st.heap.size) st t
def gZm (g : gG) (h0 : gH) (mc ms : Nat) (Q : Option Value → gH → Prop) : gZ := fun below args s => MQ below (gQ g h0 Q) args s mc ms (gA h0 s.heap.size)
/-- a contract: from every state that holds the heaplet, with these arguments -/
def gC (l : Launch) (g : gG) (I : gI) (rm : Room) (as : List Value) (h0 : gH) (Q : Option Value → gH → Prop) : Prop :=
  ∀ sz : Nat, Met l I.1 (.code I.1 I.2.1 I.2.2.1 I.2.2.2 :: gWS) rm (va_Pc as (fun U => U.heap.size = sz ∧ gP g.1 h0 U.heap ∧ va_K g.1 gCL g.2.1 U ∧ (∀ w ∈ gNW, va_Nw w U) ∧ gSt g (gA h0 sz) U)) (gQ g h0 Q) rm.cells rm.slots (gA h0 sz)
section GW
variable {l : Launch} {g : gG} {I : gI} {R : Room} {h0 h : gH} {Z : gZ} {k n pc pc' : Nat} {lv lv' : gV} {st st' r : List Value}
theorem gw_pure (row : ∀ (p : Program) (e : Env) (s : State) (m : MethodId) (args : Array Value) (below : List Frame) (meth : Method) (c : Code) (H : Heap) (locs : List Loc) (ls : Array Slot) (Q : State → Prop), p.tables.exec = Jvm.exec → c.code = I.2.1 → W p l e R s m args below meth c H locs k n Q (F0 m pc' ls st') → W p l e R s m args below meth c H locs k n Q (F0 m pc ls st))
    (K : gw l g I R h0 Z k n pc' lv st' h) : gw l g I R h0 Z k n pc lv st h :=
  fun p e s m args below meth c C H locs hP hD hS ls hl => row p e s m args below meth c H locs ls _ C.1 C.2.1 (K p e s m args below meth c C H locs hP hD hS ls hl)
theorem gw_br {P Q : Prop} (row : ∀ (p : Program) (e : Env) (s : State) (m : MethodId) (args : Array Value) (below : List Frame) (meth : Method) (c : Code) (H : Heap) (locs : List Loc) (ls : Array Slot) (X : State → Prop), p.tables.exec = Jvm.exec → c.code = I.2.1 → (P → W p l e R s m args below meth c H locs k n X (F0 m pc' ls st')) → (Q → W p l e R s m args below meth c H locs k n X (F0 m (pc + 3) ls st')) → W p l e R s m args below meth c H locs k n X (F0 m pc ls st))
    (K1 : P → gw l g I R h0 Z k n pc' lv st' h) (K2 : Q → gw l g I R h0 Z k n (pc + 3) lv st' h) : gw l g I R h0 Z k n pc lv st h :=
  fun p e s m args below meth c C H locs hP hD hS ls hl => row p e s m args below meth c H locs ls _ C.1 C.2.1 (fun q => K1 q p e s m args below meth c C H locs hP hD hS ls hl) (fun q => K2 q p e s m args below meth c C H locs hP hD hS ls hl)
theorem gw_load {i w : Nat} {v : Value} (hv : lv[i]? = some (some v)) (row : ∀ (p : Program) (e : Env) (s : State) (m : MethodId) (args : Array Value) (below : List Frame) (meth : Method) (c : Code) (H : Heap) (locs : List Loc) (ls : Array Slot) (Q : State → Prop), p.tables.exec = Jvm.exec → c.code = I.2.1 → ls[i]? = some (.val v) → W p l e R s m args below meth c H locs k n Q (F0 m (pc + w) ls (v :: st)) → W p l e R s m args below meth c H locs k n Q (F0 m pc ls st))
    (K : gw l g I R h0 Z k n (pc + w) lv (v :: st) h) : gw l g I R h0 Z k n pc lv st h :=
  fun p e s m args below meth c C H locs hP hD hS ls hl => row p e s m args below meth c H locs ls _ C.1 C.2.1 (gL_at hl hv) (K p e s m args below meth c C H locs hP hD hS ls hl)
theorem gw_st1 {i w : Nat} {v : Value} (row : ∀ (p : Program) (e : Env) (s : State) (m : MethodId) (args : Array Value) (below : List Frame) (meth : Method) (c : Code) (H : Heap) (locs : List Loc) (ls : Array Slot) (Q : State → Prop), p.tables.exec = Jvm.exec → c.code = I.2.1 → lv_has ls I.2.2.1 (gL lv) → (∀ ls' : Array Slot, lv_has ls' I.2.2.1 ((i, v) :: (gL lv).filter (fun q => !(q.1 == i) && !(q.1 + 1 == i && q.2.category == 2))) → W p l e R s m args below meth c H locs k n Q (F0 m (pc + w) ls' st)) → W p l e R s m args below meth c H locs k n Q (F0 m pc ls (v :: st)))
    (K : gw l g I R h0 Z k n (pc + w) (gSet lv i v) st h) : gw l g I R h0 Z k n pc lv (v :: st) h :=
  fun p e s m args below meth c C H locs hP hD hS ls hl => row p e s m args below meth c H locs ls _ C.1 C.2.1 hl (fun ls' hl' => K p e s m args below meth c C H locs hP hD hS ls' (gL_set1 hl'))
theorem gw_st2 {i w : Nat} {v : Value} (row : ∀ (p : Program) (e : Env) (s : State) (m : MethodId) (args : Array Value) (below : List Frame) (meth : Method) (c : Code) (H : Heap) (locs : List Loc) (ls : Array Slot) (Q : State → Prop), p.tables.exec = Jvm.exec → c.code = I.2.1 → lv_has ls I.2.2.1 (gL lv) → (∀ ls' : Array Slot, lv_has ls' I.2.2.1 ((i, v) :: (gL lv).filter (fun q => !(q.1 == i) && (!(q.1 == i + 1) && !(q.1 + 1 == i && q.2.category == 2)))) → W p l e R s m args below meth c H locs k n Q (F0 m (pc + w) ls' st)) → W p l e R s m args below meth c H locs k n Q (F0 m pc ls (v :: st)))
    (K : gw l g I R h0 Z k n (pc + w) (gSet2 lv i v) st h) : gw l g I R h0 Z k n pc lv (v :: st) h :=
  fun p e s m args below meth c C H locs hP hD hS ls hl => row p e s m args below meth c H locs ls _ C.1 C.2.1 hl (fun ls' hl' => K p e s m args below meth c C H locs hP hD hS ls' (gL_set2 hl'))
end GW
section GN
variable {l : Launch} {g : gG} {I J : gI} {R rm : Room} {h0 h : gH} {Z : gZ} {k n pc idx : Nat} {lv : gV} {st r as : List Value} {Q : Option Value → gH → Prop}
theorem gP.lt {D : va_G} {H : Heap} {a : Nat} {e : va_E} (hP : gP D h H) (he : h a = some e) : a < H.size := (hP a e he).lt
theorem gP.fresh {D : va_G} {H : Heap} (hP : gP D h H) : h H.size = none := by
  cases hq : h H.size with
  | none => rfl
  | some e => exact absurd (hP.lt hq) (Nat.lt_irrefl _)
/-- a new array; z: what it holds at first -/
theorem gw_newa {x : Int32} {N : Nat} {cA0 : ClassId} {ty : FieldType} {at0 : ArrayType} {a0 : vp_A} (hd : decode I.2.1 pc = .ok (.newarray at0, 2)) (hty : newarray.typeOf at0 = ty) (hprim : ∀ C, ty ≠ .object C) (hc : (cA0, ty) ∈ g.2.1) (hw : Cond.arrayClass ty ∈ gWS) (ha : ∀ cA : ClassId, vp_cell cA a0 = arrV cA N (fun _ => defaultValue ty)) (hn : ¬ x < 0) (hN : x.toNatClampNeg = N) (hbytes : N * componentBytes ty ≤ 536870912) (hcells : k + 1 ≤ R.cells) (hslots : n + N ≤ R.slots)
    (K : ∀ q : Nat, h q = none → gsz g ≤ q → gw l g I R h0 Z (k + 1) (n + N) (pc + 2) lv (.ref q :: r) (gup h q (.inl (cA0, a0)))) : gw l g I R h0 Z k n pc lv (.int x :: r) h := by
  subst hty
  intro p e s m args below meth c C H locs hP hD hS ls hl
  obtain ⟨hx, hb, hml, hown, hts, hK, hlocks, hr, hnm, hNw, hSt, hP0⟩ := id C
  refine va_newaK hx hb (hts _ hw) rfl hd rfl hn hN hbytes hcells hslots rfl fun H1 cA e1 z1 o1 hAr hNm => ?_
  obtain ⟨t0, ht0⟩ := List.getElem?_of_mem hc
  have hRA := (hK.2 t0 _ ht0).2
  have hcA : cA = cA0 := by
    cases at0 <;> exact Option.some.inj (hNm.symm.trans hRA)
  subst hcA
  have hP1 : gP g.1 (gup h H.size (.inl (cA, a0))) H1 := by
    intro a x hx
    by_cases hq : a = H.size
    · subst hq
      rw [gup_s] at hx
      cases hx
      show H1[H.size]? = some (vp_cell _ _)
      rw [ha]
      exact e1
    · rw [gup_n h _ hq] at hx
      exact (hP a x hx).kept (o1 a (hP.lt hx))
  exact K H.size hP.fresh (Nat.le_trans hSt.1.1 hS.1) p e s m args below meth c C H1 locs hP1 (hD.up (Or.inr hS.1)) ⟨Nat.le_trans hS.1 (by omega), fun x h1 h2 => (o1 x (Nat.lt_of_lt_of_le h1 hS.1)).trans (hS.2.1 x h1 h2), hS.2.2⟩ ls hl
/-- a new object -/
theorem gw_new {ci N : Nat} {CN : String} {T : u_T} {fs : List Value} (hd : decode I.2.1 pc = .ok (.new idx, 3)) (hc : gCL[ci]? = some (CN, T, N)) (hlk : Cond.classLink I.1.cls idx CN ∈ gWS) (hinst : Cond.instantiable CN N ∈ gWS) (hini : Cond.initialized CN ∈ gWS) (hfs : ∀ j, j < N → defaultValue (gTY ci j) = vp_V fs j) (hcells : k + 1 ≤ R.cells) (hslots : n + N ≤ R.slots)
    (K : ∀ q : Nat, h q = none → gsz g ≤ q → gw l g I R h0 Z (k + 1) (n + N) (pc + 3) lv (.ref q :: st) (gup h q (.inr (ci, fs)))) : gw l g I R h0 Z k n pc lv st h := by
  intro p e s m args below meth c C H locs hP hD hS ls hl
  obtain ⟨hx, hb, hml, hown, hts, hK, hlocks, hr, hnm, hNw, hSt, hP0⟩ := id C
  obtain ⟨hin, hty, -⟩ := gCL_ok hc
  have hKn := hK.1 ci _ hc
  refine W.newcK hx hb hown (hts _ hlk) (hts _ hinst) (hts _ hini) rfl hd hcells hslots hKn.2.1 rfl fun H1 kC hkC e1 z1 o1 => ?_
  have hP1 : gP g.1 (gup h H.size (.inr (ci, fs))) H1 := by
    intro a x hx
    by_cases hq : a = H.size
    · subst hq
      rw [gup_s] at hx
      cases hx
      exact ⟨_, hc, (u_born (gTY ci) hts hin hKn hkC e1 hty).to hfs⟩
    · rw [gup_n h _ hq] at hx
      exact (hP a x hx).kept (o1 a (hP.lt hx))
  exact K H.size hP.fresh (Nat.le_trans hSt.1.1 hS.1) p e s m args below meth c C H1 locs hP1 (hD.up (Or.inr hS.1)) ⟨Nat.le_trans hS.1 (by omega), fun x h1 h2 => (o1 x (Nat.lt_of_lt_of_le h1 hS.1)).trans (hS.2.1 x h1 h2), hS.2.2⟩ ls hl
theorem gw_widen {k2 n2 : Nat} (h1 : k ≤ k2) (h2 : n ≤ n2) (K : gw l g I R h0 Z k2 n2 pc lv st h) : gw l g I R h0 Z k n pc lv st h :=
  fun p e s m args below meth c C H locs hP hD hS ls hl => W.widen h1 h2 (K p e s m args below meth c C H locs hP hD hS ls hl)
/-- Object's own constructor -/
theorem gw_obj {a : Nat} (hd : decode I.2.1 pc = .ok (.invokespecial idx, 3)) (hlk : Cond.methodLink I.1.cls idx Lib.objectInit ∈ gWS) (hst : Cond.instanceMethod Lib.objectInit ∈ gWS) (hj : Cond.code Lib.objectInit ⟨#[0xb1]⟩ 1 none ∈ gWS) (hR : 1 ≤ R.frames ∧ (r.map fun v => v.category).sum + 12 ≤ R.locals) (K : gw l g I R h0 Z k n (pc + 3) lv r h) : gw l g I R h0 Z k n pc lv (.ref a :: r) h := by
  intro p e s m args below meth c C H locs hP hD hS ls hl
  obtain ⟨hx, hb, hml, hown, hts, hK, hlocks, hr, hnm, hNw, hSt, hP0⟩ := id C
  exact W.objInit hx hb hown (hts _ hlk) (hts _ hst) (hts _ hj) rfl (by rw [hml]; exact hl.1) rfl hd hR.1 (by show 2 * 0 + _ + 12 ≤ _; omega) (K p e s m args below meth c C H locs hP hD hS ls hl)
theorem gw_mmax {x y : Int32} (hd : decode I.2.1 pc = .ok (.invokestatic idx, 3)) (hlk : Cond.methodLink I.1.cls idx Lib.Math.max.name ∈ gWS) (hst : Cond.static Lib.Math.max.name ∈ gWS) (hini : Cond.initialized "java/lang/Math" ∈ gWS) (hj : Cond.code Lib.Math.max.name Lib.Math.max.code 2 (some .int) ∈ gWS) (hR : 1 ≤ R.frames ∧ (r.map fun v => v.category).sum + 13 ≤ R.locals) (hc : k ≤ R.cells ∧ n ≤ R.slots) (K : gw l g I R h0 Z k n (pc + 3) lv (.int (if x < y then y else x) :: r) h) : gw l g I R h0 Z k n pc lv (.int y :: .int x :: r) h := by
  intro p e s m args below meth c C H locs hP hD hS ls hl
  obtain ⟨hx, hb, hml, hown, hts, hK, hlocks, hr, hnm, hNw, hSt, hP0⟩ := id C
  exact va_mmax hx hb (by rw [hml]; exact hl.1.symm) hown (hts _ hlk) (hts _ hst) (hts _ hini) (hts _ hj) hR.1 hR.2 hc.1 hc.2 hd (K p e s m args below meth c C H locs hP hD hS ls hl)
theorem gw_mmin {x y : Int32} (hd : decode I.2.1 pc = .ok (.invokestatic idx, 3)) (hlk : Cond.methodLink I.1.cls idx Lib.Math.min.name ∈ gWS) (hst : Cond.static Lib.Math.min.name ∈ gWS) (hini : Cond.initialized "java/lang/Math" ∈ gWS) (hj : Cond.code Lib.Math.min.name Lib.Math.min.code 2 (some .int) ∈ gWS) (hR : 1 ≤ R.frames ∧ (r.map fun v => v.category).sum + 13 ≤ R.locals) (hc : k ≤ R.cells ∧ n ≤ R.slots) (K : gw l g I R h0 Z k n (pc + 3) lv (.int (if y < x then y else x) :: r) h) : gw l g I R h0 Z k n pc lv (.int y :: .int x :: r) h := by
  intro p e s m args below meth c C H locs hP hD hS ls hl
  obtain ⟨hx, hb, hml, hown, hts, hK, hlocks, hr, hnm, hNw, hSt, hP0⟩ := id C
  exact va_mmin hx hb (by rw [hml]; exact hl.1.symm) hown (hts _ hlk) (hts _ hst) (hts _ hini) (hts _ hj) hR.1 hR.2 hc.1 hc.2 hd (K p e s m args below meth c C H locs hP hD hS ls hl)
theorem gw_ldc {x : Int32} (hd : decode I.2.1 pc = .ok (.ldc idx, 2)) (hf : gKi I.1.cls idx = some x) (K : gw l g I R h0 Z k n (pc + 2) lv (.int x :: st) h) : gw l g I R h0 Z k n pc lv st h := by
  intro p e s m args below meth c C H locs hP hD hS ls hl
  obtain ⟨hx, hb, hml, hown, hts, hK, hlocks, hr, hnm, hNw, hSt, hP0⟩ := id C
  exact lv_ldc hx hb hown (hts _ (gKi_ok hf)) hd (K p e s m args below meth c C H locs hP hD hS ls hl)
theorem gw_ldc2 {x : Int64} (hd : decode I.2.1 pc = .ok (.ldc2_w idx, 3)) (hf : gKl I.1.cls idx = some x) (K : gw l g I R h0 Z k n (pc + 3) lv (.long x :: st) h) : gw l g I R h0 Z k n pc lv st h := by
  intro p e s m args below meth c C H locs hP hD hS ls hl
  obtain ⟨hx, hb, hml, hown, hts, hK, hlocks, hr, hnm, hNw, hSt, hP0⟩ := id C
  exact lv_ldc2 hx hb hown (hts _ (gKl_ok hf)) hd (K p e s m args below meth c C H locs hP hD hS ls hl)
theorem gw_ldcw {x : Int32} (hd : decode I.2.1 pc = .ok (.ldc_w idx, 3)) (hf : gKi I.1.cls idx = some x) (K : gw l g I R h0 Z k n (pc + 3) lv (.int x :: st) h) : gw l g I R h0 Z k n pc lv st h := by
  intro p e s m args below meth c C H locs hP hD hS ls hl
  obtain ⟨hx, hb, hml, hown, hts, hK, hlocks, hr, hnm, hNw, hSt, hP0⟩ := id C
  exact lv_ldcw hx hb hown (hts _ (gKi_ok hf)) hd (K p e s m args below meth c C H locs hP hD hS ls hl)
end GN
