/-! THROWING. The search for a handler while its names are not yet resolved; a walk taken up anew at the state that it has come to. -/
section TH
variable {E : CtlPost} {e : Env} {d : Bool} {acts : List Action} {s : State} {f : JFrame} {a : Addr} {Q : Handler → Pre}
theorem th_cold {x : ExceptionTableEntry} {t : List ExceptionTableEntry} {c : ClassId} {cell : Cell} {vm' : Vm} (hx : covers x f.pc = true) (h0 : x.catchType ≠ 0)
    (hg : (Jvm.resolveClass f.method.cls x.catchType).Gives e.toSetting s.vm (.ok c) vm') (hsz : vm'.classes.size ≤ s.vm.classes.size) (hcell : s.heap[a]? = some cell) (hobj : ∀ k, cell.vm ≠ .statics k)
    (hk : ∃ k, vm'.classes[cell.cls]? = some k) (hc : ∃ k, vm'.classes[c]? = some k) :
    wp (findHandler.go f a (x :: t)) Q E e d acts s ↔ if vm'.assignable cell.cls c = true then Q (.found x.handlerPc) d acts (s.setVm vm') else wp (findHandler.go f a t) Q E e d acts (s.setVm vm') := by
  simp only [covers] at hx
  obtain ⟨ha, ht⟩ := hg.op (op := VmOp.resolveClass f.method.cls x.catchType) rfl
  cases hfit : vm'.assignable cell.cls c <;> simp [findHandler.go, hx, h0, ha, ht, hsz, hcell, hobj, hk, hc, hfit, VmOp.dirties, VmOp.acts]
/-- the search ends at the handler pc, and leaves these tables -/
def th_F (e : Env) (s : State) (f : JFrame) (a : Addr) (t : List ExceptionTableEntry) (pc : Nat) (vm' : Vm) : Prop := ∀ (Q : Handler → Pre) (E : CtlPost) (d : Bool) (acts : List Action), wp (findHandler.go f a t) Q E e d acts s ↔ Q (.found pc) d acts (s.setVm vm')
theorem th_step {meth : Method} {code : Code} {r : List Frame} {pc : Nat} {vm' : Vm} (hm : s.vm.method? f.method = some meth) (hc : meth.code = some code) (h : th_F e s f a code.exceptionTable.toList pc vm') :
    (stepThrowing e s a (.java f :: r)).Is ((s.setVm vm').setFrames (.java { f with pc := pc, stack := [.ref a] } :: r)) [] := by
  have hfind : ∀ (Q : Handler → Pre) (E : CtlPost) (d : Bool) (acts : List Action), wp (findHandler f a) Q E e d acts s ↔ Q (.found pc) d acts (s.setVm vm') := fun Q E d acts => by
    rw [Jvm.W.findHandler_eq hm hc]
    exact h Q E d acts
  simp only [stepThrowing, searchFrame, vmDo]
  generalize hr : Sem.go _ e false [] s = res
  obtain ⟨as, rfl, ha⟩ := Sem.eq_ok_of hr (a := Handler.found pc) (s' := s.setVm vm') (acts' := []) (by simp [hfind _ _ _ _])
  exact ⟨rfl, ha⟩
theorem th_caught {tb : Tables} {g : JFrame} {c : Code} {below : List Frame} {target : State} (h : At s g.method c below) {meth : Method} {code : Code} {pc : Nat} {vm' : Vm} (hm : s.vm.method? g.method = some meth) (hc : meth.code = some code)
    (hF : th_F e ((s.setTop g).pushFrame (.throwing a)) g a code.exceptionTable.toList pc vm') (hrest : Steps tb e below ((s.setVm vm').setTop { g with pc := pc, stack := [.ref a] }) target) :
    Steps tb e below ((s.setTop g).pushFrame (.throwing a)) target := by
  obtain ⟨hgo, hw⟩ := h.throwing a
  refine Steps.head hgo hw ?_
  rw [stepThread_throwing (frames_entered h.top _), (th_step (s := (s.setTop g).pushFrame (.throwing a)) (meth := meth) (code := code) (by rw [Stand.throwing_vm]; exact hm) hc hF).1]
  obtain ⟨g₀, hg⟩ := Option.isSome_iff_exists.mp h.top
  obtain ⟨r, hr⟩ := State.topJava?_eq_some.mp hg
  have hr2 : (s.setVm vm').frames = .java g₀ :: r := hr
  rw [State.setTop_of_frames _ hr2] at hrest
  show Steps tb e below ((((s.setTop g).pushFrame (.throwing a)).setFrames (.java { g with pc := pc, stack := [.ref a] } :: s.frames.tail)).setVm vm') target
  rw [State.pushFrame, State.setFrames_setFrames, State.setTop_of_frames _ hr, State.setFrames_setFrames, hr]
  exact hrest
theorem th_link {v : Vm} {args : Array Value} {own name : String} {d idx : Nat} {cT : ClassId} (hW : s.WarmedH v) (hpl : e.platform.magicAccessors = ({} : Platform).magicAccessors) (hown : s.vm.findClass own = some d) (hlink : (Cond.classLink own idx name).before args s = true) (hcT : s.vm.findClass name = some cT) :
    (Jvm.resolveClass d idx).Gives e.toSetting v (.ok cT) (v.noted d idx (.cls cT)) ∧ s.WarmedH (v.noted d idx (.cls cT)) ∧ (v.noted d idx (.cls cT)).classes.size ≤ v.classes.size ∧ ∃ k, (v.noted d idx (.cls cT)).classes[cT]? = some k := by
  obtain ⟨c', hc', hcl⟩ := Cond.classLink_spec hown hlink e.platform hpl
  cases hcT.symm.trans hc'
  obtain ⟨dk, _, _, kt, hd, _, _, _, _, hkt, _, hop⟩ := id hcl.here
  have hcl₀ := hW.classLinks hcl
  have hW' : s.WarmedH (v.noted d idx (.cls cT)) := hW.noted hd hop (State.rightAt_cls hcl)
  obtain ⟨kt', hkt', -⟩ := hW'.alike.2.2 _ _ hkt
  exact ⟨resolveClass_links e.toSetting hcl₀, hW', by simp [Vm.noted], kt', hkt'⟩
variable {U : State} {g : JFrame} {args : Array Value} {own name : String} {idx : Nat} {cT : ClassId} {x : ExceptionTableEntry} {t : List ExceptionTableEntry} {cell : Cell}
theorem th_found (hW : s.WarmedH U.vm) (hpl : e.platform.magicAccessors = ({} : Platform).magicAccessors) (hown : s.vm.findClass own = some g.method.cls) (hlink : (Cond.classLink own idx name).before args s = true) (hcT : s.vm.findClass name = some cT)
    (hx : covers x g.pc = true) (hidx : x.catchType = idx) (h0 : idx ≠ 0) (hcell : U.heap[a]? = some cell) (hobj : cell.vm.isStatics = false) (hk : ∃ k, s.vm.classes[cell.cls]? = some k) (hasg : s.vm.assignable cell.cls cT = true) :
    th_F e U g a (x :: t) x.handlerPc (U.vm.noted g.method.cls idx (.cls cT)) := by
  intro Q E d acts
  subst hidx
  obtain ⟨h1, h2, h3, h4⟩ := th_link (e := e) (s := s) hW hpl hown hlink hcT
  obtain ⟨k, hk⟩ := hk
  obtain ⟨k', hk', -⟩ := h2.alike.2.2 _ _ hk
  rw [th_cold hx h0 h1 h3 hcell (VmData.ne_statics_of hobj) ⟨k', hk'⟩ h4, if_pos (by rw [h2.alike.assignable]; exact hasg)]
theorem th_pass {pc : Nat} {vm2 : Vm} (hW : s.WarmedH U.vm) (hpl : e.platform.magicAccessors = ({} : Platform).magicAccessors) (hown : s.vm.findClass own = some g.method.cls) (hlink : (Cond.classLink own idx name).before args s = true) (hcT : s.vm.findClass name = some cT)
    (hx : covers x g.pc = true) (hidx : x.catchType = idx) (h0 : idx ≠ 0) (hcell : U.heap[a]? = some cell) (hobj : cell.vm.isStatics = false) (hk : ∃ k, s.vm.classes[cell.cls]? = some k) (hasg : s.vm.assignable cell.cls cT = false)
    (K : th_F e (U.setVm (U.vm.noted g.method.cls idx (.cls cT))) g a t pc vm2) : th_F e U g a (x :: t) pc vm2 := by
  intro Q E d acts
  subst hidx
  obtain ⟨h1, h2, h3, h4⟩ := th_link (e := e) (s := s) hW hpl hown hlink hcT
  obtain ⟨k, hk⟩ := hk
  obtain ⟨k', hk', -⟩ := h2.alike.2.2 _ _ hk
  rw [th_cold hx h0 h1 h3 hcell (VmData.ne_statics_of hobj) ⟨k', hk'⟩ h4, if_neg (by rw [h2.alike.assignable, hasg]; decide)]
  exact K Q E d acts
end TH
section TS
variable {p : Program} {l : Launch} {e : Env} {R : Room} {s : State} {m : MethodId} {args : Array Value} {below : List Frame} {meth : Method} {c : Code} {T : State} {locs : List Loc} {cells slots : Nat}
theorem th_base (X : Stand p l e R s m args below meth c T locs cells slots) {kc ns : Nat} (hc : cells + kc ≤ R.cells) (hn : slots + ns ≤ R.slots) :
    Stand p l e { R with cells := kc, slots := ns } (T.setFrames (.invoking m args :: below)) m args below meth c T [] 0 0 := by
  obtain ⟨g₀, hfr⟩ := X.frames_eq
  have hcur : T.cur < T.threads.size := State.cur_lt_of_frames hfr
  have hal : s.vm.Alike T.vm := X.warmed.alike
  have hF : (T.setFrames (.invoking m args :: below)).frames = .invoking m args :: below := State.frames_setFrames _ hcur
  have hm' : (T.setFrames (.invoking m args :: below)).vm.method? m = some meth := X.method'
  have hmeth : ∀ mm : MethodId, (T.setFrames (.invoking m args :: below)).vm.method? mm = s.vm.method? mm := fun mm => hal.method? mm
  have hcode : ∀ mm : MethodId, (T.setFrames (.invoking m args :: below)).code? mm = s.code? mm := fun mm => by
    rw [State.code?_eq, State.code?_eq, hmeth]
  have hU : (T.setFrames (.invoking m args :: below)).localsInUse = s.localsInUse := by
    rw [State.localsInUse_invoking hF hm' X.code, State.localsInUse_invoking X.frames X.method X.code]
  have hroom : (T.setFrames (.invoking m args :: below)).hasRoom e.platform { R with cells := kc, slots := ns } = true := by
    have h := X.room
    have hz := X.heapSize
    have hu := X.used
    have hb := X.book
    simp only [State.hasRoom, Bool.and_eq_true, decide_eq_true_eq, X.frames] at h
    simp only [State.hasRoom, Bool.and_eq_true, decide_eq_true_eq, hF, hU, State.stackLimits_setFrames, State.stackBytes_setFrames, X.limits, X.bytes]
    refine ⟨⟨⟨h.1.1.1, ?_⟩, ?_⟩, hb⟩
    · have := h.1.1.2
      show T.heap.size + kc ≤ _
      omega
    · have := h.1.2
      show T.slotsUsed + ns ≤ _
      omega
  have hhears : (T.setFrames (.invoking m args :: below)).hears m below = true := by
    have h := X.hears
    cases hb : below with
    | nil => rw [hb] at h hmeth; simp only [State.hears] at h ⊢; rw [hmeth]; exact h
    | cons f r =>
      rw [hb] at h hmeth hcode
      cases f <;> simp only [State.hears] at h ⊢ <;> first | (rw [hcode]; exact h) | (rw [hmeth]; exact h) | exact h
  have hsame : (T.setFrames (.invoking m args :: below)).sameButNew (T.setVm (T.setFrames (.invoking m args :: below)).vm) [] 0 0 := by
    have hd : T.heap.toList.drop T.heap.size = [] := List.drop_eq_nil_of_le (by simp)
    obtain ⟨tt, ht, -⟩ := State.frames_cons hfr
    refine ⟨?_, Nat.le_refl _, Nat.le_refl _, ?_, ?_, fun a c hc => ⟨c, hc, rfl, rfl, fun _ _ => rfl⟩⟩
    · show T = ({ (T.setFrames (.invoking m args :: below)).setFrames T.frames with heap := T.heap, slotsUsed := T.slotsUsed } : State)
      rw [State.setFrames_setFrames, State.setFrames_self ht]
    · show T.slotsUsed = T.slotsUsed + ((T.heap.toList.drop T.heap.size).map (·.slots.size)).sum
      rw [hd]
      rfl
    · show ((T.heap.toList.drop T.heap.size).map (·.slots.size)).sum ≤ 0
      rw [hd]
      exact Nat.le_refl _
  exact ⟨X.admits, X.cas, X.clock, hF, hroom, hhears, hm', X.code, X.here, X.tail, State.WarmedH.refl _, by rw [State.stackLimits_setFrames], by rw [State.stackBytes_setFrames], hsame⟩
end TS
