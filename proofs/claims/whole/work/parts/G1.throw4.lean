/-! Which handler is found; the call of a throwing method of an object of ours; methods with handlers. -/
section GTD
variable {l : Launch} {g : gG} {I J : gI} {R rm : Room} {h0 h : gH} {Z : gZ} {k n pc idx : Nat} {lv : gV} {st r as : List Value} {tab : List (Nat × Nat × Nat × Nat)} {X : String} {Q : gH → Prop}
theorem gFind_1 {hpc a0 b0 ix : Nat} (ha : a0 ≤ pc) (hb0 : pc < b0) (h9 : ix ≠ 0) (hlk : Cond.classLink I.1.cls ix X ∈ gWS) : gFind l g I h0 ((a0, b0, hpc, ix) :: tab) pc X hpc := by
  intro p e s m args meth c C hE R below T locs cells slots X1 f x ce hf hfp hcell hobj hcls
  obtain ⟨hx, hb, hml, hown, hts, hK, hlocks, hr, hnm, hNw, hSt, hP0⟩ := id C
  have ht := hE m args below meth c X1.frames X1.method X1.code
  have hpl : e.platform.magicAccessors = ({} : Platform).magicAccessors := by rw [X1.admits.platform]
  cases hc : c.exceptionTable.toList with
  | nil => rw [hc] at ht; cases ht
  | cons y ys =>
    rw [hc] at ht
    have h1 := (List.cons.inj ht).1
    simp only [Prod.mk.injEq] at h1
    obtain ⟨e1, e2, e3, e4⟩ := h1
    have g3 : s.vm.assignable ce.cls ce.cls = true := va_asg _ _
    subst hf
    have hWu : s.WarmedH ((T.setTop f).pushFrame (.throwing x)).vm := by rw [Stand.throwing_vm]; exact X1.warmed
    refine ⟨((T.setTop f).pushFrame (.throwing x)).vm.noted f.method.cls ix (.cls ce.cls), (th_link (e := e) hWu hpl hown (hts _ hlk) hcls).2.1, fun target hr => ?_⟩
    refine th_caught X1.here X1.method' X1.code ?_ hr
    rw [hc, ← e3]
    exact th_found hWu hpl hown (hts _ hlk) hcls (by rw [hfp, covers, e1, e2]; simp [ha, hb0]) e4 h9 (by rw [Stand.throwing_heap]; exact hcell) hobj (Vm.classAt_of_findClass hcls) g3
theorem gFind_2 {hpc p1 a0 b0 a1 b1 ix1 ix2 : Nat} (ha : a0 ≤ pc) (hb0 : pc < b0) (ha1 : a1 ≤ pc) (hb1 : pc < b1) (h8 : ix1 ≠ 0) (h9 : ix2 ≠ 0) (hlk1 : Cond.classLink I.1.cls ix1 thAn ∈ gWS) (hlk : Cond.classLink I.1.cls ix2 thXn ∈ gWS) : gFind l g I h0 ((a0, b0, p1, ix1) :: (a1, b1, hpc, ix2) :: tab) pc thXn hpc := by
  intro p e s m args meth c C hE R below T locs cells slots X1 f x ce hf hfp hcell hobj hcls
  obtain ⟨hx, hb, hml, hown, hts, hK, hlocks, hr, hnm, hNw, hSt, hP0⟩ := id C
  have ht := hE m args below meth c X1.frames X1.method X1.code
  have hpl : e.platform.magicAccessors = ({} : Platform).magicAccessors := by rw [X1.admits.platform]
  cases hc : c.exceptionTable.toList with
  | nil => rw [hc] at ht; cases ht
  | cons y ys =>
    rw [hc] at ht
    have h1 := (List.cons.inj ht).1
    have ht2 := (List.cons.inj ht).2
    cases ys with
    | nil => cases ht2
    | cons z zs =>
      have h2 := (List.cons.inj ht2).1
      simp only [Prod.mk.injEq] at h1 h2
      obtain ⟨e1, e2, e3, e4⟩ := h1
      obtain ⟨f1, f2, f3, f4⟩ := h2
      have g3 : s.vm.assignable ce.cls ce.cls = true := va_asg _ _
      obtain ⟨d1, k1, -⟩ := Cond.classLink_spec hown (hts _ hlk1) e.platform hpl
      have hno : s.vm.assignable ce.cls d1 = false := hSt.2.2.2.2.2.2 _ _ hcls k1
      subst hf
      have hWu : s.WarmedH ((T.setTop f).pushFrame (.throwing x)).vm := by rw [Stand.throwing_vm]; exact X1.warmed
      have hW1 := (th_link (e := e) hWu hpl hown (hts _ hlk1) k1).2.1
      refine ⟨(((T.setTop f).pushFrame (.throwing x)).vm.noted f.method.cls ix1 (.cls d1)).noted f.method.cls ix2 (.cls ce.cls), (th_link (e := e) hW1 hpl hown (hts _ hlk) hcls).2.1, fun target hr => ?_⟩
      refine th_caught X1.here X1.method' X1.code ?_ hr
      rw [hc, ← f3]
      refine th_pass hWu hpl hown (hts _ hlk1) k1 (by rw [hfp, covers, e1, e2]; simp [ha, hb0]) e4 h8 (by rw [Stand.throwing_heap]; exact hcell) hobj (Vm.classAt_of_findClass hcls) hno ?_
      exact th_found (U := ((T.setTop f).pushFrame (.throwing x)).setVm (((T.setTop f).pushFrame (.throwing x)).vm.noted f.method.cls ix1 (.cls d1))) hW1 hpl hown (hts _ hlk) hcls (by rw [hfp, covers, f1, f2]; simp [ha1, hb1]) f4 h9 (by show ((T.setTop f).pushFrame (.throwing x)).heap[x]? = _; rw [Stand.throwing_heap]; exact hcell) hobj (Vm.classAt_of_findClass hcls) g3
/-- the run of a call of a throwing method of an object of ours -/
theorem gRun_T {b ci N : Nat} {T : u_T} {fs : List Value} (hd : decode I.2.1 pc = .ok (.invokevirtual idx, 3)) (hC : gT l g J rm (.ref b :: as) h X Q) (hb9 : h b = some (.inr (ci, fs))) (hc9 : gCL[ci]? = some (J.1.cls, T, N))
    (hj : Cond.code J.1 J.2.1 J.2.2.1 J.2.2.2 ∈ gWS) (hlk : Cond.methodLink I.1.cls idx J.1 ∈ gWS) (hst : Cond.instanceMethod J.1 ∈ gWS) (hsel : Cond.selects J.1.cls J.1 J.1 ∈ gWS) (hini : Cond.initialized J.1.cls ∈ gWS)
    (hdd : J.1.cls ≠ "java/lang/invoke/MethodHandle" ∧ J.1.cls ≠ "java/lang/invoke/VarHandle" ∧ (parseMethodDescriptor J.1.desc).map (fun d => d.parameters.length) = some as.length)
    (hR : rm.frames + 1 ≤ R.frames ∧ 8 + (J.2.2.1 + 11) + rm.locals ≤ R.locals) (hrest : (r.map fun v => v.category).sum ≤ 8) (hroom : k + rm.cells ≤ R.cells ∧ n + rm.slots ≤ R.slots) :
    ∀ (p : Program) (e : Env) (s : State) (m : MethodId) (args : Array Value) (below : List Frame) (meth : Method) (c : Code), gx g I h0 p s m args meth c → gLh (gA h0 s.heap.size) s → ∀ (H : Heap) (locs : List Loc), gP g.1 h H → gD (gA h0 s.heap.size) h → va_S (gA h0 s.heap.size) s.heap H locs → ∀ ls : Array Slot, lv_has ls I.2.2.1 (gL lv) → gRun p l e R s m args below meth c H locs k n rm.cells rm.slots (F0 m pc ls (as.reverse ++ .ref b :: r)) r (gQt g h X Q) (gA h H.size) := by
  intro p e s m args below meth c C hLs H locs hP hD hS ls hl
  obtain ⟨hx, hb, hml, hown, hts, hK, hlocks, hr, hnm, hNw, hSt, hP0⟩ := id C
  have hG : GoodIn gWS (wsV I.1.cls idx J.1.cls J.1 (.code J.1 J.2.1 J.2.2.1 J.2.2.2 :: gWS)) := by
    intro w hw
    rcases List.mem_append.mp hw with hw | hw
    · simp only [List.mem_cons, List.not_mem_nil, or_false] at hw
      rcases hw with rfl | rfl | rfl | rfl
      · exact ⟨hlk, gWS_good _ hlk⟩
      · exact ⟨hst, gWS_good _ hst⟩
      · exact ⟨hsel, gWS_good _ hsel⟩
      · exact ⟨hini, gWS_good _ hini⟩
    · exact gGood hj w hw
  exact gRun_V (free := fun z => gA h z) (bytes := J.2.1) (maxL := J.2.2.1) (ret := J.2.2.2) (nA := as.length) (C := J.1.cls) (hC H.size) ⟨hx, hb, hml, hown, hts⟩ (cwV as.length hts hG rfl rfl rfl ⟨rfl, hdd⟩ hR) ⟨gBlindT, va_recv hK (hP.one hb9) (ci := ci) (q0 := 0) hc9 rfl, gPreT C hLs hP hD hS⟩ rfl rfl hl.1 rfl (by show 2 * 0 + _ ≤ 8; omega) hd hroom
/-- a contract of a method that has handlers, and returns -/
def gCW (l : Launch) (g : gG) (I : gI) (tab : List (Nat × Nat × Nat × Nat)) (rm : Room) (as : List Value) (h0 : gH) (Q : Option Value → gH → Prop) : Prop :=
  ∀ sz : Nat, Met l I.1 (.codeWith I.1 I.2.1 I.2.2.1 I.2.2.2 tab :: gWS) rm (va_Pc as (fun U => U.heap.size = sz ∧ gP g.1 h0 U.heap ∧ va_K g.1 gCL g.2.1 U ∧ (∀ w ∈ gNW, va_Nw w U) ∧ gSt g (gA h0 sz) U ∧ gLh (gA h0 sz) U)) (gQ g h0 Q) rm.cells rm.slots (gA h0 sz)
theorem gCW_of {mc ms : Nat} {lv0 : gV} {Q : Option Value → gH → Prop} (hpn : plainName J.1.cls = true) (hlen : (lg_sl as).length ≤ J.2.2.1) (hlv : ∀ q ∈ gL lv0, q ∈ lv_args 0 as) (hrm : rm.cells = mc ∧ rm.slots = ms) (body : gw l g J rm h (gZl h (gZe tab (gZm g h mc ms Q))) 0 0 0 lv0 [] h) : gCW l g J tab rm as h Q := by
  obtain ⟨rfl, rfl⟩ := hrm
  intro sz
  refine va_MetW (cc := J.2.1) (maxL := J.2.2.1) (ret := J.2.2.2) (hh := tab) hpn rfl ?_
  intro p e s m args below meth c s₁ B hml hv
  obtain ⟨rfl, hsz, hP, hK, hNw, hSt, hLs⟩ := hv
  subst hsz
  have hts := atoms_spec (ws := Cond.codeWith J.1 J.2.1 J.2.2.1 J.2.2.2 tab :: gWS) B.pre
  have hown : s.vm.findClass J.1.cls = some m.cls := findClass_of_methodNamed B.named
  have hl := lv_entry as (n := J.2.2.1) hlen
  have hE : gEx s tab := by
    intro m' args' below' meth' c' q1 q2 q3
    rw [B.frames] at q1
    cases q1
    obtain ⟨m9, meth2, c2, h9, h1, h2, -, -, h7, -⟩ := Cond.codeWith_spec (hts _ List.mem_cons_self)
    cases B.named.symm.trans h9
    cases q2.symm.trans h1
    rw [Option.some.inj (q3.symm.trans h2)]
    exact h7
  rw [lg_entry_eq]
  intro T hT X1
  obtain ⟨t, a1, b1⟩ := body p e s m _ below meth c ⟨B.exec, B.bytes, hml, hown, fun w hw => hts w (List.mem_cons_of_mem _ hw), hK, B.notSynchronized, B.returns, (name_of_methodNamed B.named B.method).1, hNw, hSt, hP⟩ s.heap [] hP (fun a x hx => Or.inl ⟨x, hx⟩) va_S.rf _ ⟨hl.1, hl.2.1, fun q hq => hl.2.2 q (hlv q hq)⟩ T hT X1
  exact ⟨t, a1, b1 hLs hE⟩
theorem gRun_SW {p : Program} {e : Env} {s : State} {m : MethodId} {args : Array Value} {below : List Frame} {meth : Method} {c : Code} {H : Heap} {locs : List Loc} {cells slots nL index nA mc ms : Nat} {cc bytes : ByteArray} {maxL : Nat} {ret : Option FieldType} {ws Ts : List Cond} {own : String} {y : MethodName} {As rest : List Value} {f : JFrame} {Pc : Array Value → State → Prop} {Qc : Array Value → State → Outcome → State → Prop} {free : Addr → Prop}
    (S : CallFix p m c cc nL s args Ts own) (hM : Met l y ws rm Pc Qc mc ms free) (hrc : rm.cells = mc) (hrs : rm.slots = ms) (hfr : rm.frames + 1 ≤ R.frames) (hlo : 8 + (maxL + 11) + rm.locals ≤ R.locals)
    (hws : ∀ w ∈ ws, ∀ (a' : Array Value) (U : State), s.WarmedH U.vm → w.before a' U = true) (hcw : Cond.codeWith y bytes maxL ret tab ∈ ws) (hini : (Cond.initialized y.cls).before args s = true) (hy : y.cls ≠ "java/lang/invoke/MethodHandle" ∧ y.cls ≠ "java/lang/invoke/VarHandle")
    (hlen : ∀ sig, parseMethodDescriptor y.desc = some sig → nA = sig.parameters.length) (hl : (Cond.methodLink own index y).before args s = true) (hstt : (Cond.static y).before args s = true) (hp : PreS s H Pc As)
    (hg : f.method = m) (hn : As.length = nA) (hsize : f.locals.size = nL) (hstack : f.stack = As.reverse ++ rest) (hW : 2 * f.monitorRoom + (rest.map fun v => v.category).sum ≤ 8) (hdg : decode cc f.pc = .ok (.invokestatic index, 3)) (hf : cells + mc ≤ R.cells ∧ slots + ms ≤ R.slots) :
    va_Run p l e R s m args below meth c H locs cells slots mc ms f rest (Qc As.toArray) free := by
  have hK : Back l R p e below s args y 3 8 (PreOf R mc ms Pc) (PostOf Qc mc ms free) := va_backW (hh := tab) (bytes := bytes) (maxL := maxL) (ret := ret) hM hp.1 hrc hrs hfr hlo hws hcw (fun a' U hW => word_at hW (Or.inl (by first | rfl | simp [Cond.onTables, Cond.keeps, Cond.steady])) hini)
  obtain ⟨hx, hb, hml, ho, -⟩ := S
  intro T hT X
  have hcode : (Cond.codeWith y bytes maxL ret tab).before args s = true := hws _ hcw args s (State.WarmedH.refl s)
  obtain ⟨mk, methM, cM, hnamed, hmethM, -, -, -, -, -, -, hsigM⟩ := Cond.codeWith_spec hcode
  have hstatic : methM.isStatic = true := Cond.static_spec hnamed hmethM hstt
  obtain ⟨kP, hkP, -⟩ := className_of_methodNamed hnamed
  have hinitP : kP.init = .initialized := Cond.initialized_spec (findClass_of_methodNamed hnamed) hkP hini
  obtain ⟨vm₁, X₁, hstep₁⟩ := X.invokestatic hx ho hl hnamed hmethM hstatic hkP hinitP hy (g := f) hg (argsL := As) (rest := rest) (hn.trans (hlen _ hsigM)) hstack (by rw [hb]; exact hdg)
  obtain ⟨v, ⟨U', l2, c2, s2⟩, X', ⟨g', mk', t, L, e1, e2, hq, h1, hL, h2, h3⟩, hsteps⟩ := hK m meth c ⟨T.setVm vm₁, locs, cells, slots⟩ { f with stack := rest } (.invokestatic index) mk As.toArray X₁ hg (hsize.trans hml.symm) (by rw [hb]; exact hdg) hW (X₁.named hnamed) ⟨hf.1, hf.2, hp.2 (T.setVm vm₁) hT X₁.warmed⟩
  dsimp only [Pt.U, Pt.locs, Pt.cells, Pt.slots] at X' e1 e2 h1 h2 h3 hsteps
  subst h1; subst h2; subst h3
  exact ⟨v, (T.setVm vm₁).calling g' mk' As.toArray, t, U', L, hT, X', hL, e1, e2, hq, fun target h => hstep₁ _ fun acts => by rw [doInvoke_state]; exact hsteps.trans h⟩
/-- gw_run, at one start -/
theorem gw_runS {Q : Option Value → gH → Prop} {s0 : State} (hrun : ∀ (p : Program) (e : Env) (m : MethodId) (args : Array Value) (below : List Frame) (meth : Method) (c : Code), gx g I h0 p s0 m args meth c → ∀ (H : Heap) (locs : List Loc), gP g.1 h H → gD (gA h0 s0.heap.size) h → va_S (gA h0 s0.heap.size) s0.heap H locs → ∀ ls : Array Slot, lv_has ls I.2.2.1 (gL lv) → va_Run p l e R s0 m args below meth c H locs k n rm.cells rm.slots (F0 m pc ls st) r (gQ g h Q as.toArray) (gA h H.size))
    (kk : ∀ (v : Option Value) (h' : gH), Q v h' → gw l g I R h0 Z (k + rm.cells) (n + rm.slots) (pc + 3) lv (v.toList ++ r) h') (p : Program) (e : Env) (m : MethodId) (args : Array Value) (below : List Frame) (meth : Method) (c : Code) (C : gx g I h0 p s0 m args meth c) (H : Heap) (locs : List Loc) (hP : gP g.1 h H) (hD : gD (gA h0 s0.heap.size) h) (hS : va_S (gA h0 s0.heap.size) s0.heap H locs) (ls : Array Slot) (hl : lv_has ls I.2.2.1 (gL lv)) :
    W p l e R s0 m args below meth c H locs k n (Z below args s0) (F0 m pc ls st) := by
  intro T hT X
  obtain ⟨v, st₀, t, T', L, hh, X', hL, e1, e2, ⟨⟨rr, h', hv, hq, hP', hD', hK'⟩, hz, hk⟩, stp⟩ := hrun p e m args below meth c C H locs hP hD hS ls hl T hT X
  cases hv
  rw [hh] at hz hk hD'
  have hsub := gA_sub (A := gA h0 s0.heap.size) hD hS
  have hD2 : gD (gA h0 s0.heap.size) h' := fun a x hx => hsub a (hD' a x hx)
  have hS2 : va_S (gA h0 s0.heap.size) s0.heap T'.heap (locs ++ L) := by
    refine ⟨Nat.le_trans hS.1 (by rw [e1]; exact hz), fun q h1 h2 => ?_, fun q hq => ?_⟩
    · rw [e1, hk q (Nat.lt_of_lt_of_le h1 hS.1) (fun z => h2 (hsub q z))]
      exact hS.2.1 q h1 h2
    · rcases List.mem_append.mp hq with h | h
      · exact hS.2.2 q h
      · exact hsub _ (hL q h)
  obtain ⟨t2, a1, b1⟩ := kk v h' hq p e s0 m args below meth c C T'.heap (locs ++ L) (by rw [e1]; exact hP') hD2 hS2 ls hl T' rfl X'
  exact ⟨t2, stp t2 a1, b1⟩
/-- a call of a static method that has handlers -/
theorem gw_callSW {Q : Option Value → gH → Prop} (hd : decode I.2.1 pc = .ok (.invokestatic idx, 3)) (hC : gCW l g J tab rm as h Q)
    (hj : Cond.codeWith J.1 J.2.1 J.2.2.1 J.2.2.2 tab ∈ gWS) (hlk : Cond.methodLink I.1.cls idx J.1 ∈ gWS) (hst : Cond.static J.1 ∈ gWS) (hini : Cond.initialized J.1.cls ∈ gWS)
    (hdd : J.1.cls ≠ "java/lang/invoke/MethodHandle" ∧ J.1.cls ≠ "java/lang/invoke/VarHandle" ∧ (parseMethodDescriptor J.1.desc).map (fun d => d.parameters.length) = some as.length)
    (hR : rm.frames + 1 ≤ R.frames ∧ 8 + (J.2.2.1 + 11) + rm.locals ≤ R.locals) (hrest : (r.map fun v => v.category).sum ≤ 8) (hroom : k + rm.cells ≤ R.cells ∧ n + rm.slots ≤ R.slots)
    (kk : ∀ (v : Option Value) (h' : gH), Q v h' → gw l g I R h0 (gZl h0 Z) (k + rm.cells) (n + rm.slots) (pc + 3) lv (v.toList ++ r) h') : gw l g I R h0 (gZl h0 Z) k n pc lv (as.reverse ++ r) h := by
  intro p e s m args below meth c C H locs hP hD hS ls hl T hT X1
  by_cases hLs : gLh (gA h0 s.heap.size) s
  case neg => exact ⟨_, Steps.refl _, fun z => absurd z hLs⟩
  refine gw_runS (s0 := s) (rm := rm) (Q := Q) (as := as) (fun p e m args below meth c C H locs hP hD hS ls hl => ?_) kk p e m args below meth c C H locs hP hD hS ls hl T hT X1
  obtain ⟨hx, hb, hml, hown, hts, hK, hlocks, hr, hnm, hNw, hSt, hP0⟩ := id C
  refine gRun_SW (bytes := J.2.1) (maxL := J.2.2.1) (ret := J.2.2.2) (nA := as.length) (tab := tab) ⟨hx, hb, hml, hown, hts⟩ (hC H.size) rfl rfl hR.1 hR.2 ?_ List.mem_cons_self (hts _ hini) ⟨hdd.1, hdd.2.1⟩ ?_ (hts _ hlk) (hts _ hst) ⟨gBlindT, gPreT C hLs hP hD hS⟩ rfl rfl hl.1 rfl (by show 2 * 0 + _ ≤ 8; omega) hd hroom
  · intro w hw a' U hWU
    rcases List.mem_cons.mp hw with rfl | hw
    · exact word_at hWU (gWS_good _ hj) (hts _ hj)
    · exact word_at hWU (gWS_good _ hw) (hts _ hw)
  · intro sig hsig
    have h2 := hdd.2.2
    rw [hsig] at h2
    exact (Option.some.inj h2).symm
end GTD
