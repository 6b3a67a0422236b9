/-! Contracts of throwing methods out of a walk; the call of a throwing method: passed on, or caught; methods with a table of handlers. -/
section GTC
variable {l : Launch} {g : gG} {I J : gI} {R rm : Room} {h0 h : gH} {Z : gZ} {k n pc idx : Nat} {lv : gV} {st r as : List Value} {tab : List (Nat × Nat × Nat × Nat)} {X : String} {Q : gH → Prop}
theorem gT_of {mc ms : Nat} {lv0 : gV} (hpn : plainName J.1.cls = true) (hlen : (lg_sl as).length ≤ J.2.2.1) (hlv : ∀ q ∈ gL lv0, q ∈ lv_args 0 as) (hrm : rm.cells = mc ∧ rm.slots = ms) (body : gw l g J rm h (gZl h (gZe [] (gZt g h mc ms X Q))) 0 0 0 lv0 [] h) : gT l g J rm as h X Q := by
  obtain ⟨rfl, rfl⟩ := hrm
  intro sz
  refine MetFree.of_bodyS (code := J.2.1) (maxLocals := J.2.2.1) (ret := J.2.2.2) hpn ?_ ?_
  · intro args s m h9 hn
    obtain ⟨meth, c, h1, h2, h3, h4, h5, h6, -, -⟩ := Cond.code_spec hn (atoms_spec (ws := Cond.code J.1 J.2.1 J.2.2.1 J.2.2.2 :: gWS) h9 _ List.mem_cons_self)
    exact ⟨meth, c, h1, h2, h3, h4, h5, h6⟩
  · intro p e s m args below meth c s₁ B hml hv _
    obtain ⟨rfl, hsz, hP, hK, hNw, hSt, hLs⟩ := hv
    subst hsz
    have hts := atoms_spec (ws := Cond.code J.1 J.2.1 J.2.2.1 J.2.2.2 :: gWS) B.pre
    have hown : s.vm.findClass J.1.cls = some m.cls := findClass_of_methodNamed B.named
    have hl := lv_entry as (n := J.2.2.1) hlen
    have hh0 : s₁.heap = s.heap := by rw [B.state]; rfl
    have hE : gEx s [] := by
      intro m' args' below' meth' c' q1 q2 q3
      rw [B.frames] at q1
      cases q1
      obtain ⟨meth2, c2, h1, h2, -, -, -, -, h7, -⟩ := Cond.code_spec B.named (hts _ List.mem_cons_self)
      cases q2.symm.trans h1
      have hcc : c' = c2 := Option.some.inj (q3.symm.trans h2)
      have h9 : c2.exceptionTable.size = 0 := by simpa [Array.isEmpty] using h7
      have h8 : c2.exceptionTable.toList = [] := List.eq_nil_of_length_eq_zero (by simpa using h9)
      rw [hcc, h8]
      rfl
    obtain ⟨t, a1, b1⟩ := body p e s m _ below meth c ⟨B.exec, B.bytes, hml, hown, fun w hw => hts w (List.mem_cons_of_mem _ hw), hK, B.notSynchronized, B.returns, (name_of_methodNamed B.named B.method).1, hNw, hSt, hP⟩ s.heap [] hP (fun a x hx => Or.inl ⟨x, hx⟩) va_S.rf _ ⟨hl.1, hl.2.1, fun q hq => hl.2.2 q (hlv q hq)⟩ s₁ hh0 (Stand.of_body B)
    obtain ⟨a, b2, b3, b4, L, b5, b6⟩ := b1 hLs hE
    rw [lg_entry_eq]
    exact ⟨t, .threw a, a1, b2, b3, a, rfl, b4, L, b5, b6⟩
/-- a call that ends in a throw -/
def gRun (p : Program) (l : Launch) (e : Env) (R : Room) (s : State) (m : MethodId) (args : Array Value) (below : List Frame) (meth : Method) (c : Code) (H : Heap) (locs : List Loc) (cells slots mc ms : Nat) (f : JFrame) (rest : List Value) (Qa : State → Addr → State → Prop) (free : Addr → Prop) : Prop :=
  ∀ T : State, T.heap = H → Stand p l e R s m args below meth c T locs cells slots → ∃ (x : Addr) (st₀ t T' : State) (L : List Loc), st₀.heap = H ∧ Stand p l e R s m args below meth c T' (locs ++ L) (cells + mc) (slots + ms) ∧ (∀ q ∈ L, free q.base) ∧ T'.heap = t.heap ∧ T'.vm = t.vm ∧ Qa st₀ x t ∧
    ∀ target, Steps p.tables e below ((T'.setTop { f with stack := rest }).pushFrame (.throwing x)) target → Steps p.tables e below (T.setTop f) target
theorem gRun_V {p : Program} {e : Env} {s : State} {m : MethodId} {args : Array Value} {below : List Frame} {meth : Method} {c : Code} {H : Heap} {locs : List Loc} {cells slots nL index nA : Nat} {cc bytes : ByteArray} {maxL : Nat} {ret : Option FieldType} {ws Ts : List Cond} {own C : String} {y : MethodName} {b : Addr} {As rest : List Value} {f : JFrame} {Pc : Array Value → State → Prop} {Qt : State → Addr → State → Prop} {free : Nat → Addr → Prop}
    (hM : MetFree l y (headSpec ws rm) Pc (fun _ _ _ _ _ => True) (fun _ st o t => ∃ a : Addr, o = .threw a ∧ Qt st a t ∧ ∃ L : List Loc, gFT st t L rm.cells rm.slots ∧ ∀ q ∈ L, free st.heap.size q.base))
    (S : CallFix p m c cc nL s args Ts own) (cw : CallW R s args own C index y bytes maxL ret ws rm rm.cells rm.slots nA) (hp : PreV s H C b Pc As)
    (hg : f.method = m) (hn : As.length = nA) (hsize : f.locals.size = nL) (hstack : f.stack = As.reverse ++ .ref b :: rest) (hW : 2 * f.monitorRoom + (rest.map fun v => v.category).sum ≤ 8) (hdg : decode cc f.pc = .ok (.invokevirtual index, 3)) (hf : cells + rm.cells ≤ R.cells ∧ slots + rm.slots ≤ R.slots) :
    gRun p l e R s m args below meth c H locs cells slots rm.cells rm.slots f rest Qt (free H.size) := by
  obtain ⟨⟨-, -, hfr, hlo, hws, hcw, hcode, hini, hy, hlen, hl⟩, hin, hse⟩ := cw
  obtain ⟨hx, hb, hml, ho, -⟩ := S
  obtain ⟨hbl, ⟨cellB, hcB, hoB, hclB⟩, hPc⟩ := hp
  intro T hT X
  subst hT
  obtain ⟨mk, methM, hnamed, hmethM, hstM, habM⟩ := Cond.instanceMethod_spec hin
  obtain ⟨methM', cM, hmethM', hcM, -, hlM, -, -, -, hsigM⟩ := Cond.code_spec hnamed hcode
  cases hmethM.symm.trans hmethM'
  obtain ⟨c2, r2, m2, q1, q2, q3, q4, kP, hkP, hkPi⟩ := Cond.selects_spec hse
  cases hclB.symm.trans q1
  cases (State.methodFound?_of_named hnamed hy).symm.trans q2
  cases hnamed.symm.trans q3
  have hselP : selectMethod e.platform s.vm cellB.cls mk = .method mk := by rw [Launch.admits_selectMethod X.admits]; exact q4
  obtain ⟨vm₁, X₁, hstep₁⟩ := X.invokevirtual hx ho hl hnamed hmethM hstM hkP hkPi hy (a := b) (cell := cellB) hcB
    (fun z h => by rw [h] at hoB; cases hoB) hselP hmethM habM hkP hkPi (g := f) hg (argsL := As) (rest := rest) (hn.trans (hlen _ hsigM)) hstack (by rw [hb]; exact hdg)
  have hn1 : (T.setVm vm₁).methodNamed? y = some mk := X₁.named hnamed
  have hc1 : (Cond.code y bytes maxL ret).before (Value.ref b :: As).toArray (T.setVm vm₁) = true := hws _ hcw _ _ X₁.warmed
  obtain ⟨methY, cY, hmY, hcY, -, hlY, -⟩ := Cond.code_spec hn1 hc1
  obtain ⟨kY, hkY, -⟩ := className_of_methodNamed hn1
  have hiniU : (Cond.initialized y.cls).before args (T.setVm vm₁) = true := word_at X₁.warmed (Or.inl (by first | rfl | simp [Cond.onTables, Cond.keeps, Cond.steady])) hini
  have hinitY : kY.init = .initialized := Cond.initialized_spec (findClass_of_methodNamed hn1) hkY hiniU
  have h : At (T.setVm vm₁) f.method c below := by rw [hg]; exact X₁.here
  have happ : (headSpec ws rm).appliesLoose y e.platform ((T.setVm vm₁).calling { f with stack := rest } mk (Value.ref b :: As).toArray) = true :=
    Spec.appliesLoose_calling (g := { f with stack := rest }) h (by rw [hb]; exact hdg) hn1 hkY hinitY
      (X₁.room_calling (g := { f with stack := rest }) (R' := rm) (hsize.trans hml.symm) hmY hcY hfr (by
        rw [hlY]
        show 2 * f.monitorRoom + (rest.map fun v => v.category).sum + (maxL + 11) + rm.locals ≤ R.locals
        omega) hf.1 hf.2) (atoms_intro fun w hw => hws w hw _ _ X₁.warmed)
  obtain ⟨mid, hmid⟩ := h.above
  have hfr2 : ((T.setVm vm₁).setTop { f with stack := rest }).frames = (.java { f with stack := rest } :: mid) ++ below := by rw [State.frames_setTop' _ h.top, hmid]; rfl
  obtain ⟨o, s₂, hsteps, -, hend, hq⟩ := Steps.callFree hM p X.admits X.cas X.clock (acts := []) hfr2 happ (hbl _ _ { f with stack := rest } mk (hPc (T.setVm vm₁) rfl X₁.warmed)) trivial
  obtain ⟨x, rfl, hq, L, ⟨hW₂, hsame⟩, hL⟩ := hq
  rw [State.frames_setTop' _ h.top, X₁.tail] at hend
  obtain ⟨T', X', hW', hs', ht⟩ := X₁.outOfThrown (g := { f with stack := rest }) hg (mk := mk) (a := (Value.ref b :: As).toArray) hend hW₂ hsame
  refine ⟨x, (T.setVm vm₁).calling { f with stack := rest } mk (Value.ref b :: As).toArray, s₂, T', L, rfl, X', hL, ?_, ?_, hq, fun target hh => hstep₁ _ fun acts => ?_⟩
  · rw [ht, Stand.throwing_heap]
  · rw [ht, Stand.throwing_vm]
  · rw [doInvoke_state]
    refine hsteps.trans ?_
    rw [ht]
    exact hh
/-- behind a call that has thrown -/
theorem gw_runT (hrun : ∀ (p : Program) (e : Env) (s : State) (m : MethodId) (args : Array Value) (below : List Frame) (meth : Method) (c : Code), gx g I h0 p s m args meth c → gLh (gA h0 s.heap.size) s → ∀ (H : Heap) (locs : List Loc), gP g.1 h H → gD (gA h0 s.heap.size) h → va_S (gA h0 s.heap.size) s.heap H locs → ∀ ls : Array Slot, lv_has ls I.2.2.1 (gL lv) → gRun p l e R s m args below meth c H locs k n rm.cells rm.slots (F0 m pc ls st) r (gQt g h X Q) (gA h H.size))
    (kk : ∀ (p : Program) (e : Env) (s : State) (m : MethodId) (args : Array Value) (below : List Frame) (meth : Method) (c : Code), gx g I h0 p s m args meth c → gEx s tab → ∀ (T' : State) (locs : List Loc) (x : Addr) (ce : Cell) (h' : gH), Stand p l e R s m args below meth c T' locs (k + rm.cells) (n + rm.slots) → T'.heap[x]? = some ce → ce.vm.isStatics = false → s.vm.findClass X = some ce.cls → Q h' → gP g.1 h' T'.heap → gD (gA h0 s.heap.size) h' → va_S (gA h0 s.heap.size) s.heap T'.heap locs → ∀ ls : Array Slot, lv_has ls I.2.2.1 (gL lv) →
      ∃ t, Steps p.tables e below ((T'.setTop (F0 m pc ls r)).pushFrame (.throwing x)) t ∧ gZl h0 (gZe tab Z) below args s t) : gw l g I R h0 (gZl h0 (gZe tab Z)) k n pc lv st h := by
  intro p e s m args below meth c C H locs hP hD hS ls hl T hT X1
  by_cases hEL : gEx s tab ∧ gLh (gA h0 s.heap.size) s
  case neg => exact ⟨_, Steps.refl _, fun z1 z2 => absurd ⟨z2, z1⟩ hEL⟩
  obtain ⟨hE, hLs⟩ := hEL
  obtain ⟨x, st₀, t, T', L, hh, X', hL, e1, e2, ⟨⟨ce, d1, d2, d3⟩, ⟨h', hq, hP', hD', hK'⟩, hz, hk⟩, stp⟩ := hrun p e s m args below meth c C hLs H locs hP hD hS ls hl T hT X1
  rw [hh] at hz hk hD'
  have hsub := gA_sub (A := gA h0 s.heap.size) hD hS
  have hD2 : gD (gA h0 s.heap.size) h' := fun a x hx => hsub a (hD' a x hx)
  have hS2 : va_S (gA h0 s.heap.size) s.heap T'.heap (locs ++ L) := by
    refine ⟨Nat.le_trans hS.1 (by rw [e1]; exact hz), fun q h1 h2 => ?_, fun q hq => ?_⟩
    · rw [e1, hk q (Nat.lt_of_lt_of_le h1 hS.1) (fun z => h2 (hsub q z))]
      exact hS.2.1 q h1 h2
    · rcases List.mem_append.mp hq with h | h
      · exact hS.2.2 q h
      · exact hsub _ (hL q h)
  obtain ⟨t2, a1, b1⟩ := kk p e s m args below meth c C hE T' (locs ++ L) x ce h' X' (by rw [e1]; exact d1) d2 (by rw [← X'.warmed.alike.findClass, e2]; exact d3) hq (by rw [e1]; exact hP') hD2 hS2 ls hl
  exact ⟨t2, stp t2 a1, b1⟩
/-- a throw that is passed on -/
theorem gw_pass {Q2 : gH → Prop} (hrun : ∀ (p : Program) (e : Env) (s : State) (m : MethodId) (args : Array Value) (below : List Frame) (meth : Method) (c : Code), gx g I h0 p s m args meth c → gLh (gA h0 s.heap.size) s → ∀ (H : Heap) (locs : List Loc), gP g.1 h H → gD (gA h0 s.heap.size) h → va_S (gA h0 s.heap.size) s.heap H locs → ∀ ls : Array Slot, lv_has ls I.2.2.1 (gL lv) → gRun p l e R s m args below meth c H locs k n rm.cells rm.slots (F0 m pc ls st) r (gQt g h X Q) (gA h H.size))
    (hQ : ∀ h', Q h' → Q2 h') : gw l g I R h0 (gZl h0 (gZe [] (gZt g h0 (k + rm.cells) (n + rm.slots) X Q2))) k n pc lv st h := by
  refine gw_runT hrun ?_
  intro p e s m args below meth c C hE T' locs x ce h' X' d1 d2 d3 hq hP' hD' hS' ls hl
  obtain ⟨hx, hb, hml, hown, hts, hK, hlocks, hr, hnm, hNw, hSt, hP0⟩ := id C
  have he := gEx_nil hE X'.frames X'.method X'.code
  obtain ⟨a1, a2, a3, a4, a5⟩ := X'.leaveThrown x (g := F0 m pc ls r) rfl rfl rfl (by rw [he]; intro y hy; cases hy) hlocks
  exact ⟨_, a1, fun _ _ => ⟨x, a2, a3, ⟨⟨ce, d1, d2, by show T'.vm.findClass X = _; rw [X'.warmed.alike.findClass]; exact d3⟩, ⟨h', hQ h' hq, hP', hD', va_K.moved (U := T'.setFrames (.throwing x :: below)) X'.warmed.alike hK⟩, hS'.1, hS'.2.1⟩, locs, ⟨a4, a5⟩, hS'.2.2⟩⟩
/-- where a throw is caught -/
def gFind (l : Launch) (g : gG) (I : gI) (h0 : gH) (tab : List (Nat × Nat × Nat × Nat)) (pc : Nat) (X : String) (hpc : Nat) : Prop := ∀ (p : Program) (e : Env) (s : State) (m : MethodId) (args : Array Value) (meth : Method) (c : Code), gx g I h0 p s m args meth c → gEx s tab → ∀ (R : Room) (below : List Frame) (T : State) (locs : List Loc) (cells slots : Nat), Stand p l e R s m args below meth c T locs cells slots →
  ∀ (f : JFrame) (x : Addr) (ce : Cell), f.method = m → f.pc = pc → T.heap[x]? = some ce → ce.vm.isStatics = false → s.vm.findClass X = some ce.cls → ∃ vm' : Vm, s.WarmedH vm' ∧ ∀ target, Steps p.tables e below ((T.setVm vm').setTop { f with pc := hpc, stack := [.ref x] }) target → Steps p.tables e below ((T.setTop f).pushFrame (.throwing x)) target
theorem gw_catch {hpc : Nat} (hF : gFind l g I h0 tab pc X hpc) (hrun : ∀ (p : Program) (e : Env) (s : State) (m : MethodId) (args : Array Value) (below : List Frame) (meth : Method) (c : Code), gx g I h0 p s m args meth c → gLh (gA h0 s.heap.size) s → ∀ (H : Heap) (locs : List Loc), gP g.1 h H → gD (gA h0 s.heap.size) h → va_S (gA h0 s.heap.size) s.heap H locs → ∀ ls : Array Slot, lv_has ls I.2.2.1 (gL lv) → gRun p l e R s m args below meth c H locs k n rm.cells rm.slots (F0 m pc ls st) r (gQt g h X Q) (gA h H.size))
    (kk : ∀ (x : Nat) (h' : gH), Q h' → gw l g I R h0 (gZl h0 (gZe tab Z)) (k + rm.cells) (n + rm.slots) hpc lv [.ref x] h') : gw l g I R h0 (gZl h0 (gZe tab Z)) k n pc lv st h := by
  refine gw_runT hrun ?_
  intro p e s m args below meth c C hE T' locs x ce h' X' d1 d2 d3 hq hP' hD' hS' ls hl
  obtain ⟨vm', hW, stp⟩ := hF p e s m args meth c C hE R below T' locs _ _ X' (F0 m pc ls r) x ce rfl rfl d1 d2 d3
  obtain ⟨t, a1, b1⟩ := kk x h' hq p e s m args below meth c C T'.heap locs hP' hD' hS' ls hl (T'.setVm vm') rfl (X'.noted hW)
  exact ⟨t, stp t a1, b1⟩
theorem gBlindT {sz : Nat} : FrameBlind (va_Pc as (fun U => U.heap.size = sz ∧ gP g.1 h U.heap ∧ va_K g.1 gCL g.2.1 U ∧ (∀ w ∈ gNW, va_Nw w U) ∧ gSt g (gA h sz) U ∧ gLh (gA h sz) U)) := by
  intro a U f mk q
  obtain ⟨q0, q1, qP, qK, qN, qS, qL⟩ := q
  exact ⟨q0, q1, qP, va_K.moved (u := U) (U := U.calling f mk a) (Vm.Alike.refl U.vm) qK, fun w hw => va_Nw.same (u := U) (U := U.calling f mk a) (gNW_on w hw) rfl (qN w hw), gSt.go (U := U.calling f mk a) qS (Nat.le_refl _) (Vm.Alike.refl U.vm) (fun _ _ _ => rfl) (fun _ z => z) (fun _ _ _ _ z => vk_R.same (u := U) (U := U.calling f mk a) rfl z), gLh.go (U := U.calling f mk a) qL (Vm.Alike.refl U.vm) (fun _ _ _ => rfl) (fun _ z => z)⟩
theorem gPreT {p : Program} {s : State} {m : MethodId} {args : Array Value} {meth : Method} {c : Code} (C : gx g I h0 p s m args meth c) (hLs : gLh (gA h0 s.heap.size) s) {H : Heap} {locs : List Loc} (hP : gP g.1 h H) (hD : gD (gA h0 s.heap.size) h) (hS : va_S (gA h0 s.heap.size) s.heap H locs) : ∀ U : State, U.heap = H → s.WarmedH U.vm → va_Pc as (fun U => U.heap.size = H.size ∧ gP g.1 h U.heap ∧ va_K g.1 gCL g.2.1 U ∧ (∀ w ∈ gNW, va_Nw w U) ∧ gSt g (gA h H.size) U ∧ gLh (gA h H.size) U) as.toArray U := by
  intro U hU hW
  obtain ⟨q0, q1, q2, q3, q4, q5⟩ := gPre (as := as) C hP hD hS U hU hW
  exact ⟨q0, q1, q2, q3, q4, q5, hLs.go hW.alike (fun q h1 h2 => by rw [hU]; exact hS.2.1 q h1 h2) (gA_sub (A := gA h0 s.heap.size) hD hS)⟩
end GTC
