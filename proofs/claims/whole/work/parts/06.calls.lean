section GC
variable {l : Launch} {g : gG} {I J : gI} {R rm : Room} {h0 h : gH} {Z : gZ} {k n pc idx : Nat} {lv : gV} {st r as : List Value} {Q : Option Value → gH → Prop}
theorem gA_sub {A : Nat → Prop} {s : State} {H : Heap} {locs : List Loc} (hD : gD (gA h0 s.heap.size) h) (hS : va_S (gA h0 s.heap.size) s.heap H locs) : ∀ q : Nat, gA h H.size q → gA h0 s.heap.size q := by
  intro q hq
  rcases hq with ⟨e, he⟩ | hq
  · exact hD q e he
  · exact Or.inr (Nat.le_trans hS.1 hq)
theorem gw_run (hrun : ∀ (p : Program) (e : Env) (s : State) (m : MethodId) (args : Array Value) (below : List Frame) (meth : Method) (c : Code), gx g I h0 p s m args meth c → ∀ (H : Heap) (locs : List Loc), gP g.1 h H → gD (gA h0 s.heap.size) h → va_S (gA h0 s.heap.size) s.heap H locs → ∀ ls : Array Slot, lv_has ls I.2.2.1 (gL lv) → va_Run p l e R s m args below meth c H locs k n rm.cells rm.slots (F0 m pc ls st) r (gQ g h Q as.toArray) (gA h H.size))
    (kk : ∀ (v : Option Value) (h' : gH), Q v h' → gw l g I R h0 Z (k + rm.cells) (n + rm.slots) (pc + 3) lv (v.toList ++ r) h') : gw l g I R h0 Z k n pc lv st h := by
  intro p e s m args below meth c C H locs hP hD hS ls hl T hT X
  obtain ⟨v, st₀, t, T', L, hh, X', hL, e1, e2, ⟨⟨rr, h', hv, hq, hP', hD', hK'⟩, hz, hk⟩, stp⟩ := hrun p e s m args below meth c C H locs hP hD hS ls hl T hT X
  cases hv
  rw [hh] at hz hk hD'
  have hsub := gA_sub (A := gA h0 s.heap.size) hD hS
  have hD2 : gD (gA h0 s.heap.size) h' := fun a x hx => hsub a (hD' a x hx)
  have hS2 : va_S (gA h0 s.heap.size) s.heap T'.heap (locs ++ L) := by
    refine ⟨Nat.le_trans hS.1 (by rw [e1]; exact hz), fun q h1 h2 => ?_, fun q hq => ?_⟩
    · rw [e1, hk q (Nat.lt_of_lt_of_le h1 hS.1) (fun z => h2 (hsub q z))]
      exact hS.2.1 q h1 h2
    · rcases List.mem_append.mp hq with h | h
      · exact hS.2.2 q h
      · exact hsub _ (hL q h)
  obtain ⟨t2, a1, b1⟩ := kk v h' hq p e s m args below meth c C T'.heap (locs ++ L) (by rw [e1]; exact hP') hD2 hS2 ls hl T' rfl X'
  exact ⟨t2, stp t2 a1, b1⟩
theorem gBlind {sz : Nat} : FrameBlind (va_Pc as (fun U => U.heap.size = sz ∧ gP g.1 h U.heap ∧ va_K g.1 gCL g.2.1 U ∧ (∀ w ∈ gNW, va_Nw w U) ∧ gSt g (gA h sz) U)) := by
  intro a U f mk q
  obtain ⟨q0, q1, qP, qK, qN, qS⟩ := q
  exact ⟨q0, q1, qP, va_K.moved (u := U) (U := U.calling f mk a) (Vm.Alike.refl U.vm) qK, fun w hw => va_Nw.same (u := U) (U := U.calling f mk a) (gNW_on w hw) rfl (qN w hw), gSt.go (U := U.calling f mk a) qS (Nat.le_refl _) (Vm.Alike.refl U.vm) (fun _ _ _ => rfl) (fun _ z => z) (fun _ _ _ _ z => vk_R.same (u := U) (U := U.calling f mk a) rfl z)⟩
theorem gPre {p : Program} {s : State} {m : MethodId} {args : Array Value} {meth : Method} {c : Code} (C : gx g I h0 p s m args meth c) {H : Heap} {locs : List Loc} (hP : gP g.1 h H) (hD : gD (gA h0 s.heap.size) h) (hS : va_S (gA h0 s.heap.size) s.heap H locs) : ∀ U : State, U.heap = H → s.WarmedH U.vm → va_Pc as (fun U => U.heap.size = H.size ∧ gP g.1 h U.heap ∧ va_K g.1 gCL g.2.1 U ∧ (∀ w ∈ gNW, va_Nw w U) ∧ gSt g (gA h H.size) U) as.toArray U := by
  obtain ⟨hx, hb, hml, hown, hts, hK, hlocks, hr, hnm, hNw, hSt, hP0⟩ := id C
  intro U hU hW
  refine ⟨rfl, by rw [hU], by rw [hU]; exact hP, va_K.moved hW.alike hK, fun w hw => gNW_warm hW w hw (hNw w hw), gSt.go hSt (by rw [hU]; exact hS.1) hW.alike (fun q h1 h2 => by rw [hU]; exact hS.2.1 q h1 h2) (gA_sub (A := gA h0 s.heap.size) hD hS) (fun _ _ _ _ z => vk_R.warm hW z)⟩
theorem gGood (hj : Cond.code J.1 J.2.1 J.2.2.1 J.2.2.2 ∈ gWS) : GoodIn gWS (.code J.1 J.2.1 J.2.2.1 J.2.2.2 :: gWS) := by
  intro w hw
  rcases List.mem_cons.mp hw with rfl | hw
  · exact ⟨hj, Or.inl rfl⟩
  · exact ⟨hw, gWS_good w hw⟩
/-- a call of a static method -/
theorem gw_callS (hd : decode I.2.1 pc = .ok (.invokestatic idx, 3)) (hC : gC l g J rm as h Q)
    (hj : Cond.code J.1 J.2.1 J.2.2.1 J.2.2.2 ∈ gWS) (hlk : Cond.methodLink I.1.cls idx J.1 ∈ gWS) (hst : Cond.static J.1 ∈ gWS) (hini : Cond.initialized J.1.cls ∈ gWS)
    (hdd : J.1.cls ≠ "java/lang/invoke/MethodHandle" ∧ J.1.cls ≠ "java/lang/invoke/VarHandle" ∧ (parseMethodDescriptor J.1.desc).map (fun d => d.parameters.length) = some as.length)
    (hR : rm.frames + 1 ≤ R.frames ∧ 8 + (J.2.2.1 + 11) + rm.locals ≤ R.locals) (hrest : (r.map fun v => v.category).sum ≤ 8) (hroom : k + rm.cells ≤ R.cells ∧ n + rm.slots ≤ R.slots)
    (kk : ∀ (v : Option Value) (h' : gH), Q v h' → gw l g I R h0 Z (k + rm.cells) (n + rm.slots) (pc + 3) lv (v.toList ++ r) h') : gw l g I R h0 Z k n pc lv (as.reverse ++ r) h := by
  refine gw_run (rm := rm) (Q := Q) (as := as) (fun p e s m args below meth c C H locs hP hD hS ls hl => ?_) kk
  obtain ⟨hx, hb, hml, hown, hts, hK, hlocks, hr, hnm, hNw, hSt, hP0⟩ := id C
  have hG : GoodIn gWS (va_wsS I.1.cls idx J.1 (.code J.1 J.2.1 J.2.2.1 J.2.2.2 :: gWS)) := by
    intro w hw
    rcases List.mem_append.mp hw with hw | hw
    · simp only [List.mem_cons, List.not_mem_nil, or_false] at hw
      rcases hw with rfl | rfl | rfl
      · exact ⟨hlk, gWS_good _ hlk⟩
      · exact ⟨hst, gWS_good _ hst⟩
      · exact ⟨hini, gWS_good _ hini⟩
    · exact gGood hj w hw
  exact va_runS (bytes := J.2.1) (maxL := J.2.2.1) (ret := J.2.2.2) (n := as.length) ⟨hx, hb, hml, hown, hts⟩ (hC H.size) (va_cwS as.length hts hG rfl rfl rfl hdd hR) ⟨gBlind, gPre C hP hD hS⟩ rfl rfl hl.1 rfl (by show 2 * 0 + _ ≤ 8; omega) hd hroom
/-- a call of a method of an object of ours -/
theorem gw_callV {b ci N : Nat} {T : u_T} {fs : List Value} (hd : decode I.2.1 pc = .ok (.invokevirtual idx, 3)) (hC : gC l g J rm (.ref b :: as) h Q) (hb9 : h b = some (.inr (ci, fs))) (hc9 : gCL[ci]? = some (J.1.cls, T, N))
    (hj : Cond.code J.1 J.2.1 J.2.2.1 J.2.2.2 ∈ gWS) (hlk : Cond.methodLink I.1.cls idx J.1 ∈ gWS) (hst : Cond.instanceMethod J.1 ∈ gWS) (hsel : Cond.selects J.1.cls J.1 J.1 ∈ gWS) (hini : Cond.initialized J.1.cls ∈ gWS)
    (hdd : J.1.cls ≠ "java/lang/invoke/MethodHandle" ∧ J.1.cls ≠ "java/lang/invoke/VarHandle" ∧ (parseMethodDescriptor J.1.desc).map (fun d => d.parameters.length) = some as.length)
    (hR : rm.frames + 1 ≤ R.frames ∧ 8 + (J.2.2.1 + 11) + rm.locals ≤ R.locals) (hrest : (r.map fun v => v.category).sum ≤ 8) (hroom : k + rm.cells ≤ R.cells ∧ n + rm.slots ≤ R.slots)
    (kk : ∀ (v : Option Value) (h' : gH), Q v h' → gw l g I R h0 Z (k + rm.cells) (n + rm.slots) (pc + 3) lv (v.toList ++ r) h') : gw l g I R h0 Z k n pc lv (as.reverse ++ .ref b :: r) h := by
  refine gw_run (rm := rm) (Q := Q) (as := .ref b :: as) (fun p e s m args below meth c C H locs hP hD hS ls hl => ?_) kk
  obtain ⟨hx, hb, hml, hown, hts, hK, hlocks, hr, hnm, hNw, hSt, hP0⟩ := id C
  have hG : GoodIn gWS (wsV I.1.cls idx J.1.cls J.1 (.code J.1 J.2.1 J.2.2.1 J.2.2.2 :: gWS)) := by
    intro w hw
    rcases List.mem_append.mp hw with hw | hw
    · simp only [List.mem_cons, List.not_mem_nil, or_false] at hw
      rcases hw with rfl | rfl | rfl | rfl
      · exact ⟨hlk, gWS_good _ hlk⟩
      · exact ⟨hst, gWS_good _ hst⟩
      · exact ⟨hsel, gWS_good _ hsel⟩
      · exact ⟨hini, gWS_good _ hini⟩
    · exact gGood hj w hw
  exact va_runV (bytes := J.2.1) (maxL := J.2.2.1) (ret := J.2.2.2) (n := as.length) (C := J.1.cls) ⟨hx, hb, hml, hown, hts⟩ (hC H.size) (cwV as.length hts hG rfl rfl rfl ⟨rfl, hdd⟩ hR) ⟨gBlind, va_recv hK (hP.one hb9) (ci := ci) (q0 := 0) hc9 rfl, gPre C hP hD hS⟩ rfl rfl hl.1 rfl (by show 2 * 0 + _ ≤ 8; omega) hd hroom
/-- a call of a constructor -/
theorem gw_callI {b : Nat} (hd : decode I.2.1 pc = .ok (.invokespecial idx, 3)) (hC : gC l g J rm (.ref b :: as) h Q)
    (hj : Cond.code J.1 J.2.1 J.2.2.1 J.2.2.2 ∈ gWS) (hret : J.2.2.2 = none) (hnm9 : J.1.name = "<init>") (hlk : Cond.methodLink I.1.cls idx J.1 ∈ gWS) (hst : Cond.instanceMethod J.1 ∈ gWS) (hini : Cond.initialized J.1.cls ∈ gWS)
    (hdd : J.1.cls ≠ "java/lang/invoke/MethodHandle" ∧ J.1.cls ≠ "java/lang/invoke/VarHandle" ∧ (parseMethodDescriptor J.1.desc).map (fun d => d.parameters.length) = some as.length)
    (hR : rm.frames + 1 ≤ R.frames ∧ 8 + (J.2.2.1 + 11) + rm.locals ≤ R.locals) (hrest : (r.map fun v => v.category).sum ≤ 8) (hroom : k + rm.cells ≤ R.cells ∧ n + rm.slots ≤ R.slots)
    (kk : ∀ (v : Option Value) (h' : gH), Q v h' → gw l g I R h0 Z (k + rm.cells) (n + rm.slots) (pc + 3) lv (v.toList ++ r) h') : gw l g I R h0 Z k n pc lv (as.reverse ++ .ref b :: r) h := by
  refine gw_run (rm := rm) (Q := Q) (as := .ref b :: as) (fun p e s m args below meth c C H locs hP hD hS ls hl => ?_) kk
  obtain ⟨hx, hb, hml, hown, hts, hK, hlocks, hr, hnm, hNw, hSt, hP0⟩ := id C
  have hG := gGood hj
  rw [hret] at hG
  have hM := hC H.size
  rw [hret] at hM
  exact va_runI (bytes := J.2.1) (maxL := J.2.2.1) (n := as.length) ⟨hx, hb, hml, hown, hts⟩ hM (cwI as.length hts hG rfl rfl rfl (hts _ hini) (hts _ hlk) (hts _ hst) hnm9 hdd hR) ⟨gBlind, gPre C hP hD hS⟩ rfl rfl hl.1 rfl (by show 2 * 0 + _ ≤ 8; omega) hd hroom
/-- a contract out of the walk of its body -/
def gArgs : List Value → gV
  | [] => []
  | v :: vs => if v.category = 2 then some v :: none :: gArgs vs else some v :: gArgs vs
theorem gC_of {mc ms : Nat} {lv0 : gV} (hpn : plainName J.1.cls = true) (hlen : (lg_sl as).length ≤ J.2.2.1) (hlv : ∀ q ∈ gL lv0, q ∈ lv_args 0 as) (hrm : rm.cells = mc ∧ rm.slots = ms) (body : gw l g J rm h (gZm g h mc ms Q) 0 0 0 lv0 [] h) : gC l g J rm as h Q := by
  obtain ⟨rfl, rfl⟩ := hrm
  intro sz
  refine Met.ofW (cc := J.2.1) (maxL := J.2.2.1) (ret := J.2.2.2) hpn rfl ?_
  intro p e s m args below meth c s₁ B hml hv
  obtain ⟨rfl, hsz, hP, hK, hNw, hSt⟩ := hv
  subst hsz
  have hts := atoms_spec (ws := Cond.code J.1 J.2.1 J.2.2.1 J.2.2.2 :: gWS) B.pre
  have hown : s.vm.findClass J.1.cls = some m.cls := findClass_of_methodNamed B.named
  have hl := lv_entry as (n := J.2.2.1) hlen
  rw [lg_entry_eq]
  exact body p e s m _ below meth c ⟨B.exec, B.bytes, hml, hown, fun w hw => hts w (List.mem_cons_of_mem _ hw), hK, B.notSynchronized, B.returns, (name_of_methodNamed B.named B.method).1, hNw, hSt, hP⟩ s.heap [] hP (fun a x hx => Or.inl ⟨x, hx⟩) va_S.rf _ ⟨hl.1, hl.2.1, fun q hq => hl.2.2 q (hlv q hq)⟩
end GC
