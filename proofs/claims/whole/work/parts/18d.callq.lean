-- needs 18
/-- a call whose end is told by a property -/
theorem gw_cQ {l : Launch} {g : gG} {I J : gI} {R : Room} {h0 h : gH} {Z : gZ} {k n pc idx b ci N d : Nat} {lv : gV} {st r as fs : List Value} {T : u_T} {Q : Option Value → gH → Prop} (hd : decode I.2.1 pc = .ok (.invokevirtual idx, 3)) (hC : gC l g J (gr d) (.ref b :: as) h Q) (hst9 : st = as.reverse ++ .ref b :: r) (hb9 : h b = some (.inr (ci, fs))) (hc9 : gCL[ci]? = some (J.1.cls, T, N))
    (hj : Cond.code J.1 J.2.1 J.2.2.1 J.2.2.2 ∈ gWS) (hlk : Cond.methodLink I.1.cls idx J.1 ∈ gWS) (hst : Cond.instanceMethod J.1 ∈ gWS) (hsel : Cond.selects J.1.cls J.1 J.1 ∈ gWS) (hini : Cond.initialized J.1.cls ∈ gWS)
    (hdd : J.1.cls ≠ "java/lang/invoke/MethodHandle" ∧ J.1.cls ≠ "java/lang/invoke/VarHandle" ∧ (parseMethodDescriptor J.1.desc).map (fun d => d.parameters.length) = some as.length) (hml : J.2.2.1 ≤ 40)
    (hR : d + 1 ≤ R.frames ∧ 60 * (d + 1) ≤ R.locals) (hrest : gCs r ≤ 8) (hk : k ≤ R.cells ∧ n ≤ R.slots) (K : ∀ (v : Option Value) (h2 : gH), Q v h2 → gw l g I R h0 Z k n (pc + 3) lv (v.toList ++ r) h2) : gw l g I R h0 Z k n pc lv st h := by
  subst hst9
  refine gw_callV hd hC hb9 hc9 hj hlk hst hsel hini hdd ⟨hR.1, ?_⟩ (by rw [gCs_ok]; exact hrest) hk (fun v' h' hv => ?_)
  · show 8 + (_ + 11) + 60 * d ≤ _
    omega
  · exact K v' h' hv
