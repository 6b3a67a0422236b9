/-- room for so many frames above -/
def gr (d : Nat) : Room := { frames := d, cells := 0, slots := 0, locals := 60 * d }
def gCs : List Value → Nat
  | [] => 0
  | v :: r => v.category + gCs r
theorem gCs_n : gCs [] = 0 := rfl
theorem gCs_c (v : Value) (r : List Value) : gCs (v :: r) = v.category + gCs r := rfl
theorem gCs_ok : ∀ r : List Value, (r.map fun v => v.category).sum = gCs r
  | [] => rfl
  | v :: r => by
    rw [List.map_cons, List.sum_cons, gCs_ok r]
    rfl
/-- an entry of the table out of a contract: a static method -/
theorem gE_S {d m N : Nat} {f : gPF} (J : gI) (hm : gMt m = J) (hs : gMs m = true) (hj : Cond.code J.1 J.2.1 J.2.2.1 J.2.2.2 ∈ gWS) (hst : Cond.static J.1 ∈ gWS) (hini : Cond.initialized J.1.cls ∈ gWS)
    (hdd : J.1.cls ≠ "java/lang/invoke/MethodHandle" ∧ J.1.cls ≠ "java/lang/invoke/VarHandle" ∧ (parseMethodDescriptor J.1.desc).map (fun d => d.parameters.length) = some N) (hml : J.2.2.1 ≤ 40)
    (hf : ∀ (g : gG) (st : List Value) (h : gH) (P : Prop) (st2 : List Value) (h2 : gH), f g st h = some (P, st2, h2) → P → ∃ (as r : List Value) (v : Option Value), st = as.reverse ++ r ∧ as.length = N ∧ gCs r ≤ 8 ∧ st2 = v.toList ++ r ∧ ∀ l : Launch, gC l g J (gr d) as h (fun w h' => w = v ∧ h' = h2)) : gEK (d + 1) m f := by
  intro l g I R h0 Z k n pc lv st h j P st2 h2 hR hk hd hn he hP K
  obtain ⟨as, r, v, rfl, hlen, hr, rfl, hC⟩ := hf g st h P st2 h2 he hP
  subst hm
  rcases hd with ⟨hd, -⟩ | ⟨-, hs2⟩
  · refine gw_callS hd (hC l) hj (gTn_ok hn) hst hini ⟨hdd.1, hdd.2.1, by rw [hlen]; exact hdd.2.2⟩ ⟨hR.1, ?_⟩ (by rw [gCs_ok]; exact hr) hk (fun v' h' hv => ?_)
    · show 8 + (_ + 11) + 60 * d ≤ _
      omega
    · obtain ⟨rfl, rfl⟩ := hv
      exact K
  · rw [hs] at hs2
    cases hs2
/-- an entry of the table out of a contract: a method of an object of ours -/
theorem gE_V {d m N ci M : Nat} {T : u_T} {f : gPF} (J : gI) (hm : gMt m = J) (hs : gMs m = false) (hc : gCL[ci]? = some (J.1.cls, T, M)) (hj : Cond.code J.1 J.2.1 J.2.2.1 J.2.2.2 ∈ gWS) (hst : Cond.instanceMethod J.1 ∈ gWS) (hsel : Cond.selects J.1.cls J.1 J.1 ∈ gWS) (hini : Cond.initialized J.1.cls ∈ gWS)
    (hdd : J.1.cls ≠ "java/lang/invoke/MethodHandle" ∧ J.1.cls ≠ "java/lang/invoke/VarHandle" ∧ (parseMethodDescriptor J.1.desc).map (fun d => d.parameters.length) = some N) (hml : J.2.2.1 ≤ 40)
    (hf : ∀ (g : gG) (st : List Value) (h : gH) (P : Prop) (st2 : List Value) (h2 : gH), f g st h = some (P, st2, h2) → P → ∃ (as r : List Value) (b : Nat) (fs : List Value) (v : Option Value), st = as.reverse ++ .ref b :: r ∧ h b = some (.inr (ci, fs)) ∧ as.length = N ∧ gCs r ≤ 8 ∧ st2 = v.toList ++ r ∧ ∀ l : Launch, gC l g J (gr d) (.ref b :: as) h (fun w h' => w = v ∧ h' = h2)) : gEK (d + 1) m f := by
  intro l g I R h0 Z k n pc lv st h j P st2 h2 hR hk hd hn he hP K
  obtain ⟨as, r, b, fs, v, rfl, hb, hlen, hr, rfl, hC⟩ := hf g st h P st2 h2 he hP
  subst hm
  rcases hd with ⟨-, hs2⟩ | ⟨hd, -⟩
  · rw [hs] at hs2
    cases hs2
  · refine gw_callV hd (hC l) hb hc hj (gTn_ok hn) hst hsel hini ⟨hdd.1, hdd.2.1, by rw [hlen]; exact hdd.2.2⟩ ⟨hR.1, ?_⟩ (by rw [gCs_ok]; exact hr) hk (fun v' h' hv => ?_)
    · show 8 + (_ + 11) + 60 * d ≤ _
      omega
    · obtain ⟨rfl, rfl⟩ := hv
      exact K
theorem gr_ge {d e : Nat} (h : d ≤ e) : d ≤ (gr e).frames ∧ 60 * d ≤ (gr e).locals := ⟨h, Nat.mul_le_mul_left 60 h⟩
/-- a call whose end is known -/
theorem gw_cV {l : Launch} {g : gG} {I J : gI} {R : Room} {h0 h h2 : gH} {Z : gZ} {k n pc idx b ci N d : Nat} {lv : gV} {st r as fs : List Value} {T : u_T} {v : Option Value} (hd : decode I.2.1 pc = .ok (.invokevirtual idx, 3)) (hC : gC l g J (gr d) (.ref b :: as) h (fun w h' => w = v ∧ h' = h2)) (hst9 : st = as.reverse ++ .ref b :: r) (hb9 : h b = some (.inr (ci, fs))) (hc9 : gCL[ci]? = some (J.1.cls, T, N))
    (hj : Cond.code J.1 J.2.1 J.2.2.1 J.2.2.2 ∈ gWS) (hlk : Cond.methodLink I.1.cls idx J.1 ∈ gWS) (hst : Cond.instanceMethod J.1 ∈ gWS) (hsel : Cond.selects J.1.cls J.1 J.1 ∈ gWS) (hini : Cond.initialized J.1.cls ∈ gWS)
    (hdd : J.1.cls ≠ "java/lang/invoke/MethodHandle" ∧ J.1.cls ≠ "java/lang/invoke/VarHandle" ∧ (parseMethodDescriptor J.1.desc).map (fun d => d.parameters.length) = some as.length) (hml : J.2.2.1 ≤ 40)
    (hR : d + 1 ≤ R.frames ∧ 60 * (d + 1) ≤ R.locals) (hrest : gCs r ≤ 8) (hk : k ≤ R.cells ∧ n ≤ R.slots) (K : gw l g I R h0 Z k n (pc + 3) lv (v.toList ++ r) h2) : gw l g I R h0 Z k n pc lv st h := by
  subst hst9
  refine gw_callV hd hC hb9 hc9 hj hlk hst hsel hini hdd ⟨hR.1, ?_⟩ (by rw [gCs_ok]; exact hrest) hk (fun v' h' hv => ?_)
  · show 8 + (_ + 11) + 60 * d ≤ _
    omega
  · obtain ⟨rfl, rfl⟩ := hv
    exact K
