-- a step of a proof, on both sides
def TX (N n : Nat) (Q : Nat → Clue) (X : Nat → Nat) (rule k i p : Nat) : Prop := (rule = 1 ∧ T1 N X i p) ∨ (rule = 2 ∧ T2 N X i p) ∨ (rule = 4 ∧ T4 N X i p) ∨ ((rule = 3 ∨ rule = 5) ∧ k < n ∧ (Q k).2.2.2.2.2 = -1 ∧ (Q k).1 ≠ 9 ∧ TQ N X (Q k) i p)
/-- both sides take the same step, or none -/
def sameS (N K n : Nat) (Q : Nat → Clue) (X : Nat → Nat) (s : PS) (w : WK) (a : Option PS) (b : Option WK) : Prop := (a = none ∧ b = none) ∨ ∃ rule k i p, (1 ≤ rule ∧ rule ≤ 5) ∧ i < N * K ∧ p < N ∧ (X i).testBit p = true ∧ TX N n Q X rule k i p ∧ a = some (takeP (nI rule) (if rule = 3 ∨ rule = 5 then nI k else -1) (tAt N i) (nI p) s) ∧ b = some (wkA rule k w (j5 N i, p))
theorem rule_tab : ∀ kd, kd < 10 → (ruleF (nI kd) = 3 ↔ (nI kd < 5 ∨ nI kd = 6)) ∧ (ruleF (nI kd) = 5 ↔ (nI kd = 5 ∨ nI kd = 7 ∨ nI kd = 8)) := by decide +kernel
section STEP
variable {N K n : Nat} {Q : Nat → Clue} {X : Nat → Nat} {cs cl : Nat → Int32} {s : PS} {w : WK}
theorem bit0_iff (v : Int32) {p : Nat} (hp : p < 32) : decide (¬ (v >>> (nI p &&& 31)) &&& 1 = 0) = bt v p := bitQ_bt v hp
/-- rules 1, 2, 4 -/
theorem same_bs (hN : 0 < N ∧ N ≤ 5) (hX : grX N K X s.1 w.1) (rule : Nat) (hr : rule = 1 ∨ rule = 2 ∨ rule = 4) : sameS N K n Q X s w (bsF N (nI rule) s (segF id (N * K) 0)) (stpF N K cl rule 0 w) := by
  have hP : ∀ i p, i < N * K → p < N → ((((X i).testBit p = true ∧ bt (barF s.1 N (nI rule) (tAt N i)) p = true)) ↔ tqF w.1 N cl rule 0 (j5 N i) p = true) ∧ (bt (barF s.1 N (nI rule) (tAt N i)) p = true → TX N n Q X rule 0 i p) := by
    intro i p hi hp
    unfold tqF
    rw [Bool.and_eq_true, bit0_iff _ (by omega), (hX i hi).2.2, bt_nI _ _ (by omega)]
    unfold tkF barF TX
    rcases hr with rfl | rfl | rfl
    · rw [if_pos (by decide), if_pos rfl, bar_1 hN hX hi hp, ref_1 hN hX hi hp]
      exact ⟨Iff.rfl, fun h => Or.inl ⟨rfl, h⟩⟩
    · rw [if_neg (by decide), if_pos (by decide), if_neg (by decide), if_pos rfl, bar_2 hN hX hi hp, ref_2 hN hX hi hp]
      exact ⟨Iff.rfl, fun h => Or.inr (Or.inl ⟨rfl, h⟩)⟩
    · rw [if_neg (by decide), if_neg (by decide), if_neg (by decide), if_neg (by decide), if_pos rfl, bar_4 hN hX hi hp, ref_4 hN hX hi hp]
      exact ⟨Iff.rfl, fun h => Or.inr (Or.inr (Or.inl ⟨rfl, h⟩))⟩
  obtain ⟨o, h1, e1⟩ := bs_spec hN (nI rule) s hX
  obtain ⟨o', h2, e2⟩ := sp_spec (K := K) hN (tqF w.1 N cl rule 0)
  have e := picks_u (fun i p hi hp => (hP i p hi hp).1) h1 h2
  subst e
  unfold stpF
  rw [e1, e2]
  rcases h1 with ⟨rfl, _⟩ | ⟨i, p, hl, rfl⟩
  · exact Or.inl ⟨rfl, rfl⟩
  · refine Or.inr ⟨rule, 0, i, p, by omega, hl.1, hl.2.1, hl.2.2.1.1, (hP i p hl.1 hl.2.1).2 hl.2.2.1.2, ?_, rfl⟩
    rw [if_neg (by omega)]
    rfl
theorem inF_iff (hN : 0 < N ∧ N ≤ 5) (hK : K ≤ 3) {q : Clue} (hq : okQ N K q) {k i : Nat} (hr : rowOK cl k q) (hi : i < N * K) : inF cl k (j5 N i) = true ↔ inQ q (tAt N i) := by
  obtain ⟨r1, r2, r3, r4, r5, r6⟩ := hr
  have rg := okQ_rng hN hK hq
  obtain ⟨h1, hx, h3, h4, h5, h6⟩ := hq
  obtain ⟨g1, g2, g3, g4, g5, g6⟩ := rg
  have hl := j5_lt hN hK hi
  have key : ∀ v, v < 40 → (isT N K v ∨ v = 0) → (decide (¬ nI v = 0 ∧ idxF (nI v) = nI (j5 N i)) = true ↔ tAt N i = v) := by
    intro v hv ht
    rw [decide_eq_true_iff]
    rcases ht with ⟨j, hj, rfl⟩ | rfl
    · have hlj := j5_lt hN hK hj
      have e0 : idxF (nI (tAt N j)) = nI (j5 N j) := idx_t hN hK hj
      have hg := tAt_ge (N := N) j
      rw [e0, nI_eq (by omega) (by omega)]
      constructor
      · rintro ⟨_, e⟩
        rw [j5_inj hN e]
      · intro e
        rw [tAt_inj hN e]
        exact ⟨by rw [← e] at hg ⊢; exact nI_ne0 (by omega) (by omega), rfl⟩
    · constructor
      · rintro ⟨e, _⟩
        exact absurd nI_0 e
      · intro e
        have := tAt_ge (N := N) i
        omega
  have ty : isT N K q.2.2.1 ∨ q.2.2.1 = 0 := by
    split at h3
    · exact Or.inr h3
    · exact Or.inl h3.1
  have tz : isT N K q.2.2.2.1 ∨ q.2.2.2.1 = 0 := by
    split at h4
    · exact Or.inl h4.1
    · exact Or.inr h4
  have e : inF cl k (j5 N i) = (((false || decide (¬ cl (6 * k + 1) = 0 ∧ idxF (cl (6 * k + 1)) = nI (j5 N i))) || decide (¬ cl (6 * k + 2) = 0 ∧ idxF (cl (6 * k + 2)) = nI (j5 N i))) || decide (¬ cl (6 * k + 3) = 0 ∧ idxF (cl (6 * k + 3)) = nI (j5 N i))) := rfl
  rw [e, r2, r3, r4, Bool.false_or, Bool.or_eq_true, Bool.or_eq_true, key _ g2 (Or.inl hx), key _ g3 ty, key _ g4 tz]
  unfold inQ
  constructor
  · rintro ((h | h) | h)
    · exact Or.inl h
    · exact Or.inr (Or.inl h)
    · exact Or.inr (Or.inr h)
  · rintro (h | h | h)
    · exact Or.inl (Or.inl h)
    · exact Or.inl (Or.inr h)
    · exact Or.inr h
/-- rules 3, 5, one clue -/
theorem same_bcl (hN : 0 < N ∧ N ≤ 5) (hK : K ≤ 3) (hX : grX N K X s.1 w.1) (hQ : ∀ k, k < n → okQ N K (Q k)) (hcl : ∀ k, k < n → rowOK cl k (Q k)) (rule : Nat) (hr : rule = 3 ∨ rule = 5) {k : Nat} (hk : k < n) (hsp : (Q k).2.2.2.2.2 = -1) (hk9 : (Q k).1 ≠ 9) : sameS N K n Q X s w (bclF N (nI rule) (nI k) (cdC (Q k)) s 3 (afterF (xF (cdC (Q k))) (yF (cdC (Q k))) (zF (cdC (Q k))) 0)) (stpF N K cl rule k w) := by
  have hP : ∀ i p, i < N * K → p < N → (TQ N X (Q k) i p ↔ tqF w.1 N cl rule k (j5 N i) p = true) := by
    intro i p hi hp
    unfold tqF
    rw [Bool.and_eq_true, bit0_iff _ (by omega), (hX i hi).2.2, bt_nI _ _ (by omega)]
    have e : tkF w.1 N cl rule k (j5 N i) p = (inF cl k (j5 N i) && !canBF w.1 N cl k (nI (j5 N i)) (nI p)) := by
      unfold tkF
      rw [if_neg (by omega), if_neg (by omega), if_neg (by omega)]
    rw [e, Bool.and_eq_true, inF_iff hN hK (hQ k hk) (hcl k hk) hi, Bool.not_eq_true']
    unfold TQ
    constructor
    · rintro ⟨z1, z2, z3⟩
      refine ⟨z1, z2, ?_⟩
      cases hc : canBF w.1 N cl k (nI (j5 N i)) (nI p) with
      | false => rfl
      | true => exact absurd ((can_r hN hK hX hi hp (hQ k hk) (hcl k hk)).mp hc) z3
    · rintro ⟨z1, z2, z3⟩
      refine ⟨z1, z2, fun z => ?_⟩
      rw [(can_r hN hK hX hi hp (hQ k hk) (hcl k hk)).mpr z] at z3
      exact Bool.false_ne_true z3.symm
  obtain ⟨o, h1, e1⟩ := bcl_spec hN hK (nI rule) (nI k) s hX (hQ k hk)
  obtain ⟨o', h2, e2⟩ := sp_spec (K := K) hN (tqF w.1 N cl rule k)
  have e := picks_u hP h1 h2
  subst e
  unfold stpF
  rw [e1, e2]
  rcases h1 with ⟨rfl, _⟩ | ⟨i, p, hl, rfl⟩
  · exact Or.inl ⟨rfl, rfl⟩
  · refine Or.inr ⟨rule, k, i, p, by omega, hl.1, hl.2.1, hl.2.2.1.1, Or.inr (Or.inr (Or.inr ⟨hr, hk, hsp, hk9, hl.2.2.1⟩)), ?_, rfl⟩
    rw [if_pos hr]
    rfl
/-- rules 3, 5 -/
theorem same_bcs (hN : 0 < N ∧ N ≤ 5) (hK : K ≤ 3) (hX : grX N K X s.1 w.1) (hcs : ∀ k, k < n → cs k = cdC (Q k)) (hQ : ∀ k, k < n → okQ N K (Q k)) (hcl : ∀ k, k < n → rowOK cl k (Q k)) (rule : Nat) (hr : rule = 3 ∨ rule = 5) : ∀ m k, k + m = n → sameS N K n Q X s w (bcsF N (nI rule) cs s (segF id m k)) (sdK N K cl rule w m k) := by
  intro m
  induction m with
  | zero => intro k _; exact Or.inl ⟨rfl, rfl⟩
  | succ m ih =>
    intro k hk
    have hkn : k < n := by omega
    have h9 := ih (k + 1) (by omega)
    have rg := okQ_rng hN hK (hQ k hkn)
    obtain ⟨d1, d2, d3, d4, d5, d6⟩ := cd_dec rg
    have hcond : (spF (cs k) = -1 ∧ ruleF (kindF (cs k)) = nI rule) ↔ isOfB (nI rule) (cl (6 * k)) (cl (6 * k + 5)) = true := by
      rw [hcs k hkn, d1, d6, (hcl k hkn).1, (hcl k hkn).2.2.2.2.2]
      unfold isOfB
      rw [decide_eq_true_iff]
      have ht := rule_tab (Q k).1 rg.1
      rcases hr with rfl | rfl
      · rw [if_pos (show nI 3 = (3 : Int32) from rfl)]
        exact and_congr Iff.rfl ht.1
      · rw [if_neg (show ¬ nI 5 = (3 : Int32) by decide)]
        exact and_congr Iff.rfl ht.2
    show sameS N K n Q X s w (bcsF N (nI rule) cs s (k :: segF id m (k + 1))) (sdK N K cl rule w (m + 1) k)
    unfold bcsF sdK
    by_cases hc : spF (cs k) = -1 ∧ ruleF (kindF (cs k)) = nI rule
    · rw [if_pos hc, if_pos (hcond.mp hc)]
      have hsp : (Q k).2.2.2.2.2 = -1 := by
        have := hc.1
        rw [hcs k hkn, d6] at this
        exact this
      have hk9 : (Q k).1 ≠ 9 := by
        intro e
        have h7 := hc.2
        rw [hcs k hkn, d1, e] at h7
        revert h7
        rcases hr with rfl | rfl
        · decide
        · decide
      have h8 := same_bcl hN hK hX hQ hcl rule hr hkn hsp hk9
      rw [hcs k hkn]
      rcases h8 with ⟨e1, e2⟩ | ⟨r, k', i, p, a1, a2, a3, a4, a5, e1, e2⟩
      · rw [e1, e2]
        exact h9
      · rw [e1, e2]
        exact Or.inr ⟨r, k', i, p, a1, a2, a3, a4, a5, rfl, rfl⟩
    · rw [if_neg hc, if_neg (fun z => hc (hcond.mpr z))]
      exact h9
/-- a step -/
theorem same_step (hN : 0 < N ∧ N ≤ 5) (hK : K ≤ 3) (hX : grX N K X s.1 w.1) (hcs : ∀ k, k < n → cs k = cdC (Q k)) (hQ : ∀ k, k < n → okQ N K (Q k)) (hcl : ∀ k, k < n → rowOK cl k (Q k)) : sameS N K n Q X s w (stepF N K n cs s) (sdF N K n cl w) := by
  have h1 := same_bs (n := n) (Q := Q) (cl := cl) hN hX 1 (Or.inl rfl)
  have h2 := same_bs (n := n) (Q := Q) (cl := cl) hN hX 2 (Or.inr (Or.inl rfl))
  have h3 := same_bcs hN hK hX hcs hQ hcl 3 (Or.inl rfl) n 0 (by omega)
  have h4 := same_bs (n := n) (Q := Q) (cl := cl) hN hX 4 (Or.inr (Or.inr rfl))
  have h5 := same_bcs hN hK hX hcs hQ hcl 5 (Or.inr rfl) n 0 (by omega)
  rw [show nI 1 = (1 : Int32) from rfl] at h1
  rw [show nI 2 = (2 : Int32) from rfl] at h2
  rw [show nI 3 = (3 : Int32) from rfl] at h3
  rw [show nI 4 = (4 : Int32) from rfl] at h4
  rw [show nI 5 = (5 : Int32) from rfl] at h5
  have eR : sdF N K n cl w = (match stpF N K cl 1 0 w with
      | some v => some v
      | none => match stpF N K cl 2 0 w with
        | some v => some v
        | none => match sdK N K cl 3 w n 0 with
          | some v => some v
          | none => match stpF N K cl 4 0 w with
            | some v => some v
            | none => match sdK N K cl 5 w n 0 with
              | some v => some v
              | none => none) := rfl
  rw [eR]
  unfold stepF
  rcases h1 with ⟨e1, f1⟩ | ⟨r, k', i, p, a1, a2, a3, a4, a5, e1, f1⟩
  · rw [e1, f1]
    rcases h2 with ⟨e2, f2⟩ | ⟨r, k', i, p, a1, a2, a3, a4, a5, e2, f2⟩
    · rw [e2, f2]
      rcases h3 with ⟨e3, f3⟩ | ⟨r, k', i, p, a1, a2, a3, a4, a5, e3, f3⟩
      · rw [e3, f3]
        rcases h4 with ⟨e4, f4⟩ | ⟨r, k', i, p, a1, a2, a3, a4, a5, e4, f4⟩
        · rw [e4, f4]
          rcases h5 with ⟨e5, f5⟩ | ⟨r, k', i, p, a1, a2, a3, a4, a5, e5, f5⟩
          · rw [e5, f5]
            exact Or.inl ⟨rfl, rfl⟩
          · rw [e5, f5]
            exact Or.inr ⟨r, k', i, p, a1, a2, a3, a4, a5, rfl, rfl⟩
        · rw [e4, f4]
          exact Or.inr ⟨r, k', i, p, a1, a2, a3, a4, a5, rfl, rfl⟩
      · rw [e3, f3]
        exact Or.inr ⟨r, k', i, p, a1, a2, a3, a4, a5, rfl, rfl⟩
    · rw [e2, f2]
      exact Or.inr ⟨r, k', i, p, a1, a2, a3, a4, a5, rfl, rfl⟩
  · rw [e1, f1]
    exact Or.inr ⟨r, k', i, p, a1, a2, a3, a4, a5, rfl, rfl⟩
end STEP
