-- what the reference's proof asks of its rows
theorem rows_okR {N K n : Nat} {Q : Nat → Clue} {cl : Nat → Int32} (hN : 0 < N ∧ N ≤ 5) (hK : K ≤ 3) (h : rowsQ N K n Q cl) : ∀ (rule k : Nat), k < n → isOfB (nI rule) (cl (6 * k)) (cl (6 * k + 5)) = true → rule = 3 ∨ rule = 5 → okR cl k := by
  intro rule k hk hb hr
  obtain ⟨r1, r2, r3, r4, r5, r6⟩ := h.1 k hk
  have hq := h.2 k hk
  obtain ⟨g1, g2, g3, g4, g5, g6⟩ := okQ_rng hN hK hq
  have n9 : ¬ (Q k).1 = 9 := by
    intro e
    rw [r1, e] at hb
    have tab : ∀ s : Int32, isOfB 3 (nI 9) s = true → False := by
      intro s hs
      simp [isOfB] at hs
      exact absurd hs.2 (by decide)
    have tab5 : ∀ s : Int32, isOfB 5 (nI 9) s = true → False := by
      intro s hs
      simp [isOfB] at hs
      exact absurd hs.2 (by decide)
    rcases hr with rfl | rfl
    · exact tab _ hb
    · exact tab5 _ hb
  have t8 : ∀ m, m < 10 → ¬ m = 9 → ¬ ((nI m).toInt < 0 ∨ 8 < (nI m).toInt) := by decide +kernel
  have t6 : ∀ m, m < 10 → (¬ nI m = 6 → ¬ m = 6) := by decide +kernel
  have t3 : ∀ m, m < 10 → ¬ m = 9 → threeB (nI m) = true → m = 5 ∨ m = 7 ∨ m = 8 := by decide +kernel
  refine ⟨?_, ?_, ?_, ?_⟩
  · rw [r1]
    exact t8 _ g1 n9
  · rw [r2]
    exact idx_in hN hK hq.2.1
  · intro e
    rw [r1] at e
    rw [r3]
    have h3 := hq.2.2.1
    rw [if_neg (t6 _ g1 e)] at h3
    exact idx_in hN hK h3.1
  · intro e
    rw [r1] at e
    rw [r4]
    have h4 := hq.2.2.2.1
    rw [if_pos (t3 _ g1 n9 e)] at h4
    exact idx_in hN hK h4.1
-- what is made hangs on the seed alone
theorem row_uniq {cl : Nat → Int32} {k : Nat} {q q2 : Clue} (h : rowOK cl k q) (h2 : rowOK cl k q2) (g : rngC q) (g2 : rngC q2) : q = q2 := by
  obtain ⟨a1, a2, a3, a4, a5, a6⟩ := h
  obtain ⟨b1, b2, b3, b4, b5, b6⟩ := h2
  obtain ⟨c1, c2, c3, c4, c5, _⟩ := g
  obtain ⟨d1, d2, d3, d4, d5, _⟩ := g2
  have e1 : q.1 = q2.1 := (nI_eq (by omega) (by omega)).mp (a1.symm.trans b1)
  have e2 : q.2.1 = q2.2.1 := (nI_eq (by omega) (by omega)).mp (a2.symm.trans b2)
  have e3 : q.2.2.1 = q2.2.2.1 := (nI_eq (by omega) (by omega)).mp (a3.symm.trans b3)
  have e4 : q.2.2.2.1 = q2.2.2.2.1 := (nI_eq (by omega) (by omega)).mp (a4.symm.trans b4)
  have e5 : q.2.2.2.2.1 = q2.2.2.2.2.1 := (nI_eq (by omega) (by omega)).mp (a5.symm.trans b5)
  have e6 : q.2.2.2.2.2 = q2.2.2.2.2.2 := a6.symm.trans b6
  exact Prod.ext e1 (Prod.ext e2 (Prod.ext e3 (Prod.ext e4 (Prod.ext e5 e6))))
theorem once_seed {N K D : Nat} {od : Nat → Int32} (hNK : okNK N K) (ho : ordsQ N K D od) {s s2 : MS} (hs : s.2.2.2 = s2.2.2.2) (cc cc2 : Nat → Int32) : (onceP N K s cc).2.1 = (onceP N K s2 cc2).2.1 ∧ (onceP N K s cc).1.2.2.2 = (onceP N K s2 cc2).1.2.2.2 ∧ ∀ k, k < (onceP N K s cc).2.1 → (onceP N K s cc).2.2 k = (onceP N K s2 cc2).2.2 k := by
  have hN : 0 < N ∧ N ≤ 5 := ⟨by have := hNK.1; omega, hNK.2.1⟩
  have hK : K ≤ 3 := hNK.2.2.2.1
  obtain ⟨Q, n, hn, a1, a2, a3, hB⟩ := once_both (D := D) (od := od) hNK ho s cc zeR zeR zeR
  obtain ⟨Q2, n2, hn2, b1, b2, b3, hB2⟩ := once_both (D := D) (od := od) hNK ho s2 cc2 zeR zeR zeR
  rw [← hs] at b2 b3 hB2
  have en : n = n2 := a2.symm.trans b2
  refine ⟨by rw [a1, b1, en], a3.trans b3.symm, fun k hk => ?_⟩
  rw [a1] at hk
  obtain ⟨_, c1, c2⟩ := both_un hB
  obtain ⟨_, d1, d2⟩ := both_un hB2
  rw [c1.1 k hk, d1.1 k (by omega)]
  rw [row_uniq (c2.1 k hk) (d2.1 k (by omega)) (okQ_rng hN hK (c2.2 k hk)) (okQ_rng hN hK (d2.2 k (by omega)))]
