-- the relation behind read
section RL3
variable {N K D : Nat} {od : Nat → Int32} {s : RMS} {a : RA} {n : RN} {i : RI}
theorem rel_line (hr : rel N K D od s a n i) {t : SS} {sl : Nat → Int32} (hk : kpS (clS s.2.2.2 sl) t) {c : Nat} {Q' : Nat → Clue} {cs cl : Nat → Int32} (hB : bothQ N K D c Q' cs cl od) {i' : RI} (hf : sFp t = i'.2.2.1) : rel N K D od ((c, cs), s.2.1, s.2.2.1, t) (cl, a.2) (c, n.2.1, n.2.2.1, n.2.2.2.1, 0, n.2.2.2.2.2) i' := by
  obtain ⟨Q, B, L, T, hB0, hn, hnm, hl, hx, hfa, hpf⟩ := hr
  obtain ⟨k1, k2, k3, k4, k5⟩ := hk
  refine ⟨Q', B, [], T, hB, rfl, ?_, ⟨⟨k4, by decide, fun b hb => (by cases hb), fun j hj => absurd hj (Nat.not_lt_zero _)⟩, ⟨rfl, by decide, fun b hb => (by cases hb), fun j hj => absurd hj (Nat.not_lt_zero _)⟩⟩, ⟨?_, hx.2⟩, hf, hpf⟩
  · show nmOK N K B t.1 _
    rw [k1]
    exact hnm
  · show txOK T t.2.2.2.2.2.1 t.2.2.1
    rw [k3, k5]
    exact hx.1
theorem rel_read (hNK : okNK N K) (h30 : s.1.1 ≤ 30) (hr : rel N K D od s a n i) (r : RS) : ∃ P RD, P = parF s.2.2.2 ∧ RD = rdF a.2.2.2.2.2.2.2.2.2.1 n.2.2.2.2.1 a.2.2.2.2.2.2.2.1 r ∧
    ((P.1 = false ∧ goodR (nI N) (nI K) RD = false ∧ rel N K D od (s.1, s.2.1, s.2.2.1, P.2) a (n.1, n.2.1, n.2.2.1, n.2.2.2.1, 0, n.2.2.2.2.2) (1, (rsi i (rdN RD)).2)) ∨
    (P.1 = true ∧ clB (nI N) (nI K) (kindF P.2.2.2.2.2.2.2.2.1) (xF P.2.2.2.2.2.2.2.2.1) (yF P.2.2.2.2.2.2.2.2.1) (zF P.2.2.2.2.2.2.2.2.1) (dF P.2.2.2.2.2.2.2.2.1) (spF P.2.2.2.2.2.2.2.2.1) = false ∧ goodR (nI N) (nI K) RD = false ∧ rel N K D od (s.1, s.2.1, s.2.2.1, ssF P.2 (-2)) a (n.1, n.2.1, n.2.2.1, n.2.2.2.1, 0, n.2.2.2.2.2) (1, (rsi i (rdN RD)).2)) ∨
    (P.1 = true ∧ clB (nI N) (nI K) (kindF P.2.2.2.2.2.2.2.2.1) (xF P.2.2.2.2.2.2.2.2.1) (yF P.2.2.2.2.2.2.2.2.1) (zF P.2.2.2.2.2.2.2.2.1) (dF P.2.2.2.2.2.2.2.2.1) (spF P.2.2.2.2.2.2.2.2.1) = true ∧ goodR (nI N) (nI K) RD = true ∧ thrR (nI N) (nI K) n.1 a.1 RD = 2 ∧ (s.1.1 = 30 ∨ ∃ j, j < s.1.1 ∧ s.1.2 j = P.2.2.2.2.2.2.2.2.1) ∧ rel N K D od (s.1, s.2.1, s.2.2.1, P.2) a (n.1, n.2.1, n.2.2.1, n.2.2.2.1, 0, n.2.2.2.2.2) (2, (rsi i RD).2)) ∨
    (P.1 = true ∧ clB (nI N) (nI K) (kindF P.2.2.2.2.2.2.2.2.1) (xF P.2.2.2.2.2.2.2.2.1) (yF P.2.2.2.2.2.2.2.2.1) (zF P.2.2.2.2.2.2.2.2.1) (dF P.2.2.2.2.2.2.2.2.1) (spF P.2.2.2.2.2.2.2.2.1) = true ∧ goodR (nI N) (nI K) RD = true ∧ thrR (nI N) (nI K) n.1 a.1 RD = 0 ∧ s.1.1 < 30 ∧ (¬ ∃ j, j < s.1.1 ∧ s.1.2 j = P.2.2.2.2.2.2.2.2.1) ∧ okc P.2.2.2.2.2.2.2.2.1 ∧ rel N K D od ((s.1.1 + 1, upd s.1.2 s.1.1 P.2.2.2.2.2.2.2.2.1), s.2.1, s.2.2.1, P.2) (rowR a.1 n.1 RD, a.2) (n.1 + 1, n.2.1, n.2.2.1, n.2.2.2.1, 0, n.2.2.2.2.2) (rsi i RD))) := by
  obtain ⟨Q, B, L, T, hB, hn, hnm, ⟨hl1, hl2⟩, hx, hfa, hpf⟩ := id hr
  have hN : 0 < N ∧ N ≤ 5 := ⟨by have := hNK.1; omega, hNK.2.1⟩
  have hK3 := hNK.2.2.2.1
  refine ⟨_, _, rfl, rfl, ?_⟩
  obtain ⟨kp, hc⟩ := same_read hN hK3 hnm hl2.2.2.2 s.2.2.2 rfl hl1 r
  rw [hl2.1]
  generalize parF s.2.2.2 = P at *
  generalize rdF a.2.2.2.2.2.2.2.2.2.1 L.length a.2.2.2.2.2.2.2.1 r = RD at *
  have rl : ∀ (t : SS), kpS (clS s.2.2.2 (sl0 s.2.2.2)) t → ∀ i' : RI, sFp t = i'.2.2.1 → rel N K D od (s.1, s.2.1, s.2.2.1, t) a (n.1, n.2.1, n.2.2.1, n.2.2.2.1, 0, n.2.2.2.2.2) i' := fun t ht i' hf => by
    have := rel_line hr ht hB hf
    rw [← hn] at this
    have e : (n.1, s.1.2) = s.1 := by rw [hn]
    rw [e] at this
    exact this
  rcases hc with ⟨g, hg, p1, p2, p3⟩ | ⟨q, rg, p1, p2, p3, p4, r1, r2, r3, r4, r5, r6⟩
  · have p4 : ¬ RD.2.1 = -1 := by rw [p3]; exact nI_m1 (by omega)
    refine Or.inl ⟨p1, ?_, rl _ kp _ ?_⟩
    · unfold goodR
      rw [decide_eq_false p4]
      rfl
    · unfold rdN
      rw [if_neg p4, p2]
      exact p3.symm
  · obtain ⟨d1, d2, d3, d4, d5, d6⟩ := cd_dec rg
    have p3' : P.2.2.2.2.2.2.2.2.1 = cdC q := p3
    rw [p3', d1, d2, d3, d4, d5, d6]
    have hg : goodR (nI N) (nI K) RD = clB (nI N) (nI K) (nI q.1) (nI q.2.1) (nI q.2.2.1) (nI q.2.2.2.1) (nI q.2.2.2.2.1) q.2.2.2.2.2 := by
      unfold goodR
      rw [decide_eq_true p4, r1, r2, r3, r4, r5, r6]
      rfl
    have ht : thrR (nI N) (nI K) n.1 a.1 RD = thrC (nI N) (nI K) s.1.1 a.1 (nI q.1) (nI q.2.1) (nI q.2.2.1) (nI q.2.2.2.1) (nI q.2.2.2.2.1) q.2.2.2.2.2 := by
      unfold thrR
      rw [hn, r1, r2, r3, r4, r5, r6]
    have hw : rowR a.1 n.1 RD = rowA a.1 s.1.1 (nI q.1) (nI q.2.1) (nI q.2.2.1) (nI q.2.2.2.1) (nI q.2.2.2.2.1) q.2.2.2.2.2 := by
      unfold rowR
      rw [hn, r1, r2, r3, r4, r5, r6]
    rw [hg, ht, hw]
    rcases thr_cases hB h30 (nI q.1) (nI q.2.1) (nI q.2.2.1) (nI q.2.2.2.1) (nI q.2.2.2.2.1) q.2.2.2.2.2 with ⟨t1, t2⟩ | ⟨t1, t2, t3⟩ | ⟨t1, t2, t3, t4, t5, Q', t6⟩
    · refine Or.inr (Or.inl ⟨p1, t1, t1, rl (ssF P.2 (-2)) kp _ ?_⟩)
      unfold rdN
      rw [if_pos p4]
      rfl
    · exact Or.inr (Or.inr (Or.inl ⟨p1, t1, t1, t2, t3, rl _ kp _ (p2.trans p4.symm)⟩))
    · refine Or.inr (Or.inr (Or.inr ⟨p1, t1, t1, t2, t3, t4, t5, ?_⟩))
      have := rel_line hr kp t6 (i' := rsi i RD) (p2.trans p4.symm)
      rw [hn]
      exact this
end RL3
