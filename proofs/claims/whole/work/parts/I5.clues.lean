-- a clue as told is a Clue; the same clue on both sides
section CLQ
variable {N K : Nat}
theorem p_three {p : Int32} (h1 : ¬ p < -1) (h2 : p ≤ 1) : p = -1 ∨ p = 0 ∨ p = 1 := by
  rw [Int32.lt_iff_toInt_lt] at h1
  rw [Int32.le_iff_toInt_le] at h2
  have e1 : (-1 : Int32).toInt = -1 := by decide
  have e2 : (1 : Int32).toInt = 1 := by decide
  have e3 : (0 : Int32).toInt = 0 := by decide
  rw [e1] at h1
  rw [e2] at h2
  have h3 : p.toInt = -1 ∨ p.toInt = 0 ∨ p.toInt = 1 := by omega
  rcases h3 with h | h | h
  · exact Or.inl (Int32.toInt_inj.mp (h.trans e1.symm))
  · exact Or.inr (Or.inl (Int32.toInt_inj.mp (h.trans e3.symm)))
  · exact Or.inr (Or.inr (Int32.toInt_inj.mp (h.trans e2.symm)))
theorem cl_q (hN : 0 < N ∧ N ≤ 5) (hK : K ≤ 3) {k x y z d p : Int32} (h : clB (nI N) (nI K) k x y z d p = true) : ∃ q : Clue, okQ N K q ∧ k = nI q.1 ∧ x = nI q.2.1 ∧ y = nI q.2.2.1 ∧ z = nI q.2.2.2.1 ∧ d = nI q.2.2.2.2.1 ∧ p = q.2.2.2.2.2 := by
  unfold clB at h
  simp only [Bool.and_eq_true] at h
  obtain ⟨hk, hx, hy, hz, hd⟩ := h
  obtain ⟨k0, k9, p1, p2⟩ := of_decide_eq_true hk
  obtain ⟨kk, hkk, rfl⟩ := nI_of2 (M := 9) (n := 9) (by decide) k0 k9
  obtain ⟨ix, hix, rfl⟩ := (thing_iff hN hK x).mp hx
  have eq : ∀ b : Nat, b < 10 → (nI kk = nI b ↔ kk = b) := fun b hb => nI_eq (by omega) (by omega)
  have ti : ∀ b : Nat, b < 10 → ((nI kk).toInt = (nI b).toInt ↔ kk = b) := fun b hb => by rw [Int32.toInt_inj]; exact eq b hb
  have t4 : (nI 4).toInt = 4 := by decide
  have t6 : (nI 6).toInt = 6 := by decide
  have t9 : (nI 9).toInt = 9 := by decide
  have i4 := ti 4 (by decide)
  have i6 := ti 6 (by decide)
  have i9 := ti 9 (by decide)
  rw [t4] at i4
  rw [t6] at i6
  rw [t9] at i9
  have e6 : nI kk = 6 ↔ kk = 6 := eq 6 (by decide)
  have hyy : ∃ yy, y = nI yy ∧ (if kk = 6 then yy = 0 else isT N K yy ∧ yy ≠ tAt N ix) := by
    unfold yB at hy
    by_cases c : kk = 6
    · rw [if_pos (e6.mpr c)] at hy
      exact ⟨0, of_decide_eq_true hy, by rw [if_pos c]⟩
    · rw [if_neg (mt e6.mp c)] at hy
      simp only [Bool.and_eq_true] at hy
      obtain ⟨j, hj, rfl⟩ := (thing_iff hN hK y).mp hy.1
      refine ⟨tAt N j, rfl, ?_⟩
      rw [if_neg c]
      exact ⟨⟨j, hj, rfl⟩, fun e => of_decide_eq_true hy.2 (by rw [e])⟩
  obtain ⟨yy, rfl, hyy⟩ := hyy
  have hzz : ∃ zz, z = nI zz ∧ (if kk = 5 ∨ kk = 7 ∨ kk = 8 then isT N K zz ∧ zz ≠ tAt N ix ∧ zz ≠ yy else zz = 0) := by
    unfold zB at hz
    by_cases c : kk = 5 ∨ kk = 7 ∨ kk = 8
    · have c' : threeB (nI kk) = true := by
        refine decide_eq_true ?_
        rcases c with c | c | c
        · exact Or.inl ((eq 5 (by decide)).mpr c)
        · exact Or.inr (Or.inl ((eq 7 (by decide)).mpr c))
        · exact Or.inr (Or.inr ((eq 8 (by decide)).mpr c))
      rw [if_pos c'] at hz
      simp only [Bool.and_eq_true] at hz
      obtain ⟨j, hj, rfl⟩ := (thing_iff hN hK z).mp hz.1
      refine ⟨tAt N j, rfl, ?_⟩
      rw [if_pos c]
      exact ⟨⟨j, hj, rfl⟩, fun e => of_decide_eq_true hz.2.1 (by rw [e]), fun e => of_decide_eq_true hz.2.2 (by rw [e])⟩
    · have c' : ¬ threeB (nI kk) = true := fun e => by
        rcases of_decide_eq_true e with e | e | e
        · exact c (Or.inl ((eq 5 (by decide)).mp e))
        · exact c (Or.inr (Or.inl ((eq 7 (by decide)).mp e)))
        · exact c (Or.inr (Or.inr ((eq 8 (by decide)).mp e)))
      rw [if_neg c'] at hz
      exact ⟨0, of_decide_eq_true hz, by rw [if_neg c]⟩
  obtain ⟨zz, rfl, hzz⟩ := hzz
  have hdd : ∃ dd, d = nI dd ∧ dOK N K kk dd := by
    unfold dB at hd
    by_cases c4 : kk = 4
    · rw [if_pos (i4.mpr c4)] at hd
      obtain ⟨d1, d2⟩ := of_decide_eq_true hd
      obtain ⟨j, hj, rfl⟩ := nI_of (fun e => d1 (Int32.lt_trans e (by decide)))
      refine ⟨j, rfl, ?_⟩
      unfold dOK
      rw [if_pos c4]
      exact ⟨Nat.le_of_not_lt (fun e => d1 (nI_lt (b := 1) e (by decide))), (nI_ltI hj (by omega)).mp d2⟩
    rw [if_neg (mt i4.mp c4)] at hd
    by_cases c6 : kk = 6
    · rw [if_pos (i6.mpr c6)] at hd
      obtain ⟨d1, d2⟩ := of_decide_eq_true hd
      obtain ⟨j, hj, rfl⟩ := nI_of d1
      refine ⟨j, rfl, ?_⟩
      unfold dOK
      rw [if_neg c4, if_pos c6]
      exact (nI_ltI hj (by omega)).mp d2
    rw [if_neg (mt i6.mp c6)] at hd
    by_cases c9 : kk = 9
    · rw [if_pos (i9.mpr c9)] at hd
      obtain ⟨d1, d2⟩ := of_decide_eq_true hd
      obtain ⟨j, hj, rfl⟩ := nI_of (fun e => d1 (Int32.lt_trans e (by decide)))
      refine ⟨j, rfl, ?_⟩
      unfold dOK
      rw [if_neg c4, if_neg c6, if_pos c9]
      exact ⟨Nat.le_of_not_lt (fun e => d1 (nI_lt (b := 1) e (by decide))), (nI_leI hj (by omega)).mp d2⟩
    · rw [if_neg (mt i9.mp c9)] at hd
      refine ⟨0, of_decide_eq_true hd, ?_⟩
      unfold dOK
      rw [if_neg c4, if_neg c6, if_neg c9]
  obtain ⟨dd, rfl, hdd⟩ := hdd
  exact ⟨(kk, tAt N ix, yy, zz, dd, p), ⟨by show kk < 10; omega, ⟨ix, hix, rfl⟩, hyy, hzz, hdd, p_three p1 p2⟩, rfl, rfl, rfl, rfl, rfl, rfl⟩
theorem cd_inj {q q2 : Clue} (g : rngC q) (g2 : rngC q2) (h : cdC q = cdC q2) : q = q2 := by
  obtain ⟨a1, a2, a3, a4, a5, a6⟩ := cd_dec g
  obtain ⟨b1, b2, b3, b4, b5, b6⟩ := cd_dec g2
  rw [h] at a1 a2 a3 a4 a5 a6
  obtain ⟨c1, c2, c3, c4, c5, _⟩ := g
  obtain ⟨d1, d2, d3, d4, d5, _⟩ := g2
  have e1 : q.1 = q2.1 := (nI_eq (by omega) (by omega)).mp (a1.symm.trans b1)
  have e2 : q.2.1 = q2.2.1 := (nI_eq (by omega) (by omega)).mp (a2.symm.trans b2)
  have e3 : q.2.2.1 = q2.2.2.1 := (nI_eq (by omega) (by omega)).mp (a3.symm.trans b3)
  have e4 : q.2.2.2.1 = q2.2.2.2.1 := (nI_eq (by omega) (by omega)).mp (a4.symm.trans b4)
  have e5 : q.2.2.2.2.1 = q2.2.2.2.2.1 := (nI_eq (by omega) (by omega)).mp (a5.symm.trans b5)
  have e6 : q.2.2.2.2.2 = q2.2.2.2.2.2 := a6.symm.trans b6
  exact Prod.ext e1 (Prod.ext e2 (Prod.ext e3 (Prod.ext e4 (Prod.ext e5 e6))))
theorem sg_in {m s k : Nat} (h1 : s ≤ k) (h2 : k < s + m) : k ∈ segF id m s := by
  rw [segF_range, List.mem_range'_1]
  exact ⟨h1, h2⟩
variable {D n : Nat} {Q : Nat → Clue} {cs cl od : Nat → Int32}
theorem both_N (h : bothQ N K D n Q cs cl od) : (0 < N ∧ N ≤ 5) ∧ K ≤ 3 := ⟨⟨by have := h.1.1; omega, h.1.2⟩, h.2.1.2⟩
theorem dup_iff (hB : bothQ N K D n Q cs cl od) {q : Clue} (hq : okQ N K q) : (∃ j, j < n ∧ cs j = cdC q) ↔ (segF id n 0).any (fun j => isRow cl j (nI q.1) (nI q.2.1) (nI q.2.2.1) (nI q.2.2.2.1) (nI q.2.2.2.2.1) q.2.2.2.2.2) = true := by
  obtain ⟨hN, hK⟩ := both_N hB
  obtain ⟨-, -, -, -, -, hcs, hQ, hcl⟩ := hB
  rw [List.any_eq_true]
  constructor
  · rintro ⟨j, hj, e⟩
    refine ⟨j, sg_in (Nat.zero_le _) (by omega), ?_⟩
    have e2 : Q j = q := cd_inj (okQ_rng hN hK (hQ j hj)) (okQ_rng hN hK hq) ((hcs j hj).symm.trans e)
    have h3 := hcl j hj
    rw [e2] at h3
    exact decide_eq_true h3
  · rintro ⟨j, hj, e⟩
    have hj2 : j < n := by
      have := sg_mem hj
      omega
    have h3 : rowOK cl j q := by
      unfold isRow at e
      unfold rowOK
      exact of_decide_eq_true e
    have e2 := row_uniq (hcl j hj2) h3 (okQ_rng hN hK (hQ j hj2)) (okQ_rng hN hK hq)
    exact ⟨j, hj2, by rw [hcs j hj2, e2]⟩
theorem rows_okP (h : rowsQ N K n Q cl) (hN : 0 < N ∧ N ≤ 5) (hK : K ≤ 3) : ∀ k, k < n → okP cl k := fun k hk => by
  obtain ⟨r1, r2, r3, r4, r5, r6⟩ := h.1 k hk
  obtain ⟨g1, g2, g3, g4, g5, g6⟩ := h.2 k hk
  have eq : ∀ b : Nat, b < 10 → (nI (Q k).1 = nI b ↔ (Q k).1 = b) := fun b hb => nI_eq (by omega) (by omega)
  unfold okP
  rw [r1, r2, r3, r4]
  refine ⟨⟨nI_pos (by omega), nI_le (b := 9) (by omega) (by decide)⟩, idx_in hN hK g2, fun c => ?_, fun c => ?_, fun c => ?_, fun c => ?_⟩
  · split at g3
    · exact absurd (by rw [g3]; rfl) c
    · exact idx_in hN hK g3.1
  · split at g4
    · exact idx_in hN hK g4.1
    · exact absurd (by rw [g4]; rfl) c
  · split at g3
    · rename_i c6
      exact absurd ((eq 6 (by decide)).mpr c6) c
    · exact idx_in hN hK g3.1
  · split at g4
    · exact idx_in hN hK g4.1
    · rename_i c6
      refine absurd ?_ c6
      rcases of_decide_eq_true c with e | e | e
      · exact Or.inl ((eq 5 (by decide)).mp e)
      · exact Or.inr (Or.inl ((eq 7 (by decide)).mp e))
      · exact Or.inr (Or.inr ((eq 8 (by decide)).mp e))
end CLQ
