-- what only asks, on both sides
section ASK
variable {N K D n : Nat} {Q : Nat → Clue} {cs cl od : Nat → Int32}
theorem clAt_at {y w : Nat} (hn : n ≤ 30) (hy : y < n) (hw : w ≤ 5) : clAt cl n (nI y) (nI w) = cl (6 * y + w) := by
  unfold clAt
  rw [if_neg, l6, nI_add, nI_clamp (by omega)]
  rintro (e | e | e | e)
  · exact nI_pos (by omega) e
  · exact nI_ge hy (by omega) e
  · exact nI_pos (by omega) e
  · exact nI_nlt (a := 5) (b := w) hw (by decide) e
theorem w_out {w t : Int32} (h : w < 0 ∨ t < w) {m : Nat} {z : Int} (ht : (nI m).toInt = z) (hm : ¬ t < nI m) (hp : ¬ nI m < 0) : ¬ w.toInt = z := by
  intro e
  have e2 : w = nI m := Int32.toInt_inj.mp (e.trans ht.symm)
  rw [e2] at h
  rcases h with h | h
  · exact hp h
  · exact hm h
theorem ask_clue (hB : bothQ N K D n Q cs cl od) (hn : n ≤ 30) (k w : Int32) : clmF n cs k w = clAt cl n k w := by
  obtain ⟨hN, hK⟩ := both_N hB
  obtain ⟨-, -, -, -, -, hcs, hQ, hcl⟩ := hB
  unfold clmF
  by_cases hk : ¬ k < 0 ∧ k < nI n
  · rw [if_pos hk]
    obtain ⟨y, hy, rfl⟩ := nI_of hk.1
    have hyn : y < n := (nI_ltI hy (by omega)).mp hk.2
    obtain ⟨d1, d2, d3, d4, d5, d6⟩ := cd_dec (okQ_rng hN hK (hQ y hyn))
    obtain ⟨r1, r2, r3, r4, r5, r6⟩ := hcl y hyn
    rw [nI_clamp hy, hcs y hyn, d1, d2, d3, d4, d5, d6]
    by_cases hw : w < 0 ∨ 5 < w
    · have o := fun (m : Nat) (z : Int) => w_out hw (m := m) (z := z)
      unfold clAt
      rw [if_pos (Or.inr (Or.inr hw)), if_neg (o 0 0 (by decide) (by decide) (by decide)), if_neg (o 1 1 (by decide) (by decide) (by decide)), if_neg (o 2 2 (by decide) (by decide) (by decide)), if_neg (o 3 3 (by decide) (by decide) (by decide)), if_neg (o 4 4 (by decide) (by decide) (by decide)), if_neg (o 5 5 (by decide) (by decide) (by decide))]
    · obtain ⟨v, hv, rfl⟩ := nI_of2 (M := 5) (n := 5) (by decide) (fun e => hw (Or.inl e)) (Int32.not_lt.mp (fun e => hw (Or.inr e)))
      rw [clAt_at hn hyn hv]
      have h6 : v = 0 ∨ v = 1 ∨ v = 2 ∨ v = 3 ∨ v = 4 ∨ v = 5 := by omega
      rcases h6 with rfl | rfl | rfl | rfl | rfl | rfl
      · rw [if_pos (by decide)]; exact r1.symm
      · rw [if_neg (by decide), if_pos (by decide)]; exact r2.symm
      · rw [if_neg (by decide), if_neg (by decide), if_pos (by decide)]; exact r3.symm
      · rw [if_neg (by decide), if_neg (by decide), if_neg (by decide), if_pos (by decide)]; exact r4.symm
      · rw [if_neg (by decide), if_neg (by decide), if_neg (by decide), if_neg (by decide), if_pos (by decide)]; exact r5.symm
      · rw [if_neg (by decide), if_neg (by decide), if_neg (by decide), if_neg (by decide), if_neg (by decide), if_pos (by decide)]; exact r6.symm
  · rw [if_neg hk]
    unfold clAt
    rw [if_pos]
    by_cases e : k < 0
    · exact Or.inl e
    · exact Or.inr (Or.inl (Int32.not_lt.mp (fun e2 => hk ⟨e, e2⟩)))
theorem stAt_at {st : Nat → Int32} {y w : Nat} (hn : n ≤ 50) (hy : y < n) (hw : w ≤ 3) : stAt st n (nI y) (nI w) = st (4 * y + w) := by
  unfold stAt
  rw [if_neg, l4, nI_add, nI_clamp (by omega)]
  rintro (e | e | e | e)
  · exact nI_pos (by omega) e
  · exact nI_ge hy (by omega) e
  · exact nI_pos (by omega) e
  · exact nI_nlt (a := 3) (b := w) hw (by decide) e
theorem ask_step {t : PS} {pv pg : Nat → Int32} {ps : Nat} (hp : pfR N K t pv pg ps) (k w : Int32) : stmF t k w = stAt pv ps k w := by
  obtain ⟨e1, e2, e3, -⟩ := hp
  unfold stmF
  rw [e1]
  by_cases hk : ¬ k < 0 ∧ k < nI ps
  · rw [if_pos hk]
    obtain ⟨y, hy, rfl⟩ := nI_of hk.1
    have hyn : y < ps := (nI_ltI hy (by omega)).mp hk.2
    obtain ⟨r1, r2, r3, r4⟩ := e3 y hyn
    rw [nI_clamp hy]
    by_cases hw : w < 0 ∨ 3 < w
    · have o := fun (m : Nat) (z : Int) => w_out hw (m := m) (z := z)
      unfold stAt
      rw [if_pos (Or.inr (Or.inr hw)), if_neg (o 0 0 (by decide) (by decide) (by decide)), if_neg (o 1 1 (by decide) (by decide) (by decide)), if_neg (o 2 2 (by decide) (by decide) (by decide)), if_neg (o 3 3 (by decide) (by decide) (by decide))]
    · obtain ⟨v, hv, rfl⟩ := nI_of2 (M := 3) (n := 3) (by decide) (fun e => hw (Or.inl e)) (Int32.not_lt.mp (fun e => hw (Or.inr e)))
      rw [stAt_at e2 hyn hv]
      have h6 : v = 0 ∨ v = 1 ∨ v = 2 ∨ v = 3 := by omega
      rcases h6 with rfl | rfl | rfl | rfl
      · rw [if_pos (by decide)]; exact r1.symm
      · rw [if_neg (by decide), if_pos (by decide)]; exact r2.symm
      · rw [if_neg (by decide), if_neg (by decide), if_pos (by decide)]; exact r3.symm
      · rw [if_neg (by decide), if_neg (by decide), if_neg (by decide), if_pos (by decide)]; exact r4.symm
  · rw [if_neg hk]
    unfold stAt
    rw [if_pos]
    by_cases e : k < 0
    · exact Or.inl e
    · exact Or.inr (Or.inl (Int32.not_lt.mp (fun e2 => hk ⟨e, e2⟩)))
theorem ask_may {t : PS} {pv pg : Nat → Int32} {ps : Nat} (hN : 0 < N ∧ N ≤ 5) (hK : K ≤ 3) (hp : pfR N K t pv pg ps) (x : Int32) : (if thingB (nI N) (nI K) x = true then t.1 x.toNatClampNeg else 0) = (if thingB (nI N) (nI K) x = true then pg (idxF x).toNatClampNeg else 0) := by
  by_cases c : thingB (nI N) (nI K) x = true
  · rw [if_pos c, if_pos c]
    obtain ⟨i, hi, rfl⟩ := (thing_iff hN hK x).mp c
    have h1 := tAt_lt hN hK hi
    have h2 := j5_lt hN hK hi
    rw [idx_t hN hK hi, nI_clamp (by omega)]
    show _ = pg (nI (j5 N i)).toNatClampNeg
    rw [nI_clamp (by omega)]
    exact hp.2.2.2 i hi
  · rw [if_neg c, if_neg c]
theorem ask_shown {T : List Nat} {m : Nat} {t : SS} {sh : Nat → Int32} (h1 : txOK T t.2.2.2.2.2.1 t.2.2.1) (h2 : txOK T m sh) (k : Int32) : shnF t k = if k < 0 ∨ nI m ≤ k then -1 else sh k.toNatClampNeg := by
  obtain ⟨a1, a2, a3⟩ := h1
  obtain ⟨b1, b2, b3⟩ := h2
  unfold shnF
  rw [a1, b1]
  by_cases hk : ¬ k < 0 ∧ k < nI T.length
  · rw [if_pos hk]
    obtain ⟨y, hy, rfl⟩ := nI_of hk.1
    have hyn : y < T.length := (nI_ltI hy (by omega)).mp hk.2
    rw [if_neg, nI_clamp hy, a3 y hyn, b3 y hyn]
    rintro (e | e)
    · exact hk.1 e
    · exact nI_ge hyn (by omega) e
  · rw [if_neg hk, if_pos]
    by_cases e : k < 0
    · exact Or.inl e
    · exact Or.inr (Int32.not_lt.mp (fun e2 => hk ⟨e, e2⟩))
end ASK
/-- what stands fast through the law's run -/
def lwG (l : Launch) (g : gG) (cB cL cI : ClassId) (N K D : Nat) (wd : Nat → Int64) (od : Nat → Int32) (M W : Nat → Nat) (u : Nat) : Prop := noTr l ∧ ((cB, FieldType.byte) ∈ g.2.1 ∧ (cL, FieldType.long) ∈ g.2.1 ∧ (cI, FieldType.int) ∈ g.2.1) ∧ (okNK N K ∧ D ≤ 120 ∧ ordsQ N K D od ∧ ∀ k, k < 15 → wd k = wdF k) ∧ adr g M W u ∧ (gtW g < gsz g ∧ gtF g < gsz g ∧ gsb g < gsz g) ∧ gsL g ≤ 3586 ∧ ¬ gsb g = gtW g ∧ ¬ gtF g = gtW g
def lwV (g : gG) (M W : Nat → Nat) (u j : Nat) : gV := [some (.ref (gsb g)), some (.ref (M 0)), some (.ref (W 0)), some (.ref u), some (.int (nI j)), none, none]
/-- the law goes on behind a case -/
def lwK (l : Launch) (g : gG) (cB cL cI : ClassId) (N K D : Nat) (wd : Nat → Int64) (od : Nat → Int32) (M W : Nat → Nat) (u j : Nat) (h0 : gH) (Z : gZ) (k m : Nat) : Prop := ∀ (s : RMS) (a : RA) (n : RN) (i : RI) (f : Nat → Int64) (h : gH), linv cB cL cI N K D wd od M W u s a n i f h → rel N K D od s a n i → gw l g mLW_law room_1 h0 (gZl h0 Z) (k + 1) (m + 6) 897 (lwV g M W u j) [] h
theorem lawR_ge {d : Nat} (h : d ≤ 1000) : d ≤ room_1.frames ∧ 60 * d ≤ room_1.locals := ⟨Nat.le_trans h (by decide), Nat.le_trans (Nat.mul_le_mul_left 60 h) (by decide)⟩
theorem lw_at {g : gG} {j : Nat} (hL : gsL g ≤ 3586) (hj : j + 7 ≤ gsL g) (t : Nat) (ht : t < 7) : nI j + nI t = nI (j + t) ∧ (nI (j + t)).toNatClampNeg = j + t ∧ vp_in (nI (j + t)) (gsL g) = True := ⟨nI_add j t, nI_clamp (by omega), eq_true (vp_in_nI (by omega) (by omega))⟩
theorem linv_n {cB cL cI : ClassId} {N K D : Nat} {wd : Nat → Int64} {od : Nat → Int32} {M W : Nat → Nat} {u : Nat} {s : RMS} {a : RA} {n : RN} {i : RI} {f : Nat → Int64} {h : gH} (hI : linv cB cL cI N K D wd od M W u s a n i f h) : s.1.1 ≤ 30 := hI.1.2.1.2.2.1
