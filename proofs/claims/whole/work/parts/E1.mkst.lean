-- the maker, its riddle, the worlds and the trial: one state
def apU (U : Nat → Nat) (m : Nat) : Prop := ∀ i j : Nat, i < m → j < m → U i = U j → i = j
def isMA (cI : ClassId) (N K : Nat) (B : Nat → Nat) (rA : Nat) (s : MS) (h : gH) : Prop := h (B 1) = some (.inl (cI, 40, .inl s.1)) ∧ h (B 2) = some (.inl (cI, 320, .inl s.2.1)) ∧ h (B 0) = some (.inr (1, fMA (nI N) (nI (N * K)) B rA s.2.2.1 s.2.2.2))
def isPR (cI : ClassId) (N K : Nat) (P : Nat → Nat) (t : PS) (h : gH) : Prop := h (P 1) = some (.inl (cI, 40, .inl t.1)) ∧ h (P 2) = some (.inl (cI, 50, .inl t.2.1)) ∧ h (P 3) = some (.inl (cI, 50, .inl t.2.2.1)) ∧ h (P 4) = some (.inl (cI, 50, .inl t.2.2.2.1)) ∧ h (P 5) = some (.inl (cI, 50, .inl t.2.2.2.2.1)) ∧ h (P 0) = some (.inr (2, fPR (nI N) (nI (N * K)) P (nI t.2.2.2.2.2.1) t.2.2.2.2.2.2.1 t.2.2.2.2.2.2.2))
section MKST
variable {cI : ClassId} {N K : Nat} {U B P A : Nat → Nat} {h h' : gH}
theorem apU_ne {m : Nat} (hU : apU U m) {i j : Nat} (hi : i < m) (hj : j < m) (n : i ≠ j) : U i ≠ U j := fun e => n (hU i j hi hj e)
theorem isMA_h {rA : Nat} {s : MS} (e : isMA cI N K B rA s h) : hMA cI B (nI N) (nI (N * K)) rA s h = h := gh3_id e.1 e.2.1 e.2.2
theorem isMA_of {rA : Nat} {s : MS} (hA : apM B) : isMA cI N K B rA s (hMA cI B (nI N) (nI (N * K)) rA s h) := ⟨gh3_g0 hA, gh3_g1 hA, gh3_g2 hA⟩
theorem hMA_x {rA : Nat} {s : MS} {q : Nat} (n : ∀ i, i < 3 → q ≠ B i) : hMA cI B (nI N) (nI (N * K)) rA s h q = h q := gh3_x (n 1 (by decide)) (n 2 (by decide)) (n 0 (by decide))
theorem isPR_h {t : PS} (e : isPR cI N K P t h) : hPR cI P (nI N) (nI (N * K)) t h = h := gh6_id e.1 e.2.1 e.2.2.1 e.2.2.2.1 e.2.2.2.2.1 e.2.2.2.2.2
theorem isPR_of {t : PS} (hA : apP P) : isPR cI N K P t (hPR cI P (nI N) (nI (N * K)) t h) := ⟨gh6_g0 hA, gh6_g1 hA, gh6_g2 hA, gh6_g3 hA, gh6_g4 hA, gh6_g5 hA⟩
theorem hPRx {t : PS} {q : Nat} (n : ∀ i, i < 6 → q ≠ P i) : hPR cI P (nI N) (nI (N * K)) t h q = h q := gh6_x (n 1 (by decide)) (n 2 (by decide)) (n 3 (by decide)) (n 4 (by decide)) (n 5 (by decide)) (n 0 (by decide))
theorem isMA_fr {rA : Nat} {s : MS} (f : ∀ i, i < 3 → h' (B i) = h (B i)) (e : isMA cI N K B rA s h) : isMA cI N K B rA s h' := ⟨(f 1 (by decide)).trans e.1, (f 2 (by decide)).trans e.2.1, (f 0 (by decide)).trans e.2.2⟩
theorem isPR_fr {t : PS} (f : ∀ i, i < 6 → h' (P i) = h (P i)) (e : isPR cI N K P t h) : isPR cI N K P t h' := ⟨(f 1 (by decide)).trans e.1, (f 2 (by decide)).trans e.2.1, (f 3 (by decide)).trans e.2.2.1, (f 4 (by decide)).trans e.2.2.2.1, (f 5 (by decide)).trans e.2.2.2.2.1, (f 0 (by decide)).trans e.2.2.2.2.2⟩
theorem isCL_fr {cl cc n : Nat} {cs : Nat → Int32} (f1 : h' cl = h cl) (f2 : h' cc = h cc) (e : isCL cI cl cc n cs h) : isCL cI cl cc n cs h' := ⟨f1.trans e.1, f2.trans e.2.1, e.2.2⟩
theorem isWO_fr (f : ∀ i, i < 7 → h' (A i) = h (A i)) (e : isWO cI N K A h) : isWO cI N K A h' := by
  obtain ⟨lim0, mp0, wat0, c0, pa2, pw2, pt2, qv0, dv0, sv0, w0, w1, w2, w3, w4, w5, w6, hr⟩ := e
  exact ⟨lim0, mp0, wat0, c0, pa2, pw2, pt2, qv0, dv0, sv0, (f 0 (by decide)).trans w0, (f 1 (by decide)).trans w1, (f 2 (by decide)).trans w2, (f 3 (by decide)).trans w3, (f 4 (by decide)).trans w4, (f 5 (by decide)).trans w5, (f 6 (by decide)).trans w6, hr⟩
theorem okc_cd (hN : 0 < N ∧ N ≤ 5) (hK : K ≤ 3) {q : Clue} (hq : okQ N K q) : okc (cdC q) := by
  have rg := okQ_rng hN hK hq
  obtain ⟨d1, d2, d3, d4, d5, d6⟩ := cd_dec rg
  obtain ⟨g1, g2, g3, g4, g5, g6⟩ := rg
  refine ⟨?_, ?_, ?_, ?_⟩
  · rw [d2]; exact vp_in_nI g2 (by omega)
  · rw [d3]; exact vp_in_nI g3 (by omega)
  · rw [d4]; exact vp_in_nI g4 (by omega)
  · intro e
    rw [d1] at e
    have k9 : q.1 = 9 := (nI_eq (a := q.1) (b := 9) (by omega) (by omega)).mp e
    have h5 := hq.2.2.2.2.1
    unfold dOK at h5
    rw [if_neg (by omega), if_neg (by omega), if_pos k9] at h5
    exact ⟨q.2.2.2.2.1, by omega, d5⟩
-- what one time leaves, on the program's side alone
theorem dw_lt {s : MS} (h : s.2.2.2 < 2147483647) : (dwF N K s).2.2.2 < 2147483647 := by
  have a := fold_rel (fun (s : MS) (_ : Nat) => s.2.2.2 < 2147483647) (dwI N) (fun b _ => b) (segF id (N * K) 0) s 0 h (fun s b c _ h => h)
  exact fold_rel (fun (s : MS) (_ : Nat) => s.2.2.2 < 2147483647) (dwS N) (fun b _ => b) (segF id K 0) _ 0 a (fun s b q _ h => fold_rel (fun (s : MS) (_ : Nat) => s.2.2.2 < 2147483647) (swF (10 * (q + 1))) (fun b _ => b) (dnL (N - 1)) s b h (fun s b k _ _ => drN_lt _))
theorem mix_lt {s : MS} (h : s.2.2.2 < 2147483647) : (mixF s).2.2.2 < 2147483647 := fold_rel (fun (s : MS) (_ : Nat) => s.2.2.2 < 2147483647) mxS (fun b _ => b) (dnL (s.2.2.1 - 1)) s 0 h (fun s b k _ _ => drN_lt _)
theorem pool_c (hNK : okNK N K) {s : MS} (hv : s.2.2.2 < 2147483647) : ∃ (Q : Nat → Clue) (m : Nat), m ≤ 303 ∧ (gaF N (N * K) (dwF N K s)).2.2.1 = m ∧ (gaF N (N * K) (dwF N K s)).2.2.2 < 2147483647 ∧ (poolP N K s).2.2.1 = m ∧ (poolP N K s).2.2.2 < 2147483647 ∧ ∀ k, k < m → (poolP N K s).2.1 k = cdC (Q k) ∧ okQ N K (Q k) := by
  have hN : 0 < N ∧ N ≤ 5 := ⟨by have := hNK.1; omega, hNK.2.1⟩
  obtain ⟨Q, m, hm, p1, p2, p3, p4⟩ := pool_both hNK s zeR zeR
  have hsum : sumOK N K (dwN N K s.2.2.2).1 := dw_sum hN.1 _
  obtain ⟨c1, c2, c3, c4⟩ := dw_c (K := K) hN s
  obtain ⟨g1, g2, g3, g4⟩ := ga_c hNK hsum c1
  have hv2 : (gaF N (N * K) (dwF N K s)).2.2.2 < 2147483647 := by
    rw [g3]
    exact dw_lt hv
  obtain ⟨m11, m12, m13, m14⟩ := mix_c (s := gaF N (N * K) (dwF N K s)) (r := fun j => (Lw N K (dwN N K s.2.2.2).1).getD j q0C) (fun j hj => g4 j (by rw [← g2]; exact hj))
  refine ⟨Q, m, hm, m13.symm.trans p1, hv2, p1, mix_lt hv2, fun k hk => ⟨(p4 k hk).1, (p4 k hk).2.2.1⟩⟩
theorem okc_ad {po : Nat → Int32} : ∀ (n : Nat) (cc : Nat → Int32), (∀ k, k < n → okc (po k)) → (∀ j, okc (cc j)) → ∀ j, okc ((List.range n).foldl (adP po) cc j)
  | 0, _, _, h, j => h j
  | n + 1, cc, hp, h, j => by
    rw [List.range_succ, List.foldl_append, List.foldl_cons, List.foldl_nil]
    show okc (upd ((List.range n).foldl (adP po) cc) n (po n) j)
    by_cases e : j = n
    · rw [e, pk_us]
      exact hp n (by omega)
    · rw [pk_un e]
      exact okc_ad n cc (fun k hk => hp k (by omega)) h j
end MKST
-- the search
abbrev FS : Type := MS × Nat × (Nat → Int32) × PS
def fiS (N K : Nat) (st : FS) : FS := ((onceP N K st.1 st.2.2.1).1, (onceP N K st.1 st.2.2.1).2.1, (onceP N K st.1 st.2.2.1).2.2, runF N K (onceP N K st.1 st.2.2.1).2.1 (onceP N K st.1 st.2.2.1).2.2 st.2.2.2)
def fiF (N K : Nat) (rt : Int32) : Nat → Nat → FS → Nat × FS
  | 0, _, st => (0, st)
  | m + 1, t, st => if (fiS N K st).2.2.2.2.2.2.2.2.2.1 = rt then (t, fiS N K st) else fiF N K rt m (t + 1) (fiS N K st)
def mkI (cI : ClassId) (N K : Nat) (U : Nat → Nat) (st : FS) (h : gH) : Prop := isMA cI N K U (U 3) st.1 h ∧ isCL cI (U 3) (U 4) st.2.1 st.2.2.1 h ∧ isWO cI N K (fun i => U (5 + i)) h ∧ isPR cI N K (fun i => U (12 + i)) st.2.2.2 h
