-- thinning out, and one time of making, on both sides
def zeR : Nat → Int32 := fun _ => 0
def difP (N K n : Nat) (cs : Nat → Int32) (sk : Int32) : Bool := decide ((2 : Int32) ≤ (plRun N K n cs sk 1000000 2 (-1) zeR zeR zeR).2.2.2.2.1)
def codesQ (N K n : Nat) (Q : Nat → Clue) (cs : Nat → Int32) : Prop := (∀ k, k < n → cs k = cdC (Q k)) ∧ ∀ k, k < n → okQ N K (Q k)
def rowsQ (N K n : Nat) (Q : Nat → Clue) (cl : Nat → Int32) : Prop := (∀ k, k < n → rowOK cl k (Q k)) ∧ ∀ k, k < n → okQ N K (Q k)
/-- the places, the sorts and the reference's orders -/
def ordsQ (N K D : Nat) (od : Nat → Int32) : Prop := (3 ≤ N ∧ N ≤ 5) ∧ (1 ≤ K ∧ K ≤ 3) ∧ 0 < D ∧ D ^ K ≤ 14400 ∧ odOK N D od
section ONCE
variable {N K D n : Nat} {Q : Nat → Clue} {cs cl od : Nat → Int32}
theorem both_mk (h : ordsQ N K D od) (h1 : codesQ N K n Q cs) (h2 : rowsQ N K n Q cl) : bothQ N K D n Q cs cl od := ⟨h.1, h.2.1, h.2.2.1, h.2.2.2.1, h.2.2.2.2, h1.1, h1.2, h2.1⟩
theorem both_un (h : bothQ N K D n Q cs cl od) : ordsQ N K D od ∧ codesQ N K n Q cs ∧ rowsQ N K n Q cl := ⟨⟨h.1, h.2.1, h.2.2.1, h.2.2.2.1, h.2.2.2.2.1⟩, ⟨h.2.2.2.2.2.1, h.2.2.2.2.2.2.1⟩, ⟨h.2.2.2.2.2.2.2, h.2.2.2.2.2.2.1⟩⟩
theorem difP_any (hN : 0 < N ∧ N ≤ 5) (hK : K ≤ 3) (h : codesQ N K n Q cs) (sk : Int32) (pa pw pt : Nat → Int32) (hpt : ∀ j, pt j = 0) : decide ((2 : Int32) ≤ (plRun N K n cs sk 1000000 2 (-1) pa pw pt).2.2.2.2.1) = difP N K n cs sk := by
  unfold difP
  rw [plRun_lv hN hK h.1 h.2 1000000 2 (-1) (Or.inl (by decide)) pa pw pt hpt, plRun_lv hN hK h.1 h.2 1000000 2 (-1) (Or.inl (by decide)) zeR zeR zeR (fun _ => rfl)]
theorem difP_F (hB : bothQ N K D n Q cs cl od) (pl : Nat → Int32) (sk : Int32) : difP N K n cs sk = difF N K D n od cl pl sk := same_differ hB pl zeR zeR zeR (fun _ => rfl) sk
theorem difF_any (ho : ordsQ N K D od) (h : rowsQ N K n Q cl) (pl pl2 : Nat → Int32) (sk : Int32) : difF N K D n od cl pl sk = difF N K D n od cl pl2 sk := by
  have hB : bothQ N K D n Q (fun k => cdC (Q k)) cl od := both_mk ho ⟨fun _ _ => rfl, h.2⟩ h
  rw [← difP_F hB pl sk, difP_F hB pl2 sk]
theorem codes_rem (h : codesQ N K n Q cs) {k : Nat} (hk : k < n) : codesQ N K (n - 1) (rmQ Q k) (rmF cs k (n - 1)) := by
  refine ⟨fun i hi => ?_, fun i hi => ?_⟩
  · unfold rmF rmQ
    by_cases e : k ≤ i
    · rw [if_pos ⟨e, hi⟩, if_pos e]
      exact h.1 _ (by omega)
    · rw [if_neg (fun z => e z.1), if_neg e]
      exact h.1 _ (by omega)
  · unfold rmQ
    split
    · exact h.2 _ (by omega)
    · exact h.2 _ (by omega)
theorem rows_rem (ho : ordsQ N K D od) (h : rowsQ N K n Q cl) {k : Nat} (hk : k < n) : rowsQ N K (n - 1) (rmQ Q k) (rmvF cl k n) := (both_un (both_rem (both_mk ho ⟨fun _ _ => rfl, h.2⟩ h) hk)).2.2
-- thinning
def dzL : Nat → List Nat
  | 0 => []
  | k + 1 => k :: dzL k
def tpS (N K : Nat) (st : Nat × (Nat → Int32)) (k : Nat) : Nat × (Nat → Int32) := if difP N K st.1 st.2 (nI k) = false then (st.1 - 1, rmF st.2 k (st.1 - 1)) else st
def trS (N K D : Nat) (od : Nat → Int32) (st : Nat × (Nat → Int32)) (k : Nat) : Nat × (Nat → Int32) := if difF N K D st.1 od st.2 zeR (nI k) = false then (st.1 - 1, rmvF st.2 k st.1) else st
theorem thin_both : ∀ (m n : Nat) (Q : Nat → Clue) (cs cl : Nat → Int32), m ≤ n → bothQ N K D n Q cs cl od → ∃ (n' : Nat) (Q' : Nat → Clue), ((dzL m).foldl (tpS N K) (n, cs)).1 = n' ∧ ((dzL m).foldl (trS N K D od) (n, cl)).1 = n' ∧ n' ≤ n ∧ bothQ N K D n' Q' ((dzL m).foldl (tpS N K) (n, cs)).2 ((dzL m).foldl (trS N K D od) (n, cl)).2 od
  | 0, n, Q, cs, cl, _, hB => ⟨n, Q, rfl, rfl, Nat.le_refl _, hB⟩
  | m + 1, n, Q, cs, cl, hm, hB => by
    show ∃ (n' : Nat) (Q' : Nat → Clue), ((dzL m).foldl (tpS N K) (tpS N K (n, cs) m)).1 = n' ∧ ((dzL m).foldl (trS N K D od) (trS N K D od (n, cl) m)).1 = n' ∧ n' ≤ n ∧ bothQ N K D n' Q' ((dzL m).foldl (tpS N K) (tpS N K (n, cs) m)).2 ((dzL m).foldl (trS N K D od) (trS N K D od (n, cl) m)).2 od
    have e := difP_F hB zeR (nI m)
    by_cases c : difP N K n cs (nI m) = false
    · have e1 : tpS N K (n, cs) m = (n - 1, rmF cs m (n - 1)) := if_pos c
      have e2 : trS N K D od (n, cl) m = (n - 1, rmvF cl m n) := if_pos (e ▸ c)
      rw [e1, e2]
      obtain ⟨n', Q', i1, i2, i3, i4⟩ := thin_both m (n - 1) _ _ _ (by omega) (both_rem hB (show m < n by omega))
      exact ⟨n', Q', i1, i2, by omega, i4⟩
    · have e1 : tpS N K (n, cs) m = (n, cs) := if_neg c
      have e2 : trS N K D od (n, cl) m = (n, cl) := if_neg (fun z => c (e.trans z))
      rw [e1, e2]
      obtain ⟨n', Q', i1, i2, i3, i4⟩ := thin_both m n _ _ _ (by omega) hB
      exact ⟨n', Q', i1, i2, by omega, i4⟩
-- one time
def adP (po : Nat → Int32) (f : Nat → Int32) (k : Nat) : Nat → Int32 := upd f k (po k)
def poolP (N K : Nat) (s : MS) : MS := mixF (gaF N (N * K) (dwF N K s))
def takP (s : MS) (cc : Nat → Int32) : Nat × (Nat → Int32) := (min s.2.2.1 24, (List.range (min s.2.2.1 24)).foldl (adP s.2.1) cc)
def thinP (N K : Nat) (st : Nat × (Nat → Int32)) : Nat × (Nat → Int32) := if difP N K st.1 st.2 (-1) = false then (dzL st.1).foldl (tpS N K) st else st
def onceP (N K : Nat) (s : MS) (cc : Nat → Int32) : MS × Nat × (Nat → Int32) := (poolP N K s, thinP N K (takP (poolP N K s) cc))
abbrev OV : Type := (Nat → Int32) × (Nat → Int32) × Nat × Nat
def poolR (N K : Nat) (pl po : Nat → Int32) (v : Nat) : OV := ((ooF N K (pl, v)).1, (rmxF (gathF N K (ooF N K (pl, v)).1 po).2 ((gathF N K (ooF N K (pl, v)).1 po).1, (ooF N K (pl, v)).2)).1, (gathF N K (ooF N K (pl, v)).1 po).2, (rmxF (gathF N K (ooF N K (pl, v)).1 po).2 ((gathF N K (ooF N K (pl, v)).1 po).1, (ooF N K (pl, v)).2)).2)
def takR (s : OV) (cl : Nat → Int32) : Nat × (Nat → Int32) := (min s.2.2.1 24, (List.range (min s.2.2.1 24)).foldl (putP s.2.1) cl)
def thinR (N K D : Nat) (od : Nat → Int32) (st : Nat × (Nat → Int32)) : Nat × (Nat → Int32) := if difF N K D st.1 od st.2 zeR (-1) = false then (dzL st.1).foldl (trS N K D od) st else st
def onceR (N K D : Nat) (od pl po cl : Nat → Int32) (v : Nat) : OV × Nat × (Nat → Int32) := (poolR N K pl po v, thinR N K D od (takR (poolR N K pl po v) cl))
theorem ad_rows {po : Nat → Int32} : ∀ (n : Nat) (cc : Nat → Int32) (k : Nat), k < n → (List.range n).foldl (adP po) cc k = po k
  | 0, _, k, hk => by omega
  | n + 1, cc, k, hk => by
    rw [List.range_succ, List.foldl_append, List.foldl_cons, List.foldl_nil]
    show upd ((List.range n).foldl (adP po) cc) n (po n) k = po k
    by_cases e : k = n
    · rw [e, pk_us]
    · rw [pk_un e]
      exact ad_rows n cc k (by omega)
/-- the pool is the same on both sides -/
theorem pool_both (hNK : okNK N K) (s : MS) (pl po : Nat → Int32) : ∃ (Q : Nat → Clue) (m : Nat), m ≤ 303 ∧ (poolP N K s).2.2.1 = m ∧ (poolR N K pl po s.2.2.2).2.2.1 = m ∧ (poolP N K s).2.2.2 = (poolR N K pl po s.2.2.2).2.2.2 ∧ (∀ k, k < m → (poolP N K s).2.1 k = cdC (Q k) ∧ cel5 (poolR N K pl po s.2.2.2).2.1 k (Q k) ∧ okQ N K (Q k) ∧ (Q k).2.2.2.2.2 = -1) := by
  have hN : 0 < N ∧ N ≤ 5 := ⟨by have := hNK.1; omega, hNK.2.1⟩
  obtain ⟨W, hW⟩ : ∃ W, W = dwN N K s.2.2.2 := ⟨_, rfl⟩
  have hsum : sumOK N K W.1 := by rw [hW]; exact dw_sum hN.1 _
  obtain ⟨c1, c2, c3, c4⟩ := dw_c (K := K) hN s
  obtain ⟨r1, r2, r3⟩ := dw_r (K := K) hN pl s.2.2.2
  rw [← hW] at c1 c4 r1 r2
  obtain ⟨g1, g2, g3, g4⟩ := ga_c hNK hsum c1
  obtain ⟨k1, k2⟩ := ga_r hNK r1 po
  obtain ⟨L, hL⟩ : ∃ L, L = Lw N K W.1 := ⟨_, rfl⟩
  rw [← hL] at g2 g4 k1 k2
  have hm : L.length ≤ 303 := by rw [hL]; exact cand_many hNK hsum
  have m1 := mix_c (s := gaF N (N * K) (dwF N K s)) (r := fun j => L.getD j q0C) (fun j hj => g4 j (by rw [← g2]; exact hj))
  rw [g2, g3, c4] at m1
  obtain ⟨m11, m12, m13, m14⟩ := m1
  have m2 := mix_r (n := L.length) (v := W.2) (r := fun j => L.getD j q0C) k2
  obtain ⟨m21, m22⟩ := m2
  have hok : ∀ i, i < L.length → okQ N K (L.getD i q0C) ∧ (L.getD i q0C).2.2.2.2.2 = -1 := by
    intro i hi
    have hmem : L.getD i q0C ∈ L := by
      rw [List.getD_eq_getElem?_getD, List.getElem?_eq_getElem hi]
      exact List.getElem_mem hi
    have h2 : L.getD i q0C ∈ cP N (N * K) := by
      have h3 : L.getD i q0C ∈ (cP N (N * K)).filter (soV N W.1) := by
        have : L = (cP N (N * K)).filter (soV N W.1) := hL
        rw [← this]
        exact hmem
      exact (List.mem_filter.mp h3).1
    exact (cand_ok hNK h2).2
  have hP := mix_P (P := fun q => okQ N K q ∧ q.2.2.2.2.2 = -1) (n := L.length) (st := (fun j => L.getD j q0C, W.2)) hok
  refine ⟨(mixN L.length (fun j => L.getD j q0C, W.2)).1, L.length, hm, m13, k1, ?_, ?_⟩
  · show (mixF (gaF N (N * K) (dwF N K s))).2.2.2 = (rmxF (gathF N K (ooF N K (pl, s.2.2.2)).1 po).2 ((gathF N K (ooF N K (pl, s.2.2.2)).1 po).1, (ooF N K (pl, s.2.2.2)).2)).2
    rw [m14, k1, r2, m22]
  · intro k hk
    refine ⟨m11 k hk, ?_, (hP k hk).1, (hP k hk).2⟩
    show cel5 (rmxF (gathF N K (ooF N K (pl, s.2.2.2)).1 po).2 ((gathF N K (ooF N K (pl, s.2.2.2)).1 po).1, (ooF N K (pl, s.2.2.2)).2)).1 k _
    rw [k1, r2]
    exact m21 k hk
/-- one time gives the same riddle on both sides -/
theorem once_both (hNK : okNK N K) (ho : ordsQ N K D od) (s : MS) (cc pl po cl : Nat → Int32) : ∃ (Q : Nat → Clue) (n : Nat), n ≤ 24 ∧ (onceP N K s cc).2.1 = n ∧ (onceR N K D od pl po cl s.2.2.2).2.1 = n ∧ (onceP N K s cc).1.2.2.2 = (onceR N K D od pl po cl s.2.2.2).1.2.2.2 ∧ bothQ N K D n Q (onceP N K s cc).2.2 (onceR N K D od pl po cl s.2.2.2).2.2 od := by
  obtain ⟨Q, m, hm, p1, p2, p3, p4⟩ := pool_both hNK s pl po
  have hB : bothQ N K D (min m 24) Q (takP (poolP N K s) cc).2 (takR (poolR N K pl po s.2.2.2) cl).2 od := by
    refine both_mk ho ⟨fun k hk => ?_, fun k hk => (p4 k (by omega)).2.2.1⟩ ⟨fun k hk => ?_, fun k hk => (p4 k (by omega)).2.2.1⟩
    · show (List.range (min (poolP N K s).2.2.1 24)).foldl (adP (poolP N K s).2.1) cc k = _
      rw [p1, ad_rows _ _ _ hk]
      exact (p4 k (by omega)).1
    · show rowOK ((List.range (min (poolR N K pl po s.2.2.2).2.2.1 24)).foldl (putP (poolR N K pl po s.2.2.2).2.1) cl) k (Q k)
      rw [p2]
      exact put_rows _ _ (fun k hk => ⟨(p4 k (by omega)).2.1, (p4 k (by omega)).2.2.2⟩) k hk
  have t1 : (takP (poolP N K s) cc).1 = min m 24 := by
    show min (poolP N K s).2.2.1 24 = _
    rw [p1]
  have t2 : (takR (poolR N K pl po s.2.2.2) cl).1 = min m 24 := by
    show min (poolR N K pl po s.2.2.2).2.2.1 24 = _
    rw [p2]
  obtain ⟨A, hA⟩ : ∃ A, A = takP (poolP N K s) cc := ⟨_, rfl⟩
  obtain ⟨R, hR⟩ : ∃ R, R = takR (poolR N K pl po s.2.2.2) cl := ⟨_, rfl⟩
  have e1 : (onceP N K s cc).2 = thinP N K A := by rw [hA]; rfl
  have e2 : (onceR N K D od pl po cl s.2.2.2).2 = thinR N K D od R := by rw [hR]; rfl
  rw [← hA] at hB t1
  rw [← hR] at hB t2
  rw [e1, e2]
  have e := difP_F hB zeR (-1)
  unfold thinP thinR
  rw [t1, t2]
  by_cases c : difP N K (min m 24) A.2 (-1) = false
  · rw [if_pos c, if_pos (e.symm.trans c)]
    obtain ⟨n', Q', i1, i2, i3, i4⟩ := thin_both (min m 24) (min m 24) Q A.2 R.2 (Nat.le_refl _) hB
    have a1 : A = (min m 24, A.2) := by rw [← t1]
    have a2 : R = (min m 24, R.2) := by rw [← t2]
    rw [a1, a2]
    exact ⟨Q', n', by omega, i1, i2, p3, i4⟩
  · rw [if_neg c, if_neg (fun z => c (e.trans z))]
    exact ⟨Q, min m 24, by omega, t1, t2, p3, hB⟩
end ONCE
