-- the clues gathered from the drawn world, and their mixing, on both sides
def q0C : Clue := (0, 0, 0, 0, 0, -1)
def Lw (N K : Nat) (F : Nat → Nat) : List Clue := (cP N (N * K)).filter (soV N F)
section POOL
variable {N K : Nat}
theorem so_prog (hN : 0 < N ∧ N ≤ 5) {f : Nat → Int32} {F : Nat → Nat} (h : ∀ i, i < N * K → f (tAt N i) = nI (F i)) {q : Clue} (hq : okQ N K q) (h7 : q.1 < 7) : isSoF (nI q.1) (nI q.2.2.2.2.1) (f q.2.1) (f q.2.2.1) (f q.2.2.2.1) = soV N F q := by
  have tab : ∀ k, k < 7 → ¬ k = 5 → ¬ ((nI k).toInt = 5 ∨ (nI k).toInt = 7 ∨ (nI k).toInt = 8) := by decide +kernel
  obtain ⟨h1, hx, h3, h4, h5, h6⟩ := hq
  have at' : ∀ x, isT N K x → f x = nI (atW N F x) := by
    rintro x ⟨i, hi, rfl⟩
    rw [atW_t hN]
    exact h i hi
  unfold soV
  rw [at' _ hx]
  by_cases k6 : q.1 = 6
  · rw [k6]
    exact so_6
  · rw [if_neg k6] at h3
    rw [at' _ h3.1]
    by_cases k5 : q.1 = 5
    · rw [if_pos (Or.inl k5)] at h4
      rw [at' _ h4.1]
    · exact so_c (tab _ h7 k5)
theorem so_ref (hN : 0 < N ∧ N ≤ 5) (hK : K ≤ 3) {pl : Nat → Int32} {F : Nat → Nat} (h : ∀ i, i < N * K → pl (j5 N i) = nI (F i)) {q : Clue} (hq : okQ N K q) : isSoF (nI q.1) (nI q.2.2.2.2.1) (pl (idxF (nI q.2.1)).toNatClampNeg) (atF pl (nI q.2.2.1)) (atF pl (nI q.2.2.2.1)) = soV N F q := by
  have rg := okQ_rng hN hK hq
  obtain ⟨g1, g2, g3, g4, g5, g6⟩ := rg
  obtain ⟨h1, hx, h3, h4, h5, h6⟩ := hq
  have at' : ∀ x, isT N K x → pl (idxF (nI x)).toNatClampNeg = nI (atW N F x) := by
    rintro x ⟨i, hi, rfl⟩
    have := j5_lt hN hK hi
    rw [atW_t hN, idx_t hN hK hi]
    show pl (nI (j5 N i)).toNatClampNeg = _
    rw [nI_clamp (by omega)]
    exact h i hi
  have at2 : ∀ x, x < 40 → (isT N K x ∨ x = 0) → atF pl (nI x) = nI (atW N F x) := by
    intro x hx40 hx
    unfold atF
    rcases hx with hx | hx
    · have h10 : 10 ≤ x := by
        obtain ⟨i, _, rfl⟩ := hx
        exact tAt_ge i
      rw [if_neg (fun e => by
        have := (nI_eq (a := x) (b := 0) (by omega) (by omega)).mp e
        omega)]
      exact at' x hx
    · rw [hx]
      rfl
  have ty : isT N K q.2.2.1 ∨ q.2.2.1 = 0 := by
    split at h3
    · exact Or.inr h3
    · exact Or.inl h3.1
  have tz : isT N K q.2.2.2.1 ∨ q.2.2.2.1 = 0 := by
    split at h4
    · exact Or.inl h4.1
    · exact Or.inr h4
  unfold soV
  rw [at' _ hx, at2 _ g3 ty, at2 _ g4 tz]
/-- the program's pool -/
theorem con_fold (hN : 0 < N ∧ N ≤ 5) {F : Nat → Nat} : ∀ (l : List Clue) (s : MS), (∀ i, i < N * K → s.1 (tAt N i) = nI (F i)) → (∀ q ∈ l, q.1 < 7 ∧ okQ N K q ∧ q.2.2.2.2.2 = -1) → s.2.2.1 + (l.filter (soV N F)).length ≤ 320 → (l.foldl conC s).1 = s.1 ∧ (l.foldl conC s).2.2.1 = s.2.2.1 + (l.filter (soV N F)).length ∧ (l.foldl conC s).2.2.2 = s.2.2.2 ∧ (∀ j, j < s.2.2.1 → (l.foldl conC s).2.1 j = s.2.1 j) ∧ ∀ j, j < (l.filter (soV N F)).length → (l.foldl conC s).2.1 (s.2.2.1 + j) = cdC ((l.filter (soV N F)).getD j q0C)
  | [], s, _, _, _ => ⟨rfl, rfl, rfl, fun _ _ => rfl, fun j hj => absurd hj (Nat.not_lt_zero j)⟩
  | q :: l, s, h, hl, hc => by
    obtain ⟨q7, qok, qsp⟩ := hl q List.mem_cons_self
    have hl' := fun u (hu : u ∈ l) => hl u (List.mem_cons_of_mem _ hu)
    rw [List.foldl_cons]
    have e := so_prog hN h qok q7
    by_cases c : soV N F q = true
    · rw [List.filter_cons_of_pos c] at hc ⊢
      rw [List.length_cons] at hc ⊢
      have e2 : conC s q = (s.1, upd s.2.1 s.2.2.1 (cdC q), s.2.2.1 + 1, s.2.2.2) := by
        unfold conC conS
        rw [if_pos ⟨e.trans c, by omega⟩]
        unfold cdC
        rw [qsp]
      rw [e2]
      obtain ⟨i1, i2, i3, i4, i5⟩ := con_fold hN l (s.1, upd s.2.1 s.2.2.1 (cdC q), s.2.2.1 + 1, s.2.2.2) h hl' (by show s.2.2.1 + 1 + _ ≤ 320; omega)
      refine ⟨i1, ?_, i3, ?_, ?_⟩
      · rw [i2]
        show s.2.2.1 + 1 + _ = _
        omega
      · intro j hj
        rw [i4 j (show j < s.2.2.1 + 1 by omega)]
        exact pk_un (by omega)
      · intro j hj
        cases j with
        | zero =>
          exact (i4 s.2.2.1 (show s.2.2.1 < s.2.2.1 + 1 by omega)).trans pk_us
        | succ j =>
          have := i5 j (by omega)
          rw [show s.2.2.1 + (j + 1) = s.2.2.1 + 1 + j by omega]
          exact this
    · have c' : ¬ (isSoF (nI q.1) (nI q.2.2.2.2.1) (s.1 q.2.1) (s.1 q.2.2.1) (s.1 q.2.2.2.1) = true ∧ s.2.2.1 < 320) := fun z => c (e.symm.trans z.1)
      rw [List.filter_cons_of_neg c] at hc ⊢
      have e2 : conC s q = s := if_neg c'
      rw [e2]
      exact con_fold hN l s h hl' hc
theorem ga_c (hNK : okNK N K) {F : Nat → Nat} (hF : sumOK N K F) {s : MS} (h : ∀ i, i < N * K → s.1 (tAt N i) = nI (F i)) : (gaF N (N * K) s).1 = s.1 ∧ (gaF N (N * K) s).2.2.1 = (Lw N K F).length ∧ (gaF N (N * K) s).2.2.2 = s.2.2.2 ∧ ∀ j, j < (Lw N K F).length → (gaF N (N * K) s).2.1 j = cdC ((Lw N K F).getD j q0C) := by
  have hN : 0 < N ∧ N ≤ 5 := ⟨by have := hNK.1; omega, hNK.2.1⟩
  have hm : (Lw N K F).length ≤ 303 := cand_many hNK hF
  rw [ga_cand]
  obtain ⟨i1, i2, i3, i4, i5⟩ := con_fold hN (cP N (N * K)) (s.1, s.2.1, 0, s.2.2.2) h (fun q hq => cand_ok hNK hq) (by show 0 + (Lw N K F).length ≤ 320; omega)
  refine ⟨i1, by rw [i2]; exact Nat.zero_add _, i3, fun j hj => ?_⟩
  have := i5 j hj
  rw [show (((s.1, s.2.1, 0, s.2.2.2) : MS)).2.2.1 + j = j from Nat.zero_add j] at this
  exact this
/-- the reference's pool -/
def cel5 (po : Nat → Int32) (j : Nat) (q : Clue) : Prop := po (5 * j) = nI q.1 ∧ po (5 * j + 1) = nI q.2.1 ∧ po (5 * j + 2) = nI q.2.2.1 ∧ po (5 * j + 3) = nI q.2.2.2.1 ∧ po (5 * j + 4) = nI q.2.2.2.2.1
theorem po_cells (r : Nat → Int32) (b : Nat) (k x y z d : Int32) : (∀ j, j < 5 * b → upd (upd (upd (upd (upd r (5 * b) k) (5 * b + 1) x) (5 * b + 2) y) (5 * b + 3) z) (5 * b + 4) d j = r j) ∧ upd (upd (upd (upd (upd r (5 * b) k) (5 * b + 1) x) (5 * b + 2) y) (5 * b + 3) z) (5 * b + 4) d (5 * b) = k ∧ upd (upd (upd (upd (upd r (5 * b) k) (5 * b + 1) x) (5 * b + 2) y) (5 * b + 3) z) (5 * b + 4) d (5 * b + 1) = x ∧ upd (upd (upd (upd (upd r (5 * b) k) (5 * b + 1) x) (5 * b + 2) y) (5 * b + 3) z) (5 * b + 4) d (5 * b + 2) = y ∧ upd (upd (upd (upd (upd r (5 * b) k) (5 * b + 1) x) (5 * b + 2) y) (5 * b + 3) z) (5 * b + 4) d (5 * b + 3) = z ∧ upd (upd (upd (upd (upd r (5 * b) k) (5 * b + 1) x) (5 * b + 2) y) (5 * b + 3) z) (5 * b + 4) d (5 * b + 4) = d := by
  refine ⟨fun j hj => ?_, ?_, ?_, ?_, ?_, pk_us⟩
  · rw [pk_un (by omega), pk_un (by omega), pk_un (by omega), pk_un (by omega), pk_un (by omega)]
  · rw [pk_un (by omega), pk_un (by omega), pk_un (by omega), pk_un (by omega), pk_us]
  · rw [pk_un (by omega), pk_un (by omega), pk_un (by omega), pk_us]
  · rw [pk_un (by omega), pk_un (by omega), pk_us]
  · rw [pk_un (by omega), pk_us]
theorem po_fold (hN : 0 < N ∧ N ≤ 5) (hK : K ≤ 3) {F : Nat → Nat} {pl : Nat → Int32} (h : ∀ i, i < N * K → pl (j5 N i) = nI (F i)) : ∀ (l : List Clue) (st : PO), (∀ q ∈ l, okQ N K q) → (l.foldl (poC pl) st).2 = st.2 + (l.filter (soV N F)).length ∧ (∀ x, x < 5 * st.2 → (l.foldl (poC pl) st).1 x = st.1 x) ∧ ∀ j, j < (l.filter (soV N F)).length → cel5 (l.foldl (poC pl) st).1 (st.2 + j) ((l.filter (soV N F)).getD j q0C)
  | [], st, _ => ⟨rfl, fun _ _ => rfl, fun j hj => absurd hj (Nat.not_lt_zero j)⟩
  | q :: l, st, hl => by
    have qok := hl q List.mem_cons_self
    have hl' := fun u (hu : u ∈ l) => hl u (List.mem_cons_of_mem _ hu)
    rw [List.foldl_cons]
    have e := so_ref hN hK h qok
    by_cases c : soV N F q = true
    · rw [List.filter_cons_of_pos c, List.length_cons]
      have e2 : poC pl st q = poU (nI q.1) (nI q.2.1) (nI q.2.2.1) (nI q.2.2.2.1) (nI q.2.2.2.2.1) st := by
        unfold poC poF
        rw [if_pos (e.trans c)]
      rw [e2]
      obtain ⟨i1, i2, i3⟩ := po_fold hN hK h l (poU (nI q.1) (nI q.2.1) (nI q.2.2.1) (nI q.2.2.2.1) (nI q.2.2.2.2.1) st) hl'
      have u2 : (poU (nI q.1) (nI q.2.1) (nI q.2.2.1) (nI q.2.2.2.1) (nI q.2.2.2.2.1) st).2 = st.2 + 1 := rfl
      rw [u2] at i1 i2 i3
      refine ⟨by rw [i1]; omega, ?_, ?_⟩
      · intro x hx
        exact (i2 x (by omega)).trans ((po_cells st.1 st.2 (nI q.1) (nI q.2.1) (nI q.2.2.1) (nI q.2.2.2.1) (nI q.2.2.2.2.1)).1 x hx)
      · intro j hj
        cases j with
        | zero =>
          obtain ⟨_, p0, p1, p2, p3, p4⟩ := po_cells st.1 st.2 (nI q.1) (nI q.2.1) (nI q.2.2.1) (nI q.2.2.2.1) (nI q.2.2.2.2.1)
          exact ⟨(i2 (5 * st.2) (by omega)).trans p0, (i2 (5 * st.2 + 1) (by omega)).trans p1, (i2 (5 * st.2 + 2) (by omega)).trans p2, (i2 (5 * st.2 + 3) (by omega)).trans p3, (i2 (5 * st.2 + 4) (by omega)).trans p4⟩
        | succ j =>
          have := i3 j (by omega)
          rw [show st.2 + (j + 1) = st.2 + 1 + j by omega]
          exact this
    · rw [List.filter_cons_of_neg c]
      have e2 : poC pl st q = st := if_neg (fun z => c (e.symm.trans z))
      rw [e2]
      exact po_fold hN hK h l st hl'
theorem ga_r (hNK : okNK N K) {F : Nat → Nat} {pl : Nat → Int32} (h : ∀ i, i < N * K → pl (j5 N i) = nI (F i)) (po : Nat → Int32) : (gathF N K pl po).2 = (Lw N K F).length ∧ ∀ j, j < (Lw N K F).length → cel5 (gathF N K pl po).1 j ((Lw N K F).getD j q0C) := by
  have hN : 0 < N ∧ N ≤ 5 := ⟨by have := hNK.1; omega, hNK.2.1⟩
  rw [gath_cand, cand_eq hNK]
  obtain ⟨i1, _, i3⟩ := po_fold hN hNK.2.2.2.1 h (cP N (N * K)) (po, 0) (fun q hq => (cand_ok hNK hq).2.1)
  refine ⟨by rw [i1]; exact Nat.zero_add _, fun j hj => ?_⟩
  have := i3 j hj
  rw [show ((po, 0) : PO).2 + j = j from Nat.zero_add j] at this
  exact this
end POOL
