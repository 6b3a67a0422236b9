-- what a clue says of a row of places; the seeker's state against it; the leaves of its search
def ixN (N x : Nat) : Nat := (x / 10 - 1) * N + x % 10
def atL (N : Nat) (f : List Nat) (x : Nat) : Nat := if x < 10 then 0 else f.getD (ixN N x) 0
def sgL (N : Nat) (f : List Nat) (d : Nat) : List Nat := (f.drop ((d - 1) * N)).take N
def soN (N : Nat) (f : List Nat) (q : Clue) : Bool := if q.1 = 9 then decide ((sgL N f q.2.2.2.2.1).idxOf (atL N f q.2.1) < (sgL N f q.2.2.2.2.1).idxOf (atL N f q.2.2.1)) else isSoF (nI q.1) (nI q.2.2.2.2.1) (nI (atL N f q.2.1)) (nI (atL N f q.2.2.1)) (nI (atL N f q.2.2.2.1))
def isT (N K x : Nat) : Prop := ∃ i, i < N * K ∧ x = tAt N i
def dOK (N K k d : Nat) : Prop := if k = 4 then 1 ≤ d ∧ d < N else if k = 6 then d < N else if k = 9 then 1 ≤ d ∧ d ≤ K else d = 0
def tri (k : Nat) : Prop := k = 5 ∨ k = 7 ∨ k = 8
def okQ (N K : Nat) (q : Clue) : Prop := q.1 < 10 ∧ isT N K q.2.1 ∧ (if q.1 = 6 then q.2.2.1 = 0 else isT N K q.2.2.1 ∧ q.2.2.1 ≠ q.2.1) ∧ (if q.1 = 5 ∨ q.1 = 7 ∨ q.1 = 8 then isT N K q.2.2.2.1 ∧ q.2.2.2.1 ≠ q.2.1 ∧ q.2.2.2.1 ≠ q.2.2.1 else q.2.2.2.1 = 0) ∧ dOK N K q.1 q.2.2.2.2.1 ∧ (q.2.2.2.2.2 = -1 ∨ q.2.2.2.2.2 = 0 ∨ q.2.2.2.2.2 = 1)
def relW (N : Nat) (f : List Nat) (s : WS) : Prop := ∀ j, j < f.length → s.1 (tAt N j) = nI (f.getD j 0) ∧ s.2.1 (10 * (j / N + 1) + f.getD j 0) = nI (j % N)
def tkW (N : Nat) (f : List Nat) (pt : Nat → Int32) : Prop := ∀ q p, p < N → (bt (pt (q + 1)) p = true ↔ ∃ j, j < f.length ∧ j / N = q ∧ f.getD j 0 = p)
def okL (N : Nat) (f : List Nat) : Prop := (∀ j, j < f.length → f.getD j 0 < N) ∧ ∀ j k, j < k → k < f.length → j / N = k / N → f.getD j 0 ≠ f.getD k 0
def dueN (N i : Nat) (q : Clue) : Prop := ixN N q.2.1 < i ∧ (q.1 ≠ 6 → ixN N q.2.2.1 < i) ∧ ((q.1 = 5 ∨ q.1 = 7 ∨ q.1 = 8) → ixN N q.2.2.2.1 < i) ∧ (q.1 = 9 → q.2.2.2.2.1 * N ≤ i)
section THINGS
variable {N K : Nat}
theorem div_lt_K {i : Nat} (hN : 0 < N) (h : i < N * K) : i / N < K := (Nat.div_lt_iff_lt_mul hN).mpr (by rw [Nat.mul_comm]; exact h)
theorem tAt_q (hN : 0 < N ∧ N ≤ 5) (i : Nat) : tAt N i / 10 = i / N + 1 ∧ tAt N i % 10 = i % N := by
  have h1 : i % N < N := Nat.mod_lt _ hN.1
  unfold tAt
  constructor
  · omega
  · omega
theorem ixN_t (hN : 0 < N ∧ N ≤ 5) (i : Nat) : ixN N (tAt N i) = i := by
  unfold ixN
  rw [(tAt_q hN i).1, (tAt_q hN i).2, Nat.add_sub_cancel, Nat.mul_comm]
  exact Nat.div_add_mod i N
theorem tAt_ge (i : Nat) : 10 ≤ tAt N i := by
  unfold tAt
  generalize i / N = a
  generalize i % N = b
  omega
theorem tAt_inj (hN : 0 < N ∧ N ≤ 5) {i j : Nat} (h : tAt N i = tAt N j) : i = j := by rw [← ixN_t hN i, ← ixN_t hN j, h]
theorem atL_t (hN : 0 < N ∧ N ≤ 5) (f : List Nat) (i : Nat) : atL N f (tAt N i) = f.getD i 0 := by
  have := tAt_ge (N := N) i
  unfold atL
  rw [if_neg (by omega), ixN_t hN]
theorem okQ_rng (hN : 0 < N ∧ N ≤ 5) (hK : K ≤ 3) {q : Clue} (h : okQ N K q) : rngC q := by
  obtain ⟨h1, ⟨i, hi, e1⟩, h3, h4, h5, h6⟩ := h
  refine ⟨h1, ?_, ?_, ?_, ?_, h6⟩
  · rw [e1]; exact Nat.lt_trans (tAt_lt hN hK hi) (by decide)
  · split at h3
    · omega
    · obtain ⟨⟨j, hj, e2⟩, _⟩ := h3
      rw [e2]; exact Nat.lt_trans (tAt_lt hN hK hj) (by decide)
  · split at h4
    · obtain ⟨⟨j, hj, e2⟩, _⟩ := h4
      rw [e2]; exact Nat.lt_trans (tAt_lt hN hK hj) (by decide)
    · omega
  · unfold dOK at h5
    split at h5
    · omega
    · split at h5
      · omega
      · split at h5
        · omega
        · omega
theorem okL_nil : okL N [] := ⟨fun j h => absurd h (Nat.not_lt_zero _), fun j k _ h => absurd h (Nat.not_lt_zero _)⟩
theorem getD_app {f g : List Nat} {j : Nat} (h : j < f.length) : (f ++ g).getD j 0 = f.getD j 0 := by
  rw [List.getD_eq_getElem?_getD, List.getD_eq_getElem?_getD, List.getElem?_append_left h]
theorem getD_end {f : List Nat} {p : Nat} : (f ++ [p]).getD f.length 0 = p := by
  rw [List.getD_eq_getElem?_getD, List.getElem?_append_right (Nat.le_refl _), Nat.sub_self]
  rfl
theorem okL_snoc {f : List Nat} {p : Nat} (h : okL N f) (hp : p < N) (hu : ∀ j, j < f.length → j / N = f.length / N → f.getD j 0 ≠ p) : okL N (f ++ [p]) := by
  constructor
  · intro j hj
    rw [List.length_append, List.length_singleton] at hj
    by_cases e : j = f.length
    · rw [e, getD_end]; exact hp
    · rw [getD_app (by omega)]; exact h.1 j (by omega)
  · intro j k hjk hk hs
    rw [List.length_append, List.length_singleton] at hk
    by_cases e : k = f.length
    · rw [e, getD_end, getD_app (by omega)]
      rw [e] at hs
      exact hu j (by omega) hs
    · rw [getD_app (by omega), getD_app (by omega)]
      exact h.2 j k hjk (by omega) hs
/-- a whole sort has every place -/
theorem okL_all (hN : 0 < N) {f : List Nat} (h : okL N f) {q : Nat} (hq : N * (q + 1) ≤ f.length) {p : Nat} (hp : p < N) : ∃ i, i < N ∧ f.getD (N * q + i) 0 = p := by
  refine Classical.byContradiction fun hno => ?_
  have hb : ∀ i, i < N → N * q + i < f.length := fun i hi => by rw [Nat.mul_succ] at hq; omega
  have hdv : ∀ i, i < N → (N * q + i) / N = q := fun i hi => by rw [Nat.mul_add_div hN, Nat.div_eq_of_lt hi, Nat.add_zero]
  have hnd : (p :: (List.range N).map (fun i => f.getD (N * q + i) 0)).Nodup := by
    rw [List.nodup_cons]
    constructor
    · intro hm
      obtain ⟨i, h1, h2⟩ := List.mem_map.mp hm
      exact hno ⟨i, List.mem_range.mp h1, h2⟩
    · rw [List.nodup_iff_pairwise_ne, List.pairwise_map]
      refine List.Pairwise.imp_of_mem (R := fun a b => a < b) ?_ (List.pairwise_lt_range)
      intro a b ha hb2 hab
      have ha' := List.mem_range.mp ha
      have hb' := List.mem_range.mp hb2
      exact h.2 _ _ (by omega) (hb b hb') (by rw [hdv a ha', hdv b hb'])
  have hlen := nd_len N _ hnd (fun x hx => by
    rcases List.mem_cons.mp hx with rfl | hx
    · exact hp
    · obtain ⟨i, h1, h2⟩ := List.mem_map.mp hx
      rw [← h2]
      exact h.1 _ (hb i (List.mem_range.mp h1)))
  rw [List.length_cons, List.length_map, List.length_range] at hlen
  omega
theorem sg_get (hN : 0 < N) (f : List Nat) {q i : Nat} (hi : i < N) : (sgL N f (q + 1)).getD i 0 = f.getD (N * q + i) 0 := by
  unfold sgL
  rw [List.getD_eq_getElem?_getD, List.getD_eq_getElem?_getD, List.getElem?_take_of_lt hi, List.getElem?_drop, Nat.add_sub_cancel, Nat.mul_comm]
theorem sg_len {f : List Nat} {q : Nat} (hq : N * (q + 1) ≤ f.length) : (sgL N f (q + 1)).length = N := by
  unfold sgL
  rw [List.length_take, List.length_drop, Nat.add_sub_cancel, Nat.mul_comm]
  rw [Nat.mul_succ] at hq
  omega
theorem idxOf_first : ∀ (l : List Nat) (i p : Nat), i < l.length → l.getD i 0 = p → (∀ j, j < i → l.getD j 0 ≠ p) → l.idxOf p = i
  | [], i, p, h, _, _ => absurd h (Nat.not_lt_zero _)
  | x :: l, 0, p, _, h, _ => by
    have h' : x = p := h
    rw [h', List.idxOf_cons_self]
  | x :: l, i + 1, p, h1, h2, h3 => by
    have h0 : x ≠ p := h3 0 (Nat.succ_pos _)
    rw [List.idxOf_cons, show (x == p) = false from beq_eq_false_iff_ne.mpr h0, cond_false]
    congr 1
    exact idxOf_first l i p (Nat.lt_of_succ_lt_succ h1) h2 (fun j hj => h3 (j + 1) (Nat.succ_lt_succ hj))
/-- where a place stands in a whole sort -/
theorem sg_idx (hN : 0 < N) {f : List Nat} (h : okL N f) {q : Nat} (hq : N * (q + 1) ≤ f.length) {i : Nat} (hi : i < N) : (sgL N f (q + 1)).idxOf (f.getD (N * q + i) 0) = i := by
  have hdv : ∀ i, i < N → (N * q + i) / N = q := fun i hi => by rw [Nat.mul_add_div hN, Nat.div_eq_of_lt hi, Nat.add_zero]
  refine idxOf_first _ i _ (by rw [sg_len hq]; exact hi) (sg_get hN f hi) (fun j hj => ?_)
  rw [sg_get hN f (by omega)]
  exact h.2 _ _ (by omega) (by rw [Nat.mul_succ] at hq; omega) (by rw [hdv j (by omega), hdv i hi])
end THINGS
theorem so_c {k d a b c c2 : Int32} (h : ¬ (k.toInt = 5 ∨ k.toInt = 7 ∨ k.toInt = 8)) : isSoF k d a b c = isSoF k d a b c2 := by
  have h5 : ¬ k.toInt = 5 := fun e => h (Or.inl e)
  have h7 : ¬ k.toInt = 7 := fun e => h (Or.inr (Or.inl e))
  have h8 : ¬ k.toInt = 8 := fun e => h (Or.inr (Or.inr e))
  unfold isSoF
  simp only [h5, h7, h8, if_false]
theorem so_6 {d a b b2 c c2 : Int32} : isSoF (nI 6) d a b c = isSoF (nI 6) d a b2 c2 := by
  have e : (nI 6).toInt = 6 := by decide
  unfold isSoF
  simp [e]
theorem so_9 {d a b c : Int32} : isSoF (nI 9) d a b c = decide (a < b) := by
  have e : (nI 9).toInt = 9 := by decide
  unfold isSoF
  simp [e]
section REL
variable {N K : Nat} {f : List Nat} {q : Clue}
/-- what the seeker hears at a state is what the clue says of the row -/
theorem so_state (hN : 0 < N ∧ N ≤ 5) (hK : K ≤ 3) {s : WS} (hr : relW N f s) (hL : okL N f) (hq : okQ N K q) (hd : dueN N f.length q) : soW s.1 s.2.1 (cdC q) = soN N f q := by
  obtain ⟨e1, e2, e3, e4, e5, e6⟩ := cd_dec (okQ_rng hN hK hq)
  have rg := okQ_rng hN hK hq
  obtain ⟨h1, ⟨i, hi, ex⟩, h3, h4, h5, h6⟩ := hq
  obtain ⟨d1, d2, d3, d4⟩ := hd
  obtain ⟨r1, r2, r3, r4, r5, r6⟩ := rg
  have ax : s.1 q.2.1 = nI (atL N f q.2.1) := by
    rw [ex, ixN_t hN] at d1
    rw [ex, atL_t hN]
    exact (hr i d1).1
  have ay : q.1 ≠ 6 → s.1 q.2.2.1 = nI (atL N f q.2.2.1) := by
    intro hk
    rw [if_neg hk] at h3
    obtain ⟨⟨j, hj, e⟩, _⟩ := h3
    have d2 := d2 hk
    rw [e, ixN_t hN] at d2
    rw [e, atL_t hN]
    exact (hr j d2).1
  have az : (q.1 = 5 ∨ q.1 = 7 ∨ q.1 = 8) → s.1 q.2.2.2.1 = nI (atL N f q.2.2.2.1) := by
    intro hk
    rw [if_pos hk] at h4
    obtain ⟨⟨j, hj, e⟩, _⟩ := h4
    have d3 := d3 hk
    rw [e, ixN_t hN] at d3
    rw [e, atL_t hN]
    exact (hr j d3).1
  unfold soW soN
  rw [e1, e2, e3, e4, e5, nI_clamp (by omega), nI_clamp (by omega), nI_clamp (by omega)]
  by_cases k9 : q.1 = 9
  · rw [if_pos k9, if_pos (by rw [k9]; rfl), k9, so_9]
    have dd : 1 ≤ q.2.2.2.2.1 ∧ q.2.2.2.2.1 ≤ K := by
      have : dOK N K q.1 q.2.2.2.2.1 := h5
      unfold dOK at this
      rw [if_neg (by omega), if_neg (by omega), if_pos k9] at this
      exact this
    obtain ⟨d, hd⟩ : ∃ d, q.2.2.2.2.1 = d + 1 := ⟨q.2.2.2.2.1 - 1, by omega⟩
    have hfull : N * (d + 1) ≤ f.length := by
      have := d4 k9
      rw [hd, Nat.mul_comm] at this
      exact this
    have lx : atL N f q.2.1 < N := by
      rw [ex, ixN_t hN] at d1
      rw [ex, atL_t hN]
      exact hL.1 i d1
    have ly : atL N f q.2.2.1 < N := by
      have k6 : q.1 ≠ 6 := by omega
      rw [if_neg k6] at h3
      obtain ⟨⟨j, hj, e⟩, _⟩ := h3
      have d2 := d2 k6
      rw [e, ixN_t hN] at d2
      rw [e, atL_t hN]
      exact hL.1 j d2
    have key : ∀ p, p < N → s.2.1 (10 * nI q.2.2.2.2.1 + nI p).toNatClampNeg = nI ((sgL N f q.2.2.2.2.1).idxOf p) ∧ (sgL N f q.2.2.2.2.1).idxOf p < 10 := by
      intro p hp
      obtain ⟨j, hj, hjp⟩ := okL_all hN.1 hL hfull hp
      have hdv : (N * d + j) / N = d := by rw [Nat.mul_add_div hN.1, Nat.div_eq_of_lt hj, Nat.add_zero]
      have hmd : (N * d + j) % N = j := by rw [Nat.mul_add_mod, Nat.mod_eq_of_lt hj]
      have hb : N * d + j < f.length := by rw [Nat.mul_succ] at hfull; omega
      have h9 := (hr (N * d + j) hb).2
      rw [hdv, hmd, hjp] at h9
      have hx := sg_idx hN.1 hL hfull hj
      rw [hjp] at hx
      rw [hd, hx, show (10 : Int32) = nI 10 from rfl, pk_mul, nI_add, nI_clamp (by omega)]
      exact ⟨h9, by omega⟩
    rw [ax, ay (by omega), (key _ lx).1, (key _ ly).1]
    have b1 := (key _ lx).2
    have b2 := (key _ ly).2
    exact decide_eq_decide.mpr (nI_ltI (by omega) (by omega))
  · rw [if_neg k9, if_neg (show ¬ nI q.1 = (9 : Int32) from fun e => k9 ((nI_eq (a := q.1) (b := 9) (by omega) (by omega)).mp e)), ax]
    by_cases k6 : q.1 = 6
    · rw [k6]
      exact so_6
    · rw [ay k6]
      by_cases k3 : q.1 = 5 ∨ q.1 = 7 ∨ q.1 = 8
      · rw [az k3]
      · refine so_c ?_
        rw [nI_toInt (by omega)]
        omega
theorem at_app {g : List Nat} {x : Nat} (h : ixN N x < f.length) : atL N (f ++ g) x = atL N f x := by
  unfold atL
  split
  · rfl
  · exact getD_app h
theorem sg_app {g : List Nat} {d : Nat} (h : d * N ≤ f.length) (hd : 1 ≤ d) : sgL N (f ++ g) d = sgL N f d := by
  obtain ⟨e, rfl⟩ : ∃ e, d = e + 1 := ⟨d - 1, by omega⟩
  rw [Nat.succ_mul] at h
  unfold sgL
  rw [Nat.add_sub_cancel, List.drop_append_of_le_length (by omega), List.take_append_of_le_length (by rw [List.length_drop]; omega)]
theorem so_app (hq : okQ N K q) (hd : dueN N f.length q) (g : List Nat) : soN N (f ++ g) q = soN N f q := by
  obtain ⟨h1, hx, h3, h4, h5, h6⟩ := hq
  obtain ⟨d1, d2, d3, d4⟩ := hd
  unfold soN
  rw [at_app d1]
  by_cases k9 : q.1 = 9
  · rw [if_pos k9, if_pos k9, at_app (d2 (by omega))]
    unfold dOK at h5
    rw [if_neg (by omega), if_neg (by omega), if_pos k9] at h5
    rw [sg_app (d4 k9) h5.1]
  · rw [if_neg k9, if_neg k9]
    by_cases k6 : q.1 = 6
    · rw [k6]
      exact so_6
    · rw [at_app (d2 k6)]
      by_cases k3 : q.1 = 5 ∨ q.1 = 7 ∨ q.1 = 8
      · rw [at_app (d3 k3)]
      · refine so_c ?_
        rw [nI_toInt (by omega)]
        omega
end REL
-- when a clue is due
theorem maxF_nI {a b : Nat} (ha : a < 2 ^ 31) (hb : b < 2 ^ 31) : maxF (nI a) (nI b) = nI (max a b) := by
  unfold maxF
  by_cases h : a < b
  · rw [if_pos (nI_lt h hb), Nat.max_eq_right (by omega)]
  · rw [if_neg (nI_nlt (by omega) ha), Nat.max_eq_left (by omega)]
theorem ix_mono {N K x y : Nat} (hN : 0 < N ∧ N ≤ 5) (hx : isT N K x) (hy : isT N K y) (h : x ≤ y) : ixN N x ≤ ixN N y := by
  obtain ⟨i, hi, rfl⟩ := hx
  obtain ⟨j, hj, rfl⟩ := hy
  rw [ixN_t hN, ixN_t hN]
  refine Classical.byContradiction fun hn => ?_
  have h1 : j / N ≤ i / N := Nat.div_le_div_right (by omega)
  have m1 : i % N < N := Nat.mod_lt _ hN.1
  have m2 : j % N < N := Nat.mod_lt _ hN.1
  unfold tAt at h
  by_cases e : j / N = i / N
  · have a1 := Nat.div_add_mod i N
    have a2 := Nat.div_add_mod j N
    rw [e] at a2
    omega
  · omega
theorem isT_max {N K x y : Nat} (hx : isT N K x) (hy : isT N K y) : isT N K (max x y) := by
  by_cases h : x ≤ y
  · rw [Nat.max_eq_right h]; exact hy
  · rw [Nat.max_eq_left (by omega)]; exact hx
theorem due_ix {N K : Nat} (hN : 0 < N ∧ N ≤ 5) (hK : K ≤ 3) {c : Int32} {t : Nat} (ht : isT N K t) (h : lastF (nI N) c = nI t) : dueF (nI N) c = nI (ixN N t) := by
  obtain ⟨i, hi, rfl⟩ := ht
  have hl := tAt_lt hN hK hi
  have hg := tAt_ge (N := N) i
  unfold dueF
  rw [h]
  have e1 : nI (tAt N i) / 10 = nI (tAt N i / 10) := pk_div (d := 10) (by omega) (by omega) (by omega)
  have e2 : nI (tAt N i) - nI (tAt N i / 10) * 10 = nI (tAt N i % 10) := by
    rw [← e1]
    exact pk_rem (a := tAt N i) (d := 10) (by omega) (by omega) (by omega)
  rw [e1, e2]
  have e3 : nI (tAt N i / 10) - 1 = nI (tAt N i / 10 - 1) := pk_sub (b := 1) (by omega)
  rw [e3, pk_mul, nI_add]
  rfl
theorem due_ok {N K : Nat} (hN : 0 < N ∧ N ≤ 5) (hK : K ≤ 3) {q : Clue} (hq : okQ N K q) : ∃ j, j < N * K ∧ dueF (nI N) (cdC q) = nI j ∧ dueN N (j + 1) q := by
  have rg := okQ_rng hN hK hq
  obtain ⟨e1, e2, e3, e4, e5, e6⟩ := cd_dec rg
  obtain ⟨h1, hx, h3, h4, h5, h6⟩ := hq
  obtain ⟨r1, r2, r3, r4, r5, r6⟩ := rg
  -- the last of the things
  have m1 : maxF (xF (cdC q)) (maxF (yF (cdC q)) (zF (cdC q))) = nI (max q.2.1 (max q.2.2.1 q.2.2.2.1)) := by
    rw [e2, e3, e4, maxF_nI (by omega) (by omega), maxF_nI (by omega) (by omega)]
  have tx : isT N K (max q.2.1 (max q.2.2.1 q.2.2.2.1)) := by
    by_cases k6 : q.1 = 6
    · rw [if_pos k6] at h3
      rw [if_neg (by omega)] at h4
      rw [h3, h4]
      simpa using hx
    · rw [if_neg k6] at h3
      by_cases k3 : q.1 = 5 ∨ q.1 = 7 ∨ q.1 = 8
      · rw [if_pos k3] at h4
        exact isT_max hx (isT_max h3.1 h4.1)
      · rw [if_neg k3] at h4
        rw [h4, Nat.max_zero]
        exact isT_max hx h3.1
  have ly : q.1 ≠ 6 → ∀ t, isT N K t → max q.2.1 (max q.2.2.1 q.2.2.2.1) ≤ t → ixN N q.2.2.1 ≤ ixN N t := by
    intro k6 t ht hle
    rw [if_neg k6] at h3
    exact ix_mono hN h3.1 ht (by omega)
  have lz : (q.1 = 5 ∨ q.1 = 7 ∨ q.1 = 8) → ∀ t, isT N K t → max q.2.1 (max q.2.2.1 q.2.2.2.1) ≤ t → ixN N q.2.2.2.1 ≤ ixN N t := by
    intro k3 t ht hle
    rw [if_pos k3] at h4
    exact ix_mono hN h4.1 ht (by omega)
  have lx : ∀ t, isT N K t → max q.2.1 (max q.2.2.1 q.2.2.2.1) ≤ t → ixN N q.2.1 ≤ ixN N t := fun t ht hle => ix_mono hN hx ht (by omega)
  by_cases k9 : q.1 = 9
  · have dd : 1 ≤ q.2.2.2.2.1 ∧ q.2.2.2.2.1 ≤ K := by
      unfold dOK at h5
      rw [if_neg (by omega), if_neg (by omega), if_pos k9] at h5
      exact h5
    obtain ⟨d, hd⟩ : ∃ d, q.2.2.2.2.1 = d + 1 := ⟨q.2.2.2.2.1 - 1, by omega⟩
    have hn1 : N * d + (N - 1) < N * K := by
      have : N * (d + 1) ≤ N * K := Nat.mul_le_mul_left N (by omega)
      rw [Nat.mul_succ] at this
      omega
    have e10 : 10 * q.2.2.2.2.1 + N - 1 = tAt N (N * d + (N - 1)) := by
      unfold tAt
      rw [Nat.mul_add_div hN.1, Nat.div_eq_of_lt (by omega), Nat.mul_add_mod, Nat.mod_eq_of_lt (by omega), hd]
      omega
    have t2 : isT N K (10 * q.2.2.2.2.1 + N - 1) := ⟨_, hn1, e10⟩
    have hlast : lastF (nI N) (cdC q) = nI (max (max q.2.1 (max q.2.2.1 q.2.2.2.1)) (10 * q.2.2.2.2.1 + N - 1)) := by
      unfold lastF
      rw [if_pos (by rw [e1, k9]; rfl), m1, e5, show (10 : Int32) = nI 10 from rfl, pk_mul, nI_add]
      have : nI (10 * q.2.2.2.2.1 + N) - 1 = nI (10 * q.2.2.2.2.1 + N - 1) := pk_sub (b := 1) (by omega)
      rw [this, maxF_nI (by omega) (by omega)]
    have t3 := isT_max tx t2
    have hdue := due_ix hN hK t3 hlast
    obtain ⟨T, hT⟩ : ∃ T, T = max (max q.2.1 (max q.2.2.1 q.2.2.2.1)) (10 * q.2.2.2.2.1 + N - 1) := ⟨_, rfl⟩
    rw [← hT] at t3 hdue
    have hjt : ixN N T < N * K := by
      obtain ⟨i, hi, e⟩ := t3
      rw [e, ixN_t hN]
      exact hi
    refine ⟨ixN N T, hjt, hdue, ?_, ?_, ?_, ?_⟩
    · exact Nat.lt_succ_of_le (lx T t3 (by omega))
    · exact fun k6 => Nat.lt_succ_of_le (ly k6 T t3 (by omega))
    · exact fun k3 => Nat.lt_succ_of_le (lz k3 T t3 (by omega))
    · intro _
      have := ix_mono hN t2 t3 (by omega)
      rw [e10, ixN_t hN] at this
      rw [hd, Nat.succ_mul, Nat.mul_comm d N]
      omega
  · have hlast : lastF (nI N) (cdC q) = nI (max q.2.1 (max q.2.2.1 q.2.2.2.1)) := by
      unfold lastF
      rw [if_neg (show ¬ kindF (cdC q) = (9 : Int32) from fun e => k9 ((nI_eq (a := q.1) (b := 9) (by omega) (by omega)).mp (by rw [← e1]; exact e))), m1]
    have hdue := due_ix hN hK tx hlast
    obtain ⟨T, hT⟩ : ∃ T, T = max q.2.1 (max q.2.2.1 q.2.2.2.1) := ⟨_, rfl⟩
    rw [← hT] at tx hdue
    have hjt : ixN N T < N * K := by
      obtain ⟨i, hi, e⟩ := tx
      rw [e, ixN_t hN]
      exact hi
    refine ⟨ixN N T, hjt, hdue, ?_, ?_, ?_, fun e => absurd e k9⟩
    · exact Nat.lt_succ_of_le (lx T tx (by omega))
    · exact fun k6 => Nat.lt_succ_of_le (ly k6 T tx (by omega))
    · exact fun k3 => Nat.lt_succ_of_le (lz k3 T tx (by omega))
