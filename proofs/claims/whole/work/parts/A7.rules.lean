-- rules 1, 2, 4: both sides against one picture of the grid: X i, the places of thing i as bits
def j5 (N i : Nat) : Nat := 5 * (i / N) + i % N
/-- the grids of both sides show X -/
def grX (N K : Nat) (X : Nat → Nat) (gc gr : Nat → Int32) : Prop := ∀ i, i < N * K → X i < 2 ^ N ∧ gc (tAt N i) = nI (X i) ∧ gr (j5 N i) = nI (X i)
def T1 (N : Nat) (X : Nat → Nat) (i p : Nat) : Prop := ∃ j, j < N ∧ j ≠ i % N ∧ X (N * (i / N) + j) = 2 ^ p
def T2 (N : Nat) (X : Nat → Nat) (i p : Nat) : Prop := ∃ q, q < N ∧ q ≠ p ∧ (X i).testBit q = true ∧ ∀ j, j < N → j ≠ i % N → (X (N * (i / N) + j)).testBit q = false
def T4 (N : Nat) (X : Nat → Nat) (i p : Nat) : Prop := ∃ a b, a < b ∧ b < N ∧ a ≠ i % N ∧ b ≠ i % N ∧ X (N * (i / N) + a) = X (N * (i / N) + b) ∧ pcN (X (N * (i / N) + a)) = 2 ∧ (X (N * (i / N) + a)).testBit p = true
theorem bitQ_bt (v : Int32) {p : Nat} (hp : p < 32) : bitQ v p = bt v p := by
  unfold bitQ
  cases h : bt v p with
  | false => exact decide_eq_false (fun q => q ((bit_is hp).mpr h))
  | true => exact decide_eq_true (fun q => by rw [(bit_is hp).mp q] at h; exact Bool.false_ne_true h)
theorem bitQ_nI (x : Nat) {p : Nat} (hp : p < 32) : bitQ (nI x) p = x.testBit p := by rw [bitQ_bt _ hp, bt_nI x p hp]
theorem bit1_iff (v : Int32) {p : Nat} (hp : p < 32) : (v >>> (nI p &&& 31)) &&& 1 = 1 ↔ bt v p = true := by
  constructor
  · intro h
    cases hb : bt v p with
    | true => rfl
    | false =>
      have := (bit_is hp).mpr hb
      rw [this] at h
      exact absurd h (by decide)
  · intro h
    refine b_ext fun i hi => ?_
    rw [b_and, bt_1 i hi]
    by_cases h0 : i = 0
    · subst h0
      rw [b_sshr p hp v (by omega), if_pos (by omega), Nat.add_zero, h]
      rfl
    · simp [h0]
theorem lone_tab : ∀ x, x < 32 → ∀ p, p < 5 → ((bcF (nI x) = 1 ∧ x.testBit p = true) ↔ x = 2 ^ p) := by decide +kernel
theorem bc_tab : ∀ x, x < 32 → ∀ k, k < 6 → (bcF (nI x) = nI k ↔ pcN x = k) := by decide +kernel
theorem sz_tab : ∀ x, x < 32 → sizeF (nI x) = nI (pcN x) := by decide +kernel
theorem own_tab : ∀ x, x < 32 → ∀ p, p < 5 → bt (if nI x = 0 then 0 else if bcF (nI x) = 1 then nI x ^^^ (-1) else -1) p = (List.range 5).any (fun q => q != p && x.testBit q) := by decide +kernel
theorem pow_bit : ∀ p, p < 5 → (1 : Int32) <<< (nI p &&& 31) = nI (2 ^ p) := sh_pow
theorem lt_32 {N x : Nat} (hN : N ≤ 5) (h : x < 2 ^ N) : x < 32 := Nat.lt_of_lt_of_le h (Nat.pow_le_pow_right (by decide) hN)
theorem tb_lt {N x q : Nat} (h : x < 2 ^ N) (hq : x.testBit q = true) : q < N := by
  refine Classical.byContradiction fun hn => ?_
  rw [bt_hi h (by omega)] at hq
  exact Bool.false_ne_true hq
section GRID
variable {N K : Nat} {X : Nat → Nat} {gc gr : Nat → Int32}
theorem sort_lt (hN : 0 < N) {i j : Nat} (hi : i < N * K) (hj : j < N) : N * (i / N) + j < N * K := by
  have h1 := div_lt_K hN hi
  have : N * (i / N + 1) ≤ N * K := Nat.mul_le_mul_left N h1
  rw [Nat.mul_succ] at this
  omega
theorem sort_dm (hN : 0 < N) {q j : Nat} (hj : j < N) : (N * q + j) / N = q ∧ (N * q + j) % N = j := ⟨by rw [Nat.mul_add_div hN, Nat.div_eq_of_lt hj, Nat.add_zero], by rw [Nat.mul_add_mod, Nat.mod_eq_of_lt hj]⟩
theorem first_t (hN : 0 < N ∧ N ≤ 5) (i : Nat) : firstF (tAt N i) = 10 * (i / N + 1) := by
  unfold firstF
  rw [(tAt_q hN i).2]
  unfold tAt
  omega
theorem gc_at (hN : 0 < N ∧ N ≤ 5) (h : grX N K X gc gr) {i j : Nat} (hi : i < N * K) (hj : j < N) : gc (firstF (tAt N i) + j) = nI (X (N * (i / N) + j)) ∧ X (N * (i / N) + j) < 2 ^ N ∧ (firstF (tAt N i) + j = tAt N i ↔ j = i % N) := by
  have hb := sort_lt hN.1 hi hj
  obtain ⟨h1, h2, h3⟩ := h _ hb
  obtain ⟨d1, d2⟩ := sort_dm hN.1 (q := i / N) hj
  have e : firstF (tAt N i) + j = tAt N (N * (i / N) + j) := by
    rw [first_t hN]
    unfold tAt
    rw [d1, d2]
  refine ⟨by rw [e, h2], h1, ?_⟩
  rw [first_t hN]
  unfold tAt
  constructor
  · intro q
    omega
  · intro q
    omega
theorem gr_at (hN : 0 < N ∧ N ≤ 5) (h : grX N K X gc gr) {i j : Nat} (hi : i < N * K) (hj : j < N) : gr (j5 N i / 5 * 5 + j) = nI (X (N * (i / N) + j)) ∧ (j5 N i / 5 * 5 + j = j5 N i ↔ j = i % N) := by
  have hb := sort_lt hN.1 hi hj
  obtain ⟨h1, h2, h3⟩ := h _ hb
  obtain ⟨d1, d2⟩ := sort_dm hN.1 (q := i / N) hj
  have hm := Nat.mod_lt i hN.1
  have e0 : j5 N i / 5 * 5 = 5 * (i / N) := by
    unfold j5
    omega
  have e : j5 N i / 5 * 5 + j = j5 N (N * (i / N) + j) := by
    rw [e0]
    unfold j5
    rw [d1, d2]
  refine ⟨by rw [e, h3], ?_⟩
  rw [e0]
  unfold j5
  constructor
  · intro q
    omega
  · intro q
    omega
theorem lone_fold (gd : Nat → Int32) (t p : Nat) : ∀ (l : List Nat) (b : Int32), bt (l.foldl (loneF gd t) b) p = (bt b p || l.any (fun q => decide (q ≠ t ∧ bcF (gd q) = 1) && bt (gd q) p))
  | [], b => by simp
  | q :: l, b => by
    rw [List.foldl_cons, lone_fold gd t p l, List.any_cons]
    unfold loneF
    by_cases h : q ≠ t ∧ bcF (gd q) = 1
    · rw [if_pos h, b_or, decide_eq_true h, Bool.true_and, Bool.or_assoc]
    · rw [if_neg h, decide_eq_false h, Bool.false_and, Bool.false_or]
theorem seg_mem {k s q : Nat} : q ∈ segF id k s ↔ ∃ j, j < k ∧ q = s + j := by
  rw [segF_range, List.mem_range'_1]
  constructor
  · rintro ⟨h1, h2⟩
    exact ⟨q - s, by omega, by omega⟩
  · rintro ⟨j, h1, rfl⟩
    exact ⟨by omega, by omega⟩
/-- rule 1 -/
theorem bar_1 (hN : 0 < N ∧ N ≤ 5) (h : grX N K X gc gr) {i p : Nat} (hi : i < N * K) (hp : p < N) : bt (barLone gc N (tAt N i)) p = true ↔ T1 N X i p := by
  unfold barLone
  rw [lone_fold, b_0, Bool.false_or, List.any_eq_true]
  constructor
  · rintro ⟨q, hq, hb⟩
    obtain ⟨j, hj, rfl⟩ := seg_mem.mp hq
    obtain ⟨g1, g2, g3⟩ := gc_at hN h hi hj
    rw [Bool.and_eq_true, decide_eq_true_iff, g1, bt_nI _ _ (by omega)] at hb
    exact ⟨j, hj, fun e => hb.1.1 (g3.mpr e), (lone_tab _ (lt_32 hN.2 g2) p (by omega)).mp ⟨hb.1.2, hb.2⟩⟩
  · rintro ⟨j, hj, hne, he⟩
    obtain ⟨g1, g2, g3⟩ := gc_at hN h hi hj
    refine ⟨firstF (tAt N i) + j, seg_mem.mpr ⟨j, hj, rfl⟩, ?_⟩
    have := (lone_tab _ (lt_32 hN.2 g2) p (by omega)).mpr he
    rw [Bool.and_eq_true, decide_eq_true_iff, g1, bt_nI _ _ (by omega)]
    exact ⟨⟨fun e => hne (g3.mp e), this.1⟩, this.2⟩
theorem ref_1 (hN : 0 < N ∧ N ≤ 5) (h : grX N K X gc gr) {i p : Nat} (hi : i < N * K) (hp : p < N) : (segF id N (j5 N i / 5 * 5)).any (othS gr (j5 N i) (nI p)) = true ↔ T1 N X i p := by
  rw [List.any_eq_true]
  have h2p : 2 ^ p < 2 ^ 31 := Nat.pow_lt_pow_right (by decide) (by omega)
  constructor
  · rintro ⟨q, hq, hb⟩
    obtain ⟨j, hj, rfl⟩ := seg_mem.mp hq
    obtain ⟨g1, g2⟩ := gr_at hN h hi hj
    have g3 := (gc_at hN h hi hj).2.1
    have hb := of_decide_eq_true hb
    rw [g1, pow_bit p (by omega)] at hb
    have := lt_32 hN.2 g3
    exact ⟨j, hj, fun e => hb.1 (g2.mpr e), (nI_eq (by omega) h2p).mp hb.2⟩
  · rintro ⟨j, hj, hne, he⟩
    obtain ⟨g1, g2⟩ := gr_at hN h hi hj
    refine ⟨_, seg_mem.mpr ⟨j, hj, rfl⟩, decide_eq_true ⟨fun e => hne (g2.mp e), ?_⟩⟩
    rw [g1, pow_bit p (by omega), he]
theorem own_fold (gd : Nat → Int32) (t p : Nat) (hp : p < 32) : ∀ (l : List Nat) (b : Int32), bt (l.foldl (ownF gd t) b) p = (bt b p && l.all (fun q => decide (q = t) || !bt (gd q) p))
  | [], b => by simp
  | q :: l, b => by
    rw [List.foldl_cons, own_fold gd t p hp l, List.all_cons]
    unfold ownF
    by_cases h : q = t
    · rw [if_neg (fun e => e h), decide_eq_true h, Bool.true_or, Bool.true_and]
    · rw [if_pos h, b_and, b_xor, b_m1 p hp, decide_eq_false h, Bool.false_or, Bool.xor_true, Bool.and_assoc]
theorem own_bits (hN : 0 < N ∧ N ≤ 5) (h : grX N K X gc gr) {i : Nat} (hi : i < N * K) : ∃ o, o < 32 ∧ ownBits gc N (tAt N i) = nI o ∧ ∀ q, q < 5 → (o.testBit q = true ↔ (X i).testBit q = true ∧ ∀ j, j < N → j ≠ i % N → (X (N * (i / N) + j)).testBit q = false) := by
  obtain ⟨x1, x2, x3⟩ := h i hi
  have hb : ∀ q, q < 32 → bt (ownBits gc N (tAt N i)) q = ((X i).testBit q && (segF id N (firstF (tAt N i))).all (fun r => decide (r = tAt N i) || !bt (gc r) q)) := by
    intro q hq
    unfold ownBits
    rw [own_fold _ _ _ hq, x2, bt_nI _ _ hq]
  have hall : ∀ q, q < 32 → ((segF id N (firstF (tAt N i))).all (fun r => decide (r = tAt N i) || !bt (gc r) q) = true ↔ ∀ j, j < N → j ≠ i % N → (X (N * (i / N) + j)).testBit q = false) := by
    intro q hq
    rw [List.all_eq_true]
    constructor
    · intro ha j hj hne
      have := ha _ (seg_mem.mpr ⟨j, hj, rfl⟩)
      obtain ⟨g1, g2, g3⟩ := gc_at hN h hi hj
      rw [g1, bt_nI _ _ hq, decide_eq_false (fun e => hne (g3.mp e)), Bool.false_or, Bool.not_eq_true'] at this
      exact this
    · intro ha r hr
      obtain ⟨j, hj, rfl⟩ := seg_mem.mp hr
      obtain ⟨g1, g2, g3⟩ := gc_at hN h hi hj
      by_cases e : j = i % N
      · rw [decide_eq_true (g3.mpr e), Bool.true_or]
      · rw [g1, bt_nI _ _ hq, ha j hj e, Bool.not_false, Bool.or_true]
  obtain ⟨o, ho, eo⟩ := wb_of32 (ownBits gc N (tAt N i))
  have tb : ∀ q, q < 32 → o.testBit q = ((X i).testBit q && (segF id N (firstF (tAt N i))).all (fun r => decide (r = tAt N i) || !bt (gc r) q)) := by
    intro q hq
    rw [← hb q hq, eo, bt_nI _ _ hq]
  have o32 : o < 2 ^ 5 := by
    refine Nat.lt_pow_two_of_testBit o (fun q hq => ?_)
    by_cases h32 : q < 32
    · rw [tb q h32, bt_hi x1 (by omega), Bool.false_and]
    · exact bt_hi ho (by omega)
  refine ⟨o, o32, eo, fun q hq => ?_⟩
  rw [tb q (by omega), Bool.and_eq_true, hall q (by omega)]
/-- rule 2 -/
theorem bar_2 (hN : 0 < N ∧ N ≤ 5) (h : grX N K X gc gr) {i p : Nat} (hi : i < N * K) (hp : p < N) : bt (barOwn gc N (tAt N i)) p = true ↔ T2 N X i p := by
  obtain ⟨o, ho, eo, hb⟩ := own_bits hN h hi
  unfold barOwn
  rw [eo, own_tab o ho p (by omega), List.any_eq_true]
  constructor
  · rintro ⟨q, hq, hc⟩
    rw [Bool.and_eq_true, bne_iff_ne] at hc
    obtain ⟨b1, b2⟩ := (hb q (List.mem_range.mp hq)).mp hc.2
    exact ⟨q, tb_lt (h i hi).1 b1, hc.1, b1, b2⟩
  · rintro ⟨q, hq, hne, b1, b2⟩
    refine ⟨q, List.mem_range.mpr (by omega), ?_⟩
    rw [Bool.and_eq_true, bne_iff_ne]
    exact ⟨hne, (hb q (by omega)).mpr ⟨b1, b2⟩⟩
theorem onl_fold (gd : Nat → Int32) (t q : Nat) : ∀ (l : List Nat) (b : Bool), l.foldl (onlS gd t q) b = (b && l.all (fun o => decide (o = t) || !bitQ (gd o) q))
  | [], b => by simp
  | o :: l, b => by
    rw [List.foldl_cons, onl_fold gd t q l, List.all_cons]
    unfold onlS
    rw [Bool.and_assoc]
theorem ref_2 (hN : 0 < N ∧ N ≤ 5) (h : grX N K X gc gr) {i p : Nat} (hi : i < N * K) (hp : p < N) : (segF id N 0).any (onlQ gr N (j5 N i) p) = true ↔ T2 N X i p := by
  obtain ⟨x1, x2, x3⟩ := h i hi
  have hall : ∀ q, q < 32 → ((segF id N (j5 N i / 5 * 5)).foldl (onlS gr (j5 N i) q) true = true ↔ ∀ j, j < N → j ≠ i % N → (X (N * (i / N) + j)).testBit q = false) := by
    intro q hq
    rw [onl_fold, Bool.true_and, List.all_eq_true]
    constructor
    · intro ha j hj hne
      have := ha _ (seg_mem.mpr ⟨j, hj, rfl⟩)
      obtain ⟨g1, g3⟩ := gr_at hN h hi hj
      rw [g1, bitQ_nI _ hq, decide_eq_false (fun e => hne (g3.mp e)), Bool.false_or, Bool.not_eq_true'] at this
      exact this
    · intro ha r hr
      obtain ⟨j, hj, rfl⟩ := seg_mem.mp hr
      obtain ⟨g1, g3⟩ := gr_at hN h hi hj
      by_cases e : j = i % N
      · rw [decide_eq_true (g3.mpr e), Bool.true_or]
      · rw [g1, bitQ_nI _ hq, ha j hj e, Bool.not_false, Bool.or_true]
  rw [List.any_eq_true]
  constructor
  · rintro ⟨q, hq, hc⟩
    obtain ⟨j, hj, e⟩ := seg_mem.mp hq
    have e : q = j := by omega
    unfold onlQ at hc
    rw [Bool.and_eq_true, Bool.and_eq_true, decide_eq_true_iff, x3, bitQ_nI _ (by omega), hall q (by omega)] at hc
    exact ⟨q, by omega, hc.1, hc.2.1, hc.2.2⟩
  · rintro ⟨q, hq, hne, b1, b2⟩
    refine ⟨q, seg_mem.mpr ⟨q, hq, by omega⟩, ?_⟩
    unfold onlQ
    rw [Bool.and_eq_true, Bool.and_eq_true, decide_eq_true_iff, x3, bitQ_nI _ (by omega), hall q (by omega)]
    exact ⟨hne, b1, b2⟩
theorem pair_fold (gd : Nat → Int32) (t a p : Nat) : ∀ (l : List Nat) (b : Int32), bt (l.foldl (pairF gd t a) b) p = (bt b p || l.any (fun q => decide (q ≠ t ∧ gd q = gd a) && bt (gd a) p))
  | [], b => by simp
  | q :: l, b => by
    rw [List.foldl_cons, pair_fold gd t a p l, List.any_cons]
    unfold pairF
    by_cases h : q ≠ t ∧ gd q = gd a
    · rw [if_pos h, b_or, decide_eq_true h, Bool.true_and, Bool.or_assoc]
    · rw [if_neg h, decide_eq_false h, Bool.false_and, Bool.false_or]
theorem pairs_fold (gd : Nat → Int32) (t e p : Nat) : ∀ (l : List Nat) (b : Int32), bt (l.foldl (pairsF gd t e) b) p = (bt b p || l.any (fun a => decide (¬ a = t ∧ bcF (gd a) = 2) && (segF id (e - (a + 1)) (a + 1)).any (fun q => decide (q ≠ t ∧ gd q = gd a) && bt (gd a) p)))
  | [], b => by simp
  | a :: l, b => by
    rw [List.foldl_cons, pairs_fold gd t e p l, List.any_cons]
    unfold pairsF
    by_cases h : a = t ∨ ¬ bcF (gd a) = 2
    · rw [if_pos h, decide_eq_false (fun q => h.elim q.1 (fun r => r q.2)), Bool.false_and, Bool.false_or]
    · have h' : ¬ a = t ∧ bcF (gd a) = 2 := ⟨fun q => h (Or.inl q), Classical.byContradiction fun q => h (Or.inr q)⟩
      rw [if_neg h, pair_fold, decide_eq_true h', Bool.true_and, Bool.or_assoc]
/-- rule 4 -/
theorem bar_4 (hN : 0 < N ∧ N ≤ 5) (h : grX N K X gc gr) {i p : Nat} (hi : i < N * K) (hp : p < N) : bt (barPairs gc N (tAt N i)) p = true ↔ T4 N X i p := by
  unfold barPairs
  rw [pairs_fold, b_0, Bool.false_or, List.any_eq_true]
  constructor
  · rintro ⟨a, ha, hc⟩
    obtain ⟨j, hj, rfl⟩ := seg_mem.mp ha
    obtain ⟨g1, g2, g3⟩ := gc_at hN h hi hj
    rw [Bool.and_eq_true, decide_eq_true_iff, List.any_eq_true] at hc
    obtain ⟨⟨c1, c2⟩, r, hr, c3⟩ := hc
    obtain ⟨u, hu, rfl⟩ := seg_mem.mp hr
    obtain ⟨k1, k2, k3⟩ := gc_at hN h hi (j := j + 1 + u) (by omega)
    have er : firstF (tAt N i) + j + 1 + u = firstF (tAt N i) + (j + 1 + u) := by omega
    rw [er, Bool.and_eq_true, decide_eq_true_iff, k1, g1, bt_nI _ _ (by omega)] at c3
    rw [g1] at c2
    have l1 := lt_32 hN.2 g2
    have l2 := lt_32 hN.2 k2
    exact ⟨j, j + 1 + u, by omega, by omega, fun e => c1 (g3.mpr e), fun e => c3.1.1 (k3.mpr e), ((nI_eq (by omega) (by omega)).mp c3.1.2).symm, (bc_tab _ l1 2 (by decide)).mp c2, c3.2⟩
  · rintro ⟨a, b, hab, hbN, n1, n2, e, hp2, hb⟩
    obtain ⟨g1, g2, g3⟩ := gc_at hN h hi (j := a) (by omega)
    obtain ⟨k1, k2, k3⟩ := gc_at hN h hi hbN
    refine ⟨firstF (tAt N i) + a, seg_mem.mpr ⟨a, by omega, rfl⟩, ?_⟩
    rw [Bool.and_eq_true, decide_eq_true_iff, List.any_eq_true]
    refine ⟨⟨fun e => n1 (g3.mp e), by rw [g1]; exact (bc_tab _ (lt_32 hN.2 g2) 2 (by decide)).mpr hp2⟩, firstF (tAt N i) + b, seg_mem.mpr ⟨b - (a + 1), by omega, by omega⟩, ?_⟩
    rw [Bool.and_eq_true, decide_eq_true_iff, k1, g1, bt_nI _ _ (by omega), e]
    exact ⟨⟨fun e => n2 (k3.mp e), rfl⟩, by rw [← e]; exact hb⟩
theorem ref_4 (hN : 0 < N ∧ N ≤ 5) (h : grX N K X gc gr) {i p : Nat} (hi : i < N * K) (hp : p < N) : (segF id N (j5 N i / 5 * 5)).any (prA gr (j5 N i) (nI p) (j5 N i / 5 * 5 + N)) = true ↔ T4 N X i p := by
  rw [List.any_eq_true]
  constructor
  · rintro ⟨a, ha, hc⟩
    obtain ⟨j, hj, rfl⟩ := seg_mem.mp ha
    obtain ⟨g1, g3⟩ := gr_at hN h hi hj
    have g2 := (gc_at hN h hi hj).2.1
    unfold prA at hc
    rw [List.any_eq_true] at hc
    obtain ⟨r, hr, hc⟩ := hc
    obtain ⟨u, hu, rfl⟩ := seg_mem.mp hr
    obtain ⟨k1, k3⟩ := gr_at hN h hi (j := j + 1 + u) (by omega)
    have k2 := (gc_at hN h hi (j := j + 1 + u) (by omega)).2.1
    have er : j5 N i / 5 * 5 + j + 1 + u = j5 N i / 5 * 5 + (j + 1 + u) := by omega
    have c := of_decide_eq_true hc
    rw [er, k1, g1, bit1_iff _ (by omega), bt_nI _ _ (by omega), sz_tab _ (lt_32 hN.2 g2)] at c
    obtain ⟨c1, c2, c3, c4, c5⟩ := c
    have l1 := lt_32 hN.2 g2
    have l2 := lt_32 hN.2 k2
    have hpl := pcN_le (X (N * (i / N) + j))
    exact ⟨j, j + 1 + u, by omega, by omega, fun e => c1 (g3.mpr e), fun e => c2 (k3.mpr e), (nI_eq (by omega) (by omega)).mp c3, (nI_eq (b := 2) (by omega) (by omega)).mp c4, c5⟩
  · rintro ⟨a, b, hab, hbN, n1, n2, e, hp2, hb⟩
    obtain ⟨g1, g3⟩ := gr_at hN h hi (j := a) (by omega)
    have g2 := (gc_at hN h hi (j := a) (by omega)).2.1
    obtain ⟨k1, k3⟩ := gr_at hN h hi hbN
    refine ⟨j5 N i / 5 * 5 + a, seg_mem.mpr ⟨a, by omega, rfl⟩, ?_⟩
    unfold prA
    rw [List.any_eq_true]
    refine ⟨j5 N i / 5 * 5 + b, seg_mem.mpr ⟨b - (a + 1), by omega, by omega⟩, decide_eq_true ?_⟩
    rw [k1, g1, bit1_iff _ (by omega), bt_nI _ _ (by omega), sz_tab _ (lt_32 hN.2 g2), hp2]
    exact ⟨fun e => n1 (g3.mp e), fun e => n2 (k3.mp e), by rw [e], rfl, hb⟩
end GRID
