-- rules 3, 5: whether a clue can be so, on both sides
def mayX (N : Nat) (X : Nat → Nat) (i p v a : Nat) : Prop := if v = tAt N i then a = p else (X (ixN N v)).testBit a = true
def CAN (N : Nat) (X : Nat → Nat) (q : Clue) (i p : Nat) : Prop := ∃ a b c, a < N ∧ mayX N X i p q.2.1 a ∧ (if q.1 = 6 then b = 0 else b < N ∧ mayX N X i p q.2.2.1 b ∧ ¬ (q.2.2.1 / 10 = q.2.1 / 10 ∧ b = a)) ∧ (if q.1 = 5 ∨ q.1 = 7 ∨ q.1 = 8 then c < N ∧ mayX N X i p q.2.2.2.1 c ∧ ¬ (q.2.2.2.1 / 10 = q.2.1 / 10 ∧ c = a) ∧ ¬ (q.2.2.2.1 / 10 = q.2.2.1 / 10 ∧ c = b) else c = 0) ∧ isSoF (nI q.1) (nI q.2.2.2.2.1) (nI a) (nI b) (nI c) = true
theorem bitQ_cut (k : Bool) (v : Int32) {a b : Nat} (ha : a < 32) (hb : b < 32) : bitQ (cutF k v a) b = (bitQ v b && !(k && decide (b = a))) := by
  unfold cutF
  cases k with
  | false => simp
  | true =>
    rw [if_pos rfl, bitQ_bt _ hb, bitQ_bt _ hb, b_and, b_xor, b_m1 b hb]
    have := bt_bitF a ha b hb
    unfold bitF at this
    rw [this]
    simp
theorem bitQ_1 : ∀ a, a < 32 → bitQ 1 a = decide (a = 0) := by decide +kernel
theorem div10_eq {x y : Nat} (hx : x < 40) (hy : y < 40) : nI x / 10 = nI y / 10 ↔ x / 10 = y / 10 := by
  have e1 : nI x / 10 = nI (x / 10) := pk_div (d := 10) (by omega) (by omega) (by omega)
  have e2 : nI y / 10 = nI (y / 10) := pk_div (d := 10) (by omega) (by omega) (by omega)
  rw [e1, e2, nI_eq (by omega) (by omega)]
section CANBE
variable {N K : Nat} {X : Nat → Nat} {gc gr : Nat → Int32} {i p : Nat} {q : Clue}
theorem bits_t (hN : 0 < N ∧ N ≤ 5) (hK : K ≤ 3) (h : grX N K X gc gr) (hi : i < N * K) (hp : p < N) {v a : Nat} (hv : isT N K v) (ha : a < N) : bitQ (bitsF gc (nI v) (nI (tAt N i)) (nI p)) a = true ↔ mayX N X i p v a := by
  obtain ⟨j, hj, rfl⟩ := hv
  have hl := tAt_lt hN hK hj
  have hg := tAt_ge (N := N) j
  have hl2 := tAt_lt hN hK hi
  unfold bitsF mayX
  rw [if_neg (show ¬ nI (tAt N j) = 0 from nI_ne0 (by omega) (by omega))]
  by_cases e : tAt N j = tAt N i
  · rw [if_pos e, if_pos (by rw [e]), bitQ_bt _ (by omega)]
    have := bt_bitF p (by omega) a (by omega)
    unfold bitF at this
    rw [this, decide_eq_true_iff]
  · rw [if_neg e, if_neg (fun q => e ((nI_eq (by omega) (by omega)).mp q)), nI_clamp (by omega), (h j hj).2.1, bitQ_nI _ (by omega), ixN_t hN]
theorem bits_0 (gc : Nat → Int32) (t s : Int32) {a : Nat} (ha : a < 32) : bitQ (bitsF gc (nI 0) t s) a = true ↔ a = 0 := by
  unfold bitsF
  rw [if_pos nI_0, bitQ_1 a ha, decide_eq_true_iff]
/-- the program's side -/
theorem can_c (hN : 0 < N ∧ N ≤ 5) (hK : K ≤ 3) (h : grX N K X gc gr) (hi : i < N * K) (hp : p < N) (hq : okQ N K q) : canF N gc (cdC q) (nI (tAt N i)) (nI p) = true ↔ CAN N X q i p := by
  have rg := okQ_rng hN hK hq
  obtain ⟨e1, e2, e3, e4, e5, e6⟩ := cd_dec rg
  obtain ⟨h1, hx, h3, h4, h5, h6⟩ := hq
  obtain ⟨r1, r2, r3, r4, r5, r6⟩ := rg
  have x10 : 1 ≤ q.2.1 / 10 := by
    obtain ⟨j, hj, e⟩ := hx
    rw [e, (tAt_q hN j).1]
    exact Nat.succ_le_succ (Nat.zero_le _)
  have seg0 : ∀ {P : Nat → Bool}, (segF id N 0).any P = true ↔ ∃ a, a < N ∧ P a = true := by
    intro P
    rw [List.any_eq_true]
    constructor
    · rintro ⟨a, ha, hb⟩
      obtain ⟨j, hj, e⟩ := seg_mem.mp ha
      exact ⟨a, by omega, hb⟩
    · rintro ⟨a, ha, hb⟩
      exact ⟨a, seg_mem.mpr ⟨a, ha, by omega⟩, hb⟩
  -- the second thing
  have yy : ∀ a b, a < N → b < N → (bitQ (cutF (decide (nI q.2.2.1 / 10 = nI q.2.1 / 10)) (bitsF gc (nI q.2.2.1) (nI (tAt N i)) (nI p)) a) b = true ↔ (if q.1 = 6 then b = 0 else b < N ∧ mayX N X i p q.2.2.1 b ∧ ¬ (q.2.2.1 / 10 = q.2.1 / 10 ∧ b = a))) := by
    intro a b ha hb
    rw [bitQ_cut _ _ (by omega) (by omega), Bool.and_eq_true, Bool.not_eq_true', Bool.and_eq_false_iff]
    by_cases k6 : q.1 = 6
    · rw [if_pos k6] at h3 ⊢
      rw [h3, bits_0 _ _ _ (by omega)]
      constructor
      · exact fun z => z.1
      · intro z
        refine ⟨z, Or.inl (decide_eq_false ?_)⟩
        have := div10_eq (x := 0) (y := q.2.1) (by omega) (by omega)
        rw [this]
        omega
    · rw [if_neg k6] at h3 ⊢
      rw [bits_t hN hK h hi hp h3.1 hb, decide_eq_false_iff_not, decide_eq_false_iff_not, div10_eq (by omega) (by omega)]
      constructor
      · rintro ⟨z1, z2⟩
        exact ⟨hb, z1, fun z => z2.elim (fun w => w z.1) (fun w => w z.2)⟩
      · rintro ⟨_, z1, z2⟩
        refine ⟨z1, ?_⟩
        by_cases w : q.2.2.1 / 10 = q.2.1 / 10
        · exact Or.inr (fun w2 => z2 ⟨w, w2⟩)
        · exact Or.inl w
  -- the third
  have zz : ∀ a b c, a < N → b < N → c < N → (bitQ (cutF (decide (¬ nI q.2.2.2.1 = 0 ∧ nI q.2.2.2.1 / 10 = nI q.2.2.1 / 10)) (cutF (decide (nI q.2.2.2.1 / 10 = nI q.2.1 / 10)) (bitsF gc (nI q.2.2.2.1) (nI (tAt N i)) (nI p)) a) b) c = true ↔ (if q.1 = 5 ∨ q.1 = 7 ∨ q.1 = 8 then c < N ∧ mayX N X i p q.2.2.2.1 c ∧ ¬ (q.2.2.2.1 / 10 = q.2.1 / 10 ∧ c = a) ∧ ¬ (q.2.2.2.1 / 10 = q.2.2.1 / 10 ∧ c = b) else c = 0)) := by
    intro a b c ha hb hc
    rw [bitQ_cut _ _ (by omega) (by omega), bitQ_cut _ _ (by omega) (by omega), Bool.and_eq_true, Bool.and_eq_true, Bool.not_eq_true', Bool.not_eq_true', Bool.and_eq_false_iff, Bool.and_eq_false_iff]
    by_cases k3 : q.1 = 5 ∨ q.1 = 7 ∨ q.1 = 8
    · rw [if_pos k3] at h4 ⊢
      have nz : ¬ nI q.2.2.2.1 = 0 := by
        obtain ⟨j, hj, e⟩ := h4.1
        have hg := tAt_ge (N := N) j
        exact nI_ne0 (by omega) (by omega)
      rw [bits_t hN hK h hi hp h4.1 hc, decide_eq_false_iff_not, decide_eq_false_iff_not, decide_eq_false_iff_not, decide_eq_false_iff_not, div10_eq (by omega) (by omega), div10_eq (by omega) (by omega)]
      constructor
      · rintro ⟨⟨z1, z2⟩, z3⟩
        exact ⟨hc, z1, fun z => z2.elim (fun w => w z.1) (fun w => w z.2), fun z => z3.elim (fun w => w ⟨nz, z.1⟩) (fun w => w z.2)⟩
      · rintro ⟨_, z1, z2, z3⟩
        refine ⟨⟨z1, ?_⟩, ?_⟩
        · by_cases w : q.2.2.2.1 / 10 = q.2.1 / 10
          · exact Or.inr (fun w2 => z2 ⟨w, w2⟩)
          · exact Or.inl w
        · by_cases w : q.2.2.2.1 / 10 = q.2.2.1 / 10
          · exact Or.inr (fun w2 => z3 ⟨w, w2⟩)
          · exact Or.inl (fun w2 => w w2.2)
    · rw [if_neg k3] at h4 ⊢
      rw [h4, bits_0 _ _ _ (by omega)]
      constructor
      · exact fun z => z.1.1
      · intro z
        refine ⟨⟨z, Or.inl (decide_eq_false ?_)⟩, Or.inl (decide_eq_false (fun w => w.1 nI_0))⟩
        have := div10_eq (x := 0) (y := q.2.1) (by omega) (by omega)
        rw [this]
        omega
  unfold canF
  rw [e1, e2, e3, e4, e5, seg0]
  constructor
  · rintro ⟨a, ha, hA⟩
    unfold cb1 at hA
    rw [Bool.and_eq_true, seg0] at hA
    obtain ⟨a1, b, hb, hB⟩ := hA
    unfold cb2 at hB
    rw [Bool.and_eq_true, seg0] at hB
    obtain ⟨b1, c, hc, hC⟩ := hB
    unfold cb3 at hC
    rw [Bool.and_eq_true] at hC
    exact ⟨a, b, c, ha, (bits_t hN hK h hi hp hx ha).mp a1, (yy a b ha hb).mp b1, (zz a b c ha hb hc).mp hC.1, hC.2⟩
  · rintro ⟨a, b, c, ha, a1, b1, c1, hs⟩
    have hb : b < N := by
      split at b1
      · omega
      · exact b1.1
    have hc : c < N := by
      split at c1
      · exact c1.1
      · omega
    refine ⟨a, ha, ?_⟩
    unfold cb1
    rw [Bool.and_eq_true, seg0]
    refine ⟨(bits_t hN hK h hi hp hx ha).mpr a1, b, hb, ?_⟩
    unfold cb2
    rw [Bool.and_eq_true, seg0]
    refine ⟨(yy a b ha hb).mpr b1, c, hc, ?_⟩
    unfold cb3
    rw [Bool.and_eq_true]
    exact ⟨(zz a b c ha hb hc).mpr c1, hs⟩
theorem j5_lt (hN : 0 < N ∧ N ≤ 5) (hK : K ≤ 3) {j : Nat} (hj : j < N * K) : j5 N j < 15 := idx_lt hN hK hj
theorem j5_d (hN : 0 < N ∧ N ≤ 5) (j : Nat) : j5 N j / 5 = j / N ∧ j5 N j % 5 = j % N := by
  have := Nat.mod_lt j hN.1
  unfold j5
  constructor
  · omega
  · omega
theorem j5_inj (hN : 0 < N ∧ N ≤ 5) {j k : Nat} (h : j5 N j = j5 N k) : j = k := by
  have h1 := (j5_d hN j)
  have h2 := (j5_d hN k)
  rw [h] at h1
  rw [← Nat.div_add_mod j N, ← Nat.div_add_mod k N, ← h1.1, ← h1.2, h2.1, h2.2]
theorem may_t (hN : 0 < N ∧ N ≤ 5) (hK : K ≤ 3) (h : grX N K X gc gr) (hi : i < N * K) (hp : p < N) {v a : Nat} (hv : isT N K v) (ha : a < N) : mayB gr (idxF (nI v)) (nI a) (nI (j5 N i)) (nI p) = true ↔ mayX N X i p v a := by
  obtain ⟨j, hj, rfl⟩ := hv
  have hl := j5_lt hN hK hj
  have hl2 := j5_lt hN hK hi
  have e0 : idxF (nI (tAt N j)) = nI (j5 N j) := idx_t hN hK hj
  rw [e0]
  unfold mayB mayX
  by_cases e : j = i
  · rw [e, if_pos rfl, if_pos rfl, decide_eq_true_iff, nI_eq (by omega) (by omega)]
  · rw [if_neg (fun q => e (tAt_inj hN q)), if_neg (fun q => e (j5_inj hN ((nI_eq (by omega) (by omega)).mp q))), decide_eq_true_iff, nI_clamp (by omega), (h j hj).2.2, bit1_iff _ (by omega), bt_nI _ _ (by omega), ixN_t hN]
theorem clash_t (hN : 0 < N ∧ N ≤ 5) (hK : K ≤ 3) {u v a b : Nat} (hu : isT N K u) (hv : isT N K v) (ha : a < N) (hb : b < N) : clashF (idxF (nI u)) (idxF (nI v)) (nI a) (nI b) = true ↔ u / 10 = v / 10 ∧ a = b := by
  obtain ⟨j, hj, rfl⟩ := hu
  obtain ⟨k, hk, rfl⟩ := hv
  have l1 := j5_lt hN hK hj
  have l2 := j5_lt hN hK hk
  have e1 : idxF (nI (tAt N j)) = nI (j5 N j) := idx_t hN hK hj
  have e2 : idxF (nI (tAt N k)) = nI (j5 N k) := idx_t hN hK hk
  rw [e1, e2]
  unfold clashF
  have d1 : nI (j5 N j) / 5 = nI (j5 N j / 5) := pk_div (d := 5) (by omega) (by omega) (by omega)
  have d2 : nI (j5 N k) / 5 = nI (j5 N k / 5) := pk_div (d := 5) (by omega) (by omega) (by omega)
  rw [decide_eq_true_iff, d1, d2, nI_eq (by omega) (by omega), nI_eq (by omega) (by omega), (j5_d hN j).1, (j5_d hN k).1, (tAt_q hN j).1, (tAt_q hN k).1]
  constructor
  · rintro ⟨q1, q2⟩
    exact ⟨by omega, q2⟩
  · rintro ⟨q1, q2⟩
    exact ⟨by omega, q2⟩
theorem tri_i (k : Nat) (hk : k < 10) : threeB (nI k) = true ↔ (k = 5 ∨ k = 7 ∨ k = 8) := by
  unfold threeB
  rw [decide_eq_true_iff, show (5 : Int32) = nI 5 from rfl, show (7 : Int32) = nI 7 from rfl, show (8 : Int32) = nI 8 from rfl, nI_eq (by omega) (by omega), nI_eq (by omega) (by omega), nI_eq (by omega) (by omega)]
theorem idx_nm1 (hN : 0 < N ∧ N ≤ 5) (hK : K ≤ 3) {v : Nat} (hv : isT N K v) : ¬ idxF (nI v) = -1 := by
  obtain ⟨j, hj, rfl⟩ := hv
  have hl := j5_lt hN hK hj
  have e0 : idxF (nI (tAt N j)) = nI (j5 N j) := idx_t hN hK hj
  rw [e0]
  intro e
  have : (nI (j5 N j)).toInt = -1 := by rw [e]; rfl
  rw [nI_toInt (by omega)] at this
  omega
/-- the reference's side -/
theorem can_r (hN : 0 < N ∧ N ≤ 5) (hK : K ≤ 3) (h : grX N K X gc gr) (hi : i < N * K) (hp : p < N) (hq : okQ N K q) {cl : Nat → Int32} {k : Nat} (hr : rowOK cl k q) : canBF gr N cl k (nI (j5 N i)) (nI p) = true ↔ CAN N X q i p := by
  have rg := okQ_rng hN hK hq
  obtain ⟨e1, e2, e3, e4, e5, e6⟩ := hr
  obtain ⟨h1, hx, h3, h4, h5, h6⟩ := hq
  obtain ⟨r1, r2, r3, r4, r5, r6⟩ := rg
  have seg0 : ∀ {M : Nat} {P : Nat → Bool}, (segF id M 0).any P = true ↔ ∃ a, a < M ∧ P a = true := by
    intro M P
    rw [List.any_eq_true]
    constructor
    · rintro ⟨a, ha, hb⟩
      obtain ⟨j, hj, e⟩ := seg_mem.mp ha
      exact ⟨a, by omega, hb⟩
    · rintro ⟨a, ha, hb⟩
      exact ⟨a, seg_mem.mpr ⟨a, ha, by omega⟩, hb⟩
  have k6 : nI q.1 = (6 : Int32) ↔ q.1 = 6 := nI_eq (b := 6) (by omega) (by omega)
  obtain ⟨Y, hY⟩ : ∃ Y, Y = (if nI q.1 = 6 then (-1 : Int32) else idxF (nI q.2.2.1)) := ⟨_, rfl⟩
  obtain ⟨Z, hZ⟩ : ∃ Z, Z = (if threeB (nI q.1) = true then idxF (nI q.2.2.2.1) else (-1 : Int32)) := ⟨_, rfl⟩
  have yy : ∀ a b, a < N → ((b < cbW N Y ∧ (decide (Y = -1) || (mayB gr Y (nI b) (nI (j5 N i)) (nI p) && !clashF (idxF (nI q.2.1)) Y (nI a) (nI b))) = true) ↔ (if q.1 = 6 then b = 0 else b < N ∧ mayX N X i p q.2.2.1 b ∧ ¬ (q.2.2.1 / 10 = q.2.1 / 10 ∧ b = a))) := by
    intro a b ha
    by_cases k : q.1 = 6
    · rw [if_pos (k6.mpr k)] at hY
      rw [if_pos k, hY]
      unfold cbW
      rw [if_pos rfl, decide_eq_true rfl, Bool.true_or]
      constructor
      · rintro ⟨z, _⟩
        omega
      · intro z
        exact ⟨by omega, rfl⟩
    · rw [if_neg (fun z => k (k6.mp z))] at hY
      rw [if_neg k] at h3 ⊢
      have hm := idx_nm1 hN hK h3.1
      rw [hY]
      unfold cbW
      rw [if_neg hm, decide_eq_false hm, Bool.false_or, Bool.and_eq_true, Bool.not_eq_true']
      constructor
      · rintro ⟨z1, z2, z3⟩
        refine ⟨z1, (may_t hN hK h hi hp h3.1 z1).mp z2, fun z => ?_⟩
        rw [(clash_t hN hK hx h3.1 ha z1).mpr ⟨z.1.symm, z.2.symm⟩] at z3
        exact Bool.false_ne_true z3.symm
      · rintro ⟨z1, z2, z3⟩
        refine ⟨z1, (may_t hN hK h hi hp h3.1 z1).mpr z2, ?_⟩
        cases hc : clashF (idxF (nI q.2.1)) (idxF (nI q.2.2.1)) (nI a) (nI b) with
        | false => rfl
        | true =>
          obtain ⟨w1, w2⟩ := (clash_t hN hK hx h3.1 ha z1).mp hc
          exact absurd ⟨w1.symm, w2.symm⟩ z3
  have zz : ∀ a b c, a < N → (if q.1 = 6 then b = 0 else b < N ∧ mayX N X i p q.2.2.1 b ∧ ¬ (q.2.2.1 / 10 = q.2.1 / 10 ∧ b = a)) → ((c < cbW N Z ∧ (decide (Z = -1) || (mayB gr Z (nI c) (nI (j5 N i)) (nI p) && (!clashF (idxF (nI q.2.1)) Z (nI a) (nI c) && !clashF Y Z (nI b) (nI c)))) = true) ↔ (if q.1 = 5 ∨ q.1 = 7 ∨ q.1 = 8 then c < N ∧ mayX N X i p q.2.2.2.1 c ∧ ¬ (q.2.2.2.1 / 10 = q.2.1 / 10 ∧ c = a) ∧ ¬ (q.2.2.2.1 / 10 = q.2.2.1 / 10 ∧ c = b) else c = 0)) := by
    intro a b c ha hb
    by_cases k3 : q.1 = 5 ∨ q.1 = 7 ∨ q.1 = 8
    · rw [if_pos ((tri_i q.1 (by omega)).mpr k3)] at hZ
      have kn6 : ¬ q.1 = 6 := by omega
      rw [if_neg (fun z => kn6 (k6.mp z))] at hY
      rw [if_neg kn6] at h3 hb
      rw [if_pos k3] at h4 ⊢
      have hm := idx_nm1 hN hK h4.1
      rw [hZ, hY]
      unfold cbW
      rw [if_neg hm, decide_eq_false hm, Bool.false_or, Bool.and_eq_true, Bool.and_eq_true, Bool.not_eq_true', Bool.not_eq_true']
      constructor
      · rintro ⟨z1, z2, z3, z4⟩
        refine ⟨z1, (may_t hN hK h hi hp h4.1 z1).mp z2, fun z => ?_, fun z => ?_⟩
        · rw [(clash_t hN hK hx h4.1 ha z1).mpr ⟨z.1.symm, z.2.symm⟩] at z3
          exact Bool.false_ne_true z3.symm
        · rw [(clash_t hN hK h3.1 h4.1 hb.1 z1).mpr ⟨z.1.symm, z.2.symm⟩] at z4
          exact Bool.false_ne_true z4.symm
      · rintro ⟨z1, z2, z3, z4⟩
        refine ⟨z1, (may_t hN hK h hi hp h4.1 z1).mpr z2, ?_, ?_⟩
        · cases hc : clashF (idxF (nI q.2.1)) (idxF (nI q.2.2.2.1)) (nI a) (nI c) with
          | false => rfl
          | true =>
            obtain ⟨w1, w2⟩ := (clash_t hN hK hx h4.1 ha z1).mp hc
            exact absurd ⟨w1.symm, w2.symm⟩ z3
        · cases hc : clashF (idxF (nI q.2.2.1)) (idxF (nI q.2.2.2.1)) (nI b) (nI c) with
          | false => rfl
          | true =>
            obtain ⟨w1, w2⟩ := (clash_t hN hK h3.1 h4.1 hb.1 z1).mp hc
            exact absurd ⟨w1.symm, w2.symm⟩ z4
    · rw [if_neg (fun z => k3 ((tri_i q.1 (by omega)).mp z))] at hZ
      rw [if_neg k3, hZ]
      unfold cbW
      rw [if_pos rfl, decide_eq_true rfl, Bool.true_or]
      constructor
      · rintro ⟨z, _⟩
        omega
      · intro z
        exact ⟨by omega, rfl⟩
  unfold canBF cbF
  rw [e1, e2, e3, e4, e5, ← hY, ← hZ, seg0]
  constructor
  · rintro ⟨a, ha, hA⟩
    unfold cbA at hA
    rw [Bool.and_eq_true, seg0] at hA
    obtain ⟨a1, b, hb, hB⟩ := hA
    unfold cbB at hB
    rw [Bool.and_eq_true, seg0] at hB
    obtain ⟨b1, c, hc, hC⟩ := hB
    unfold cbC at hC
    rw [Bool.and_eq_true] at hC
    have b2 := (yy a b ha).mp ⟨hb, b1⟩
    exact ⟨a, b, c, ha, (may_t hN hK h hi hp hx ha).mp a1, b2, (zz a b c ha b2).mp ⟨hc, hC.1⟩, hC.2⟩
  · rintro ⟨a, b, c, ha, a1, b1, c1, hs⟩
    obtain ⟨hb, b2⟩ := (yy a b ha).mpr b1
    obtain ⟨hc, c2⟩ := (zz a b c ha b1).mpr c1
    refine ⟨a, ha, ?_⟩
    unfold cbA
    rw [Bool.and_eq_true, seg0]
    refine ⟨(may_t hN hK h hi hp hx ha).mpr a1, b, hb, ?_⟩
    unfold cbB
    rw [Bool.and_eq_true, seg0]
    refine ⟨b2, c, hc, ?_⟩
    unfold cbC
    rw [Bool.and_eq_true]
    exact ⟨c2, hs⟩
end CANBE
