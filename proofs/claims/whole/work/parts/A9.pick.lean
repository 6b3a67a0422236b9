-- which place is taken next: the least thing, then the least place, on both sides
def leastIP (N M : Nat) (P : Nat → Nat → Prop) (i p : Nat) : Prop := i < M ∧ p < N ∧ P i p ∧ ∀ i' p', i' < M → p' < N → P i' p' → i < i' ∨ (i = i' ∧ p ≤ p')
theorem least_u {N M : Nat} {P P' : Nat → Nat → Prop} (hP : ∀ i p, i < M → p < N → (P i p ↔ P' i p)) {i p i' p' : Nat} (h : leastIP N M P i p) (h' : leastIP N M P' i' p') : i = i' ∧ p = p' := by
  obtain ⟨a1, a2, a3, a4⟩ := h
  obtain ⟨b1, b2, b3, b4⟩ := h'
  have c1 := a4 i' p' b1 b2 ((hP i' p' b1 b2).mpr b3)
  have c2 := b4 i p a1 a2 ((hP i p a1 a2).mp a3)
  omega
/-- what both sides pick -/
def picks (N M : Nat) (P : Nat → Nat → Prop) (o : Option (Nat × Nat)) : Prop := (o = none ∧ ∀ i p, i < M → p < N → ¬ P i p) ∨ ∃ i p, leastIP N M P i p ∧ o = some (i, p)
theorem picks_u {N M : Nat} {P P' : Nat → Nat → Prop} (hP : ∀ i p, i < M → p < N → (P i p ↔ P' i p)) {o o' : Option (Nat × Nat)} (h : picks N M P o) (h' : picks N M P' o') : o = o' := by
  rcases h with ⟨e, h⟩ | ⟨i, p, hl, e⟩
  · rcases h' with ⟨e', _⟩ | ⟨i', p', hl', e'⟩
    · rw [e, e']
    · exact absurd ((hP _ _ hl'.1 hl'.2.1).mpr hl'.2.2.1) (h i' p' hl'.1 hl'.2.1)
  · rcases h' with ⟨e', h'⟩ | ⟨i', p', hl', e'⟩
    · exact absurd ((hP _ _ hl.1 hl.2.1).mp hl.2.2.1) (h' i p hl.1 hl.2.1)
    · obtain ⟨rfl, rfl⟩ := least_u hP hl hl'
      rw [e, e']
theorem low_tab : ∀ y, y < 32 → ¬ y = 0 → ∃ p, p < 5 ∧ lowF (nI y) = nI p ∧ y.testBit p = true ∧ ∀ p', p' < p → y.testBit p' = false := by decide +kernel
theorem ex_bit : ∀ y, y < 32 → ¬ y = 0 → ∃ p, p < 5 ∧ y.testBit p = true := by decide +kernel
section PICK
variable {N K : Nat} {X : Nat → Nat} {gc gr : Nat → Int32}
/-- the bits that a rule bars of a thing -/
theorem bar_val (hN : 0 < N ∧ N ≤ 5) {x : Nat} (hx : x < 2 ^ N) (b : Int32) : ∃ y, y < 2 ^ N ∧ nI x &&& b = nI y ∧ ∀ p, p < 32 → (y.testBit p = true ↔ x.testBit p = true ∧ bt b p = true) := by
  obtain ⟨y, hy, e⟩ := wb_of32 (nI x &&& b)
  have tb : ∀ p, p < 32 → y.testBit p = (x.testBit p && bt b p) := by
    intro p hp
    rw [← bt_nI y p hp, ← e, b_and, bt_nI x p hp]
  refine ⟨y, ?_, e, fun p hp => by rw [tb p hp, Bool.and_eq_true]⟩
  refine Nat.lt_pow_two_of_testBit y (fun p hp => ?_)
  by_cases h32 : p < 32
  · rw [tb p h32, bt_hi hx hp, Bool.false_and]
  · exact bt_hi hy (by omega)
theorem bs_spec (hN : 0 < N ∧ N ≤ 5) (rule : Int32) (s : PS) (h : grX N K X s.1 gr) : ∃ o, picks N (N * K) (fun i p => (X i).testBit p = true ∧ bt (barF s.1 N rule (tAt N i)) p = true) o ∧ bsF N rule s (segF id (N * K) 0) = o.map (fun q => takeP rule (-1) (tAt N q.1) (nI q.2) s) := by
  have main : ∀ m i, i + m = N * K → (bsF N rule s (segF id m i) = none ∧ ∀ i' p, i ≤ i' → i' < N * K → p < N → ¬ ((X i').testBit p = true ∧ bt (barF s.1 N rule (tAt N i')) p = true)) ∨ ∃ i' p, i ≤ i' ∧ i' < N * K ∧ p < N ∧ ((X i').testBit p = true ∧ bt (barF s.1 N rule (tAt N i')) p = true) ∧ (∀ i'' p'', i ≤ i'' → i'' < N * K → p'' < N → ((X i'').testBit p'' = true ∧ bt (barF s.1 N rule (tAt N i'')) p'' = true) → i' < i'' ∨ (i' = i'' ∧ p ≤ p'')) ∧ bsF N rule s (segF id m i) = some (takeP rule (-1) (tAt N i') (nI p) s) := by
    intro m
    induction m with
    | zero =>
      intro i hi
      exact Or.inl ⟨rfl, fun i' p h1 h2 => by omega⟩
    | succ m ih =>
      intro i hi
      have hiM : i < N * K := by omega
      obtain ⟨x1, x2, _⟩ := h i hiM
      obtain ⟨y, hy, ey, hb⟩ := bar_val hN x1 (barF s.1 N rule (tAt N i))
      have y32 := lt_32 hN.2 hy
      show (bsF N rule s (i :: segF id m (i + 1)) = none ∧ _) ∨ ∃ i' p, _ ∧ _ ∧ _ ∧ _ ∧ _ ∧ bsF N rule s (i :: segF id m (i + 1)) = _
      unfold bsF
      rw [x2, ey]
      by_cases h0 : y = 0
      · rw [if_pos (show nI y = 0 by rw [h0]; rfl)]
        have none0 : ∀ p, p < N → ¬ ((X i).testBit p = true ∧ bt (barF s.1 N rule (tAt N i)) p = true) := by
          intro p hp q
          have := (hb p (by omega)).mpr q
          rw [h0, Nat.zero_testBit] at this
          exact Bool.false_ne_true this
        rcases ih (i + 1) (by omega) with ⟨e, hn⟩ | ⟨i', p, a1, a2, a3, a4, a5, a6⟩
        · refine Or.inl ⟨e, fun i' p b1 b2 b3 => ?_⟩
          by_cases e2 : i' = i
          · rw [e2]; exact none0 p b3
          · exact hn i' p (by omega) b2 b3
        · refine Or.inr ⟨i', p, by omega, a2, a3, a4, fun i'' p'' b1 b2 b3 b4 => ?_, a6⟩
          by_cases e2 : i'' = i
          · rw [e2] at b4
            exact absurd b4 (none0 p'' b3)
          · exact a5 i'' p'' (by omega) b2 b3 b4
      · rw [if_neg (nI_ne0 (by omega) (by omega))]
        obtain ⟨p, hp, elow, hbit, hmin⟩ := low_tab y y32 h0
        rw [elow]
        refine Or.inr ⟨i, p, Nat.le_refl _, hiM, tb_lt hy hbit, (hb p (by omega)).mp hbit, fun i'' p'' b1 b2 b3 b4 => ?_, rfl⟩
        by_cases e2 : i'' = i
        · right
          refine ⟨e2.symm, ?_⟩
          rw [e2] at b4
          have := (hb p'' (by omega)).mpr b4
          refine Classical.byContradiction fun hc => ?_
          rw [hmin p'' (by omega)] at this
          exact Bool.false_ne_true this
        · left
          omega
  rcases main (N * K) 0 (by omega) with ⟨e, hn⟩ | ⟨i', p, a1, a2, a3, a4, a5, a6⟩
  · exact ⟨none, Or.inl ⟨rfl, fun i p h1 h2 => hn i p (by omega) h1 h2⟩, e⟩
  · exact ⟨some (i', p), Or.inr ⟨i', p, ⟨a2, a3, a4, fun i'' p'' b1 b2 b3 => a5 i'' p'' (by omega) b1 b2 b3⟩, rfl⟩, a6⟩
theorem spP_min {Q : Nat → Nat → Bool} {t : Nat} : ∀ m p, (spP Q t m p = none ∧ ∀ b, p ≤ b → b < p + m → Q t b = false) ∨ ∃ b, spP Q t m p = some (t, b) ∧ p ≤ b ∧ b < p + m ∧ Q t b = true ∧ ∀ c, p ≤ c → c < b → Q t c = false := by
  intro m
  induction m with
  | zero => intro p; exact Or.inl ⟨rfl, fun b h1 h2 => by omega⟩
  | succ m ih =>
    intro p
    unfold spP
    cases h1 : Q t p with
    | true =>
      rw [if_pos rfl]
      exact Or.inr ⟨p, rfl, Nat.le_refl _, by omega, h1, fun c a b => by omega⟩
    | false =>
      rw [if_neg Bool.false_ne_true]
      rcases ih (p + 1) with ⟨e, hn⟩ | ⟨b, e, b1, b2, b3, b4⟩
      · refine Or.inl ⟨e, fun b a1 a2 => ?_⟩
        by_cases e2 : b = p
        · rw [e2]; exact h1
        · exact hn b (by omega) (by omega)
      · refine Or.inr ⟨b, e, by omega, by omega, b3, fun c a1 a2 => ?_⟩
        by_cases e2 : c = p
        · rw [e2]; exact h1
        · exact b4 c (by omega) a2
theorem spT_min {Q : Nat → Nat → Bool} {n : Nat} : ∀ m t, (spT Q n m t = none ∧ ∀ a b, t ≤ a → a < t + m → a % 5 < n → b < n → Q a b = false) ∨ ∃ a b, spT Q n m t = some (a, b) ∧ t ≤ a ∧ a < t + m ∧ a % 5 < n ∧ b < n ∧ Q a b = true ∧ ∀ c d, t ≤ c → c < t + m → c % 5 < n → d < n → Q c d = true → a < c ∨ (a = c ∧ b ≤ d) := by
  intro m
  induction m with
  | zero => intro t; exact Or.inl ⟨rfl, fun a b h1 h2 => by omega⟩
  | succ m ih =>
    intro t
    unfold spT
    by_cases h1 : t % 5 < n
    · rw [if_pos h1]
      rcases spP_min (Q := Q) (t := t) n 0 with ⟨e, hn⟩ | ⟨b, e, b1, b2, b3, b4⟩
      · rw [e]
        rcases ih (t + 1) with ⟨e2, hn2⟩ | ⟨a, b, e2, a1, a2, a3, a4, a5, a6⟩
        · refine Or.inl ⟨e2, fun a b c1 c2 c3 c4 => ?_⟩
          by_cases ee : a = t
          · rw [ee]; exact hn b (by omega) (by omega)
          · exact hn2 a b (by omega) (by omega) c3 c4
        · refine Or.inr ⟨a, b, e2, by omega, by omega, a3, a4, a5, fun c d c1 c2 c3 c4 c5 => ?_⟩
          by_cases ee : c = t
          · rw [ee, hn d (by omega) (by omega)] at c5
            exact absurd c5 Bool.false_ne_true
          · exact a6 c d (by omega) (by omega) c3 c4 c5
      · rw [e]
        refine Or.inr ⟨t, b, rfl, Nat.le_refl _, by omega, h1, by omega, b3, fun c d c1 c2 c3 c4 c5 => ?_⟩
        by_cases ee : c = t
        · right
          refine ⟨ee.symm, Classical.byContradiction fun hc => ?_⟩
          rw [ee, b4 d (by omega) (by omega)] at c5
          exact Bool.false_ne_true c5
        · left
          omega
    · rw [if_neg h1]
      rcases ih (t + 1) with ⟨e2, hn2⟩ | ⟨a, b, e2, a1, a2, a3, a4, a5, a6⟩
      · refine Or.inl ⟨e2, fun a b c1 c2 c3 c4 => ?_⟩
        have : a ≠ t := fun ee => h1 (ee ▸ c3)
        exact hn2 a b (by omega) (by omega) c3 c4
      · refine Or.inr ⟨a, b, e2, by omega, by omega, a3, a4, a5, fun c d c1 c2 c3 c4 c5 => ?_⟩
        have : c ≠ t := fun ee => h1 (ee ▸ c3)
        exact a6 c d (by omega) (by omega) c3 c4 c5
theorem j5_of (hN : 0 < N ∧ N ≤ 5) {t : Nat} (ht : t < 5 * K) (hm : t % 5 < N) : ∃ i, i < N * K ∧ t = j5 N i := by
  obtain ⟨d1, d2⟩ := sort_dm hN.1 (q := t / 5) hm
  refine ⟨N * (t / 5) + t % 5, ?_, ?_⟩
  · have : N * (t / 5 + 1) ≤ N * K := Nat.mul_le_mul_left N (by omega)
    rw [Nat.mul_succ] at this
    omega
  · unfold j5
    rw [d1, d2]
    omega
theorem j5_lt2 (hN : 0 < N ∧ N ≤ 5) {i : Nat} (hi : i < N * K) : j5 N i < 5 * K := by
  have h1 := div_lt_K hN.1 hi
  have h2 := Nat.mod_lt i hN.1
  unfold j5
  omega
theorem j5_mono (hN : 0 < N ∧ N ≤ 5) {i k : Nat} (h : j5 N i < j5 N k) : i < k := by
  refine Classical.byContradiction fun hc => ?_
  have h1 : k / N ≤ i / N := Nat.div_le_div_right (by omega)
  have m1 := Nat.mod_lt i hN.1
  have m2 := Nat.mod_lt k hN.1
  unfold j5 at h
  by_cases e : k / N = i / N
  · have a1 := Nat.div_add_mod i N
    have a2 := Nat.div_add_mod k N
    rw [e] at a2 h
    omega
  · omega
theorem sp_spec (hN : 0 < N ∧ N ≤ 5) (Q : Nat → Nat → Bool) : ∃ o, picks N (N * K) (fun i p => Q (j5 N i) p = true) o ∧ spT Q N (5 * K) 0 = o.map (fun q => (j5 N q.1, q.2)) := by
  rcases spT_min (Q := Q) (n := N) (5 * K) 0 with ⟨e, hn⟩ | ⟨a, b, e, a1, a2, a3, a4, a5, a6⟩
  · refine ⟨none, Or.inl ⟨rfl, fun i p hi hp hc => ?_⟩, e⟩
    have := hn (j5 N i) p (by omega) (by have := j5_lt2 hN hi; omega) (by rw [(j5_d hN i).2]; exact Nat.mod_lt _ hN.1) hp
    have hc : Q (j5 N i) p = true := hc
    rw [this] at hc
    exact Bool.false_ne_true hc
  · obtain ⟨i, hi, rfl⟩ := j5_of (t := a) (K := K) hN (by omega) a3
    refine ⟨some (i, b), Or.inr ⟨i, b, ⟨hi, a4, a5, fun i' p' c1 c2 c3 => ?_⟩, rfl⟩, e⟩
    rcases a6 (j5 N i') p' (by omega) (by have := j5_lt2 hN c1; omega) (by rw [(j5_d hN i').2]; exact Nat.mod_lt _ hN.1) c2 c3 with q | ⟨q1, q2⟩
    · exact Or.inl (j5_mono hN q)
    · exact Or.inr ⟨j5_inj hN q1, q2⟩
end PICK
-- the things of a clue, one behind the other
def aftN (x y z b : Nat) : Nat :=
  let u := if b < x then x else 40
  let v := if b < y ∧ y < u then y else u
  if b < z ∧ z < v then z else v
theorem after_N {x y z b : Nat} (hx : x < 40) (hy : y < 40) (hz : z < 40) (hb : b < 40) : afterF (nI x) (nI y) (nI z) (nI b) = if aftN x y z b = 40 then -1 else nI (aftN x y z b) := by
  obtain ⟨u, hu⟩ : ∃ u, u = if b < x then x else 40 := ⟨_, rfl⟩
  have u40 : u ≤ 40 := by
    rw [hu]
    split <;> omega
  have e1 : (if nI b < nI x then nI x else 40) = nI u := by
    rw [hu]
    by_cases h : b < x
    · rw [if_pos h, if_pos (nI_lt h (by omega))]
    · rw [if_neg h, if_neg (nI_nlt (by omega) (by omega))]
      rfl
  obtain ⟨v, hv⟩ : ∃ v, v = if b < y ∧ y < u then y else u := ⟨_, rfl⟩
  have v40 : v ≤ 40 := by
    rw [hv]
    split <;> omega
  have e2 : (if nI b < nI y ∧ nI y < nI u then nI y else nI u) = nI v := by
    rw [hv]
    by_cases h : b < y ∧ y < u
    · rw [if_pos h, if_pos ⟨nI_lt h.1 (by omega), nI_lt h.2 (by omega)⟩]
    · rw [if_neg h, if_neg (fun q => h ⟨(nI_ltI (by omega) (by omega)).mp q.1, (nI_ltI (by omega) (by omega)).mp q.2⟩)]
  obtain ⟨w, hw⟩ : ∃ w, w = if b < z ∧ z < v then z else v := ⟨_, rfl⟩
  have w40 : w ≤ 40 := by
    rw [hw]
    split <;> omega
  have e3 : (if nI b < nI z ∧ nI z < nI v then nI z else nI v) = nI w := by
    rw [hw]
    by_cases h : b < z ∧ z < v
    · rw [if_pos h, if_pos ⟨nI_lt h.1 (by omega), nI_lt h.2 (by omega)⟩]
    · rw [if_neg h, if_neg (fun q => h ⟨(nI_ltI (by omega) (by omega)).mp q.1, (nI_ltI (by omega) (by omega)).mp q.2⟩)]
  have ea : aftN x y z b = w := by
    unfold aftN
    dsimp only
    rw [← hu, ← hv, ← hw]
  rw [ea]
  unfold afterF
  dsimp only
  rw [e1, e2, e3]
  by_cases h4 : w = 40
  · rw [if_pos h4, if_pos (show nI w = (40 : Int32) by rw [h4]; rfl)]
  · rw [if_neg h4, if_neg (show ¬ nI w = (40 : Int32) from fun q => h4 ((nI_eq (b := 40) (by omega) (by omega)).mp q))]
theorem aft_spec {x y z b : Nat} (hx : x < 40) (hy : y < 40) (hz : z < 40) : (aftN x y z b = 40 ∧ x ≤ b ∧ y ≤ b ∧ z ≤ b) ∨ (aftN x y z b < 40 ∧ b < aftN x y z b ∧ (aftN x y z b = x ∨ aftN x y z b = y ∨ aftN x y z b = z) ∧ (b < x → aftN x y z b ≤ x) ∧ (b < y → aftN x y z b ≤ y) ∧ (b < z → aftN x y z b ≤ z)) := by
  unfold aftN
  dsimp only
  by_cases h1 : b < x
  · rw [if_pos h1]
    by_cases h2 : b < y ∧ y < x
    · rw [if_pos h2]
      by_cases h3 : b < z ∧ z < y
      · rw [if_pos h3]; omega
      · rw [if_neg h3]; omega
    · rw [if_neg h2]
      by_cases h3 : b < z ∧ z < x
      · rw [if_pos h3]; omega
      · rw [if_neg h3]; omega
  · rw [if_neg h1]
    by_cases h2 : b < y ∧ y < 40
    · rw [if_pos h2]
      by_cases h3 : b < z ∧ z < y
      · rw [if_pos h3]; omega
      · rw [if_neg h3]; omega
    · rw [if_neg h2]
      by_cases h3 : b < z ∧ z < 40
      · rw [if_pos h3]; omega
      · rw [if_neg h3]; omega
theorem seg_find (P : Nat → Bool) : ∀ k s, ((segF id k s).find? P = none ∧ ∀ j, s ≤ j → j < s + k → P j = false) ∨ ∃ p, (segF id k s).find? P = some p ∧ s ≤ p ∧ p < s + k ∧ P p = true ∧ ∀ j, s ≤ j → j < p → P j = false := by
  intro k
  induction k with
  | zero => intro s; exact Or.inl ⟨rfl, fun j h1 h2 => by omega⟩
  | succ k ih =>
    intro s
    show ((s :: segF id k (s + 1)).find? P = none ∧ _) ∨ ∃ p, (s :: segF id k (s + 1)).find? P = some p ∧ _
    cases h : P s with
    | true =>
      rw [List.find?_cons_of_pos h]
      exact Or.inr ⟨s, rfl, Nat.le_refl _, by omega, h, fun j a b => by omega⟩
    | false =>
      rw [List.find?_cons_of_neg (by rw [h]; exact Bool.false_ne_true)]
      rcases ih (s + 1) with ⟨e, hn⟩ | ⟨p, e, b1, b2, b3, b4⟩
      · refine Or.inl ⟨e, fun j a1 a2 => ?_⟩
        by_cases ee : j = s
        · rw [ee]; exact h
        · exact hn j (by omega) (by omega)
      · refine Or.inr ⟨p, e, by omega, by omega, b3, fun j a1 a2 => ?_⟩
        by_cases ee : j = s
        · rw [ee]; exact h
        · exact b4 j (by omega) a2
def inQ (q : Clue) (t : Nat) : Prop := t = q.2.1 ∨ t = q.2.2.1 ∨ t = q.2.2.2.1
def TQ (N : Nat) (X : Nat → Nat) (q : Clue) (i p : Nat) : Prop := (X i).testBit p = true ∧ inQ q (tAt N i) ∧ ¬ CAN N X q i p
theorem tAt_mono {N : Nat} (hN : 0 < N ∧ N ≤ 5) {i k : Nat} (h : tAt N i < tAt N k) : i < k := by
  refine Classical.byContradiction fun hc => ?_
  have h1 : k / N ≤ i / N := Nat.div_le_div_right (by omega)
  have m1 := Nat.mod_lt i hN.1
  have m2 := Nat.mod_lt k hN.1
  unfold tAt at h
  by_cases e : k / N = i / N
  · have a1 := Nat.div_add_mod i N
    have a2 := Nat.div_add_mod k N
    rw [e] at a2 h
    omega
  · omega
theorem bcl_spec {N K : Nat} {X : Nat → Nat} {gr : Nat → Int32} (hN : 0 < N ∧ N ≤ 5) (hK : K ≤ 3) (rule k : Int32) (s : PS) (h : grX N K X s.1 gr) {q : Clue} (hq : okQ N K q) : ∃ o, picks N (N * K) (TQ N X q) o ∧ bclF N rule k (cdC q) s 3 (afterF (xF (cdC q)) (yF (cdC q)) (zF (cdC q)) 0) = o.map (fun r => takeP rule k (tAt N r.1) (nI r.2) s) := by
  have rg := okQ_rng hN hK hq
  obtain ⟨e1, e2, e3, e4, e5, e6⟩ := cd_dec rg
  have hq' := hq
  obtain ⟨h1, hx, h3, h4, h5, h6⟩ := hq'
  obtain ⟨r1, r2, r3, r4, r5, r6⟩ := rg
  -- what is above 0 is a thing
  have isT' : ∀ v, (v = q.2.1 ∨ v = q.2.2.1 ∨ v = q.2.2.2.1) → 0 < v → ∃ i, i < N * K ∧ v = tAt N i := by
    intro v hv h0
    rcases hv with rfl | rfl | rfl
    · exact hx
    · split at h3
      · omega
      · exact h3.1
    · split at h4
      · exact h4.1
      · omega
  have main : ∀ m b, b < 40 → (if b < q.2.1 then 1 else 0) + (if b < q.2.2.1 then 1 else 0) + (if b < q.2.2.2.1 then 1 else 0) ≤ m → (bclF N rule k (cdC q) s m (afterF (nI q.2.1) (nI q.2.2.1) (nI q.2.2.2.1) (nI b)) = none ∧ ∀ i p, i < N * K → p < N → b < tAt N i → ¬ TQ N X q i p) ∨ ∃ i p, i < N * K ∧ p < N ∧ b < tAt N i ∧ TQ N X q i p ∧ (∀ i' p', i' < N * K → p' < N → b < tAt N i' → TQ N X q i' p' → i < i' ∨ (i = i' ∧ p ≤ p')) ∧ bclF N rule k (cdC q) s m (afterF (nI q.2.1) (nI q.2.2.1) (nI q.2.2.2.1) (nI b)) = some (takeP rule k (tAt N i) (nI p) s) := by
    intro m
    induction m with
    | zero =>
      intro b hb hc
      refine Or.inl ⟨rfl, fun i p hi hp hbt hT => ?_⟩
      have hxb : ¬ b < q.2.1 := fun z => by rw [if_pos z] at hc; omega
      have hyb : ¬ b < q.2.2.1 := fun z => by rw [if_pos z] at hc; omega
      have hzb : ¬ b < q.2.2.2.1 := fun z => by rw [if_pos z] at hc; omega
      rcases hT.2.1 with e | e | e <;> omega
    | succ m ih =>
      intro b hb hc
      rw [after_N r2 r3 r4 hb]
      rcases aft_spec (b := b) r2 r3 r4 with ⟨a0, a1, a2, a3⟩ | ⟨a0, a1, a2, a3, a4, a5⟩
      · rw [if_pos a0]
        refine Or.inl ⟨?_, fun i p hi hp hbt hT => ?_⟩
        · unfold bclF
          rw [if_pos rfl]
        · rcases hT.2.1 with e | e | e <;> omega
      · obtain ⟨v, hv⟩ : ∃ v, v = aftN q.2.1 q.2.2.1 q.2.2.2.1 b := ⟨_, rfl⟩
        rw [← hv] at a0 a1 a2 a3 a4 a5 ⊢
        rw [if_neg (by omega)]
        obtain ⟨i, hi, ei⟩ := isT' v a2 (by omega)
        have nm : ¬ nI v = -1 := fun e => by
          have : (nI v).toInt = -1 := by rw [e]; rfl
          rw [nI_toInt (by omega)] at this
          omega
        have hcnt : (if v < q.2.1 then 1 else 0) + (if v < q.2.2.1 then 1 else 0) + (if v < q.2.2.2.1 then 1 else 0) ≤ m := by
          have f : ∀ w : Nat, (if v < w then 1 else 0) ≤ (if b < w then 1 else 0) := by
            intro w
            by_cases z : v < w
            · rw [if_pos z, if_pos (by omega)]
              exact Nat.le_refl 1
            · rw [if_neg z]
              exact Nat.zero_le _
          have g : (if v < v then 1 else 0) = 0 := if_neg (by omega)
          have g2 : (if b < v then 1 else 0) = 1 := if_pos a1
          have f1 := f q.2.1
          have f2 := f q.2.2.1
          have f3 := f q.2.2.2.1
          rcases a2 with e | e | e
          · rw [← e] at f1 hc ⊢
            rw [g2] at hc
            rw [g]
            omega
          · rw [← e] at f2 hc ⊢
            rw [g2] at hc
            rw [g]
            omega
          · rw [← e] at f3 hc ⊢
            rw [g2] at hc
            rw [g]
            omega
        have hP : ∀ p, p < N → (bcP N s.1 (cdC q) (nI v) p = true ↔ TQ N X q i p) := by
          intro p hp
          unfold bcP
          rw [Bool.and_eq_true, Bool.not_eq_true', nI_clamp (by omega), ei, (h i hi).2.1, bitQ_nI _ (by omega)]
          constructor
          · rintro ⟨z1, z2⟩
            refine ⟨z1, ?_, fun z3 => ?_⟩
            · show tAt N i = _ ∨ _
              rw [← ei]
              exact a2
            · rw [(can_c hN hK h hi hp hq).mpr z3] at z2
              exact Bool.false_ne_true z2.symm
          · rintro ⟨z1, z2, z3⟩
            refine ⟨z1, ?_⟩
            cases hcc : canF N s.1 (cdC q) (nI (tAt N i)) (nI p) with
            | false => rfl
            | true => exact absurd ((can_c hN hK h hi hp hq).mp hcc) z3
        -- other things of the clue above b
        have other : ∀ i' p', i' < N * K → b < tAt N i' → TQ N X q i' p' → ¬ i' = i → v < tAt N i' := by
          intro i' p' hi' hbt hT hne
          have hle : v ≤ tAt N i' := by
            rcases hT.2.1 with e | e | e
            · rw [e]; exact a3 (by omega)
            · rw [e]; exact a4 (by omega)
            · rw [e]; exact a5 (by omega)
          have : ¬ v = tAt N i' := fun e => hne (tAt_inj hN (by rw [← e, ei]))
          omega
        unfold bclF
        rw [if_neg nm]
        rcases seg_find (bcP N s.1 (cdC q) (nI v)) N 0 with ⟨ef, hn⟩ | ⟨p, ef, b1, b2, b3, b4⟩
        · rw [ef]
          have hnone : ∀ p, p < N → ¬ TQ N X q i p := fun p hp hT => by
            have := hn p (by omega) (by omega)
            rw [(hP p hp).mpr hT] at this
            exact Bool.false_ne_true this.symm
          rw [e2, e3, e4]
          rcases ih v (by omega) hcnt with ⟨e, hno⟩ | ⟨i', p', c1, c2, c3, c4, c5, c6⟩
          · refine Or.inl ⟨e, fun i' p' hi' hp' hbt hT => ?_⟩
            by_cases ee : i' = i
            · rw [ee] at hT
              exact hnone p' hp' hT
            · exact hno i' p' hi' hp' (other i' p' hi' hbt hT ee) hT
          · refine Or.inr ⟨i', p', c1, c2, by omega, c4, fun i'' p'' d1 d2 d3 d4 => ?_, c6⟩
            by_cases ee : i'' = i
            · rw [ee] at d4
              exact absurd d4 (hnone p'' d2)
            · exact c5 i'' p'' d1 d2 (other i'' p'' d1 d3 d4 ee) d4
        · rw [ef]
          have hpN : p < N := by omega
          refine Or.inr ⟨i, p, hi, hpN, by omega, (hP p hpN).mp b3, fun i' p' d1 d2 d3 d4 => ?_, ?_⟩
          · by_cases ee : i' = i
            · right
              refine ⟨ee.symm, Classical.byContradiction fun hc2 => ?_⟩
              rw [ee] at d4
              have := b4 p' (by omega) (by omega)
              rw [(hP p' d2).mpr d4] at this
              exact Bool.false_ne_true this.symm
            · left
              have := other i' p' d1 d3 d4 ee
              exact tAt_mono hN (by omega)
          · show some (takeP rule k (nI v).toNatClampNeg (nI p) s) = _
            rw [nI_clamp (by omega), ei]
  rw [e2, e3, e4]
  have hc3 : (if 0 < q.2.1 then 1 else 0) + (if 0 < q.2.2.1 then 1 else 0) + (if 0 < q.2.2.2.1 then 1 else 0) ≤ 3 := by
    have f : ∀ w : Nat, (if 0 < w then 1 else 0) ≤ 1 := by
      intro w
      split <;> omega
    have f1 := f q.2.1
    have f2 := f q.2.2.1
    have f3 := f q.2.2.2.1
    omega
  have pos : ∀ i, 0 < tAt N i := fun i => by
    have := tAt_ge (N := N) i
    omega
  rcases main 3 0 (by omega) hc3 with ⟨e, hn⟩ | ⟨i, p, a1, a2, a3, a4, a5, a6⟩
  · exact ⟨none, Or.inl ⟨rfl, fun i p hi hp => hn i p hi hp (pos i)⟩, e⟩
  · exact ⟨some (i, p), Or.inr ⟨i, p, ⟨a1, a2, a4, fun i' p' b1 b2 b3 => a5 i' p' b1 b2 (pos i') b3⟩, rfl⟩, a6⟩
