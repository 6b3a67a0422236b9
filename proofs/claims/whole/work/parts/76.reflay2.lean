-- needs 10 11 12 13 14 15 16 17 18 18d 21 30 31 40 50 53 60 61 62 63 65
theorem laI_eq (od : Nat → Int32) (b q : Nat) : ∀ (m i : Nat) (pl : Nat → Int32) (j : Nat), (segF id m i).foldl (laI od b q) pl j = if b + i ≤ j ∧ j < b + i + m then od (5 * q + (j - b)) else pl j := by
  intro m
  induction m with
  | zero =>
    intro i pl j
    rw [if_neg (by omega)]
    rfl
  | succ m ih =>
    intro i pl j
    show (segF id m (i + 1)).foldl (laI od b q) (laI od b q pl i) j = _
    rw [ih]
    by_cases h1 : j = b + i
    · rw [if_neg (by omega), if_pos (by omega)]
      rw [h1, Nat.add_sub_cancel_left]
      exact if_pos rfl
    · have h2 : laI od b q pl i j = pl j := if_neg h1
      rw [h2]
      by_cases h3 : b + (i + 1) ≤ j ∧ j < b + (i + 1) + m
      · rw [if_pos h3, if_pos (by omega)]
      · rw [if_neg h3, if_neg (by omega)]
theorem laS_eq (N D : Nat) (hN : N ≤ 5) (od : Nat → Int32) : ∀ (m s left : Nat) (pl : Nat → Int32) (j : Nat), ((segF id m s).foldl (laS N D od) (left, pl)).2 j = if s ≤ j / 5 ∧ j / 5 < s + m ∧ j % 5 < N then od (5 * (left / D ^ (j / 5 - s) % D) + j % 5) else pl j := by
  intro m
  induction m with
  | zero =>
    intro s left pl j
    rw [if_neg (by omega)]
    rfl
  | succ m ih =>
    intro s left pl j
    show ((segF id m (s + 1)).foldl (laS N D od) (left / D, (segF id N 0).foldl (laI od (5 * s) (left % D)) pl)).2 j = _
    rw [ih, laI_eq]
    have q1 : j = 5 * (j / 5) + j % 5 := by omega
    by_cases h3 : s + 1 ≤ j / 5 ∧ j / 5 < s + 1 + m ∧ j % 5 < N
    · rw [if_pos h3, if_pos (by omega)]
      rw [Nat.div_div_eq_div_mul]
      have q2 : j / 5 - s = (j / 5 - (s + 1)) + 1 := by omega
      rw [q2, Nat.pow_succ, Nat.mul_comm D]
    · rw [if_neg h3]
      by_cases h4 : s = j / 5 ∧ j % 5 < N
      · rw [if_pos (by omega), if_pos (by omega)]
        rw [← h4.1, Nat.sub_self, Nat.pow_zero, Nat.div_one]
        have q3 : j - 5 * s = j % 5 := by omega
        rw [q3]
      · rw [if_neg (by omega), if_neg (by omega)]
theorem laF_eq {N K D : Nat} (hN : N ≤ 5) (od : Nat → Int32) (w : Nat) (pl : Nat → Int32) (j : Nat) : laF N K D od w pl j = if j / 5 < K ∧ j % 5 < N then od (5 * (w / D ^ (j / 5) % D) + j % 5) else pl j := by
  unfold laF
  rw [laS_eq N D hN]
  by_cases h1 : j / 5 < K ∧ j % 5 < N
  · rw [if_pos (by omega), if_pos h1, Nat.sub_zero]
  · rw [if_neg (by omega), if_neg h1]
theorem laF_laF {N K D : Nat} (hN : N ≤ 5) (od : Nat → Int32) (w w2 : Nat) (pl : Nat → Int32) : laF N K D od w (laF N K D od w2 pl) = laF N K D od w pl := by
  funext j
  rw [laF_eq hN, laF_eq hN, laF_eq hN]
  by_cases h1 : j / 5 < K ∧ j % 5 < N
  · rw [if_pos h1, if_pos h1]
  · rw [if_neg h1, if_neg h1, if_neg h1]
theorem wo_eq (D : Nat) : ∀ (m s w : Nat), (segF id m s).foldl (woS (nI D)) (nI w) = nI (w * D ^ m) := by
  intro m
  induction m with
  | zero => intro s w; rw [Nat.pow_zero, Nat.mul_one]; rfl
  | succ m ih =>
    intro s w
    show (segF id m (s + 1)).foldl (woS (nI D)) (nI w * nI D) = _
    rw [pk_mul, ih, Nat.pow_succ, Nat.mul_assoc, Nat.mul_comm D]
theorem wo_eq1 (D K : Nat) : (segF id K 0).foldl (woS (nI D)) 1 = nI (D ^ K) := by
  have h := wo_eq D K 0 1
  rw [Nat.one_mul] at h
  exact h
