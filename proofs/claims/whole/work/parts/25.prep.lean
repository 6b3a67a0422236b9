-- needs 10 11 12 13 14 15 16 17 18 18b 18c 19 20 21 22 24
def dueI (du : Nat → Int32) (n i : Nat) : List Nat := (List.range n).filter (fun k => decide (du k = nI i))
def allI (du : Nat → Int32) (n : Nat) : Nat → List Nat
  | 0 => []
  | i + 1 => allI du n i ++ dueI du n i
theorem dueI_mem {du : Nat → Int32} {n i k : Nat} : k ∈ dueI du n i ↔ k < n ∧ du k = nI i := by simp [dueI]
theorem dueI_y {du : Nat → Int32} {k i : Nat} (h : du k = nI i) : dueI du (k + 1) i = dueI du k i ++ [k] := by simp [dueI, List.range_succ, h]
theorem dueI_n {du : Nat → Int32} {k i : Nat} (h : ¬ du k = nI i) : dueI du (k + 1) i = dueI du k i := by simp [dueI, List.range_succ, h]
theorem allI_mem {du : Nat → Int32} {n k : Nat} : ∀ {i : Nat}, k ∈ allI du n i ↔ k < n ∧ ∃ j, j < i ∧ du k = nI j
  | 0 => by simp [allI]
  | i + 1 => by
    simp only [allI, List.mem_append, allI_mem (i := i), dueI_mem]
    constructor
    · rintro (⟨h1, j, h2, h3⟩ | ⟨h1, h2⟩)
      · exact ⟨h1, j, by omega, h3⟩
      · exact ⟨h1, i, by omega, h2⟩
    · rintro ⟨h1, j, h2, h3⟩
      by_cases hj : j = i
      · exact Or.inr ⟨h1, hj ▸ h3⟩
      · exact Or.inl ⟨h1, j, by omega, h3⟩
theorem dueI_nd (du : Nat → Int32) (n i : Nat) : (dueI du n i).Nodup := List.Pairwise.filter _ List.nodup_range
theorem allI_nd {du : Nat → Int32} {n : Nat} : ∀ {i : Nat}, i < 2 ^ 31 → ∀ k : Nat, (allI du n i ++ dueI du k i).Nodup
  | 0, _, k => by
    simp only [allI, List.nil_append]
    exact dueI_nd du k 0
  | i + 1, hi, k => by
    rw [List.nodup_append]
    refine ⟨allI_nd (i := i) (by omega) n, dueI_nd du k (i + 1), fun x hx y hy e => ?_⟩
    subst e
    obtain ⟨-, j, h1, h2⟩ := (show x ∈ allI du n (i + 1) from hx) |> allI_mem.mp
    have h3 := (dueI_mem.mp hy).2
    rw [h2, nI_eq (by omega) (by omega)] at h3
    omega
theorem nd_len : ∀ (n : Nat) (l : List Nat), l.Nodup → (∀ x ∈ l, x < n) → l.length ≤ n
  | 0, l, _, h => by
    cases l with
    | nil => exact Nat.le_refl _
    | cons x l => exact absurd (h x List.mem_cons_self) (Nat.not_lt_zero _)
  | n + 1, l, hd, h => by
    by_cases hm : n ∈ l
    · have h1 := nd_len n (l.erase n) (hd.erase n) (fun x hx => by
        have := (List.Nodup.mem_erase_iff hd).mp hx
        have := h x this.2
        omega)
      rw [List.length_erase_of_mem hm] at h1
      omega
    · have h1 := nd_len n l hd (fun x hx => by
        have := h x hx
        have h2 : x ≠ n := fun e => hm (e ▸ hx)
        omega)
      omega
theorem segF_eq {α : Type} (f : Nat → α) : ∀ (L : List α) (s : Nat), (∀ (j : Nat) (x : α), L[j]? = some x → f (s + j) = x) → segF f L.length s = L
  | [], _, _ => rfl
  | x :: L, s, h => by
    show f s :: segF f L.length (s + 1) = x :: L
    rw [show f s = x from h 0 x rfl, segF_eq f L (s + 1) (fun j y hy => by
      have := h (j + 1) y hy
      rw [← this]
      congr 1
      omega)]
def szF (du : Nat → Int32) (n i : Nat) : Nat := (allI du n i).length
def dueS (N : Int32) (cs : Nat → Int32) (sk : Int32) (k : Nat) : Int32 := if nI k = sk then -1 else dueF N (cs k)
theorem allI_cong {d1 d2 : Nat → Int32} {n : Nat} (h : ∀ j, j < n → d1 j = d2 j) : ∀ i, allI d1 n i = allI d2 n i
  | 0 => rfl
  | i + 1 => by
    show allI d1 n i ++ dueI d1 n i = allI d2 n i ++ dueI d2 n i
    rw [allI_cong h i]
    congr 1
    refine List.filter_congr fun x hx => ?_
    rw [h x (List.mem_range.mp hx)]
/-- what the queue holds: for each index the clues due there -/
def queued (n M : Nat) (du cs qv sv : Nat → Int32) : Prop := (∀ i, i ≤ M → sv i = nI (szF du n i)) ∧ (∀ i, i < M → szF du n i ≤ szF du n (i + 1)) ∧ (∀ i, i ≤ M → szF du n i ≤ n) ∧ ∀ i, i < M → segF qv (szF du n (i + 1) - szF du n i) (szF du n i) = (dueI du n i).map cs
theorem queued_of {n M : Nat} {du cs qv sv : Nat → Int32} (hM : M < 2 ^ 31) (h1 : ∀ i, i ≤ M → sv i = nI (szF du n i)) (h2 : ∀ (j x : Nat), (allI du n M)[j]? = some x → qv j = cs x) : queued n M du cs qv sv := by
  refine ⟨h1, fun i _ => ?_, fun i hi => ?_, fun i hi => ?_⟩
  · show _ ≤ (allI du n i ++ dueI du n i).length
    rw [List.length_append]
    exact Nat.le_add_right _ _
  · have hn := allI_nd (du := du) (n := n) (i := i) (by omega) 0
    exact nd_len n _ (List.nodup_append.mp hn).1 (fun x hx => (allI_mem.mp hx).1)
  · have key : ∀ d : Nat, i + 1 + d ≤ M → ∀ (j x : Nat), (allI du n (i + 1))[j]? = some x → (allI du n (i + 1 + d))[j]? = some x := by
      intro d
      induction d with
      | zero => exact fun _ j x h => h
      | succ d ih =>
        intro hd j x hx
        have := ih (by omega) j x hx
        show (allI du n (i + 1 + d) ++ _)[j]? = some x
        rw [List.getElem?_append_left (List.getElem?_eq_some_iff.mp this).1]
        exact this
    have hs : szF du n (i + 1) - szF du n i = ((dueI du n i).map cs).length := by
      show (allI du n i ++ dueI du n i).length - (allI du n i).length = _
      rw [List.length_append, List.length_map]
      omega
    rw [hs]
    refine segF_eq qv _ _ (fun j x hx => ?_)
    rw [List.getElem?_map] at hx
    cases hj : (dueI du n i)[j]? with
    | none => rw [hj] at hx; cases hx
    | some y =>
      rw [hj] at hx
      cases hx
      refine h2 _ y ?_
      have := key (M - (i + 1)) (by omega) (szF du n i + j) y (by
        show (allI du n i ++ dueI du n i)[(allI du n i).length + j]? = some y
        rw [List.getElem?_append_right (Nat.le_add_right _ _), Nat.add_sub_cancel_left]
        exact hj)
      rw [show i + 1 + (M - (i + 1)) = M by omega] at this
      exact this
