-- the clues that may be so: one list for both sides
def okNK (N K : Nat) : Prop := 3 ≤ N ∧ N ≤ 5 ∧ 1 ≤ K ∧ K ≤ 3 ∧ (N = 5 → K ≤ 2)
def cD (N k x y z : Nat) : List Clue := (segF id (greatN k N + 1 - leastN k) (leastN k)).map (fun d => (k, x, y, z, d, -1))
def cZ (N k x y j : Nat) : List Clue := if tAt N j = x then [] else cD N k x y (tAt N j)
def cY (N M k x i : Nat) : List Clue := if pairB k x (tAt N i) = false then [] else if k = 5 then (segF id (M - (i + 1)) (i + 1)).flatMap (cZ N k x (tAt N i)) else cD N k x (tAt N i) 0
def cF (N M k x : Nat) : List Clue := if k = 6 then cD N k x 0 0 else (segF id M 0).flatMap (cY N M k x)
def cK (N M k : Nat) : List Clue := (segF id M 0).flatMap (fun i => cF N M k (tAt N i))
def cP (N M : Nat) : List Clue := (segF id 7 0).flatMap (cK N M)
def conC (s : MS) (q : Clue) : MS := conS q.1 q.2.1 q.2.2.1 q.2.2.2.1 s q.2.2.2.2.1
theorem fold_flat {α β γ : Type} (c : α → List β) (f : γ → α → γ) (g : γ → β → γ) (h : ∀ s a, f s a = (c a).foldl g s) : ∀ (l : List α) (s : γ), l.foldl f s = (l.flatMap c).foldl g s
  | [], _ => rfl
  | a :: l, s => by rw [List.foldl_cons, List.flatMap_cons, List.foldl_append, ← h s a, fold_flat c f g h l]
theorem ga_cand (N M : Nat) (s : MS) : gaF N M s = (cP N M).foldl conC (s.1, s.2.1, 0, s.2.2.2) := by
  have hD : ∀ (k x y z : Nat) (s : MS), conF N k x y z s = (cD N k x y z).foldl conC s := by
    intro k x y z s
    unfold conF cD
    rw [List.foldl_map]
    rfl
  have hZ : ∀ (k x y : Nat) (s : MS) (j : Nat), gfZ N k x y s j = (cZ N k x y j).foldl conC s := by
    intro k x y s j
    unfold gfZ cZ
    split
    · rfl
    · exact hD ..
  have hY : ∀ (k x : Nat) (s : MS) (i : Nat), gfY N M k x s i = (cY N M k x i).foldl conC s := by
    intro k x s i
    unfold gfY cY
    split
    · rfl
    · split
      · exact fold_flat _ _ _ (fun s j => hZ k x (tAt N i) s j) _ s
      · exact hD ..
  have hF : ∀ (k x : Nat) (s : MS), gfF N M k x s = (cF N M k x).foldl conC s := by
    intro k x s
    unfold gfF cF
    split
    · exact hD ..
    · exact fold_flat _ _ _ (fun s i => hY k x s i) _ s
  have hK : ∀ (s : MS) (k : Nat), gaK N M s k = (cK N M k).foldl conC s := by
    intro s k
    exact fold_flat _ _ _ (fun s i => hF k (tAt N i) s) _ s
  exact fold_flat _ _ _ hK _ _
-- the reference's list
def rDl (N k x y : Nat) : List Clue := if k = 4 then (segF id (N - 1) 1).map (fun d => (k, x, y, 0, d, -1)) else [(k, x, y, 0, 0, -1)]
def r2Y (N K k x y : Nat) : List Clue := if g2B N K k x y = true then rDl N k x y else []
def r5Z (N K x y z : Nat) : List Clue := if g5B N K x y z = true then [(5, x, y, z, 0, -1)] else []
def r5Y (N K x y : Nat) : List Clue := (segF id (10 * K + N - (y + 1)) (y + 1)).flatMap (r5Z N K x y)
def rYl (N K k x : Nat) : List Clue := if k < 5 then (segF id (10 * K + N - 10) 10).flatMap (r2Y N K k x) else if k = 5 then (segF id (10 * K + N - 10) 10).flatMap (r5Y N K x) else (segF id N 0).map (fun d => (6, x, 0, 0, d, -1))
def rXl (N K k x : Nat) : List Clue := if thingB (nI N) (nI K) (nI x) = true then rYl N K k x else []
def rKl (N K k : Nat) : List Clue := (segF id (10 * K + N - 10) 10).flatMap (rXl N K k)
def cR (N K : Nat) : List Clue := (segF id 7 0).flatMap (rKl N K)
def poC (pl : Nat → Int32) (st : PO) (q : Clue) : PO := poF pl (nI q.1) (nI q.2.1) (nI q.2.2.1) (nI q.2.2.2.1) (nI q.2.2.2.2.1) st
theorem gath_cand (N K : Nat) (pl po : Nat → Int32) : gathF N K pl po = (cR N K).foldl (poC pl) (po, 0) := by
  have h2 : ∀ (k x : Nat) (st : PO) (y : Nat), g2Y N K pl k x st y = (r2Y N K k x y).foldl (poC pl) st := by
    intro k x st y
    unfold g2Y r2Y rDl
    split
    · split
      · rw [List.foldl_map]
        rfl
      · rfl
    · rfl
  have h5 : ∀ (x y : Nat) (st : PO) (z : Nat), g5Z N K pl x y st z = (r5Z N K x y z).foldl (poC pl) st := by
    intro x y st z
    unfold g5Z r5Z
    split <;> rfl
  have h5Y : ∀ (x y : Nat) (st : PO), g5Y N K pl x st y = (r5Y N K x y).foldl (poC pl) st := fun x y st => fold_flat _ _ _ (fun st z => h5 x y st z) _ st
  have hY : ∀ (k x : Nat) (st : PO), gaY N K pl k x st = (rYl N K k x).foldl (poC pl) st := by
    intro k x st
    unfold gaY rYl
    split
    · exact fold_flat _ _ _ (fun st y => h2 k x st y) _ st
    · split
      · exact fold_flat _ _ _ (fun st y => h5Y x y st) _ st
      · rw [List.foldl_map]
        rfl
  have hX : ∀ (k : Nat) (st : PO) (x : Nat), gaX N K pl k st x = (rXl N K k x).foldl (poC pl) st := by
    intro k st x
    unfold gaX rXl
    split
    · exact hY ..
    · rfl
  exact fold_flat _ _ _ (fun st k => fold_flat _ _ _ (fun st x => hX k st x) _ st) _ _
-- the same list
def thN (N K y : Nat) : Bool := decide (10 ≤ y ∧ y / 10 ≤ K ∧ y % 10 < N)
theorem th_N : ∀ N, N < 6 → ∀ K, K < 4 → ∀ y, y < 40 → thingB (nI N) (nI K) (nI y) = thN N K y := by decide +kernel
def decC : DecidableEq (Nat × Nat × Nat × Nat × Nat × Int32) := inferInstance
def sameC (A B : List Clue) : Bool := @decide (A = B) (@instDecidableEqList _ decC A B)
theorem cand_eq {N K : Nat} (h : okNK N K) : cR N K = cP N (N * K) := by
  have tab : ∀ N, N < 6 → ∀ K, K < 4 → (decide (3 ≤ N ∧ N ≤ 5 ∧ 1 ≤ K ∧ K ≤ 3 ∧ (N = 5 → K ≤ 2)) = true → sameC (cR N K) (cP N (N * K)) = true) := by decide +kernel
  exact @of_decide_eq_true _ (@instDecidableEqList _ decC _ _) (tab N (by have := h.2.1; omega) K (by have := h.2.2.2.1; omega) (decide_eq_true h))
def tOK (N K x : Nat) : Bool := decide (10 ≤ x ∧ ixN N x < N * K ∧ tAt N (ixN N x) = x)
def chk (N K : Nat) (q : Clue) : Bool := decide (q.1 < 7) && tOK N K q.2.1 && (if q.1 = 6 then decide (q.2.2.1 = 0) else tOK N K q.2.2.1 && decide (q.2.2.1 ≠ q.2.1)) && (if q.1 = 5 then tOK N K q.2.2.2.1 && decide (q.2.2.2.1 ≠ q.2.1 ∧ q.2.2.2.1 ≠ q.2.2.1) else decide (q.2.2.2.1 = 0)) && (if q.1 = 4 then decide (1 ≤ q.2.2.2.2.1 ∧ q.2.2.2.2.1 < N) else if q.1 = 6 then decide (q.2.2.2.2.1 < N) else decide (q.2.2.2.2.1 = 0)) && decide (q.2.2.2.2.2 = -1)
theorem cand_chk {N K : Nat} (h : okNK N K) : (cP N (N * K)).all (chk N K) = true := by
  have tab : ∀ N, N < 6 → ∀ K, K < 4 → (decide (3 ≤ N ∧ N ≤ 5 ∧ 1 ≤ K ∧ K ≤ 3 ∧ (N = 5 → K ≤ 2)) = true → (cP N (N * K)).all (chk N K) = true) := by decide +kernel
  exact tab N (by have := h.2.1; omega) K (by have := h.2.2.2.1; omega) (decide_eq_true h)
theorem tOK_isT {N K x : Nat} (h : tOK N K x = true) : isT N K x := by
  have h2 := of_decide_eq_true h
  exact ⟨ixN N x, h2.2.1, h2.2.2.symm⟩
theorem chk_ok {N K : Nat} {q : Clue} (h : chk N K q = true) : q.1 < 7 ∧ okQ N K q ∧ q.2.2.2.2.2 = -1 := by
  unfold chk at h
  simp only [Bool.and_eq_true] at h
  obtain ⟨⟨⟨⟨⟨h1, h2⟩, h3⟩, h4⟩, h5⟩, h6⟩ := h
  have k7 : q.1 < 7 := of_decide_eq_true h1
  have sp : q.2.2.2.2.2 = -1 := of_decide_eq_true h6
  refine ⟨k7, ⟨by omega, tOK_isT h2, ?_, ?_, ?_, Or.inl sp⟩, sp⟩
  · by_cases k6 : q.1 = 6
    · rw [if_pos k6] at h3 ⊢
      exact of_decide_eq_true h3
    · rw [if_neg k6, Bool.and_eq_true] at h3
      rw [if_neg k6]
      exact ⟨tOK_isT h3.1, of_decide_eq_true h3.2⟩
  · by_cases k5 : q.1 = 5
    · rw [if_pos k5, Bool.and_eq_true] at h4
      rw [if_pos (Or.inl k5)]
      have := of_decide_eq_true h4.2
      exact ⟨tOK_isT h4.1, this.1, this.2⟩
    · rw [if_neg k5] at h4
      rw [if_neg (by omega)]
      exact of_decide_eq_true h4
  · unfold dOK
    by_cases k4 : q.1 = 4
    · rw [if_pos k4] at h5 ⊢
      exact of_decide_eq_true h5
    · rw [if_neg k4] at h5 ⊢
      by_cases k6 : q.1 = 6
      · rw [if_pos k6] at h5 ⊢
        exact of_decide_eq_true h5
      · rw [if_neg k6] at h5 ⊢
        rw [if_neg (by omega)]
        exact of_decide_eq_true h5
theorem cand_ok {N K : Nat} (h : okNK N K) {q : Clue} (hq : q ∈ cP N (N * K)) : q.1 < 7 ∧ okQ N K q ∧ q.2.2.2.2.2 = -1 := chk_ok (List.all_eq_true.mp (cand_chk h) q hq)
