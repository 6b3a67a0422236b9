-- how many clues are so in a world
def sumN : Nat → (Nat → Nat) → Nat
  | 0, _ => 0
  | n + 1, h => sumN n h + h n
theorem sumN_le {h g : Nat → Nat} : ∀ n, (∀ i, i < n → h i ≤ g i) → sumN n h ≤ sumN n g
  | 0, _ => Nat.le_refl _
  | n + 1, hh => Nat.add_le_add (sumN_le n (fun i hi => hh i (by omega))) (hh n (by omega))
theorem sumN_congr {h g : Nat → Nat} : ∀ n, (∀ i, i < n → h i = g i) → sumN n h = sumN n g
  | 0, _ => rfl
  | n + 1, hh => by
    show sumN n h + h n = sumN n g + g n
    rw [sumN_congr n (fun i hi => hh i (by omega)), hh n (by omega)]
theorem sumN_add (h g : Nat → Nat) : ∀ n, sumN n (fun i => h i + g i) = sumN n h + sumN n g
  | 0 => rfl
  | n + 1 => by
    show sumN n (fun i => h i + g i) + (h n + g n) = (sumN n h + h n) + (sumN n g + g n)
    rw [sumN_add h g n]
    omega
theorem sumN_mul (c : Nat) (h : Nat → Nat) : ∀ n, sumN n (fun i => c * h i) = c * sumN n h
  | 0 => rfl
  | n + 1 => by
    show sumN n (fun i => c * h i) + c * h n = c * (sumN n h + h n)
    rw [sumN_mul c h n, Nat.mul_add]
theorem sumN_zero : ∀ n, sumN n (fun _ => 0) = 0
  | 0 => rfl
  | n + 1 => sumN_zero n
theorem sumN_const (c : Nat) : ∀ n, sumN n (fun _ => c) = c * n
  | 0 => rfl
  | n + 1 => by
    show sumN n (fun _ => c) + c = c * (n + 1)
    rw [sumN_const c n, Nat.mul_succ]
theorem sumN_swap (f : Nat → Nat → Nat) (m : Nat) : ∀ n, sumN n (fun i => sumN m (fun j => f i j)) = sumN m (fun j => sumN n (fun i => f i j))
  | 0 => (sumN_zero m).symm
  | n + 1 => by
    show sumN n (fun i => sumN m (fun j => f i j)) + sumN m (fun j => f n j) = sumN m (fun j => sumN n (fun i => f i j) + f n j)
    rw [sumN_swap f m n, sumN_add]
theorem sumN_front (h : Nat → Nat) : ∀ n, sumN (n + 1) h = h 0 + sumN n (fun i => h (i + 1))
  | 0 => by
    show 0 + h 0 = h 0 + 0
    omega
  | n + 1 => by
    show sumN (n + 1) h + h (n + 1) = h 0 + (sumN n (fun i => h (i + 1)) + h (n + 1))
    rw [sumN_front h n]
    omega
theorem sumN_app (h : Nat → Nat) (m : Nat) : ∀ n, sumN (m + n) h = sumN m h + sumN n (fun i => h (m + i))
  | 0 => rfl
  | n + 1 => by
    show sumN (m + n) h + h (m + n) = sumN m h + (sumN n (fun i => h (m + i)) + h (m + n))
    rw [sumN_app h m n]
    omega
theorem sumN_tail (h : Nat → Nat) {j M : Nat} (hj : j < M) : sumN (M - (j + 1)) (fun l => h (j + 1 + l)) = sumN M (fun l => if j < l then h l else 0) := by
  obtain ⟨n, rfl⟩ : ∃ n, M = (j + 1) + n := ⟨M - (j + 1), by omega⟩
  rw [sumN_app (fun l => if j < l then h l else 0) (j + 1) n]
  have e1 : sumN (j + 1) (fun l => if j < l then h l else 0) = 0 := by
    refine (sumN_congr _ (fun i hi => ?_)).trans (sumN_zero (j + 1))
    exact if_neg (show ¬ j < i by omega)
  rw [e1, Nat.zero_add, Nat.add_sub_cancel_left]
  exact sumN_congr _ (fun i hi => (if_pos (show j < j + 1 + i by omega)).symm)
theorem sum_half {g : Nat → Nat → Nat} (hs : ∀ x y, g x y = g y x) (h0 : ∀ x, g x x = 0) (M : Nat) : 2 * sumN M (fun x => sumN M (fun y => if x < y then g x y else 0)) = sumN M (fun x => sumN M (g x)) := by
  have e1 : sumN M (fun x => sumN M (g x)) = sumN M (fun x => sumN M (fun y => if x < y then g x y else 0)) + sumN M (fun x => sumN M (fun y => if y < x then g x y else 0)) := by
    rw [← sumN_add]
    refine sumN_congr M (fun x _ => ?_)
    rw [← sumN_add]
    refine sumN_congr M (fun y _ => ?_)
    rcases Nat.lt_trichotomy x y with c | c | c
    · rw [if_pos c, if_neg (by omega)]
      rfl
    · rw [c, h0, if_neg (Nat.lt_irrefl y)]
    · rw [if_neg (by omega), if_pos c, Nat.zero_add]
  have e2 : sumN M (fun x => sumN M (fun y => if y < x then g x y else 0)) = sumN M (fun x => sumN M (fun y => if x < y then g x y else 0)) := by
    rw [sumN_swap]
    refine sumN_congr M (fun x _ => sumN_congr M (fun y _ => ?_))
    rw [hs y x]
  rw [e1, e2]
  omega
theorem sum_upd {h : Nat → Nat} {i v : Nat} : ∀ n, i < n → sumN n (updN h i v) + h i = sumN n h + v
  | 0, hi => by omega
  | n + 1, hi => by
    show sumN n (updN h i v) + updN h i v n + h i = sumN n h + h n + v
    by_cases e : i = n
    · have e2 : sumN n (updN h i v) = sumN n h := sumN_congr n (fun j hj => updN_n h v (by omega))
      rw [e2, e, updN_s]
      omega
    · have := sum_upd (h := h) (v := v) n (show i < n by omega)
      rw [updN_n h v (fun q => e q.symm)]
      omega
/-- what is drawn: every sort has every place once -/
def sumOK (N K : Nat) (F : Nat → Nat) : Prop := (∀ i, i < N * K → F i < N) ∧ ∀ (G : Nat → Nat) (q : Nat), q < K → sumN N (fun i => G (F (N * q + i))) = sumN N G
theorem sum_all {N : Nat} {F : Nat → Nat} (G : Nat → Nat) : ∀ K, (∀ q, q < K → sumN N (fun i => G (F (N * q + i))) = sumN N G) → sumN (N * K) (fun i => G (F i)) = K * sumN N G
  | 0, _ => by rw [Nat.mul_zero, Nat.zero_mul]; rfl
  | K + 1, h => by
    rw [Nat.mul_succ, sumN_app, sum_all G K (fun q hq => h q (by omega)), h K (by omega), Nat.succ_mul]
def swN (F : Nat → Nat) (a b : Nat) : Nat → Nat := updN (updN F a (F b)) b (F a)
theorem sumN_sw {h : Nat → Nat} {a b n : Nat} (ha : a < n) (hb : b < n) : sumN n (swN h a b) = sumN n h := by
  have h1 := sum_upd (h := h) (v := h b) n ha
  have h2 := sum_upd (h := updN h a (h b)) (v := h a) n hb
  have h3 : updN h a (h b) b = h b := by
    by_cases e : b = a
    · rw [e, updN_s]
    · rw [updN_n h _ e]
  rw [h3] at h2
  unfold swN
  omega
theorem swN_lt {F : Nat → Nat} {a b n m : Nat} (ha : a < m) (hb : b < m) (h : ∀ i, i < m → F i < n) : ∀ i, i < m → swN F a b i < n := by
  intro i hi
  unfold swN
  by_cases e : i = b
  · rw [e, updN_s]
    exact h a ha
  · rw [updN_n _ _ e]
    by_cases e2 : i = a
    · rw [e2, updN_s]
      exact h b hb
    · rw [updN_n _ _ e2]
      exact h i hi
theorem sumOK_sw {N K : Nat} {F : Nat → Nat} (h : sumOK N K F) {q a b : Nat} (hq : q < K) (ha : a < N) (hb : b < N) : sumOK N K (swN F (N * q + a) (N * q + b)) := by
  have hm : ∀ i, i < N → N * q + i < N * K := fun i hi => by
    have := Nat.mul_le_mul_left N (show q + 1 ≤ K from hq)
    rw [Nat.mul_succ] at this
    omega
  refine ⟨swN_lt (hm a ha) (hm b hb) h.1, fun G q2 hq2 => ?_⟩
  by_cases e : q2 = q
  · rw [e, ← h.2 G q hq, ← sumN_sw (h := fun i => G (F (N * q + i))) ha hb]
    refine sumN_congr N (fun i hi => ?_)
    unfold swN
    by_cases e1 : i = b
    · rw [e1, updN_s, updN_s]
    · rw [updN_n _ _ e1, updN_n _ _ (show ¬ N * q + i = N * q + b by omega)]
      by_cases e2 : i = a
      · rw [e2, updN_s, updN_s]
      · rw [updN_n _ _ e2, updN_n _ _ (show ¬ N * q + i = N * q + a by omega)]
  · rw [← h.2 G q2 hq2]
    refine sumN_congr N (fun i hi => ?_)
    have far : ∀ c, c < N → ¬ N * q2 + i = N * q + c := by
      intro c hc z
      rcases Nat.lt_or_gt_of_ne e with w | w
      · have := Nat.mul_le_mul_left N (show q2 + 1 ≤ q from w)
        rw [Nat.mul_succ] at this
        omega
      · have := Nat.mul_le_mul_left N (show q + 1 ≤ q2 from w)
        rw [Nat.mul_succ] at this
        omega
    unfold swN
    rw [updN_n _ _ (far b hb), updN_n _ _ (far a ha)]
theorem sumOK_id {N K : Nat} (hN : 0 < N) : sumOK N K (fun i => i % N) := by
  refine ⟨fun i _ => Nat.mod_lt _ hN, fun G q _ => sumN_congr N (fun i hi => ?_)⟩
  show G ((N * q + i) % N) = G i
  rw [Nat.mul_add_mod, Nat.mod_eq_of_lt hi]
-- a clue in such a world
def atW (N : Nat) (F : Nat → Nat) (x : Nat) : Nat := if x < 10 then 0 else F (ixN N x)
def soV (N : Nat) (F : Nat → Nat) (q : Clue) : Bool := isSoF (nI q.1) (nI q.2.2.2.2.1) (nI (atW N F q.2.1)) (nI (atW N F q.2.2.1)) (nI (atW N F q.2.2.2.1))
theorem atW_t {N : Nat} (hN : 0 < N ∧ N ≤ 5) (F : Nat → Nat) (i : Nat) : atW N F (tAt N i) = F i := by
  have := tAt_ge (N := N) i
  unfold atW
  rw [if_neg (by omega), ixN_t hN]
def cnt (p : Clue → Bool) (l : List Clue) : Nat := (l.filter p).length
theorem cnt_app (p : Clue → Bool) (a b : List Clue) : cnt p (a ++ b) = cnt p a + cnt p b := by
  unfold cnt
  rw [List.filter_append, List.length_append]
theorem cnt_seg (p : Clue → Bool) (c : Nat → List Clue) : ∀ (m s : Nat), cnt p ((segF id m s).flatMap c) = sumN m (fun i => cnt p (c (s + i)))
  | 0, _ => rfl
  | m + 1, s => by
    have e : segF id (m + 1) s = s :: segF id m (s + 1) := rfl
    rw [e, List.flatMap_cons, cnt_app, cnt_seg p c m (s + 1), sumN_front]
    refine congrArg (cnt p (c s) + ·) (sumN_congr m (fun i _ => ?_))
    rw [show s + 1 + i = s + (i + 1) by omega]
theorem cnt_D (p : Clue → Bool) (N k x y z : Nat) : cnt p (cD N k x y z) = ((segF id (greatN k N + 1 - leastN k) (leastN k)).filter (fun d => p (k, x, y, z, d, -1))).length := by
  unfold cnt cD
  rw [List.filter_map, List.length_map]
  rfl
theorem tAt_lt_iff {N : Nat} (hN : 0 < N ∧ N ≤ 5) {i j : Nat} : tAt N i < tAt N j ↔ i < j := by
  have a1 := Nat.mod_lt i hN.1
  have a2 := Nat.mod_lt j hN.1
  have b1 := Nat.div_add_mod i N
  have b2 := Nat.div_add_mod j N
  unfold tAt
  rcases Nat.lt_trichotomy (i / N) (j / N) with c | c | c
  · have := Nat.mul_le_mul_left N (show i / N + 1 ≤ j / N from c)
    rw [Nat.mul_succ] at this
    constructor <;> intro _ <;> omega
  · rw [c] at b1 ⊢
    omega
  · have := Nat.mul_le_mul_left N (show j / N + 1 ≤ i / N from c)
    rw [Nat.mul_succ] at this
    constructor <;> intro _ <;> omega
-- the seven kinds, by places
theorem t01 : ∀ a, a < 5 → ∀ b, b < 5 → (isSoF (nI 0) (nI 0) (nI a) (nI b) (nI 0)).toNat + (isSoF (nI 1) (nI 0) (nI a) (nI b) (nI 0)).toNat ≤ 1 := by decide +kernel
theorem t2 : ∀ a, a < 5 → ∀ b, b < 5 → (isSoF (nI 2) (nI 0) (nI a) (nI b) (nI 0)).toNat ≤ if a < b then 1 else 0 := by decide +kernel
theorem t3 : ∀ a, a < 5 → ∀ b, b < 5 → (isSoF (nI 3) (nI 0) (nI a) (nI b) (nI 0)).toNat ≤ if a = b + 1 ∨ b = a + 1 then 1 else 0 := by decide +kernel
theorem t4 : ∀ N, N < 6 → ∀ a, a < 5 → ∀ b, b < 5 → ((segF id (greatN 4 N + 1 - leastN 4) (leastN 4)).filter (fun d => isSoF (nI 4) (nI d) (nI a) (nI b) (nI 0))).length ≤ if a = b then 0 else 1 := by decide +kernel
theorem t5 : ∀ a, a < 5 → ∀ b, b < 5 → ∀ c, c < 5 → (isSoF (nI 5) (nI 0) (nI a) (nI b) (nI c)).toNat ≤ if b < a ∧ a < c ∨ c < a ∧ a < b then 1 else 0 := by decide +kernel
theorem t6 : ∀ N, N < 6 → ∀ a, a < 5 → ((segF id (greatN 6 N + 1 - leastN 6) (leastN 6)).filter (fun d => isSoF (nI 6) (nI d) (nI a) (nI 0) (nI 0))).length ≤ 1 := by decide +kernel
def gL2 (a b : Nat) : Nat := if a < b then 1 else 0
def gN3 (a b : Nat) : Nat := if a = b + 1 ∨ b = a + 1 then 1 else 0
def gD4 (a b : Nat) : Nat := if a = b then 0 else 1
def gB5 (a b c : Nat) : Nat := if b < a ∧ a < c ∨ c < a ∧ a < b then 1 else 0
def gP0 (N i j : Nat) : Nat := if i < j ∧ ¬ i / N = j / N then 1 else 0
theorem f1 (p : Nat → Bool) (s : Nat) : ((segF id 1 s).filter p).length = (p s).toNat := by
  have e : segF id 1 s = [s] := rfl
  rw [e]
  cases h : p s
  · rw [List.filter_cons_of_neg (by rw [h]; decide)]
    rfl
  · rw [List.filter_cons_of_pos h]
    rfl
section MANY
variable {N K : Nat} {F : Nat → Nat}
theorem n01 (hN : 3 ≤ N ∧ N ≤ 5) (h : ∀ i, i < N * K → F i < N) {i j : Nat} (hi : i < N * K) (hj : j < N * K) : cnt (soV N F) (cY N (N * K) 0 (tAt N i) j) + cnt (soV N F) (cY N (N * K) 1 (tAt N i) j) ≤ gP0 N i j := by
  have hN0 : 0 < N ∧ N ≤ 5 := ⟨by omega, hN.2⟩
  have pr : ∀ k, k = 0 ∨ k = 1 → pairB k (tAt N i) (tAt N j) = decide (i < j ∧ ¬ i / N = j / N) := by
    intro k hk
    unfold pairB
    rw [if_pos hk, decide_eq_decide, tAt_lt_iff hN0, (tAt_q hN0 i).1, (tAt_q hN0 j).1]
    omega
  unfold cY gP0
  rw [pr 0 (Or.inl rfl), pr 1 (Or.inr rfl)]
  by_cases c : i < j ∧ ¬ i / N = j / N
  · rw [decide_eq_true c, if_pos c, if_neg (by decide), if_neg (by decide), if_neg (by decide), if_neg (by decide), cnt_D, cnt_D]
    have e0 : greatN 0 N + 1 - leastN 0 = 1 := rfl
    have e1 : greatN 1 N + 1 - leastN 1 = 1 := rfl
    rw [e0, e1, f1, f1]
    show (isSoF (nI 0) (nI 0) (nI (atW N F (tAt N i))) (nI (atW N F (tAt N j))) (nI 0)).toNat + (isSoF (nI 1) (nI 0) (nI (atW N F (tAt N i))) (nI (atW N F (tAt N j))) (nI 0)).toNat ≤ 1
    rw [atW_t hN0, atW_t hN0]
    exact t01 _ (by have := h i hi; omega) _ (by have := h j hj; omega)
  · rw [decide_eq_false c, if_pos rfl, if_pos rfl, if_neg c]
    exact Nat.le_refl _
theorem n2 (hN : 3 ≤ N ∧ N ≤ 5) (h : ∀ i, i < N * K → F i < N) {i j : Nat} (hi : i < N * K) (hj : j < N * K) : cnt (soV N F) (cY N (N * K) 2 (tAt N i) j) ≤ gL2 (F i) (F j) := by
  have hN0 : 0 < N ∧ N ≤ 5 := ⟨by omega, hN.2⟩
  unfold cY
  split
  · exact Nat.zero_le _
  · rw [if_neg (by decide), cnt_D, show greatN 2 N + 1 - leastN 2 = 1 from rfl, f1]
    show (isSoF (nI 2) (nI 0) (nI (atW N F (tAt N i))) (nI (atW N F (tAt N j))) (nI 0)).toNat ≤ _
    rw [atW_t hN0, atW_t hN0]
    exact t2 _ (by have := h i hi; omega) _ (by have := h j hj; omega)
theorem n3 (hN : 3 ≤ N ∧ N ≤ 5) (h : ∀ i, i < N * K → F i < N) {i j : Nat} (hi : i < N * K) (hj : j < N * K) : cnt (soV N F) (cY N (N * K) 3 (tAt N i) j) ≤ if i < j then gN3 (F i) (F j) else 0 := by
  have hN0 : 0 < N ∧ N ≤ 5 := ⟨by omega, hN.2⟩
  have pr : pairB 3 (tAt N i) (tAt N j) = decide (tAt N i < tAt N j) := rfl
  unfold cY
  rw [pr]
  by_cases c : i < j
  · rw [decide_eq_true ((tAt_lt_iff hN0).mpr c), if_neg (by decide), if_neg (by decide), if_pos c, cnt_D, show greatN 3 N + 1 - leastN 3 = 1 from rfl, f1]
    show (isSoF (nI 3) (nI 0) (nI (atW N F (tAt N i))) (nI (atW N F (tAt N j))) (nI 0)).toNat ≤ _
    rw [atW_t hN0, atW_t hN0]
    exact t3 _ (by have := h i hi; omega) _ (by have := h j hj; omega)
  · rw [decide_eq_false (fun q => c ((tAt_lt_iff hN0).mp q)), if_pos rfl, if_neg c]
    exact Nat.le_refl _
theorem n4 (hN : 3 ≤ N ∧ N ≤ 5) (h : ∀ i, i < N * K → F i < N) {i j : Nat} (hi : i < N * K) (hj : j < N * K) : cnt (soV N F) (cY N (N * K) 4 (tAt N i) j) ≤ if i < j then gD4 (F i) (F j) else 0 := by
  have hN0 : 0 < N ∧ N ≤ 5 := ⟨by omega, hN.2⟩
  have pr : pairB 4 (tAt N i) (tAt N j) = decide (tAt N i < tAt N j) := rfl
  unfold cY
  rw [pr]
  by_cases c : i < j
  · rw [decide_eq_true ((tAt_lt_iff hN0).mpr c), if_neg (by decide), if_neg (by decide), if_pos c, cnt_D]
    show ((segF id (greatN 4 N + 1 - leastN 4) (leastN 4)).filter (fun d => isSoF (nI 4) (nI d) (nI (atW N F (tAt N i))) (nI (atW N F (tAt N j))) (nI 0))).length ≤ _
    rw [atW_t hN0, atW_t hN0]
    exact t4 N (by omega) _ (by have := h i hi; omega) _ (by have := h j hj; omega)
  · rw [decide_eq_false (fun q => c ((tAt_lt_iff hN0).mp q)), if_pos rfl, if_neg c]
    exact Nat.le_refl _
theorem n5 (hN : 3 ≤ N ∧ N ≤ 5) (h : ∀ i, i < N * K → F i < N) {i j : Nat} (hi : i < N * K) (hj : j < N * K) : cnt (soV N F) (cY N (N * K) 5 (tAt N i) j) ≤ sumN (N * K) (fun l => if j < l then gB5 (F i) (F j) (F l) else 0) := by
  have hN0 : 0 < N ∧ N ≤ 5 := ⟨by omega, hN.2⟩
  unfold cY
  split
  · exact Nat.zero_le _
  · rw [if_pos rfl, cnt_seg, ← sumN_tail (fun l => gB5 (F i) (F j) (F l)) hj]
    refine sumN_le _ (fun l hl => ?_)
    unfold cZ
    split
    · exact Nat.zero_le _
    · rw [cnt_D, show greatN 5 N + 1 - leastN 5 = 1 from rfl, f1]
      show (isSoF (nI 5) (nI 0) (nI (atW N F (tAt N i))) (nI (atW N F (tAt N j))) (nI (atW N F (tAt N (j + 1 + l))))).toNat ≤ _
      rw [atW_t hN0, atW_t hN0, atW_t hN0]
      exact t5 _ (by have := h i hi; omega) _ (by have := h j hj; omega) _ (by have := h (j + 1 + l) (by omega); omega)
theorem n6 (hN : 3 ≤ N ∧ N ≤ 5) (h : ∀ i, i < N * K → F i < N) {i : Nat} (hi : i < N * K) : cnt (soV N F) (cF N (N * K) 6 (tAt N i)) ≤ 1 := by
  have hN0 : 0 < N ∧ N ≤ 5 := ⟨by omega, hN.2⟩
  unfold cF
  rw [if_pos rfl, cnt_D]
  show ((segF id (greatN 6 N + 1 - leastN 6) (leastN 6)).filter (fun d => isSoF (nI 6) (nI d) (nI (atW N F (tAt N i))) (nI 0) (nI 0))).length ≤ 1
  rw [atW_t hN0]
  exact t6 N (by omega) _ (by have := h i hi; omega)
/-- never more than 303 -/
theorem cand_many (hNK : okNK N K) (h : sumOK N K F) : cnt (soV N F) (cP N (N * K)) ≤ 303 := by
  have hN : 3 ≤ N ∧ N ≤ 5 := ⟨hNK.1, hNK.2.1⟩
  obtain ⟨M, hM⟩ : ∃ M, M = N * K := ⟨_, rfl⟩
  have ck : ∀ k, ¬ k = 6 → cnt (soV N F) (cK N M k) = sumN M (fun i => sumN M (fun j => cnt (soV N F) (cY N M k (tAt N i) j))) := by
    intro k hk
    unfold cK
    rw [cnt_seg]
    refine sumN_congr M (fun i _ => ?_)
    rw [Nat.zero_add]
    unfold cF
    rw [if_neg hk, cnt_seg]
    exact sumN_congr M (fun j _ => by rw [Nat.zero_add])
  have c6 : cnt (soV N F) (cK N M 6) ≤ M := by
    unfold cK
    rw [cnt_seg]
    refine Nat.le_trans (sumN_le M (fun i hi => ?_) (g := fun _ => 1)) (by rw [sumN_const]; omega)
    rw [Nat.zero_add, hM]
    exact n6 hN h.1 (by omega)
  have c01 : cnt (soV N F) (cK N M 0) + cnt (soV N F) (cK N M 1) ≤ sumN M (fun i => sumN M (fun j => gP0 N i j)) := by
    rw [ck 0 (by decide), ck 1 (by decide), ← sumN_add]
    refine sumN_le M (fun i hi => ?_)
    rw [← sumN_add]
    refine sumN_le M (fun j hj => ?_)
    rw [hM]
    exact n01 hN h.1 (by omega) (by omega)
  have c2 : cnt (soV N F) (cK N M 2) ≤ sumN M (fun i => sumN M (fun j => gL2 (F i) (F j))) := by
    rw [ck 2 (by decide)]
    refine sumN_le M (fun i hi => sumN_le M (fun j hj => ?_))
    rw [hM]
    exact n2 hN h.1 (by omega) (by omega)
  have c3 : 2 * cnt (soV N F) (cK N M 3) ≤ sumN M (fun i => sumN M (fun j => gN3 (F i) (F j))) := by
    rw [ck 3 (by decide), ← sum_half (g := fun x y => gN3 (F x) (F y)) (fun x y => ite_congr (propext (by constructor <;> intro q <;> omega)) (fun _ => rfl) (fun _ => rfl)) (fun x => if_neg (by omega)) M]
    refine Nat.mul_le_mul_left 2 (sumN_le M (fun i hi => sumN_le M (fun j hj => ?_)))
    rw [hM]
    exact n3 hN h.1 (by omega) (by omega)
  have c4 : 2 * cnt (soV N F) (cK N M 4) ≤ sumN M (fun i => sumN M (fun j => gD4 (F i) (F j))) := by
    rw [ck 4 (by decide), ← sum_half (g := fun x y => gD4 (F x) (F y)) (fun x y => ite_congr (propext (by constructor <;> intro q <;> omega)) (fun _ => rfl) (fun _ => rfl)) (fun x => if_pos rfl) M]
    refine Nat.mul_le_mul_left 2 (sumN_le M (fun i hi => sumN_le M (fun j hj => ?_)))
    rw [hM]
    exact n4 hN h.1 (by omega) (by omega)
  have c5 : 2 * cnt (soV N F) (cK N M 5) ≤ sumN M (fun i => sumN M (fun j => sumN M (fun l => gB5 (F i) (F j) (F l)))) := by
    rw [ck 5 (by decide), ← sumN_mul]
    refine sumN_le M (fun i hi => ?_)
    rw [← sum_half (g := fun x y => gB5 (F i) (F x) (F y)) (fun x y => ite_congr (propext (by constructor <;> intro q <;> omega)) (fun _ => rfl) (fun _ => rfl)) (fun x => if_neg (by omega)) M]
    refine Nat.mul_le_mul_left 2 (sumN_le M (fun j hj => ?_))
    rw [hM]
    exact n5 hN h.1 (by omega) (by omega)
  have al : ∀ G : Nat → Nat, sumN M (fun i => G (F i)) = K * sumN N G := fun G => by rw [hM]; exact sum_all G K (h.2 G)
  have al2 : ∀ G : Nat → Nat → Nat, sumN M (fun i => sumN M (fun j => G (F i) (F j))) = K * sumN N (fun a => K * sumN N (G a)) := by
    intro G
    rw [← al (fun a => K * sumN N (G a))]
    exact sumN_congr M (fun i _ => al (G (F i)))
  have al3 : ∀ G : Nat → Nat → Nat → Nat, sumN M (fun i => sumN M (fun j => sumN M (fun l => G (F i) (F j) (F l)))) = K * sumN N (fun a => K * sumN N (fun b => K * sumN N (G a b))) := by
    intro G
    rw [← al (fun a => K * sumN N (fun b => K * sumN N (G a b)))]
    exact sumN_congr M (fun i _ => al2 (G (F i)))
  rw [al2] at c2 c3 c4
  rw [al3] at c5
  have tot : cnt (soV N F) (cP N M) = cnt (soV N F) (cK N M 0) + cnt (soV N F) (cK N M 1) + cnt (soV N F) (cK N M 2) + cnt (soV N F) (cK N M 3) + cnt (soV N F) (cK N M 4) + cnt (soV N F) (cK N M 5) + cnt (soV N F) (cK N M 6) := by
    unfold cP
    rw [cnt_seg]
    show 0 + cnt (soV N F) (cK N M (0 + 0)) + cnt (soV N F) (cK N M (0 + 1)) + cnt (soV N F) (cK N M (0 + 2)) + cnt (soV N F) (cK N M (0 + 3)) + cnt (soV N F) (cK N M (0 + 4)) + cnt (soV N F) (cK N M (0 + 5)) + cnt (soV N F) (cK N M (0 + 6)) = _
    rw [Nat.zero_add]
  have tab : ∀ N, N < 6 → ∀ K, K < 4 → (decide (3 ≤ N ∧ N ≤ 5 ∧ 1 ≤ K ∧ K ≤ 3 ∧ (N = 5 → K ≤ 2)) = true → 2 * sumN (N * K) (fun i => sumN (N * K) (fun j => gP0 N i j)) + 2 * (K * sumN N (fun a => K * sumN N (gL2 a))) + K * sumN N (fun a => K * sumN N (gN3 a)) + K * sumN N (fun a => K * sumN N (gD4 a)) + K * sumN N (fun a => K * sumN N (fun b => K * sumN N (gB5 a b))) + 2 * (N * K) ≤ 606) := by decide +kernel
  have fin := tab N (by omega) K (by have := hNK.2.2.2.1; omega) (decide_eq_true hNK)
  rw [← hM] at fin ⊢
  rw [tot]
  omega
end MANY
