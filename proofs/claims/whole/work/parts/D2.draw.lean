-- the world that is drawn, on both sides
abbrev WV : Type := (Nat → Nat) × Nat
def swD (N q : Nat) (st : WV) (k : Nat) : WV := (swN st.1 (N * q + k) (N * q + drN st.2 % (k + 1)), drN st.2)
def dwD (N : Nat) (st : WV) (q : Nat) : WV := (dnL (N - 1)).foldl (swD N q) st
def dwN (N K v : Nat) : WV := (segF id K 0).foldl (dwD N) (fun i => i % N, v)
-- the reference's
def oiI (q : Nat) (pl : Nat → Int32) (i : Nat) : Nat → Int32 := upd pl (5 * q + i) (nI i)
def osF (q : Nat) (st : (Nat → Int32) × Nat) (k : Nat) : (Nat → Int32) × Nat := (upd (upd st.1 (5 * q + k) (st.1 (5 * q + drN st.2 % (k + 1)))) (5 * q + drN st.2 % (k + 1)) (st.1 (5 * q + k)), drN st.2)
def ooS (N : Nat) (st : (Nat → Int32) × Nat) (q : Nat) : (Nat → Int32) × Nat := (dnL (N - 1)).foldl (osF q) ((segF id N 0).foldl (oiI q) st.1, st.2)
def ooF (N K : Nat) (st : (Nat → Int32) × Nat) : (Nat → Int32) × Nat := (segF id K 0).foldl (ooS N) st
theorem fold_rel {α β γ : Type} (R : α → β → Prop) (f : α → γ → α) (g : β → γ → β) : ∀ (l : List γ) (a : α) (b : β), R a b → (∀ a b, ∀ c ∈ l, R a b → R (f a c) (g b c)) → R (l.foldl f a) (l.foldl g b)
  | [], _, _, h, _ => h
  | c :: l, a, b, h, hs => fold_rel R f g l _ _ (hs a b c List.mem_cons_self h) (fun a b d hd => hs a b d (List.mem_cons_of_mem _ hd))
theorem dn_mem : ∀ {m k : Nat}, k ∈ dnL m → 1 ≤ k ∧ k ≤ m
  | 0, k, h => by cases h
  | m + 1, k, h => by
    rcases List.mem_cons.mp h with e | e
    · omega
    · have := dn_mem e
      omega
theorem sg_mem : ∀ {m s k : Nat}, k ∈ segF id m s → s ≤ k ∧ k < s + m
  | 0, s, k, h => by cases h
  | m + 1, s, k, h => by
    rcases List.mem_cons.mp (show k ∈ s :: segF id m (s + 1) from h) with e | e
    · omega
    · have := sg_mem e
      omega
section DRAW
variable {N K : Nat}
theorem mulq {q c : Nat} (hq : q < K) (hc : c < N) : N * q + c < N * K := by
  have := Nat.mul_le_mul_left N (show q + 1 ≤ K from hq)
  rw [Nat.mul_succ] at this
  omega
theorem tAt_qc {q c : Nat} (hc : c < N) : tAt N (N * q + c) = 10 * (q + 1) + c := by
  unfold tAt
  rw [Nat.mul_add_div (by omega), Nat.div_eq_of_lt hc, Nat.mul_add_mod, Nat.mod_eq_of_lt hc, Nat.add_zero]
theorem j5_qc {q c : Nat} (hc : c < N) : j5 N (N * q + c) = 5 * q + c := by
  unfold j5
  rw [Nat.mul_add_div (by omega), Nat.div_eq_of_lt hc, Nat.mul_add_mod, Nat.mod_eq_of_lt hc, Nat.add_zero]
/-- swapping, seen through a numbering -/
theorem sw_row {f : Nat → Int32} {F : Nat → Nat} {t : Nat → Nat} {P : Nat → Prop} (ht : ∀ i j, t i = t j → i = j) (h : ∀ i, P i → f (t i) = nI (F i)) {a b : Nat} (ha : P a) (hb : P b) : ∀ i, P i → upd (upd f (t a) (f (t b))) (t b) (f (t a)) (t i) = nI (swN F a b i) := by
  intro i hi
  unfold swN
  by_cases e : i = b
  · rw [e, pk_us, updN_s]
    exact h a ha
  · rw [pk_un (fun z => e (ht _ _ z)), updN_n _ _ e]
    by_cases e2 : i = a
    · rw [e2, pk_us, updN_s]
      exact h b hb
    · rw [pk_un (fun z => e2 (ht _ _ z)), updN_n _ _ e2]
      exact h i hi
theorem dw_sum (hN : 0 < N) (v : Nat) : sumOK N K (dwN N K v).1 := by
  have key := fold_rel (fun (st : WV) (_ : Nat) => sumOK N K st.1) (dwD N) (fun b _ => b) (segF id K 0) (fun i => i % N, v) 0 (sumOK_id hN) (by
    intro st b q hq h
    have hqK : q < K := by have := sg_mem hq; omega
    exact fold_rel (fun (st : WV) (_ : Nat) => sumOK N K st.1) (swD N q) (fun b _ => b) (dnL (N - 1)) st b h (by
      intro st b k hk h
      have hk2 := dn_mem hk
      have hj : drN st.2 % (k + 1) < k + 1 := Nat.mod_lt _ (by omega)
      exact sumOK_sw h hqK (by omega) (by omega)))
  exact key
def relD (N K : Nat) (s0 : MS) (st : WV) (s : MS) : Prop := (∀ i, i < N * K → s.1 (tAt N i) = nI (st.1 i)) ∧ s.2.1 = s0.2.1 ∧ s.2.2.1 = s0.2.2.1 ∧ s.2.2.2 = st.2
theorem dw_c (hN : 0 < N ∧ N ≤ 5) (s : MS) : relD N K s (dwN N K s.2.2.2) (dwF N K s) := by
  have init : ∀ (m p : Nat) (t : MS), (∀ i, i < p → t.1 (tAt N i) = nI (i % N)) → t.2 = s.2 → (∀ i, i < p + m → ((segF id m p).foldl (dwI N) t).1 (tAt N i) = nI (i % N)) ∧ ((segF id m p).foldl (dwI N) t).2 = s.2 := by
    intro m
    induction m with
    | zero => intro p t h1 h2; exact ⟨h1, h2⟩
    | succ m ih =>
      intro p t h1 h2
      have := ih (p + 1) (dwI N t p) (fun i hi => by
        show upd t.1 (tAt N p) (nI (p % N)) (tAt N i) = _
        by_cases e : i = p
        · rw [e, pk_us]
        · rw [pk_un (fun z => e (tAt_inj hN z))]
          exact h1 i (by omega)) h2
      refine ⟨fun i hi => this.1 i (by omega), this.2⟩
  obtain ⟨a1, a2⟩ := init (N * K) 0 s (fun i hi => by omega) rfl
  rw [Nat.zero_add] at a1
  refine fold_rel (relD N K s) (dwD N) (dwS N) (segF id K 0) _ _ ⟨a1, by rw [a2], by rw [a2], by rw [a2]⟩ (fun st t q hq h => ?_)
  have hqK : q < K := by have := sg_mem hq; omega
  refine fold_rel (relD N K s) (swD N q) (swF (10 * (q + 1))) (dnL (N - 1)) _ _ h (fun st t k hk h => ?_)
  have hk2 := dn_mem hk
  obtain ⟨h1, h2, h3, h4⟩ := h
  have hj : drN st.2 % (k + 1) < k + 1 := Nat.mod_lt _ (by omega)
  refine ⟨?_, h2, h3, ?_⟩
  · intro i hi
    show upd (upd t.1 (10 * (q + 1) + k) (t.1 (10 * (q + 1) + drN t.2.2.2 % (k + 1)))) (10 * (q + 1) + drN t.2.2.2 % (k + 1)) (t.1 (10 * (q + 1) + k)) (tAt N i) = nI (swN st.1 (N * q + k) (N * q + drN st.2 % (k + 1)) i)
    rw [h4, ← tAt_qc (N := N) (q := q) (c := k) (by omega), ← tAt_qc (N := N) (q := q) (c := drN st.2 % (k + 1)) (by omega)]
    exact sw_row (P := fun i => i < N * K) (fun i j z => tAt_inj hN z) h1 (mulq hqK (by omega)) (mulq hqK (by omega)) i hi
  · show drN t.2.2.2 = drN st.2
    rw [h4]
theorem oi_eq (q : Nat) : ∀ (m i : Nat) (pl : Nat → Int32) (x : Nat), (segF id m i).foldl (oiI q) pl x = if 5 * q + i ≤ x ∧ x < 5 * q + i + m then nI (x - 5 * q) else pl x
  | 0, i, pl, x => (if_neg (by omega)).symm
  | m + 1, i, pl, x => by
    show (segF id m (i + 1)).foldl (oiI q) (oiI q pl i) x = _
    rw [oi_eq q m (i + 1)]
    by_cases c : 5 * q + (i + 1) ≤ x ∧ x < 5 * q + (i + 1) + m
    · rw [if_pos c, if_pos (by omega)]
    · rw [if_neg c]
      unfold oiI
      by_cases e : x = 5 * q + i
      · rw [if_pos (by omega), e, pk_us]
        congr 1
        omega
      · rw [if_neg (by omega), pk_un e]
def relO (N q : Nat) (st : WV) (t : (Nat → Int32) × Nat) : Prop := (∀ i, i < N * q → t.1 (j5 N i) = nI (st.1 i)) ∧ t.2 = st.2 ∧ ∀ i, N * q ≤ i → st.1 i = i % N
theorem dw_r (hN : 0 < N ∧ N ≤ 5) (pl : Nat → Int32) (v : Nat) : relO N K (dwN N K v) (ooF N K (pl, v)) := by
  have key : ∀ (m q : Nat) (st : WV) (t : (Nat → Int32) × Nat), relO N q st t → relO N (q + m) ((segF id m q).foldl (dwD N) st) ((segF id m q).foldl (ooS N) t) := by
    intro m
    induction m with
    | zero => intro q st t h; exact h
    | succ m ih =>
      intro q st t h
      rw [show q + (m + 1) = q + 1 + m by omega]
      refine ih (q + 1) _ _ ?_
      obtain ⟨h1, h2, h3⟩ := h
      have base : relO N (q + 1) st ((segF id N 0).foldl (oiI q) t.1, t.2) := by
        refine ⟨fun i hi => ?_, h2, fun i hi => h3 i (by rw [Nat.mul_succ] at hi; omega)⟩
        show (segF id N 0).foldl (oiI q) t.1 (j5 N i) = _
        rw [oi_eq]
        by_cases e : i < N * q
        · have hd : j5 N i / 5 < q := by
            rw [(j5_d hN i).1]
            exact (Nat.div_lt_iff_lt_mul hN.1).mpr (by rw [Nat.mul_comm]; exact e)
          rw [if_neg (by omega)]
          exact h1 i e
        · rw [Nat.mul_succ] at hi
          obtain ⟨c, rfl⟩ : ∃ c, i = N * q + c := ⟨i - N * q, by omega⟩
          have hc : c < N := by omega
          rw [h3 _ (by omega), j5_qc hc, if_pos (by omega), Nat.mul_add_mod, Nat.mod_eq_of_lt hc]
          congr 1
          omega
      refine fold_rel (relO N (q + 1)) (swD N q) (osF q) (dnL (N - 1)) _ _ base (fun st t k hk h => ?_)
      have hk2 := dn_mem hk
      obtain ⟨g1, g2, g3⟩ := h
      have hj : drN st.2 % (k + 1) < k + 1 := Nat.mod_lt _ (by omega)
      refine ⟨?_, ?_, ?_⟩
      · intro i hi
        show upd (upd t.1 (5 * q + k) (t.1 (5 * q + drN t.2 % (k + 1)))) (5 * q + drN t.2 % (k + 1)) (t.1 (5 * q + k)) (j5 N i) = nI (swN st.1 (N * q + k) (N * q + drN st.2 % (k + 1)) i)
        rw [g2, ← j5_qc (N := N) (q := q) (c := k) (by omega), ← j5_qc (N := N) (q := q) (c := drN st.2 % (k + 1)) (by omega)]
        exact sw_row (P := fun i => i < N * (q + 1)) (fun i j z => j5_inj hN z) g1 (by show _ < _; rw [Nat.mul_succ]; omega) (by show _ < _; rw [Nat.mul_succ]; omega) i hi
      · show drN t.2 = drN st.2
        rw [g2]
      · intro i hi
        show swN st.1 (N * q + k) (N * q + drN st.2 % (k + 1)) i = i % N
        rw [Nat.mul_succ] at hi
        unfold swN
        rw [updN_n _ _ (by omega), updN_n _ _ (by omega)]
        exact g3 i (by rw [Nat.mul_succ]; exact hi)
  have := key K 0 (fun i => i % N, v) (pl, v) ⟨fun i hi => by rw [Nat.mul_zero] at hi; omega, rfl, fun i _ => rfl⟩
  rw [Nat.zero_add] at this
  exact this
end DRAW
