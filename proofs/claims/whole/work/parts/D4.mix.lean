-- mixing, taking and leaving out, on both sides
abbrev QV : Type := (Nat → Clue) × Nat
def swC (r : Nat → Clue) (a b : Nat) : Nat → Clue := fun i => if i = b then r a else if i = a then r b else r i
def mxN (st : QV) (k : Nat) : QV := (swC st.1 k (drN st.2 % (k + 1)), drN st.2)
def mixN (n : Nat) (st : QV) : QV := (dnL (n - 1)).foldl mxN st
theorem mix_P {P : Clue → Prop} {n : Nat} {st : QV} (h : ∀ i, i < n → P (st.1 i)) : ∀ i, i < n → P ((mixN n st).1 i) := by
  have := fold_rel (fun (st : QV) (_ : Nat) => ∀ i, i < n → P (st.1 i)) mxN (fun b _ => b) (dnL (n - 1)) st 0 h (by
    intro st b k hk h i hi
    have hk2 := dn_mem hk
    have hj : drN st.2 % (k + 1) < k + 1 := Nat.mod_lt _ (by omega)
    show P (swC st.1 k (drN st.2 % (k + 1)) i)
    unfold swC
    split
    · exact h k (by omega)
    · split
      · exact h _ (by omega)
      · exact h i hi)
  exact this
def relM (n : Nat) (s0 : MS) (st : QV) (s : MS) : Prop := (∀ j, j < n → s.2.1 j = cdC (st.1 j)) ∧ s.1 = s0.1 ∧ s.2.2.1 = n ∧ s.2.2.2 = st.2
theorem mix_c {s : MS} {r : Nat → Clue} (h : ∀ j, j < s.2.2.1 → s.2.1 j = cdC (r j)) : relM s.2.2.1 s (mixN s.2.2.1 (r, s.2.2.2)) (mixF s) := by
  refine fold_rel (relM s.2.2.1 s) mxN mxS (dnL (s.2.2.1 - 1)) _ _ ⟨h, rfl, rfl, rfl⟩ (fun st t k hk hh => ?_)
  obtain ⟨h1, h2, h3, h4⟩ := hh
  have hk2 := dn_mem hk
  have hj : drN st.2 % (k + 1) < k + 1 := Nat.mod_lt _ (by omega)
  refine ⟨?_, h2, h3, ?_⟩
  · intro i hi
    show upd (upd t.2.1 k (t.2.1 (drN t.2.2.2 % (k + 1)))) (drN t.2.2.2 % (k + 1)) (t.2.1 k) i = cdC (swC st.1 k (drN st.2 % (k + 1)) i)
    rw [h4]
    unfold swC
    by_cases e : i = drN st.2 % (k + 1)
    · rw [if_pos e, e, pk_us]
      exact h1 k (by omega)
    · rw [if_neg e, pk_un e]
      by_cases e2 : i = k
      · rw [if_pos e2, e2, pk_us]
        exact h1 _ (by omega)
      · rw [if_neg e2, pk_un e2]
        exact h1 i hi
  · show drN t.2.2.2 = drN st.2
    rw [h4]
-- the reference's mixing
def rmI (k j : Nat) (po : Nat → Int32) (i : Nat) : Nat → Int32 := upd (upd po (5 * k + i) (po (5 * j + i))) (5 * j + i) (po (5 * k + i))
def rmS (st : (Nat → Int32) × Nat) (k : Nat) : (Nat → Int32) × Nat := ((segF id 5 0).foldl (rmI k (drN st.2 % (k + 1))) st.1, drN st.2)
def rmxF (n : Nat) (st : (Nat → Int32) × Nat) : (Nat → Int32) × Nat := (dnL (n - 1)).foldl rmS st
theorem rmI_at (k j : Nat) (po : Nat → Int32) {i a c : Nat} (hi : i < 5) (hc : c < 5) : rmI k j po i (5 * a + c) = if c = i then (if a = j then po (5 * k + c) else if a = k then po (5 * j + c) else po (5 * a + c)) else po (5 * a + c) := by
  unfold rmI
  by_cases e : c = i
  · rw [if_pos e, e]
    by_cases e1 : a = j
    · rw [if_pos e1, e1, pk_us]
    · rw [if_neg e1, pk_un (by omega)]
      by_cases e2 : a = k
      · rw [if_pos e2, e2, pk_us]
      · rw [if_neg e2, pk_un (by omega)]
  · rw [if_neg e, pk_un (by omega), pk_un (by omega)]
theorem rm_all (k j : Nat) : ∀ (m i : Nat) (po : Nat → Int32) (a c : Nat), i + m ≤ 5 → c < 5 → (segF id m i).foldl (rmI k j) po (5 * a + c) = if i ≤ c ∧ c < i + m then (if a = j then po (5 * k + c) else if a = k then po (5 * j + c) else po (5 * a + c)) else po (5 * a + c)
  | 0, i, po, a, c, _, _ => (if_neg (by omega)).symm
  | m + 1, i, po, a, c, hm, hc => by
    show (segF id m (i + 1)).foldl (rmI k j) (rmI k j po i) (5 * a + c) = _
    rw [rm_all k j m (i + 1) (rmI k j po i) a c (by omega) hc, rmI_at k j po (by omega) hc, rmI_at k j po (by omega) hc, rmI_at k j po (by omega) hc]
    by_cases e : i + 1 ≤ c ∧ c < i + 1 + m
    · have nc : ¬ c = i := by omega
      rw [if_pos e, if_pos (show i ≤ c ∧ c < i + (m + 1) by omega)]
      simp only [if_neg nc]
    · rw [if_neg e]
      by_cases e2 : c = i
      · rw [if_pos e2, if_pos (show i ≤ c ∧ c < i + (m + 1) by omega)]
      · rw [if_neg e2, if_neg (show ¬ (i ≤ c ∧ c < i + (m + 1)) by omega)]
def relP5 (n : Nat) (st : QV) (t : (Nat → Int32) × Nat) : Prop := (∀ j, j < n → cel5 t.1 j (st.1 j)) ∧ t.2 = st.2
theorem cel5_iff {po : Nat → Int32} {j : Nat} {q : Clue} : cel5 po j q ↔ ∀ c, c < 5 → po (5 * j + c) = [nI q.1, nI q.2.1, nI q.2.2.1, nI q.2.2.2.1, nI q.2.2.2.2.1].getD c 0 := by
  constructor
  · rintro ⟨a0, a1, a2, a3, a4⟩ c hc
    match c, hc with
    | 0, _ => exact a0
    | 1, _ => exact a1
    | 2, _ => exact a2
    | 3, _ => exact a3
    | 4, _ => exact a4
  · intro h
    exact ⟨h 0 (by decide), h 1 (by decide), h 2 (by decide), h 3 (by decide), h 4 (by decide)⟩
theorem mix_r {n v : Nat} {po : Nat → Int32} {r : Nat → Clue} (h : ∀ j, j < n → cel5 po j (r j)) : relP5 n (mixN n (r, v)) (rmxF n (po, v)) := by
  refine fold_rel (relP5 n) mxN rmS (dnL (n - 1)) _ _ ⟨h, rfl⟩ (fun st t k hk hh => ?_)
  obtain ⟨h1, h2⟩ := hh
  have hk2 := dn_mem hk
  have hj : drN st.2 % (k + 1) < k + 1 := Nat.mod_lt _ (by omega)
  refine ⟨?_, ?_⟩
  · intro i hi
    rw [cel5_iff]
    intro c hc
    show (segF id 5 0).foldl (rmI k (drN t.2 % (k + 1))) t.1 (5 * i + c) = _
    rw [rm_all _ _ 5 0 _ _ _ (by decide) hc, if_pos ⟨Nat.zero_le _, by omega⟩, h2]
    show _ = [nI (swC st.1 k (drN st.2 % (k + 1)) i).1, nI (swC st.1 k (drN st.2 % (k + 1)) i).2.1, nI (swC st.1 k (drN st.2 % (k + 1)) i).2.2.1, nI (swC st.1 k (drN st.2 % (k + 1)) i).2.2.2.1, nI (swC st.1 k (drN st.2 % (k + 1)) i).2.2.2.2.1].getD c 0
    unfold swC
    by_cases e : i = drN st.2 % (k + 1)
    · rw [if_pos e, if_pos e]
      exact cel5_iff.mp (h1 k (by omega)) c hc
    · rw [if_neg e, if_neg e]
      by_cases e2 : i = k
      · rw [if_pos e2, if_pos e2]
        exact cel5_iff.mp (h1 _ (by omega)) c hc
      · rw [if_neg e2, if_neg e2]
        exact cel5_iff.mp (h1 i hi) c hc
  · show drN t.2 = drN st.2
    rw [h2]
-- rows of the reference
theorem rowA_at (cl : Nat → Int32) (k : Nat) (a b c d e f : Int32) : (∀ j, j < 6 * k → rowA cl k a b c d e f j = cl j) ∧ rowA cl k a b c d e f (6 * k) = a ∧ rowA cl k a b c d e f (6 * k + 1) = b ∧ rowA cl k a b c d e f (6 * k + 2) = c ∧ rowA cl k a b c d e f (6 * k + 3) = d ∧ rowA cl k a b c d e f (6 * k + 4) = e ∧ rowA cl k a b c d e f (6 * k + 5) = f := by
  unfold rowA
  refine ⟨fun j hj => ?_, ?_, ?_, ?_, ?_, ?_, pk_us⟩
  · rw [pk_un (by omega), pk_un (by omega), pk_un (by omega), pk_un (by omega), pk_un (by omega), pk_un (by omega)]
  · rw [pk_un (by omega), pk_un (by omega), pk_un (by omega), pk_un (by omega), pk_un (by omega), pk_us]
  · rw [pk_un (by omega), pk_un (by omega), pk_un (by omega), pk_un (by omega), pk_us]
  · rw [pk_un (by omega), pk_un (by omega), pk_un (by omega), pk_us]
  · rw [pk_un (by omega), pk_un (by omega), pk_us]
  · rw [pk_un (by omega), pk_us]
theorem rowOK_congr {cl cl2 : Nat → Int32} {k : Nat} {q : Clue} (h : ∀ j, 6 * k ≤ j → j < 6 * k + 6 → cl2 j = cl j) (hr : rowOK cl k q) : rowOK cl2 k q := by
  obtain ⟨r1, r2, r3, r4, r5, r6⟩ := hr
  exact ⟨(h _ (by omega) (by omega)).trans r1, (h _ (by omega) (by omega)).trans r2, (h _ (by omega) (by omega)).trans r3, (h _ (by omega) (by omega)).trans r4, (h _ (by omega) (by omega)).trans r5, (h _ (by omega) (by omega)).trans r6⟩
def putP (po : Nat → Int32) (cl : Nat → Int32) (k : Nat) : Nat → Int32 := rowA cl k (po (5 * k)) (po (5 * k + 1)) (po (5 * k + 2)) (po (5 * k + 3)) (po (5 * k + 4)) (-1)
theorem put_rows {po : Nat → Int32} {Q : Nat → Clue} : ∀ (n : Nat) (cl : Nat → Int32), (∀ k, k < n → cel5 po k (Q k) ∧ (Q k).2.2.2.2.2 = -1) → ∀ k, k < n → rowOK ((List.range n).foldl (putP po) cl) k (Q k)
  | 0, _, _, k, hk => by omega
  | n + 1, cl, h, k, hk => by
    rw [List.range_succ, List.foldl_append, List.foldl_cons, List.foldl_nil]
    obtain ⟨t, ht⟩ : ∃ t, t = (List.range n).foldl (putP po) cl := ⟨_, rfl⟩
    have ih := put_rows n cl (fun k hk => h k (by omega))
    rw [← ht] at ih ⊢
    obtain ⟨p0, p1, p2, p3, p4, p5, p6⟩ := rowA_at t n (po (5 * n)) (po (5 * n + 1)) (po (5 * n + 2)) (po (5 * n + 3)) (po (5 * n + 4)) (-1)
    by_cases e : k = n
    · rw [e]
      obtain ⟨⟨c0, c1, c2, c3, c4⟩, c5⟩ := h n (by omega)
      exact ⟨p1.trans c0, p2.trans c1, p3.trans c2, p4.trans c3, p5.trans c4, p6.trans c5.symm⟩
    · exact rowOK_congr (fun j _ hj => p0 j (by omega)) (ih k (by omega))
section BOTH
variable {N K D n : Nat} {Q : Nat → Clue} {cs cl od : Nat → Int32}
def rmQ (Q : Nat → Clue) (k : Nat) : Nat → Clue := fun i => if k ≤ i then Q (i + 1) else Q i
theorem both_rem (h : bothQ N K D n Q cs cl od) {k : Nat} (hk : k < n) : bothQ N K D (n - 1) (rmQ Q k) (rmF cs k (n - 1)) (rmvF cl k n) od := by
  obtain ⟨h1, h2, h3, h4, h5, h6, h7, h8⟩ := h
  refine ⟨h1, h2, h3, h4, h5, fun i hi => ?_, fun i hi => ?_, fun i hi => ?_⟩
  · unfold rmF rmQ
    by_cases e : k ≤ i
    · rw [if_pos ⟨e, hi⟩, if_pos e]
      exact h6 _ (by omega)
    · rw [if_neg (fun z => e z.1), if_neg e]
      exact h6 _ (by omega)
  · unfold rmQ
    split
    · exact h7 _ (by omega)
    · exact h7 _ (by omega)
  · have at' : ∀ j, rmvF cl k n j = if 6 * k ≤ j ∧ j < 6 * (n - 1) then cl (j + 6) else cl j := fun _ => rfl
    unfold rmQ
    by_cases e : k ≤ i
    · rw [if_pos e]
      obtain ⟨r1, r2, r3, r4, r5, r6⟩ := h8 (i + 1) (by omega)
      refine ⟨?_, ?_, ?_, ?_, ?_, ?_⟩
      · rw [at', if_pos (by omega)]; exact r1
      · rw [at', if_pos (by omega)]; exact r2
      · rw [at', if_pos (by omega)]; exact r3
      · rw [at', if_pos (by omega)]; exact r4
      · rw [at', if_pos (by omega)]; exact r5
      · rw [at', if_pos (by omega)]; exact r6
    · rw [if_neg e]
      exact rowOK_congr (fun j _ hj => by rw [at', if_neg (by omega)]) (h8 i (by omega))
def adQ (Q : Nat → Clue) (n : Nat) (q : Clue) : Nat → Clue := fun i => if i = n then q else Q i
theorem both_add (h : bothQ N K D n Q cs cl od) {q : Clue} (hq : okQ N K q) : bothQ N K D (n + 1) (adQ Q n q) (upd cs n (cdC q)) (rowA cl n (nI q.1) (nI q.2.1) (nI q.2.2.1) (nI q.2.2.2.1) (nI q.2.2.2.2.1) q.2.2.2.2.2) od := by
  obtain ⟨h1, h2, h3, h4, h5, h6, h7, h8⟩ := h
  refine ⟨h1, h2, h3, h4, h5, fun i hi => ?_, fun i hi => ?_, fun i hi => ?_⟩
  · unfold adQ
    by_cases e : i = n
    · rw [if_pos e, e, pk_us]
    · rw [if_neg e, pk_un e]
      exact h6 i (by omega)
  · unfold adQ
    by_cases e : i = n
    · rw [if_pos e]; exact hq
    · rw [if_neg e]; exact h7 i (by omega)
  · unfold adQ
    obtain ⟨p0, p1, p2, p3, p4, p5, p6⟩ := rowA_at cl n (nI q.1) (nI q.2.1) (nI q.2.2.1) (nI q.2.2.2.1) (nI q.2.2.2.2.1) q.2.2.2.2.2
    by_cases e : i = n
    · rw [if_pos e, e]
      exact ⟨p1, p2, p3, p4, p5, p6⟩
    · rw [if_neg e]
      exact rowOK_congr (fun j _ hj => p0 j (by omega)) (h8 i (by omega))
end BOTH
