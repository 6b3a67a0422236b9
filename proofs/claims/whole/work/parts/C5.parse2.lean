-- reading a sentence: the program's side as a whole; printed by wip/whole/gen_c5.py
/-- what follows the word is, on a plain reader's side: the kind, and how reading ends -/
def restA (L : List Nat) (nc : Nat → Int64) (a : Nat) (sl : Nat → Int32) : Nat × (Nat ⊕ (Nat → Int32)) := if ¬ tokA L nc 7237492 a = -1 then (1, endA L (seqA L nc (tokL 1 5 2) a sl)) else if ¬ tokA L nc 1818584692 a = -1 then (2, endA L (seqA L nc (tokL 2 5 2) a sl)) else if ¬ tokA L nc 1852143732 a = -1 then (3, endA L (seqA L nc (tokL 3 5 2) a sl)) else if ¬ tokA L nc 4 a = -1 then (4, endA L (seqA L nc (tokL 4 5 2) a sl)) else if ¬ tokA L nc 27696098611389806 a = -1 then (5, endA L (seqA L nc (tokL 5 5 2) a sl)) else if ¬ tokA L nc 24948 a = -1 then (6, endA L (seqA L nc (tokL 6 5 2) a sl)) else if ¬ tokA L nc 111503598970226 a = -1 then (8, endA L (seqA L nc (tokL 8 5 2) a sl)) else if ¬ tokA L nc 504363246962 a = -1 then (9, endA L (seqA L nc (tokL 9 5 2) a sl)) else if tokA L nc 2 a = -1 then (0, .inl (fpA L a)) else if L.length < weL L a + 1 then (0, .inr (slU 2 (tokA L nc 2 a) sl)) else if tokA L nc 28530 (weL L a + 1) = -1 then (0, .inl (weL L a + 1)) else (7, endA L (seqA L nc (tokL 7 4 3) (weL L a + 1) (slU 2 (tokA L nc 2 a) sl)))
/-- what follows the speaker -/
def sentA (L : List Nat) (nc : Nat → Int64) (a : Nat) (sl : Nat → Int32) : Nat × (Nat ⊕ (Nat → Int32)) := match seqA L nc [1, 26995] a sl with
  | .inl f => (0, .inl f)
  | .inr q => restA L nc q.1 q.2
section PARSE2
variable {N K : Nat} {B : Nat → Option (List Nat)} {nr : Nat → Int64} {L : List Nat} {nc : Nat → Int64}
theorem pnS_eq {f1 f2 : Int32} {j : Nat} {s : SS} (h : pgF f1 j s = pgF f2 j s) : pnS f1 j s = pnS f2 j s := by
  unfold pnS
  rw [h]
theorem named_word (hN : 0 < N ∧ N ≤ 5) (hK : K ≤ 3) (h : nmOK N K B nc nr) {w : Int64} (hw : ¬ namedF nc w = -1) : ∃ i bs, i < N * K ∧ B i = some bs ∧ isWordL bs ∧ w = lN (vF bs 0) ∧ namedF nc w = nI (tAt N i) ∧ ∀ k, k < 15 → ¬ wdF k = w := by
  unfold namedF at hw ⊢
  rcases seg_find (fun x => decide (¬ w = 0 ∧ nc x = w)) 40 0 with ⟨e, hn⟩ | ⟨t, e, t1, t2, t3, t4⟩
  · rw [e] at hw
    exact absurd rfl hw
  · rw [e]
    have t3 := of_decide_eq_true t3
    have hex : ∃ i, i < N * K ∧ t = tAt N i := by
      refine Classical.byContradiction fun hc => ?_
      have := h.2.1 t (by omega) (fun i hi e => hc ⟨i, hi, e⟩)
      rw [this] at t3
      exact t3.1 t3.2.symm
    obtain ⟨i, hi, rfl⟩ := hex
    obtain ⟨a1, a2, a3⟩ := h.1 i hi
    cases hB : B i with
    | none =>
      rw [hB] at a1
      rw [a1] at t3
      exact absurd t3.2.symm t3.1
    | some bs =>
      rw [hB] at a1
      have ew : w = lN (vF bs 0) := by rw [← t3.2, a1]; rfl
      exact ⟨i, bs, hi, hB, (a3 bs hB).1, ew, rfl, fun k hk q => (a3 bs hB).2 k hk (by rw [q, ew])⟩
theorem mn_w {t w : Int64} (h0 : ¬ t < 4) (h4 : ¬ t = 4) (h : ¬ mnF nc t w = -1) : w = t := by
  unfold mnF at h
  refine Classical.byContradiction fun hne => h ?_
  by_cases h1 : t = 0 ∨ w = -1
  · rw [if_pos h1]
  · rw [if_neg h1, if_neg h0, if_neg h4, if_neg hne]
theorem mn_ne {t w : Int64} (h0 : ¬ t < 4) (h4 : ¬ t = 4) (h : ¬ w = t) : mnF nc t w = -1 := Classical.byContradiction fun q => h (mn_w h0 h4 q)
theorem mn_4 {w : Int64} (h : ¬ mnF nc 4 w = -1) : 48 ≤ w ∧ w ≤ 57 := by
  unfold mnF at h
  refine Classical.byContradiction fun hne => h ?_
  by_cases h1 : (4 : Int64) = 0 ∨ w = -1
  · rw [if_pos h1]
  · rw [if_neg h1, if_neg (by decide), if_pos rfl, if_neg hne]
theorem mn_4n {w : Int64} (h : ¬ (48 ≤ w ∧ w ≤ 57)) : mnF nc 4 w = -1 := Classical.byContradiction fun q => h (mn_4 q)
theorem mn_2 {t w : Int64} (ht : t = 1 ∨ t = 2 ∨ t = 3) (h : ¬ mnF nc t w = -1) : ¬ namedF nc w = -1 := by
  intro q
  apply h
  unfold mnF
  rcases ht with rfl | rfl | rfl
  · by_cases h1 : (1 : Int64) = 0 ∨ w = -1
    · rw [if_pos h1]
    · rw [if_neg h1, if_pos (by decide), q]
  · by_cases h1 : (2 : Int64) = 0 ∨ w = -1
    · rw [if_pos h1]
    · rw [if_neg h1, if_pos (by decide), q]
  · by_cases h1 : (3 : Int64) = 0 ∨ w = -1
    · rw [if_pos h1]
    · rw [if_neg h1, if_pos (by decide), q]
/-- a word of the sentences is no name -/
theorem no_name (hN : 0 < N ∧ N ≤ 5) (hK : K ≤ 3) (h : nmOK N K B nc nr) {w : Int64} (hw : ∃ k, k < 15 ∧ wdF k = w) : mnF nc 2 w = -1 := by
  refine Classical.byContradiction fun q => ?_
  obtain ⟨i, bs, _, _, _, _, _, hno⟩ := named_word hN hK h (mn_2 (Or.inr (Or.inl rfl)) q)
  obtain ⟨k, hk, e⟩ := hw
  exact hno k hk e
/-- a digit is no name -/
theorem no_name4 (hN : 0 < N ∧ N ≤ 5) (hK : K ≤ 3) (h : nmOK N K B nc nr) {w : Int64} (hw : 48 ≤ w ∧ w ≤ 57) : mnF nc 2 w = -1 := by
  refine Classical.byContradiction fun q => ?_
  obtain ⟨i, bs, _, _, hb, ew, _, _⟩ := named_word hN hK h (mn_2 (Or.inr (Or.inl rfl)) q)
  have hlt := word_lt hb
  rw [ew, show (57 : Int64) = lN 57 from rfl, pk_lLE (by omega) (by decide)] at hw
  -- a word's number is at least that of its first letter
  obtain ⟨b, cs, e⟩ : ∃ b cs, bs = b :: cs := by
    cases bs with
    | nil => have := hb.2.1; simp at this
    | cons b cs => exact ⟨b, cs, rfl⟩
  have hl := isLt_b hb.1 b (by rw [e]; exact List.mem_cons_self)
  have hge := vF_ge cs b
  have e2 : vF bs 0 = vF cs b := by
    rw [e]
    show vF cs (0 * 256 + b) = _
    rw [Nat.zero_mul, Nat.zero_add]
  have h1 : 0 < 256 ^ cs.length := Nat.pow_pos (by decide)
  have : b ≤ b * 256 ^ cs.length := Nat.le_mul_of_pos_right b h1
  have h57 := hw.2
  rw [e2] at h57
  omega
def mk1 (k i : Nat) : Nat := 1023 - (2 ^ i - 1) + (if k < i then 2 ^ k else 0)
theorem mk1_no : ∀ k, k < 10 → ∀ i, i < 10 → i ≠ k → nI (mk1 k i) &&& ((1 <<< (nI i &&& 31)) ^^^ (-1)) = nI (mk1 k (i + 1)) := by decide +kernel
theorem mk1_go : ∀ k, k < 10 → nI (mk1 k k) = nI (mk1 k (k + 1)) := by decide +kernel
theorem mk1_10 : ∀ k, k < 10 → nI (mk1 k 10) = nI (2 ^ k) ∧ nI (mk1 k 0) = 1023 := by decide +kernel
theorem bq1023 : ∀ k, k < 10 → bitQ 1023 k = true := by decide +kernel
/-- of all forms one goes on -/
theorem go_pick (j : Nat) (w : Int64) (sl : Nat → Int32) {k : Nat} (hk : k < 10) (h1 : ∀ i, i < 10 → i ≠ k → mnF nc (fmF (7 * i + j)) w = -1) (h2 : ¬ mnF nc (fmF (7 * k + j)) w = -1) : goF nc 1023 j w sl = (nI (2 ^ k), slU (fmF (7 * k + j)) (mnF nc (fmF (7 * k + j)) w) sl) := by
  have key : ∀ (m i : Nat), i + m = 10 → (segF id m i).foldl (goS nc 1023 j w) (nI (mk1 k i), if k < i then slU (fmF (7 * k + j)) (mnF nc (fmF (7 * k + j)) w) sl else sl) = (nI (2 ^ k), slU (fmF (7 * k + j)) (mnF nc (fmF (7 * k + j)) w) sl) := by
    intro m
    induction m with
    | zero =>
      intro i h
      have e : i = 10 := by omega
      rw [e, if_pos hk, (mk1_10 k hk).1]
      rfl
    | succ m ih =>
      intro i h
      show (segF id m (i + 1)).foldl _ (goS nc 1023 j w _ i) = _
      rw [← ih (i + 1) (by omega)]
      congr 1
      by_cases e : i = k
      · rw [e, goS_go (bq1023 k hk) h2, if_neg (by omega), if_pos (by omega), mk1_go k hk]
      · rw [goS_no (bq1023 i (by omega)) (h1 i (by omega) e), mk1_no k hk i (by omega) e]
        by_cases h3 : k < i
        · rw [if_pos h3, if_pos (by omega)]
        · rw [if_neg h3, if_neg (by omega)]
  have := key 10 0 (by omega)
  rw [if_neg (by omega), (mk1_10 k hk).2] at this
  exact this
def mk0 (i : Nat) : Nat := 1023 - (2 ^ i - 1)
theorem mk0_no : ∀ i, i < 10 → nI (mk0 i) &&& ((1 <<< (nI i &&& 31)) ^^^ (-1)) = nI (mk0 (i + 1)) := by decide +kernel
/-- no form goes on -/
theorem go_none (j : Nat) (w : Int64) (sl : Nat → Int32) (h1 : ∀ i, i < 10 → mnF nc (fmF (7 * i + j)) w = -1) : goF nc 1023 j w sl = (0, sl) := by
  have key : ∀ (m i : Nat), i + m = 10 → (segF id m i).foldl (goS nc 1023 j w) (nI (mk0 i), sl) = (0, sl) := by
    intro m
    induction m with
    | zero =>
      intro i h
      have e : i = 10 := by omega
      rw [e]
      rfl
    | succ m ih =>
      intro i h
      show (segF id m (i + 1)).foldl _ (goS nc 1023 j w _ i) = _
      rw [← ih (i + 1) (by omega), goS_no (bq1023 i (by omega)) (h1 i (by omega)), mk0_no i (by omega)]
  exact key 10 0 (by omega)
/-- all go on alike -/
theorem go_alike (j : Nat) (w : Int64) (sl : Nat → Int32) (t : Int64) (ht : ∀ i, i < 10 → fmF (7 * i + j) = t) (h2 : ¬ mnF nc t w = -1) : goF nc 1023 j w sl = (1023, slU t (mnF nc t w) sl) := by
  have idem : ∀ f, slU t (mnF nc t w) (slU t (mnF nc t w) f) = slU t (mnF nc t w) f := by
    intro f
    unfold slU
    by_cases h : 1 ≤ t ∧ t ≤ 4
    · rw [if_pos h, if_pos h]
      funext q
      unfold upd
      split <;> rfl
    · rw [if_neg h, if_neg h]
  have key : ∀ (m i : Nat), i + m = 10 → (segF id m i).foldl (goS nc 1023 j w) (1023, slU t (mnF nc t w) sl) = (1023, slU t (mnF nc t w) sl) := by
    intro m
    induction m with
    | zero => intro i h; rfl
    | succ m ih =>
      intro i h
      show (segF id m (i + 1)).foldl _ (goS nc 1023 j w _ i) = _
      rw [goS_go (bq1023 i (by omega)) (by rw [ht i (by omega)]; exact h2), ht i (by omega)]
      show (segF id m (i + 1)).foldl _ (1023, slU t (mnF nc t w) (slU t (mnF nc t w) sl)) = _
      rw [idem]
      exact ih (i + 1) (by omega)
  unfold goF
  have e10 : segF id 10 0 = 0 :: segF id 9 1 := rfl
  rw [e10, List.foldl_cons]
  rw [goS_go (bq1023 0 (by decide)) (by rw [ht 0 (by decide)]; exact h2), ht 0 (by decide)]
  exact key 9 1 (by decide)
/-- a name behind is: two forms go on -/
theorem go_07 (w : Int64) (sl : Nat → Int32) (h1 : ∀ i, i < 10 → i ≠ 0 → i ≠ 7 → mnF nc (fmF (7 * i + 2)) w = -1) (h2 : ¬ mnF nc 2 w = -1) : goF nc 1023 2 w sl = (129, slU 2 (mnF nc 2 w) sl) := by
  have idem : slU 2 (mnF nc 2 w) (slU 2 (mnF nc 2 w) sl) = slU 2 (mnF nc 2 w) sl := by
    unfold slU
    rw [if_pos (by decide), if_pos (by decide)]
    funext q
    unfold upd
    split <;> rfl
  have t0 : fmF (7 * 0 + 2) = 2 := by decide +kernel
  have t7 : fmF (7 * 7 + 2) = 2 := by decide +kernel
  unfold goF
  rw [seg10]
  simp only [List.foldl_cons, List.foldl_nil]
  rw [goS_go (k := 0) (bq1023 0 (by decide)) (by rw [t0]; exact h2), t0]
  rw [goS_no (k := 1) (bq1023 1 (by decide)) (h1 1 (by decide) (by decide) (by decide))]
  rw [goS_no (k := 2) (bq1023 2 (by decide)) (h1 2 (by decide) (by decide) (by decide))]
  rw [goS_no (k := 3) (bq1023 3 (by decide)) (h1 3 (by decide) (by decide) (by decide))]
  rw [goS_no (k := 4) (bq1023 4 (by decide)) (h1 4 (by decide) (by decide) (by decide))]
  rw [goS_no (k := 5) (bq1023 5 (by decide)) (h1 5 (by decide) (by decide) (by decide))]
  rw [goS_no (k := 6) (bq1023 6 (by decide)) (h1 6 (by decide) (by decide) (by decide))]
  rw [goS_go (k := 7) (bq1023 7 (by decide)) (by rw [t7]; exact h2), t7]
  rw [goS_no (k := 8) (bq1023 8 (by decide)) (h1 8 (by decide) (by decide) (by decide))]
  rw [goS_no (k := 9) (bq1023 9 (by decide)) (h1 9 (by decide) (by decide) (by decide))]
  dsimp only
  rw [idem]
  refine Prod.ext ?_ rfl
  dsimp only
  decide
/-- the two forms at the next word -/
theorem go_07b (w : Int64) (sl : Nat → Int32) : goF nc 129 3 w sl = if mnF nc 28530 w = -1 then (0, sl) else (nI (2 ^ 7), sl) := by
  have b : ∀ k, k < 10 → bitQ 129 k = decide (k = 0 ∨ k = 7) := by decide +kernel
  have t0 : fmF (7 * 0 + 3) = 0 := by decide +kernel
  have t7 : fmF (7 * 7 + 3) = 28530 := by decide +kernel
  unfold goF
  rw [seg10]
  simp only [List.foldl_cons, List.foldl_nil]
  rw [goS_no (k := 0) (by rw [b 0 (by decide)]; decide) (by rw [t0]; exact mn_end nc w)]
  rw [goS_off (k := 1) (by rw [b 1 (by decide)]; decide), goS_off (k := 2) (by rw [b 2 (by decide)]; decide), goS_off (k := 3) (by rw [b 3 (by decide)]; decide), goS_off (k := 4) (by rw [b 4 (by decide)]; decide), goS_off (k := 5) (by rw [b 5 (by decide)]; decide), goS_off (k := 6) (by rw [b 6 (by decide)]; decide)]
  by_cases hm : mnF nc 28530 w = -1
  · rw [if_pos hm, goS_no (k := 7) (by rw [b 7 (by decide)]; decide) (by rw [t7]; exact hm)]
    rw [goS_off (k := 8) (by rw [b 8 (by decide)]; decide), goS_off (k := 9) (by rw [b 9 (by decide)]; decide)]
    refine Prod.ext ?_ rfl
    dsimp only
    decide
  · rw [if_neg hm, goS_go (k := 7) (by rw [b 7 (by decide)]; decide) (by rw [t7]; exact hm), t7]
    rw [goS_off (k := 8) (by rw [b 8 (by decide)]; decide), goS_off (k := 9) (by rw [b 9 (by decide)]; decide)]
    have : slU 28530 (mnF nc 28530 w) sl = sl := if_neg (by decide)
    dsimp only
    rw [this]
    refine Prod.ext ?_ rfl
    dsimp only
    decide
theorem tk2 : fmF (7 * 0 + 2) = 2 ∧ fmF (7 * 1 + 2) = 7237492 ∧ fmF (7 * 2 + 2) = 1818584692 ∧ fmF (7 * 3 + 2) = 1852143732 ∧ fmF (7 * 4 + 2) = 4 ∧ fmF (7 * 5 + 2) = 27696098611389806 ∧ fmF (7 * 6 + 2) = 24948 ∧ fmF (7 * 7 + 2) = 2 ∧ fmF (7 * 8 + 2) = 111503598970226 ∧ fmF (7 * 9 + 2) = 504363246962 := by decide +kernel
theorem ed_none : (segF id 10 0).find? (edQ 1023 0) = none ∧ (segF id 10 0).find? (edQ 1023 1) = none ∧ (segF id 10 0).find? (edQ 1023 2) = none ∧ (segF id 10 0).find? (edQ 129 3) = some 0 := by decide +kernel
/-- behind the word is -/
theorem pj_rest (hN : 0 < N ∧ N ≤ 5) (hK : K ≤ 3) (h : nmOK N K B nc nr) (hL : L.length ≤ 60) (hb : ∀ b ∈ L, 32 ≤ b ∧ b ≤ 126) (sp : Int32) {s : SS} {a : Nat} {sl : Nat → Int32} (hc : cst L nc s a sl) : resA s (restA L nc a sl).1 sp (restA L nc a sl).2 (pjF sp 5 2 1023 s) := by
  obtain ⟨q0, q1, q2, q3, q4, q5, q6, q7, q8, q9⟩ := tk2
  by_cases ha : L.length < a
  · have e : restA L nc a sl = (0, .inl L.length) := by
      unfold restA tokA fpA
      simp only [if_pos ha, not_true_eq_false, if_false, if_true]
    rw [e]
    exact (pj_end hc ha sp 4 2 1023).2 ed_none.2.2.1 0
  have ha' : a ≤ L.length := by omega
  have tk : ∀ t, tokA L nc t a = mnF nc t (wdL2 L a) := fun t => if_neg ha
  have fp : fpA L a = a := if_neg ha
  unfold restA
  simp only [tk, fp]
  obtain ⟨w, hw⟩ : ∃ w, w = wdL2 L a := ⟨_, rfl⟩
  rw [← hw]
  -- one form alone goes on
  have single : ∀ k, k < 10 → (∀ i, i < 10 → i ≠ k → mnF nc (fmF (7 * i + 2)) w = -1) → ¬ mnF nc (fmF (7 * k + 2)) w = -1 → resA s k sp (endA L (seqA L nc (tokL k 5 2) a sl)) (pjF sp 5 2 1023 s) := by
    intro k hk h1 h2
    have hg := go_pick 2 w sl hk h1 h2
    have hg1 := go_one nc 2 w sl k hk
    rw [if_neg h2] at hg1
    have h9 := pj_one (nc := nc) hL hb sp hk 4 2 s a sl (by decide) hc
    -- the same word with one form left
    obtain ⟨n1, n2, n3, n4⟩ := cst_next hL hb hc ha' 1023 2
    obtain ⟨m1, m2, m3, m4⟩ := cst_next hL hb hc ha' (nI (2 ^ k)) 2
    have e1 : pnS 1023 2 s = pnS (nI (2 ^ k)) 2 s := by
      unfold pnS
      rw [n1, m1, ← hw, hg, hg1]
    rw [pj_word hL hb hc ha', ← hw, hg, e1]
    rw [pj_word hL hb hc ha', ← hw, hg1] at h9
    exact h9
  by_cases c1 : mnF nc 7237492 w = -1
  case neg =>
    rw [if_pos c1]
    have hwk : w = 7237492 := mn_w (by decide) (by decide) c1
    refine single 1 (by decide) (fun i hi hne => ?_) (by rw [q1]; exact c1)
    have hi : i = 0 ∨ i = 1 ∨ i = 2 ∨ i = 3 ∨ i = 4 ∨ i = 5 ∨ i = 6 ∨ i = 7 ∨ i = 8 ∨ i = 9 := by omega
    rcases hi with rfl | rfl | rfl | rfl | rfl | rfl | rfl | rfl | rfl | rfl
    · rw [q0]; exact no_name hN hK h ⟨1, by decide, by rw [hwk]; decide +kernel⟩
    · exact absurd rfl hne
    · rw [q2, hwk]; exact mn_ne (by decide) (by decide) (by decide)
    · rw [q3, hwk]; exact mn_ne (by decide) (by decide) (by decide)
    · rw [q4, hwk]; exact mn_4n (by decide)
    · rw [q5, hwk]; exact mn_ne (by decide) (by decide) (by decide)
    · rw [q6, hwk]; exact mn_ne (by decide) (by decide) (by decide)
    · rw [q7]; exact no_name hN hK h ⟨1, by decide, by rw [hwk]; decide +kernel⟩
    · rw [q8, hwk]; exact mn_ne (by decide) (by decide) (by decide)
    · rw [q9, hwk]; exact mn_ne (by decide) (by decide) (by decide)
  rw [if_neg (fun z => z c1)]
  by_cases c2 : mnF nc 1818584692 w = -1
  case neg =>
    rw [if_pos c2]
    have hwk : w = 1818584692 := mn_w (by decide) (by decide) c2
    refine single 2 (by decide) (fun i hi hne => ?_) (by rw [q2]; exact c2)
    have hi : i = 0 ∨ i = 1 ∨ i = 2 ∨ i = 3 ∨ i = 4 ∨ i = 5 ∨ i = 6 ∨ i = 7 ∨ i = 8 ∨ i = 9 := by omega
    rcases hi with rfl | rfl | rfl | rfl | rfl | rfl | rfl | rfl | rfl | rfl
    · rw [q0]; exact no_name hN hK h ⟨2, by decide, by rw [hwk]; decide +kernel⟩
    · rw [q1, hwk]; exact mn_ne (by decide) (by decide) (by decide)
    · exact absurd rfl hne
    · rw [q3, hwk]; exact mn_ne (by decide) (by decide) (by decide)
    · rw [q4, hwk]; exact mn_4n (by decide)
    · rw [q5, hwk]; exact mn_ne (by decide) (by decide) (by decide)
    · rw [q6, hwk]; exact mn_ne (by decide) (by decide) (by decide)
    · rw [q7]; exact no_name hN hK h ⟨2, by decide, by rw [hwk]; decide +kernel⟩
    · rw [q8, hwk]; exact mn_ne (by decide) (by decide) (by decide)
    · rw [q9, hwk]; exact mn_ne (by decide) (by decide) (by decide)
  rw [if_neg (fun z => z c2)]
  by_cases c3 : mnF nc 1852143732 w = -1
  case neg =>
    rw [if_pos c3]
    have hwk : w = 1852143732 := mn_w (by decide) (by decide) c3
    refine single 3 (by decide) (fun i hi hne => ?_) (by rw [q3]; exact c3)
    have hi : i = 0 ∨ i = 1 ∨ i = 2 ∨ i = 3 ∨ i = 4 ∨ i = 5 ∨ i = 6 ∨ i = 7 ∨ i = 8 ∨ i = 9 := by omega
    rcases hi with rfl | rfl | rfl | rfl | rfl | rfl | rfl | rfl | rfl | rfl
    · rw [q0]; exact no_name hN hK h ⟨3, by decide, by rw [hwk]; decide +kernel⟩
    · rw [q1, hwk]; exact mn_ne (by decide) (by decide) (by decide)
    · rw [q2, hwk]; exact mn_ne (by decide) (by decide) (by decide)
    · exact absurd rfl hne
    · rw [q4, hwk]; exact mn_4n (by decide)
    · rw [q5, hwk]; exact mn_ne (by decide) (by decide) (by decide)
    · rw [q6, hwk]; exact mn_ne (by decide) (by decide) (by decide)
    · rw [q7]; exact no_name hN hK h ⟨3, by decide, by rw [hwk]; decide +kernel⟩
    · rw [q8, hwk]; exact mn_ne (by decide) (by decide) (by decide)
    · rw [q9, hwk]; exact mn_ne (by decide) (by decide) (by decide)
  rw [if_neg (fun z => z c3)]
  by_cases c4 : mnF nc 4 w = -1
  case neg =>
    rw [if_pos c4]
    have hw4 := mn_4 c4
    refine single 4 (by decide) (fun i hi hne => ?_) (by rw [q4]; exact c4)
    have hi : i = 0 ∨ i = 1 ∨ i = 2 ∨ i = 3 ∨ i = 4 ∨ i = 5 ∨ i = 6 ∨ i = 7 ∨ i = 8 ∨ i = 9 := by omega
    rcases hi with rfl | rfl | rfl | rfl | rfl | rfl | rfl | rfl | rfl | rfl
    · rw [q0]; exact no_name4 hN hK h hw4
    · rw [q1]; exact mn_ne (by decide) (by decide) (fun e => by rw [e] at hw4; exact absurd hw4 (by decide))
    · rw [q2]; exact mn_ne (by decide) (by decide) (fun e => by rw [e] at hw4; exact absurd hw4 (by decide))
    · rw [q3]; exact mn_ne (by decide) (by decide) (fun e => by rw [e] at hw4; exact absurd hw4 (by decide))
    · exact absurd rfl hne
    · rw [q5]; exact mn_ne (by decide) (by decide) (fun e => by rw [e] at hw4; exact absurd hw4 (by decide))
    · rw [q6]; exact mn_ne (by decide) (by decide) (fun e => by rw [e] at hw4; exact absurd hw4 (by decide))
    · rw [q7]; exact no_name4 hN hK h hw4
    · rw [q8]; exact mn_ne (by decide) (by decide) (fun e => by rw [e] at hw4; exact absurd hw4 (by decide))
    · rw [q9]; exact mn_ne (by decide) (by decide) (fun e => by rw [e] at hw4; exact absurd hw4 (by decide))
  rw [if_neg (fun z => z c4)]
  by_cases c5 : mnF nc 27696098611389806 w = -1
  case neg =>
    rw [if_pos c5]
    have hwk : w = 27696098611389806 := mn_w (by decide) (by decide) c5
    refine single 5 (by decide) (fun i hi hne => ?_) (by rw [q5]; exact c5)
    have hi : i = 0 ∨ i = 1 ∨ i = 2 ∨ i = 3 ∨ i = 4 ∨ i = 5 ∨ i = 6 ∨ i = 7 ∨ i = 8 ∨ i = 9 := by omega
    rcases hi with rfl | rfl | rfl | rfl | rfl | rfl | rfl | rfl | rfl | rfl
    · rw [q0]; exact no_name hN hK h ⟨7, by decide, by rw [hwk]; decide +kernel⟩
    · rw [q1, hwk]; exact mn_ne (by decide) (by decide) (by decide)
    · rw [q2, hwk]; exact mn_ne (by decide) (by decide) (by decide)
    · rw [q3, hwk]; exact mn_ne (by decide) (by decide) (by decide)
    · rw [q4, hwk]; exact mn_4n (by decide)
    · exact absurd rfl hne
    · rw [q6, hwk]; exact mn_ne (by decide) (by decide) (by decide)
    · rw [q7]; exact no_name hN hK h ⟨7, by decide, by rw [hwk]; decide +kernel⟩
    · rw [q8, hwk]; exact mn_ne (by decide) (by decide) (by decide)
    · rw [q9, hwk]; exact mn_ne (by decide) (by decide) (by decide)
  rw [if_neg (fun z => z c5)]
  by_cases c6 : mnF nc 24948 w = -1
  case neg =>
    rw [if_pos c6]
    have hwk : w = 24948 := mn_w (by decide) (by decide) c6
    refine single 6 (by decide) (fun i hi hne => ?_) (by rw [q6]; exact c6)
    have hi : i = 0 ∨ i = 1 ∨ i = 2 ∨ i = 3 ∨ i = 4 ∨ i = 5 ∨ i = 6 ∨ i = 7 ∨ i = 8 ∨ i = 9 := by omega
    rcases hi with rfl | rfl | rfl | rfl | rfl | rfl | rfl | rfl | rfl | rfl
    · rw [q0]; exact no_name hN hK h ⟨9, by decide, by rw [hwk]; decide +kernel⟩
    · rw [q1, hwk]; exact mn_ne (by decide) (by decide) (by decide)
    · rw [q2, hwk]; exact mn_ne (by decide) (by decide) (by decide)
    · rw [q3, hwk]; exact mn_ne (by decide) (by decide) (by decide)
    · rw [q4, hwk]; exact mn_4n (by decide)
    · rw [q5, hwk]; exact mn_ne (by decide) (by decide) (by decide)
    · exact absurd rfl hne
    · rw [q7]; exact no_name hN hK h ⟨9, by decide, by rw [hwk]; decide +kernel⟩
    · rw [q8, hwk]; exact mn_ne (by decide) (by decide) (by decide)
    · rw [q9, hwk]; exact mn_ne (by decide) (by decide) (by decide)
  rw [if_neg (fun z => z c6)]
  by_cases c8 : mnF nc 111503598970226 w = -1
  case neg =>
    rw [if_pos c8]
    have hwk : w = 111503598970226 := mn_w (by decide) (by decide) c8
    refine single 8 (by decide) (fun i hi hne => ?_) (by rw [q8]; exact c8)
    have hi : i = 0 ∨ i = 1 ∨ i = 2 ∨ i = 3 ∨ i = 4 ∨ i = 5 ∨ i = 6 ∨ i = 7 ∨ i = 8 ∨ i = 9 := by omega
    rcases hi with rfl | rfl | rfl | rfl | rfl | rfl | rfl | rfl | rfl | rfl
    · rw [q0]; exact no_name hN hK h ⟨11, by decide, by rw [hwk]; decide +kernel⟩
    · rw [q1, hwk]; exact mn_ne (by decide) (by decide) (by decide)
    · rw [q2, hwk]; exact mn_ne (by decide) (by decide) (by decide)
    · rw [q3, hwk]; exact mn_ne (by decide) (by decide) (by decide)
    · rw [q4, hwk]; exact mn_4n (by decide)
    · rw [q5, hwk]; exact mn_ne (by decide) (by decide) (by decide)
    · rw [q6, hwk]; exact mn_ne (by decide) (by decide) (by decide)
    · rw [q7]; exact no_name hN hK h ⟨11, by decide, by rw [hwk]; decide +kernel⟩
    · exact absurd rfl hne
    · rw [q9, hwk]; exact mn_ne (by decide) (by decide) (by decide)
  rw [if_neg (fun z => z c8)]
  by_cases c9 : mnF nc 504363246962 w = -1
  case neg =>
    rw [if_pos c9]
    have hwk : w = 504363246962 := mn_w (by decide) (by decide) c9
    refine single 9 (by decide) (fun i hi hne => ?_) (by rw [q9]; exact c9)
    have hi : i = 0 ∨ i = 1 ∨ i = 2 ∨ i = 3 ∨ i = 4 ∨ i = 5 ∨ i = 6 ∨ i = 7 ∨ i = 8 ∨ i = 9 := by omega
    rcases hi with rfl | rfl | rfl | rfl | rfl | rfl | rfl | rfl | rfl | rfl
    · rw [q0]; exact no_name hN hK h ⟨12, by decide, by rw [hwk]; decide +kernel⟩
    · rw [q1, hwk]; exact mn_ne (by decide) (by decide) (by decide)
    · rw [q2, hwk]; exact mn_ne (by decide) (by decide) (by decide)
    · rw [q3, hwk]; exact mn_ne (by decide) (by decide) (by decide)
    · rw [q4, hwk]; exact mn_4n (by decide)
    · rw [q5, hwk]; exact mn_ne (by decide) (by decide) (by decide)
    · rw [q6, hwk]; exact mn_ne (by decide) (by decide) (by decide)
    · rw [q7]; exact no_name hN hK h ⟨12, by decide, by rw [hwk]; decide +kernel⟩
    · rw [q8, hwk]; exact mn_ne (by decide) (by decide) (by decide)
    · exact absurd rfl hne
  rw [if_neg (fun z => z c9)]
  by_cases c2' : mnF nc 2 w = -1
  · rw [if_pos c2']
    refine pj_bad hL hb hc ha' sp 4 2 0 1023 ?_
    rw [← hw, go_none 2 w sl (fun i hi => ?_)]
    have hi : i = 0 ∨ i = 1 ∨ i = 2 ∨ i = 3 ∨ i = 4 ∨ i = 5 ∨ i = 6 ∨ i = 7 ∨ i = 8 ∨ i = 9 := by omega
    rcases hi with rfl | rfl | rfl | rfl | rfl | rfl | rfl | rfl | rfl | rfl
    · rw [q0]; exact c2'
    · rw [q1]; exact c1
    · rw [q2]; exact c2
    · rw [q3]; exact c3
    · rw [q4]; exact c4
    · rw [q5]; exact c5
    · rw [q6]; exact c6
    · rw [q7]; exact c2'
    · rw [q8]; exact c8
    · rw [q9]; exact c9
  rw [if_neg c2']
  have hg := go_07 w sl (fun i hi h0 h7 => by
    have hi : i = 0 ∨ i = 1 ∨ i = 2 ∨ i = 3 ∨ i = 4 ∨ i = 5 ∨ i = 6 ∨ i = 7 ∨ i = 8 ∨ i = 9 := by omega
    rcases hi with rfl | rfl | rfl | rfl | rfl | rfl | rfl | rfl | rfl | rfl
    · exact absurd rfl h0
    · rw [q1]; exact c1
    · rw [q2]; exact c2
    · rw [q3]; exact c3
    · rw [q4]; exact c4
    · rw [q5]; exact c5
    · rw [q6]; exact c6
    · exact absurd rfl h7
    · rw [q8]; exact c8
    · rw [q9]; exact c9) c2'
  obtain ⟨n1, n2, n3, n4⟩ := cst_next hL hb hc ha' 1023 2
  rw [← hw, hg] at n3
  have n3 := n3 (show ¬ (129 : Int32) = 0 by decide)
  rw [pj_word hL hb hc ha', ← hw, hg]
  refine resA_tr n2 ?_
  by_cases hend : L.length < weL L a + 1
  · rw [if_pos hend]
    exact (pj_end n3 hend sp 3 3 129).1 0 ed_none.2.2.2
  · rw [if_neg hend]
    have tk3 : tokA L nc 28530 (weL L a + 1) = mnF nc 28530 (wdL2 L (weL L a + 1)) := if_neg hend
    rw [tk3]
    have hg2 := go_07b (nc := nc) (wdL2 L (weL L a + 1)) (slU 2 (mnF nc 2 w) sl)
    by_cases hor : mnF nc 28530 (wdL2 L (weL L a + 1)) = -1
    · rw [if_pos hor] at hg2 ⊢
      exact pj_bad hL hb n3 (by omega) sp 3 3 0 129 (by rw [hg2])
    · rw [if_neg hor] at hg2 ⊢
      have h9 := pj_one (nc := nc) hL hb sp (show 7 < 10 by decide) 3 3 (pnS 1023 2 s) (weL L a + 1) (slU 2 (mnF nc 2 w) sl) (by decide) n3
      have hg1 := go_one nc 3 (wdL2 L (weL L a + 1)) (slU 2 (mnF nc 2 w) sl) 7 (by decide)
      have t7 : fmF (7 * 7 + 3) = 28530 := by decide +kernel
      rw [t7, if_neg hor] at hg1
      have e7 : slU 28530 (mnF nc 28530 (wdL2 L (weL L a + 1))) (slU 2 (mnF nc 2 w) sl) = slU 2 (mnF nc 2 w) sl := if_neg (by decide)
      rw [e7] at hg1
      obtain ⟨p1, p2, p3, p4⟩ := cst_next hL hb n3 (show weL L a + 1 ≤ L.length by omega) 129 3
      obtain ⟨m1, m2, m3, m4⟩ := cst_next hL hb n3 (show weL L a + 1 ≤ L.length by omega) (nI (2 ^ 7)) 3
      have e1 : pnS 129 3 (pnS 1023 2 s) = pnS (nI (2 ^ 7)) 3 (pnS 1023 2 s) := pnS_eq (by rw [p1, hg2, m1, hg1])
      rw [pj_word hL hb n3 (by omega), hg2, e1]
      rw [pj_word hL hb n3 (by omega), hg1] at h9
      exact h9
/-- a sentence behind its speaker -/
theorem pj_sent (hN : 0 < N ∧ N ≤ 5) (hK : K ≤ 3) (h : nmOK N K B nc nr) (hL : L.length ≤ 60) (hb : ∀ b ∈ L, 32 ≤ b ∧ b ≤ 126) (sp : Int32) {s : SS} {a : Nat} {sl : Nat → Int32} (hc : cst L nc s a sl) : resA s (sentA L nc a sl).1 sp (sentA L nc a sl).2 (pjF sp 7 0 1023 s) := by
  have t0 : ∀ i, i < 10 → fmF (7 * i + 0) = 1 := by decide +kernel
  have t1 : ∀ i, i < 10 → fmF (7 * i + 1) = 26995 := by decide +kernel
  unfold sentA seqA tokA fpA
  by_cases ha : L.length < a
  · rw [if_pos ha, if_pos rfl, if_pos ha]
    exact (pj_end hc ha sp 6 0 1023).2 ed_none.1 0
  have ha' : a ≤ L.length := by omega
  rw [if_neg ha, if_neg ha]
  by_cases c1 : mnF nc 1 (wdL2 L a) = -1
  · rw [if_pos c1]
    exact pj_bad hL hb hc ha' sp 6 0 0 1023 (by rw [go_none 0 _ sl (fun i hi => by rw [t0 i hi]; exact c1)])
  rw [if_neg c1]
  have hg := go_alike (nc := nc) 0 (wdL2 L a) sl 1 t0 c1
  obtain ⟨n1, n2, n3, n4⟩ := cst_next hL hb hc ha' 1023 0
  rw [hg] at n3
  have n3 := n3 (show ¬ (1023 : Int32) = 0 by decide)
  rw [pj_word hL hb hc ha', hg]
  refine resA_tr n2 ?_
  unfold seqA tokA fpA
  by_cases hb1 : L.length < weL L a + 1
  · rw [if_pos hb1, if_pos rfl, if_pos hb1]
    exact (pj_end n3 hb1 sp 5 1 1023).2 ed_none.2.1 0
  rw [if_neg hb1, if_neg hb1]
  by_cases c2 : mnF nc 26995 (wdL2 L (weL L a + 1)) = -1
  · rw [if_pos c2]
    exact pj_bad hL hb n3 (by omega) sp 5 1 0 1023 (by rw [go_none 1 _ _ (fun i hi => by rw [t1 i hi]; exact c2)])
  rw [if_neg c2]
  have hg2 := go_alike (nc := nc) 1 (wdL2 L (weL L a + 1)) (slU 1 (mnF nc 1 (wdL2 L a)) sl) 26995 t1 c2
  obtain ⟨p1, p2, p3, p4⟩ := cst_next hL hb n3 (show weL L a + 1 ≤ L.length by omega) 1023 1
  rw [hg2] at p3
  have p3 := p3 (show ¬ (1023 : Int32) = 0 by decide)
  rw [pj_word hL hb n3 (by omega), hg2]
  refine resA_tr p2 ?_
  exact pj_rest hN hK h hL hb sp p3
end PARSE2
