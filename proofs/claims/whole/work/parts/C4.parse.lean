-- reading a sentence: the program's side against a plain reader
def tokA (L : List Nat) (nc : Nat → Int64) (t : Int64) (a : Nat) : Int32 := if L.length < a then -1 else mnF nc t (wdL2 L a)
def fpA (L : List Nat) (a : Nat) : Nat := if L.length < a then L.length else a
def slU (t : Int64) (m : Int32) (sl : Nat → Int32) : Nat → Int32 := if 1 ≤ t ∧ t ≤ 4 then upd sl t.toInt32.toNatClampNeg m else sl
def seqA (L : List Nat) (nc : Nat → Int64) : List Int64 → Nat → (Nat → Int32) → Nat ⊕ (Nat × (Nat → Int32))
  | [], a, sl => .inr (a, sl)
  | t :: ts, a, sl => if tokA L nc t a = -1 then .inl (fpA L a) else seqA L nc ts (weL L a + 1) (slU t (tokA L nc t a) sl)
def endA (L : List Nat) (r : Nat ⊕ (Nat × (Nat → Int32))) : Nat ⊕ (Nat → Int32) := match r with
  | .inl f => .inl f
  | .inr q => if L.length < q.1 then .inr q.2 else .inl q.1
/-- what holds of the reader's state at a word -/
def cst (L : List Nat) (nc : Nat → Int64) (s : SS) (a : Nat) (sl : Nat → Int32) : Prop := s.1 = nc ∧ (∀ j, j < L.length → s.2.1 j = nI (L.getD j 0)) ∧ sLe s = L.length ∧ sWs s = a ∧ s.2.2.2.1 = sl ∧ sFp s = -1
/-- what reading leaves -/
def kpS (s t : SS) : Prop := t.1 = s.1 ∧ t.2.1 = s.2.1 ∧ t.2.2.1 = s.2.2.1 ∧ t.2.2.2.2.1 = s.2.2.2.2.1 ∧ t.2.2.2.2.2.1 = s.2.2.2.2.2.1
def sPr (s : SS) : Int32 := s.2.2.2.2.2.2.2.1
def codeA (k : Nat) (sl : Nat → Int32) (sp : Int32) : Int32 := ofF (nI k) (sl 1) (sl 2) (sl 3) (sl 4) sp
/-- how reading ends -/
def resA (s : SS) (k : Nat) (sp : Int32) (o : Nat ⊕ (Nat → Int32)) (r : Bool × SS) : Prop := kpS s r.2 ∧ match o with
  | .inl f => r.1 = false ∧ sFp r.2 = nI f
  | .inr sl => r.1 = true ∧ sFp r.2 = -1 ∧ sPr r.2 = codeA k sl sp
theorem kpS_tr {s t u : SS} (h1 : kpS s t) (h2 : kpS t u) : kpS s u := ⟨h2.1.trans h1.1, h2.2.1.trans h1.2.1, h2.2.2.1.trans h1.2.2.1, h2.2.2.2.1.trans h1.2.2.2.1, h2.2.2.2.2.trans h1.2.2.2.2⟩
theorem resA_tr {s t : SS} {k : Nat} {sp : Int32} {o : Nat ⊕ (Nat → Int32)} {r : Bool × SS} (h : kpS s t) (h2 : resA t k sp o r) : resA s k sp o r := ⟨kpS_tr h h2.1, h2.2⟩
section PARSE
variable {L : List Nat} {nc : Nat → Int64}
/-- a word is read -/
theorem cst_next (hL : L.length ≤ 60) (hb : ∀ b ∈ L, 32 ≤ b ∧ b ≤ 126) {s : SS} {a : Nat} {sl : Nat → Int32} (h : cst L nc s a sl) (ha : a ≤ L.length) (forms : Int32) (j : Nat) : pgF forms j s = goF nc forms j (wdL2 L a) sl ∧ kpS s (pnS forms j s) ∧ (¬ (goF nc forms j (wdL2 L a) sl).1 = 0 → cst L nc (pnS forms j s) (weL L a + 1) (goF nc forms j (wdL2 L a) sl).2) ∧ ((goF nc forms j (wdL2 L a) sl).1 = 0 → sFp (pnS forms j s) = nI a) := by
  obtain ⟨h1, h2, h3, h4, h5, h6⟩ := h
  obtain ⟨w1, w2⟩ := rwW_eq h2 hb ha
  have hw : rdW s = wdL2 L a := by
    unfold rdW
    rw [h4, h3]
    exact w1
  have hg : pgF forms j s = goF nc forms j (wdL2 L a) sl := by
    unfold pgF
    rw [hw, h1, h5]
  have hwe : rwE s.2.1 (sWs s) (sLe s) = weL L a := by
    rw [h4, h3]
    exact w2
  refine ⟨hg, ?_, fun h0 => ?_, fun h0 => ?_⟩
  · unfold pnS
    rw [hg]
    split <;> exact ⟨rfl, rfl, rfl, rfl, rfl⟩
  · unfold pnS
    rw [hg, if_neg h0]
    refine ⟨h1, h2, h3, ?_, rfl, h6⟩
    show rwE s.2.1 (sWs s) (sLe s) + 1 = _
    rw [hwe]
  · unfold pnS
    rw [hg, if_pos h0]
    show nI (sWs (rwS s)) = nI a
    rw [← h4]
    rfl
/-- no form is left: the place of the word -/
theorem pj_stop (sp : Int32) (m j : Nat) (forms : Int32) (t : SS) (f : Nat) (hf : f < 2 ^ 31) (h : sFp t = nI f) : pjF sp m j forms t = (false, t) := by
  cases m with
  | zero => rfl
  | succ m =>
    unfold pjF
    rw [if_pos (by rw [h]; exact nI_m1 hf)]
theorem pj_word (hL : L.length ≤ 60) (hb : ∀ b ∈ L, 32 ≤ b ∧ b ≤ 126) {s : SS} {a : Nat} {sl : Nat → Int32} (h : cst L nc s a sl) (ha : a ≤ L.length) (sp : Int32) (m j : Nat) (forms : Int32) : pjF sp (m + 1) j forms s = pjF sp m (j + 1) (goF nc forms j (wdL2 L a) sl).1 (pnS forms j s) := by
  have h9 := (cst_next hL hb h ha forms j).1
  obtain ⟨h1, h2, h3, h4, h5, h6⟩ := h
  show (if ¬ sFp s = -1 then (false, s) else if sLe s < sWs s then edF forms j sp s else pjF sp m (j + 1) (pgF forms j s).1 (pnS forms j s)) = _
  rw [if_neg (fun q => q h6), if_neg (by rw [h3, h4]; omega), h9]
theorem pj_bad (hL : L.length ≤ 60) (hb : ∀ b ∈ L, 32 ≤ b ∧ b ≤ 126) {s : SS} {a : Nat} {sl : Nat → Int32} (h : cst L nc s a sl) (ha : a ≤ L.length) (sp : Int32) (m j k : Nat) (forms : Int32) (h0 : (goF nc forms j (wdL2 L a) sl).1 = 0) : resA s k sp (.inl a) (pjF sp (m + 1) j forms s) := by
  obtain ⟨_, n2, _, n4⟩ := cst_next hL hb h ha forms j
  rw [pj_word hL hb h ha, pj_stop _ _ _ _ _ a (by omega) (n4 h0)]
  exact ⟨n2, rfl, n4 h0⟩
/-- the line has ended -/
theorem pj_end {s : SS} {a : Nat} {sl : Nat → Int32} (h : cst L nc s a sl) (ha : L.length < a) (sp : Int32) (m j : Nat) (forms : Int32) : (∀ k, (segF id 10 0).find? (edQ forms j) = some k → resA s k sp (.inr sl) (pjF sp (m + 1) j forms s)) ∧ ((segF id 10 0).find? (edQ forms j) = none → ∀ k, resA s k sp (.inl L.length) (pjF sp (m + 1) j forms s)) := by
  obtain ⟨h1, h2, h3, h4, h5, h6⟩ := h
  have e : pjF sp (m + 1) j forms s = edF forms j sp s := by
    show (if ¬ sFp s = -1 then (false, s) else if sLe s < sWs s then edF forms j sp s else _) = _
    rw [if_neg (fun q => q h6), if_pos (by rw [h3, h4]; exact ha)]
  rw [e]
  unfold edF
  constructor
  · intro k hk
    rw [hk]
    refine ⟨⟨rfl, rfl, rfl, rfl, rfl⟩, rfl, h6, ?_⟩
    show ofF (nI k) (s.2.2.2.1 1) (s.2.2.2.1 2) (s.2.2.2.1 3) (s.2.2.2.1 4) sp = _
    rw [h5]
    rfl
  · intro hn k
    rw [hn]
    refine ⟨⟨rfl, rfl, rfl, rfl, rfl⟩, rfl, ?_⟩
    show nI (sLe s) = nI L.length
    rw [h3]
theorem goS_off {nm : Nat → Int64} {forms : Int32} {j k : Nat} {w : Int64} {st : Int32 × (Nat → Int32)} (h : bitQ forms k = false) : goS nm forms j w st k = st := if_pos h
theorem goS_no {nm : Nat → Int64} {forms : Int32} {j k : Nat} {w : Int64} {st : Int32 × (Nat → Int32)} (h : bitQ forms k = true) (hm : mnF nm (fmF (7 * k + j)) w = -1) : goS nm forms j w st k = (st.1 &&& ((1 <<< (nI k &&& 31)) ^^^ (-1)), st.2) := by
  unfold goS
  rw [if_neg (by rw [h]; exact Bool.noConfusion), if_pos hm]
theorem goS_go {nm : Nat → Int64} {forms : Int32} {j k : Nat} {w : Int64} {st : Int32 × (Nat → Int32)} (h : bitQ forms k = true) (hm : ¬ mnF nm (fmF (7 * k + j)) w = -1) : goS nm forms j w st k = (st.1, slU (fmF (7 * k + j)) (mnF nm (fmF (7 * k + j)) w) st.2) := by
  unfold goS slU
  rw [if_neg (by rw [h]; exact Bool.noConfusion), if_neg hm]
  split <;> rfl
theorem seg10 : segF id 10 0 = [0, 1, 2, 3, 4, 5, 6, 7, 8, 9] := rfl
/-- one form alone -/
theorem go_one (nm : Nat → Int64) (j : Nat) (w : Int64) (sl : Nat → Int32) : ∀ k, k < 10 → goF nm (nI (2 ^ k)) j w sl = if mnF nm (fmF (7 * k + j)) w = -1 then (0, sl) else (nI (2 ^ k), slU (fmF (7 * k + j)) (mnF nm (fmF (7 * k + j)) w) sl) := by
  intro k hk
  have off : ∀ i, i < 10 → i ≠ k → ∀ st, goS nm (nI (2 ^ k)) j w st i = st := by
    intro i hi hne st
    refine goS_off ?_
    have tab : ∀ k, k < 10 → ∀ i, i < 10 → i ≠ k → bitQ (nI (2 ^ k)) i = false := by decide +kernel
    exact tab k hk i hi hne
  have on : bitQ (nI (2 ^ k)) k = true := by
    have tab : ∀ k, k < 10 → bitQ (nI (2 ^ k)) k = true := by decide +kernel
    exact tab k hk
  have clr : nI (2 ^ k) &&& ((1 <<< (nI k &&& 31)) ^^^ (-1)) = 0 := by
    have tab : ∀ k, k < 10 → nI (2 ^ k) &&& ((1 <<< (nI k &&& 31)) ^^^ (-1)) = 0 := by decide +kernel
    exact tab k hk
  have key : ∀ (m i : Nat) (st : Int32 × (Nat → Int32)), i + m = 10 → (segF id m i).foldl (goS nm (nI (2 ^ k)) j w) st = if i ≤ k then goS nm (nI (2 ^ k)) j w st k else st := by
    intro m
    induction m with
    | zero =>
      intro i st h
      rw [if_neg (by omega)]
      rfl
    | succ m ih =>
      intro i st h
      show (segF id m (i + 1)).foldl _ (goS nm (nI (2 ^ k)) j w st i) = _
      rw [ih (i + 1) _ (by omega)]
      by_cases e : i = k
      · rw [if_neg (by omega), if_pos (by omega), e]
      · rw [off i (by omega) e]
        by_cases h2 : i ≤ k
        · rw [if_pos (by omega), if_pos h2]
        · rw [if_neg (by omega), if_neg h2]
  unfold goF
  rw [key 10 0 _ (by omega), if_pos (Nat.zero_le _)]
  by_cases hm : mnF nm (fmF (7 * k + j)) w = -1
  · rw [if_pos hm, goS_no on hm, clr]
  · rw [if_neg hm, goS_go on hm]
theorem fm_6 : ∀ k, k < 10 → fmF (7 * k + 6) = 0 := by decide +kernel
theorem tokL_0 {k m j : Nat} (h : fmF (7 * k + j) = 0) : tokL k (m + 1) j = [] := by
  unfold tokL
  rw [List.range'_succ, List.map_cons, List.takeWhile_cons, decide_eq_false (fun q => q h)]
  rfl
theorem tokL_s {k m j : Nat} (h : ¬ fmF (7 * k + j) = 0) : tokL k (m + 1) j = fmF (7 * k + j) :: tokL k m (j + 1) := by
  unfold tokL
  rw [List.range'_succ, List.map_cons, List.takeWhile_cons, decide_eq_true h]
  rfl
theorem ed_one : ∀ k, k < 10 → ∀ j, j < 7 → (segF id 10 0).find? (edQ (nI (2 ^ k)) j) = if fmF (7 * k + j) = 0 then some k else none := by decide +kernel
theorem mn_end (nm : Nat → Int64) (w : Int64) : mnF nm 0 w = -1 := by
  unfold mnF
  rw [if_pos (Or.inl rfl)]
/-- one form alone, to its end -/
theorem pj_one (hL : L.length ≤ 60) (hb : ∀ b ∈ L, 32 ≤ b ∧ b ≤ 126) (sp : Int32) {k : Nat} (hk : k < 10) : ∀ (m j : Nat) (s : SS) (a : Nat) (sl : Nat → Int32), j + (m + 1) = 7 → cst L nc s a sl → resA s k sp (endA L (seqA L nc (tokL k (m + 1) j) a sl)) (pjF sp (m + 1) j (nI (2 ^ k)) s) := by
  intro m
  induction m with
  | zero =>
    intro j s a sl hj h
    have e0 : fmF (7 * k + j) = 0 := by
      rw [show j = 6 by omega]
      exact fm_6 k hk
    rw [tokL_0 e0]
    show resA s k sp (if L.length < a then .inr sl else .inl a) _
    by_cases ha : L.length < a
    · rw [if_pos ha]
      exact (pj_end h ha sp 0 j (nI (2 ^ k))).1 k (by rw [ed_one k hk j (by omega), if_pos e0])
    · rw [if_neg ha]
      refine pj_bad hL hb h (by omega) sp 0 j k _ ?_
      rw [go_one nc j _ sl k hk, e0, if_pos (mn_end nc _)]
  | succ m ih =>
    intro j s a sl hj h
    by_cases e0 : fmF (7 * k + j) = 0
    · rw [tokL_0 e0]
      show resA s k sp (if L.length < a then .inr sl else .inl a) _
      by_cases ha : L.length < a
      · rw [if_pos ha]
        exact (pj_end h ha sp (m + 1) j (nI (2 ^ k))).1 k (by rw [ed_one k hk j (by omega), if_pos e0])
      · rw [if_neg ha]
        refine pj_bad hL hb h (by omega) sp (m + 1) j k _ ?_
        rw [go_one nc j _ sl k hk, e0, if_pos (mn_end nc _)]
    · rw [tokL_s e0]
      unfold seqA tokA fpA
      by_cases ha : L.length < a
      · rw [if_pos ha, if_pos rfl, if_pos ha]
        exact (pj_end h ha sp (m + 1) j (nI (2 ^ k))).2 (by rw [ed_one k hk j (by omega), if_neg e0]) k
      · rw [if_neg ha, if_neg ha]
        have hg := go_one nc j (wdL2 L a) sl k hk
        by_cases hm : mnF nc (fmF (7 * k + j)) (wdL2 L a) = -1
        · rw [if_pos hm] at hg ⊢
          exact pj_bad hL hb h (by omega) sp (m + 1) j k _ (by rw [hg])
        · rw [if_neg hm] at hg ⊢
          obtain ⟨n1, n2, n3, n4⟩ := cst_next hL hb h (show a ≤ L.length by omega) (nI (2 ^ k)) j
          rw [hg] at n3
          have n3 := n3 (by
            have tab : ∀ k, k < 10 → ¬ nI (2 ^ k) = 0 := by decide +kernel
            exact tab k hk)
          rw [pj_word hL hb h (by omega), hg]
          exact resA_tr n2 (ih (j + 1) _ _ _ (by omega) n3)
end PARSE
