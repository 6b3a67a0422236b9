-- print: both sides show the same
theorem rv_byte : ∀ (rs : List Nat) (j : Nat), (∀ b ∈ rs, b < 256) → rvF rs / 256 ^ j % 256 = rs.getD j 0
  | [], j, _ => by
    show 0 / _ % _ = 0
    rw [Nat.zero_div]
  | b :: rs, 0, h => by
    have := h b List.mem_cons_self
    show (rvF rs * 256 + b) / 256 ^ 0 % 256 = b
    rw [Nat.pow_zero, Nat.div_one]
    omega
  | b :: rs, j + 1, h => by
    have := h b List.mem_cons_self
    have ih := rv_byte rs j (fun c hc => h c (List.mem_cons_of_mem _ hc))
    show (rvF rs * 256 + b) / 256 ^ (j + 1) % 256 = rs.getD j 0
    rw [Nat.pow_succ, Nat.mul_comm (256 ^ j) 256, ← Nat.div_div_eq_div_mul, show (rvF rs * 256 + b) / 256 = rvF rs by omega]
    exact ih
theorem nz_take (w : Int64) (rs : List Nat) (hr : ∀ b ∈ rs, 0 < b) : ∀ m, (∀ j, j < m → bN w j = rs.getD j 0) → nzL w m = (rs.take m).reverse
  | 0, _ => by rw [List.take_zero]; rfl
  | m + 1, h => by
    have ih := nz_take w rs hr m (fun j hj => h j (by omega))
    have hm := h m (by omega)
    show (if bN w m = 0 then nzL w m else bN w m :: nzL w m) = _
    by_cases hl : m < rs.length
    · have hg : rs.getD m 0 = rs[m] := by rw [List.getD_eq_getElem?_getD, List.getElem?_eq_getElem hl]; rfl
      have hp := hr rs[m] (List.getElem_mem hl)
      rw [if_neg (by rw [hm, hg]; omega), ih, List.take_succ_eq_append_getElem hl, List.reverse_append, hm, hg]
      rfl
    · have hg : rs.getD m 0 = 0 := by rw [List.getD_eq_getElem?_getD, List.getElem?_eq_none (by omega)]; rfl
      rw [if_pos (by rw [hm, hg]), ih, List.take_of_length_le (by omega), List.take_of_length_le (by omega)]
/-- the bytes of a word's number are the word -/
theorem nz_word {bs : List Nat} (hb : ∀ b ∈ bs, 0 < b ∧ b < 256) (hl : bs.length ≤ 8) : nzL (lN (vF bs 0)) 8 = bs := by
  have hr : vF bs 0 = rvF bs.reverse := by
    have := vF_rev bs.reverse
    rw [List.reverse_reverse] at this
    exact this
  have hb' : ∀ b ∈ bs.reverse, 0 < b ∧ b < 256 := fun b q => hb b (List.mem_reverse.mp q)
  have hlt : rvF bs.reverse < 2 ^ 64 := Nat.lt_of_lt_of_le (rvF_lt bs.reverse (fun b q => (hb' b q).2)) (pow_le8 (by rw [List.length_reverse]; exact hl))
  have := nz_take (lN (vF bs 0)) bs.reverse (fun b q => (hb' b q).1) 8 (fun j _ => by
    unfold bN
    rw [hr, wb_tn hlt, show (2 : Nat) ^ (8 * j) = 256 ^ j by rw [Nat.pow_mul]]
    exact rv_byte _ _ (fun b q => (hb' b q).2))
  rw [this, List.take_of_length_le (by rw [List.length_reverse]; exact hl), List.reverse_reverse]
/-- the letters of a word put behind a text: a blank first, but at the beginning -/
def sepL (n : Nat) (bs : List Nat) : List Nat := if n = 0 then bs else 32 :: bs
theorem pwB_N (w : Int64) : ∀ (m : Nat) (s : SS), m ≤ 8 → s.2.2.2.2.2.1 + (nzL w m).length ≤ 60 → (byL w m).foldl pwB s = (s.1, s.2.1, putL s.2.2.1 s.2.2.2.2.2.1 (nzL w m), s.2.2.2.1, s.2.2.2.2.1, s.2.2.2.2.2.1 + (nzL w m).length, s.2.2.2.2.2.2)
  | 0, s, _, _ => rfl
  | m + 1, s, hm, hl => by
    have hb := bN_lt w m
    show (byL w m).foldl pwB (pwB s (byF w (shN (m + 1)))) = _
    rw [byF_N w m (by omega)]
    by_cases h0 : bN w m = 0
    · have e : nzL w (m + 1) = nzL w m := by
        show (if bN w m = 0 then _ else _) = _
        rw [if_pos h0]
      have e2 : pwB s (nI (bN w m)) = s := if_pos (by rw [h0]; rfl)
      rw [e] at hl ⊢
      rw [e2, pwB_N w m s (by omega) hl]
    · have e : nzL w (m + 1) = bN w m :: nzL w m := by
        show (if bN w m = 0 then _ else _) = _
        rw [if_neg h0]
      rw [e, List.length_cons] at hl
      have e2 : pwB s (nI (bN w m)) = (s.1, s.2.1, upd s.2.2.1 s.2.2.2.2.2.1 (nI (bN w m)), s.2.2.2.1, s.2.2.2.2.1, s.2.2.2.2.2.1 + 1, s.2.2.2.2.2.2) := by
        unfold pwB
        rw [if_neg (nI_ne0 (by omega) (by omega))]
        exact if_pos (by omega)
      rw [e2, pwB_N w m _ (by omega) (by show s.2.2.2.2.2.1 + 1 + _ ≤ 60; omega), e]
      show (s.1, s.2.1, putL (upd s.2.2.1 s.2.2.2.2.2.1 (nI (bN w m))) (s.2.2.2.2.2.1 + 1) (nzL w m), s.2.2.2.1, s.2.2.2.2.1, s.2.2.2.2.2.1 + 1 + (nzL w m).length, s.2.2.2.2.2.2) = (s.1, s.2.1, putL (upd s.2.2.1 s.2.2.2.2.2.1 (nI (bN w m))) (s.2.2.2.2.2.1 + 1) (nzL w m), s.2.2.2.1, s.2.2.2.2.1, s.2.2.2.2.2.1 + ((nzL w m).length + 1), s.2.2.2.2.2.2)
      rw [show s.2.2.2.2.2.1 + 1 + (nzL w m).length = s.2.2.2.2.2.1 + ((nzL w m).length + 1) by omega]
theorem pwF_N (w : Int64) (s : SS) (hl : s.2.2.2.2.2.1 + 1 + (nzL w 8).length ≤ 60) : pwF w s = (s.1, s.2.1, putL s.2.2.1 s.2.2.2.2.2.1 (sepL s.2.2.2.2.2.1 (nzL w 8)), s.2.2.2.1, s.2.2.2.2.1, s.2.2.2.2.2.1 + (sepL s.2.2.2.2.2.1 (nzL w 8)).length, s.2.2.2.2.2.2) := by
  unfold pwF sepL
  by_cases h0 : s.2.2.2.2.2.1 = 0
  · rw [if_neg (by omega), if_pos h0]
    exact pwB_N w 8 s (Nat.le_refl _) (by omega)
  · have e2 : putF 32 s = (s.1, s.2.1, upd s.2.2.1 s.2.2.2.2.2.1 (nI 32), s.2.2.2.1, s.2.2.2.2.1, s.2.2.2.2.2.1 + 1, s.2.2.2.2.2.2) := if_pos (by omega)
    rw [if_pos (by omega), if_neg h0, e2, pwB_N w 8 _ (Nat.le_refl _) hl, List.length_cons]
    show (s.1, s.2.1, putL (upd s.2.2.1 s.2.2.2.2.2.1 (nI 32)) (s.2.2.2.2.2.1 + 1) (nzL w 8), s.2.2.2.1, s.2.2.2.2.1, s.2.2.2.2.2.1 + 1 + (nzL w 8).length, s.2.2.2.2.2.2) = (s.1, s.2.1, putL (upd s.2.2.1 s.2.2.2.2.2.1 (nI 32)) (s.2.2.2.2.2.1 + 1) (nzL w 8), s.2.2.2.1, s.2.2.2.2.1, s.2.2.2.2.2.1 + ((nzL w 8).length + 1), s.2.2.2.2.2.2)
    rw [show s.2.2.2.2.2.1 + 1 + (nzL w 8).length = s.2.2.2.2.2.1 + ((nzL w 8).length + 1) by omega]
theorem shwF_N (w : Int64) (s : SH) (hb : ∀ b ∈ nzL w 8, b < 128) : shwF s w = (putL s.1 s.2 (sepL s.2 (nzL w 8)), s.2 + (sepL s.2 (nzL w 8)).length) := by
  unfold shwF shB sepL
  by_cases h0 : s.2 = 0
  · rw [if_pos h0, if_pos h0]
    exact shBw_N w 8 s (Nat.le_refl _) hb
  · have e2 : shP (vp_nar .byte 32) s = (upd s.1 s.2 (nI 32), s.2 + 1) := by
      have : vp_nar .byte 32 = nI 32 := by decide
      rw [this]
      rfl
    rw [if_neg h0, if_neg h0, e2, shBw_N w 8 _ (Nat.le_refl _) hb, List.length_cons]
    show (putL (upd s.1 s.2 (nI 32)) (s.2 + 1) (nzL w 8), s.2 + 1 + (nzL w 8).length) = (putL (upd s.1 s.2 (nI 32)) (s.2 + 1) (nzL w 8), s.2 + ((nzL w 8).length + 1))
    rw [show s.2 + 1 + (nzL w 8).length = s.2 + ((nzL w 8).length + 1) by omega]
/-- the texts of both sides -/
def txOK (T : List Nat) (n : Nat) (f : Nat → Int32) : Prop := n = T.length ∧ T.length ≤ 60 ∧ ∀ j, j < T.length → f j = nI (T.getD j 0)
theorem tx_put {T bs : List Nat} {n : Nat} {f : Nat → Int32} (h : txOK T n f) (hl : T.length + bs.length ≤ 60) : txOK (T ++ bs) (n + bs.length) (putL f n bs) := by
  obtain ⟨h1, h2, h4⟩ := h
  refine ⟨by rw [List.length_append, h1], by rw [List.length_append]; exact hl, fun j hj => ?_⟩
  rw [List.length_append] at hj
  rw [putL_at]
  by_cases hjL : j < T.length
  · rw [if_neg (by omega), getD_app hjL]
    exact h4 j hjL
  · rw [if_pos (by omega), List.getD_eq_getElem?_getD, List.getD_eq_getElem?_getD, List.getElem?_append_right (by omega), h1]
def wlN (W : List Int64) : Nat := (W.map (fun w => (nzL w 8).length + 1)).sum
/-- words put behind each other, on both sides -/
theorem words_same : ∀ (W : List Int64) (T : List Nat) (s : SS) (t : SH), txOK T s.2.2.2.2.2.1 s.2.2.1 → txOK T t.2 t.1 → (∀ w ∈ W, ∀ b ∈ nzL w 8, b < 128) → T.length + wlN W ≤ 60 → ∃ T' f, W.foldl (fun s w => pwF w s) s = (s.1, s.2.1, f, s.2.2.2.1, s.2.2.2.2.1, T'.length, s.2.2.2.2.2.2) ∧ txOK T' T'.length f ∧ txOK T' (W.foldl shwF t).2 (W.foldl shwF t).1
  | [], T, s, t, hs, ht, _, _ => ⟨T, s.2.2.1, by rw [← hs.1]; rfl, by rw [← hs.1]; exact hs, ht⟩
  | w :: W, T, s, t, hs, ht, hb, hl => by
    have hlw : wlN (w :: W) = (nzL w 8).length + 1 + wlN W := by
      unfold wlN
      rw [List.map_cons, List.sum_cons]
    rw [hlw] at hl
    have hsl : (sepL T.length (nzL w 8)).length ≤ (nzL w 8).length + 1 := by
      unfold sepL
      split
      · omega
      · rw [List.length_cons]; omega
    have e1 := pwF_N w s (by rw [hs.1]; omega)
    have e2 := shwF_N w t (hb w List.mem_cons_self)
    have h1 : txOK (T ++ sepL T.length (nzL w 8)) (pwF w s).2.2.2.2.2.1 (pwF w s).2.2.1 := by
      rw [e1]
      show txOK _ (s.2.2.2.2.2.1 + (sepL s.2.2.2.2.2.1 (nzL w 8)).length) (putL s.2.2.1 s.2.2.2.2.2.1 (sepL s.2.2.2.2.2.1 (nzL w 8)))
      have := tx_put (bs := sepL T.length (nzL w 8)) hs (by omega)
      rw [hs.1] at this ⊢
      exact this
    have h2 : txOK (T ++ sepL T.length (nzL w 8)) (shwF t w).2 (shwF t w).1 := by
      rw [e2]
      have := tx_put (bs := sepL T.length (nzL w 8)) ht (by omega)
      rw [ht.1] at this ⊢
      exact this
    obtain ⟨T', f, i1, i2, i3⟩ := words_same W (T ++ sepL T.length (nzL w 8)) (pwF w s) (shwF t w) h1 h2 (fun v hv => hb v (List.mem_cons_of_mem _ hv)) (by rw [List.length_append]; omega)
    refine ⟨T', f, ?_, i2, i3⟩
    show W.foldl (fun s w => pwF w s) (pwF w s) = _
    rw [i1, e1]
-- the forms
def tokL (k m j : Nat) : List Int64 := ((List.range' j m).map (fun j => fmF (7 * k + j))).takeWhile (fun t => decide (¬ t = 0))
theorem pwF_kp (w : Int64) (s : SS) : (pwF w s).1 = s.1 ∧ (pwF w s).2.2.2.1 = s.2.2.2.1 := by
  have hput : ∀ (c : Int32) (s : SS), (putF c s).1 = s.1 ∧ (putF c s).2.2.2.1 = s.2.2.2.1 := by
    intro c s
    unfold putF
    split <;> exact ⟨rfl, rfl⟩
  have hb : ∀ (l : List Int32) (s : SS), (l.foldl pwB s).1 = s.1 ∧ (l.foldl pwB s).2.2.2.1 = s.2.2.2.1 := by
    intro l
    induction l with
    | nil => intro s; exact ⟨rfl, rfl⟩
    | cons b l ih =>
      intro s
      have h1 := ih (pwB s b)
      have h2 : (pwB s b).1 = s.1 ∧ (pwB s b).2.2.2.1 = s.2.2.2.1 := by
        unfold pwB
        split
        · exact ⟨rfl, rfl⟩
        · exact hput b s
      exact ⟨h1.1.trans h2.1, h1.2.trans h2.2⟩
  unfold pwF
  have h1 := hb (byL w 8) (if 0 < s.2.2.2.2.2.1 then putF 32 s else s)
  have h2 : (if 0 < s.2.2.2.2.2.1 then putF 32 s else s).1 = s.1 ∧ (if 0 < s.2.2.2.2.2.1 then putF 32 s else s).2.2.2.1 = s.2.2.2.1 := by
    split
    · exact hput 32 s
    · exact ⟨rfl, rfl⟩
  exact ⟨h1.1.trans h2.1, h1.2.trans h2.2⟩
theorem shW_keep (w t : Int64) (s : SS) : shW (pwF w s) t = shW s t := by
  unfold shW
  rw [(pwF_kp w s).1, (pwF_kp w s).2]
theorem shL_tok (k : Nat) : ∀ (m j : Nat) (s : SS), shL k m j s = ((tokL k m j).map (shW s)).foldl (fun s w => pwF w s) s
  | 0, _, _ => rfl
  | m + 1, j, s => by
    unfold shL tokL
    rw [List.range'_succ, List.map_cons, List.takeWhile_cons]
    by_cases h : fmF (7 * k + j) = 0
    · rw [if_pos h, decide_eq_false (fun q => q h)]
      rfl
    · rw [if_neg h, decide_eq_true h]
      show shL k m (j + 1) _ = ((fmF (7 * k + j) :: tokL k m (j + 1)).map (shW s)).foldl _ s
      rw [shL_tok k m (j + 1), List.map_cons, List.foldl_cons]
      congr 1
      refine List.map_congr_left fun t _ => ?_
      exact shW_keep _ t s
def tokC (t : Int64) : Nat := if t < 4 then 7 else if t = 4 then 2 else (nzL t 8).length + 1
theorem tok_len : ∀ k, k < 10 → ((tokL k 7 0).map tokC).sum ≤ 53 := by decide +kernel
theorem tok_by : ∀ k, k < 10 → ∀ t ∈ tokL k 7 0, (t = 1 ∨ t = 2 ∨ t = 3) ∨ t = 4 ∨ (¬ t < 4 ∧ ¬ t = 4 ∧ ∀ b ∈ nzL t 8, b < 128) := by decide +kernel
theorem tok_yz : ∀ k, k < 10 → ((2 ∈ tokL k 7 0) ↔ ¬ k = 6) ∧ ((3 ∈ tokL k 7 0) ↔ (k = 5 ∨ k = 7 ∨ k = 8)) := by decide +kernel
section PRINT
variable {N K : Nat} {B : Nat → Option (List Nat)} {nc nr : Nat → Int64}
/-- a named thing: its letters are known -/
theorem nm_word (hN : 0 < N ∧ N ≤ 5) (h : nmOK N K B nc nr) {x : Nat} (hx : isT N K x) (hn : ¬ nc x = 0) : ∃ bs, isWordL bs ∧ nc x = lN (vF bs 0) ∧ nzL (nc x) 8 = bs ∧ nr (j5 N (ixN N x)) = nc x := by
  obtain ⟨i, hi, rfl⟩ := hx
  obtain ⟨a1, a2, a3⟩ := h.1 i hi
  rw [ixN_t hN]
  cases hB : B i with
  | none =>
    rw [hB] at a1
    exact absurd a1 hn
  | some bs =>
    rw [hB] at a1 a2
    have hw := (a3 bs hB).1
    refine ⟨bs, hw, a1, ?_, by rw [a1, a2]⟩
    rw [a1]
    exact nz_word (fun b q => by have := isLt_b hw.1 b q; omega) (by have := hw.2.2; omega)
theorem dig_word : ∀ d, d < 10 → ((48 : Int32) + nI d).toInt64 = lN (48 + d) ∧ nzL (lN (48 + d)) 8 = [48 + d] := by decide +kernel
theorem sp_word : ∀ s : Int32, s = 0 ∨ s = 1 → ((48 : Int32) + s).toInt64 = lN (48 + s.toNatClampNeg) ∧ nzL (lN (48 + s.toNatClampNeg)) 8 = [48 + s.toNatClampNeg] ∧ (48 + s.toNatClampNeg) < 128 ∧ 48 + s = nI (48 + s.toNatClampNeg) := by
  rintro s (rfl | rfl) <;> decide +kernel
theorem says_word : nzL 1935767923 8 = [115, 97, 121, 115] := by decide +kernel
/-- the words of a clue's sentence without its speaker, on both sides -/
theorem same_words (hN : 0 < N ∧ N ≤ 5) (hK : K ≤ 3) (h : nmOK N K B nc nr) {q : Clue} (hq : okQ N K q) (s : SS) (hs : s.1 = nc) (h1 : s.2.2.2.1 1 = nI q.2.1) (h2 : s.2.2.2.1 2 = nI q.2.2.1) (h3 : s.2.2.2.1 3 = nI q.2.2.2.1) (h4 : s.2.2.2.1 4 = nI q.2.2.2.2.1) : (tokL q.1 7 0).map (shW s) = nr (idxF (nI q.2.1)).toNatClampNeg :: 26995 :: prK nr (nI q.1) (nI q.2.2.1) (nI q.2.2.2.1) (nI q.2.2.2.2.1) := by
  have rg := okQ_rng hN hK hq
  obtain ⟨g1, hx, g3, g4, g5, g6⟩ := hq
  have nmv : ∀ v, isT N K v → nc v = nr (idxF (nI v)).toNatClampNeg := by
    intro v hv
    obtain ⟨i, hi, rfl⟩ := hv
    have e : idxF (nI (tAt N i)) = nI (j5 N i) := idx_t hN hK hi
    have hl := j5_lt hN hK hi
    rw [e, nI_clamp (by omega), (h.1 i hi).1, (h.1 i hi).2.1]
  have c1 : shW s 1 = nr (idxF (nI q.2.1)).toNatClampNeg := by
    show s.1 (s.2.2.2.1 1).toNatClampNeg = _
    rw [hs, h1, nI_clamp (by have := rg.2.1; omega)]
    exact nmv _ hx
  have c2 : ¬ q.1 = 6 → shW s 2 = nr (idxF (nI q.2.2.1)).toNatClampNeg := by
    intro k6
    rw [if_neg k6] at g3
    show s.1 (s.2.2.2.1 2).toNatClampNeg = _
    rw [hs, h2, nI_clamp (by have := rg.2.2.1; omega)]
    exact nmv _ g3.1
  have c3 : (q.1 = 5 ∨ q.1 = 7 ∨ q.1 = 8) → shW s 3 = nr (idxF (nI q.2.2.2.1)).toNatClampNeg := by
    intro k3
    rw [if_pos k3] at g4
    show s.1 (s.2.2.2.1 3).toNatClampNeg = _
    rw [hs, h3, nI_clamp (by have := rg.2.2.2.1; omega)]
    exact nmv _ g4.1
  have c4 : shW s 4 = ((48 : Int32) + nI q.2.2.2.2.1).toInt64 := by
    show ((48 : Int32) + s.2.2.2.1 4).toInt64 = _
    rw [h4]
  obtain ⟨k, x, y, z, d, sp⟩ := q
  simp only at g1 c1 c2 c3 c4 ⊢
  have hk : k = 0 ∨ k = 1 ∨ k = 2 ∨ k = 3 ∨ k = 4 ∨ k = 5 ∨ k = 6 ∨ k = 7 ∨ k = 8 ∨ k = 9 := by omega
  have w : ∀ t : Int64, ¬ t = 4 → ¬ t < 4 → shW s t = t := fun t a b => by
    unfold shW
    rw [if_neg a, if_neg b]
  rcases hk with rfl | rfl | rfl | rfl | rfl | rfl | rfl | rfl | rfl | rfl
  · have e : tokL 0 7 0 = [1, 26995, 2] := by decide +kernel
    have p : prK nr (nI 0) (nI y) (nI z) (nI d) = [nr (idxF (nI y)).toNatClampNeg] := by
      unfold prK
      rw [show (nI 0).toInt = 0 by decide]
      rfl
    rw [e, p]
    simp only [List.map_cons, List.map_nil, c1, c2 (by decide), w 26995 (by decide) (by decide)]
  · have e : tokL 1 7 0 = [1, 26995, 7237492, 2] := by decide +kernel
    have p : prK nr (nI 1) (nI y) (nI z) (nI d) = [7237492, nr (idxF (nI y)).toNatClampNeg] := by
      unfold prK
      rw [show (nI 1).toInt = 1 by decide]
      simp
    rw [e, p]
    simp only [List.map_cons, List.map_nil, c1, c2 (by decide), w 26995 (by decide) (by decide), w 7237492 (by decide) (by decide)]
  · have e : tokL 2 7 0 = [1, 26995, 1818584692, 28518, 2] := by decide +kernel
    have p : prK nr (nI 2) (nI y) (nI z) (nI d) = [1818584692, 28518, nr (idxF (nI y)).toNatClampNeg] := by
      unfold prK
      rw [show (nI 2).toInt = 2 by decide]
      simp
    rw [e, p]
    simp only [List.map_cons, List.map_nil, c1, c2 (by decide), w 26995 (by decide) (by decide), w 1818584692 (by decide) (by decide), w 28518 (by decide) (by decide)]
  · have e : tokL 3 7 0 = [1, 26995, 1852143732, 29807, 2] := by decide +kernel
    have p : prK nr (nI 3) (nI y) (nI z) (nI d) = [1852143732, 29807, nr (idxF (nI y)).toNatClampNeg] := by
      unfold prK
      rw [show (nI 3).toInt = 3 by decide]
      simp
    rw [e, p]
    simp only [List.map_cons, List.map_nil, c1, c2 (by decide), w 26995 (by decide) (by decide), w 1852143732 (by decide) (by decide), w 29807 (by decide) (by decide)]
  · have e : tokL 4 7 0 = [1, 26995, 4, 1718775661, 2] := by decide +kernel
    have p : prK nr (nI 4) (nI y) (nI z) (nI d) = [((48 : Int32) + nI d).toInt64, 1718775661, nr (idxF (nI y)).toNatClampNeg] := by
      unfold prK
      rw [show (nI 4).toInt = 4 by decide]
      simp
    rw [e, p]
    simp only [List.map_cons, List.map_nil, c1, c2 (by decide), c4, w 26995 (by decide) (by decide), w 1718775661 (by decide) (by decide)]
  · have e : tokL 5 7 0 = [1, 26995, 27696098611389806, 2, 6385252, 3] := by decide +kernel
    have p : prK nr (nI 5) (nI y) (nI z) (nI d) = [27696098611389806, nr (idxF (nI y)).toNatClampNeg, 6385252, nr (idxF (nI z)).toNatClampNeg] := by
      unfold prK
      rw [show (nI 5).toInt = 5 by decide]
      simp
    rw [e, p]
    simp only [List.map_cons, List.map_nil, c1, c2 (by decide), c3 (by decide), w 26995 (by decide) (by decide), w 27696098611389806 (by decide) (by decide), w 6385252 (by decide) (by decide)]
  · have e : tokL 6 7 0 = [1, 26995, 24948, 4] := by decide +kernel
    have p : prK nr (nI 6) (nI y) (nI z) (nI d) = [24948, ((48 : Int32) + nI d).toInt64] := by
      unfold prK
      rw [show (nI 6).toInt = 6 by decide]
      simp
    rw [e, p]
    simp only [List.map_cons, List.map_nil, c1, c4, w 26995 (by decide) (by decide), w 24948 (by decide) (by decide)]
  · have e : tokL 7 7 0 = [1, 26995, 2, 28530, 3] := by decide +kernel
    have p : prK nr (nI 7) (nI y) (nI z) (nI d) = [nr (idxF (nI y)).toNatClampNeg, 28530, nr (idxF (nI z)).toNatClampNeg] := by
      unfold prK
      rw [show (nI 7).toInt = 7 by decide]
      simp
    rw [e, p]
    simp only [List.map_cons, List.map_nil, c1, c2 (by decide), c3 (by decide), w 26995 (by decide) (by decide), w 28530 (by decide) (by decide)]
  · have e : tokL 8 7 0 = [1, 26995, 111503598970226, 2, 28530, 3] := by decide +kernel
    have p : prK nr (nI 8) (nI y) (nI z) (nI d) = [111503598970226, nr (idxF (nI y)).toNatClampNeg, 28530, nr (idxF (nI z)).toNatClampNeg] := by
      unfold prK
      rw [show (nI 8).toInt = 8 by decide]
      simp
    rw [e, p]
    simp only [List.map_cons, List.map_nil, c1, c2 (by decide), c3 (by decide), w 26995 (by decide) (by decide), w 111503598970226 (by decide) (by decide), w 28530 (by decide) (by decide)]
  · have e : tokL 9 7 0 = [1, 26995, 504363246962, 2, 26990, 4] := by decide +kernel
    have p : prK nr (nI 9) (nI y) (nI z) (nI d) = [504363246962, nr (idxF (nI y)).toNatClampNeg, 26990, ((48 : Int32) + nI d).toInt64] := by
      unfold prK
      rw [show (nI 9).toInt = 9 by decide]
      simp
    rw [e, p]
    simp only [List.map_cons, List.map_nil, c1, c2 (by decide), c4, w 26995 (by decide) (by decide), w 504363246962 (by decide) (by decide), w 26990 (by decide) (by decide)]
end PRINT
-- the whole of print
theorem lack_iff {N K : Nat} {B : Nat → Option (List Nat)} {nc nr : Nat → Int64} (hN : 0 < N ∧ N ≤ 5) (hK : K ≤ 3) (h : nmOK N K B nc nr) {x : Nat} (hx : isT N K x ∨ x = 0) (hlt : x < 40) : lackF nc (nI x) = !namB nr (nI x) := by
  have key : lackF nc (nI x) = true ↔ namB nr (nI x) = false := by
    unfold lackF namB
    rw [decide_eq_true_iff, decide_eq_false_iff_not, nI_clamp (by omega)]
    rcases hx with ⟨i, hi, rfl⟩ | rfl
    · have hg := tAt_ge (N := N) i
      have e : idxF (nI (tAt N i)) = nI (j5 N i) := idx_t hN hK hi
      have hl := j5_lt hN hK hi
      have hz : ¬ nI (tAt N i) = 0 := nI_ne0 (by omega) (by omega)
      rw [e, nI_clamp (by omega), (h.1 i hi).1, (h.1 i hi).2.1]
      constructor
      · rintro ⟨_, q⟩ (z | z)
        · exact hz z
        · exact z q
      · intro q
        exact ⟨hz, Classical.byContradiction fun z => q (Or.inr z)⟩
    · constructor
      · rintro ⟨q, _⟩
        exact absurd nI_0 q
      · intro q
        exact absurd (Or.inl nI_0) q
  cases h1 : namB nr (nI x) with
  | true =>
    cases h2 : lackF nc (nI x) with
    | false => rfl
    | true =>
      have := key.mp h2
      rw [h1] at this
      exact this
  | false => exact key.mpr h1
/-- print: what both sides answer, and the texts behind it -/
theorem same_print {N K : Nat} {B : Nat → Option (List Nat)} {nc nr : Nat → Int64} (hN : 0 < N ∧ N ≤ 5) (hK : K ≤ 3) (h : nmOK N K B nc nr) {q : Clue} (hq : okQ N K q) (s : SS) (hs : s.1 = nc) {cl sh : Nat → Int32} {k : Nat} (hr : rowOK cl k q) : lackQ nc (cdC q) = !prB nr (cl (6 * k + 1)) (cl (6 * k + 2)) (cl (6 * k + 3)) ∧ (lackQ nc (cdC q) = false → ∃ T f, shF q.1 (cdC q) s = (s.1, s.2.1, f, (shS (cdC q) s).2.2.2.1, s.2.2.2.2.1, T.length, s.2.2.2.2.2.2) ∧ txOK T T.length f ∧ txOK T (prT nr cl sh k).2 (prT nr cl sh k).1) := by
  have rg := okQ_rng hN hK hq
  obtain ⟨d1, d2, d3, d4, d5, d6⟩ := cd_dec rg
  obtain ⟨r1, r2, r3, r4, r5, r6⟩ := hr
  have hq' := hq
  obtain ⟨g1, hx, g3, g4, g5, g6⟩ := hq'
  have ty : isT N K q.2.2.1 ∨ q.2.2.1 = 0 := by
    split at g3
    · exact Or.inr g3
    · exact Or.inl g3.1
  have tz : isT N K q.2.2.2.1 ∨ q.2.2.2.1 = 0 := by
    split at g4
    · exact Or.inl g4.1
    · exact Or.inr g4
  have el : lackQ nc (cdC q) = !prB nr (cl (6 * k + 1)) (cl (6 * k + 2)) (cl (6 * k + 3)) := by
    unfold lackQ prB
    rw [d2, d3, d4, r2, r3, r4, lack_iff hN hK h (Or.inl hx) rg.2.1, lack_iff hN hK h ty rg.2.2.1, lack_iff hN hK h tz rg.2.2.2.1]
    cases namB nr (nI q.2.1) <;> cases namB nr (nI q.2.2.1) <;> cases namB nr (nI q.2.2.2.1) <;> rfl
  refine ⟨el, fun hl => ?_⟩
  -- every name is there
  have named : ∀ v, v < 40 → isT N K v → lackF nc (nI v) = false → ∃ bs, isWordL bs ∧ nc v = lN (vF bs 0) ∧ nzL (nc v) 8 = bs ∧ nr (j5 N (ixN N v)) = nc v := by
    intro v hv ht hf
    refine nm_word hN h ht (fun z => ?_)
    have hf := of_decide_eq_false hf
    rw [nI_clamp (by omega)] at hf
    obtain ⟨i, hi, rfl⟩ := ht
    have hg := tAt_ge (N := N) i
    exact hf ⟨nI_ne0 (by omega) (by omega), z⟩
  unfold lackQ at hl
  rw [d2, d3, d4, Bool.or_eq_false_iff, Bool.or_eq_false_iff] at hl
  -- the state behind the slots
  obtain ⟨s1, hs1⟩ : ∃ s1, s1 = shS (cdC q) s := ⟨_, rfl⟩
  have s1n : s1.1 = nc := by rw [hs1]; exact hs
  have s1t : s1.2.2.2.2.2.1 = 0 := by rw [hs1]; rfl
  have v1 : s1.2.2.2.1 1 = nI q.2.1 := by
    rw [hs1]
    show upd (upd (upd (upd s.2.2.2.1 1 (xF (cdC q))) 2 (yF (cdC q))) 3 (zF (cdC q))) 4 (dF (cdC q)) 1 = _
    rw [pk_un (by decide), pk_un (by decide), pk_un (by decide), pk_us, d2]
  have v2 : s1.2.2.2.1 2 = nI q.2.2.1 := by
    rw [hs1]
    show upd (upd (upd (upd s.2.2.2.1 1 (xF (cdC q))) 2 (yF (cdC q))) 3 (zF (cdC q))) 4 (dF (cdC q)) 2 = _
    rw [pk_un (by decide), pk_un (by decide), pk_us, d3]
  have v3 : s1.2.2.2.1 3 = nI q.2.2.2.1 := by
    rw [hs1]
    show upd (upd (upd (upd s.2.2.2.1 1 (xF (cdC q))) 2 (yF (cdC q))) 3 (zF (cdC q))) 4 (dF (cdC q)) 3 = _
    rw [pk_un (by decide), pk_us, d4]
  have v4 : s1.2.2.2.1 4 = nI q.2.2.2.2.1 := by
    rw [hs1]
    show upd (upd (upd (upd s.2.2.2.1 1 (xF (cdC q))) 2 (yF (cdC q))) 3 (zF (cdC q))) 4 (dF (cdC q)) 4 = _
    rw [pk_us, d5]
  have hW := same_words hN hK h hq s1 s1n v1 v2 v3 v4
  obtain ⟨W, hWd⟩ : ∃ W, W = (tokL q.1 7 0).map (shW s1) := ⟨_, rfl⟩
  rw [← hWd] at hW
  -- the lengths and letters of the words
  have wt : ∀ t ∈ tokL q.1 7 0, (nzL (shW s1 t) 8).length + 1 ≤ tokC t ∧ ∀ b ∈ nzL (shW s1 t) 8, b < 128 := by
    intro t ht
    have nmt : ∀ v, v < 40 → isT N K v → lackF nc (nI v) = false → ∀ m : Int64, m = nc v → (nzL m 8).length + 1 ≤ 7 ∧ ∀ b ∈ nzL m 8, b < 128 := by
      intro v hv hT hf m hm
      obtain ⟨bs, b1, b2, b3, _⟩ := named v hv hT hf
      rw [hm, b3]
      refine ⟨by have := b1.2.2; omega, fun b hb => ?_⟩
      have := isLt_b b1.1 b hb
      omega
    rcases tok_by q.1 g1 t ht with (rfl | rfl | rfl) | rfl | ⟨c1, c2, c3⟩
    · have e : shW s1 1 = nc q.2.1 := by
        show s1.1 (s1.2.2.2.1 1).toNatClampNeg = _
        rw [s1n, v1, nI_clamp (by have := rg.2.1; omega)]
      exact nmt _ rg.2.1 hx hl.1.1 _ e
    · have k6 := (tok_yz q.1 g1).1.mp ht
      rw [if_neg k6] at g3
      have e : shW s1 2 = nc q.2.2.1 := by
        show s1.1 (s1.2.2.2.1 2).toNatClampNeg = _
        rw [s1n, v2, nI_clamp (by have := rg.2.2.1; omega)]
      exact nmt _ rg.2.2.1 g3.1 hl.1.2 _ e
    · have k3 := (tok_yz q.1 g1).2.mp ht
      rw [if_pos k3] at g4
      have e : shW s1 3 = nc q.2.2.2.1 := by
        show s1.1 (s1.2.2.2.1 3).toNatClampNeg = _
        rw [s1n, v3, nI_clamp (by have := rg.2.2.2.1; omega)]
      exact nmt _ rg.2.2.2.1 g4.1 hl.2 _ e
    · have e : shW s1 4 = lN (48 + q.2.2.2.2.1) := by
        show ((48 : Int32) + s1.2.2.2.1 4).toInt64 = _
        rw [v4]
        exact (dig_word _ rg.2.2.2.2.1).1
      rw [e, (dig_word _ rg.2.2.2.2.1).2]
      have hd := rg.2.2.2.2.1
      refine ⟨show 1 + 1 ≤ tokC 4 by decide, fun b hb => ?_⟩
      rw [List.mem_singleton.mp hb]
      omega
    · have e : shW s1 t = t := by
        unfold shW
        rw [if_neg c2, if_neg c1]
      rw [e]
      refine ⟨?_, c3⟩
      unfold tokC
      rw [if_neg c1, if_neg c2]
      exact Nat.le_refl _
  have wl : wlN W ≤ 53 := by
    have : ∀ l : List Int64, (∀ t ∈ l, (nzL (shW s1 t) 8).length + 1 ≤ tokC t) → wlN (l.map (shW s1)) ≤ (l.map tokC).sum := by
      intro l
      induction l with
      | nil => intro _; exact Nat.le_refl _
      | cons t l ih =>
        intro hh
        have i1 := ih (fun u hu => hh u (List.mem_cons_of_mem _ hu))
        have i2 := hh t List.mem_cons_self
        unfold wlN at i1 ⊢
        rw [List.map_cons, List.map_cons, List.map_cons, List.sum_cons, List.sum_cons]
        omega
    rw [hWd]
    exact Nat.le_trans (this _ (fun t ht => (wt t ht).1)) (tok_len q.1 g1)
  have wb : ∀ w ∈ W, ∀ b ∈ nzL w 8, b < 128 := by
    intro w hw
    rw [hWd] at hw
    obtain ⟨t, ht, e⟩ := List.mem_map.mp hw
    rw [← e]
    exact (wt t ht).2
  have ePr : prT nr cl sh k = (prS q.2.2.2.2.2 ++ W).foldl shwF (sh, 0) := by
    unfold prT prL
    rw [r1, r2, r3, r4, r5, r6, ← hW]
  have t0 : txOK [] s1.2.2.2.2.2.1 s1.2.2.1 := ⟨s1t, by decide, fun j hj => absurd hj (Nat.not_lt_zero _)⟩
  have u0 : txOK [] ((sh, 0) : SH).2 ((sh, 0) : SH).1 := ⟨rfl, by decide, fun j hj => absurd hj (Nat.not_lt_zero _)⟩
  have eSh : shF q.1 (cdC q) s = (prS q.2.2.2.2.2 ++ W).foldl (fun s w => pwF w s) s1 := by
    show shL q.1 7 0 (shI (cdC q) s) = _
    rw [shL_tok]
    unfold shI
    rw [d6, ← hs1, List.foldl_append]
    by_cases hsp : q.2.2.2.2.2 = -1
    · rw [if_pos hsp]
      unfold prS
      rw [if_pos hsp, hWd]
      rfl
    · rw [if_neg hsp]
      have hs01 : q.2.2.2.2.2 = 0 ∨ q.2.2.2.2.2 = 1 := g6.elim (fun z => absurd z hsp) (fun z => z)
      obtain ⟨p1, p2, p3, p4⟩ := sp_word _ hs01
      have e1 : pwF (((48 : Int32) + q.2.2.2.2.2).toInt64) s1 = putF (48 + q.2.2.2.2.2) s1 := by
        rw [pwF_N _ s1 (by rw [s1t, p1, p2]; exact Nat.le_of_ble_eq_true rfl), p1, p2, s1t]
        unfold putF
        rw [s1t, if_pos (by decide), p4]
        rfl
      unfold prS
      rw [if_neg hsp]
      have k1 : (putF (48 + q.2.2.2.2.2) s1).1 = s1.1 ∧ (putF (48 + q.2.2.2.2.2) s1).2.2.2.1 = s1.2.2.2.1 := by
        unfold putF
        split <;> exact ⟨rfl, rfl⟩
      have k2 : (tokL q.1 7 0).map (shW (pwF 1935767923 (putF (48 + q.2.2.2.2.2) s1))) = W := by
        rw [hWd]
        refine List.map_congr_left fun t _ => ?_
        rw [shW_keep]
        unfold shW
        rw [k1.1, k1.2]
      rw [k2]
      simp only [List.foldl_cons, List.foldl_nil]
      rw [e1]
  have bl : wlN (prS q.2.2.2.2.2 ++ W) ≤ 60 ∧ ∀ w ∈ prS q.2.2.2.2.2 ++ W, ∀ b ∈ nzL w 8, b < 128 := by
    unfold prS
    by_cases hsp : q.2.2.2.2.2 = -1
    · rw [if_pos hsp]
      exact ⟨by rw [List.nil_append]; omega, by rw [List.nil_append]; exact wb⟩
    · have hs01 : q.2.2.2.2.2 = 0 ∨ q.2.2.2.2.2 = 1 := g6.elim (fun z => absurd z hsp) (fun z => z)
      obtain ⟨p1, p2, p3, p4⟩ := sp_word _ hs01
      rw [if_neg hsp]
      constructor
      · have : wlN ([((48 : Int32) + q.2.2.2.2.2).toInt64, 1935767923] ++ W) = (nzL (((48 : Int32) + q.2.2.2.2.2).toInt64) 8).length + 1 + ((nzL 1935767923 8).length + 1 + wlN W) := by
          unfold wlN
          rw [List.cons_append, List.cons_append, List.nil_append, List.map_cons, List.map_cons, List.sum_cons, List.sum_cons]
        rw [this, p1, p2, says_word]
        show 1 + 1 + (4 + 1 + wlN W) ≤ 60
        omega
      · intro w hw
        rcases List.mem_append.mp hw with hw | hw
        · rcases List.mem_cons.mp hw with rfl | hw
          · rw [p1, p2]
            intro b hb
            rw [List.mem_singleton.mp hb]
            exact p3
          · rw [List.mem_singleton.mp hw, says_word]
            decide
        · exact wb w hw
  obtain ⟨T, f, i1, i2, i3⟩ := words_same (prS q.2.2.2.2.2 ++ W) [] s1 (sh, 0) t0 u0 bl.2 (by rw [List.length_nil]; omega)
  refine ⟨T, f, ?_, i2, by rw [ePr]; exact i3⟩
  rw [eSh, i1, hs1]
  rfl
