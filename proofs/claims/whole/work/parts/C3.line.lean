-- the words of a line, on both sides
def wbL (L : List Nat) (a : Nat) : List Nat := (L.drop a).takeWhile (fun b => decide (¬ b = 32))
def weL (L : List Nat) (a : Nat) : Nat := a + (wbL L a).length
def wdL2 (L : List Nat) (a : Nat) : Int64 := if 1 ≤ (wbL L a).length ∧ (wbL L a).length ≤ 7 then lN (vF (wbL L a) 0) else -1
theorem wb_step {L : List Nat} {a : Nat} (ha : a < L.length) : wbL L a = if L.getD a 0 = 32 then [] else L.getD a 0 :: wbL L (a + 1) := by
  unfold wbL
  have hg : L.getD a 0 = L[a] := by rw [List.getD_eq_getElem?_getD, List.getElem?_eq_getElem ha]; rfl
  rw [List.drop_eq_getElem_cons ha, List.takeWhile_cons, hg]
  by_cases h : L[a] = 32
  · rw [decide_eq_false (fun q => q h), if_pos h]
    rfl
  · rw [decide_eq_true h, if_neg h]
    rfl
theorem wb_end {L : List Nat} {a : Nat} (ha : L.length ≤ a) : wbL L a = [] := by
  unfold wbL
  rw [List.drop_eq_nil_of_le ha]
  rfl
theorem wb_len (L : List Nat) (a : Nat) : (wbL L a).length ≤ L.length - a := by
  unfold wbL
  refine Nat.le_trans (List.takeWhile_sublist _).length_le ?_
  rw [List.length_drop]
  exact Nat.le_refl _
theorem wb_ch {L : List Nat} (h : ∀ b ∈ L, 32 ≤ b ∧ b ≤ 126) (a : Nat) : ∀ b ∈ wbL L a, 32 ≤ b ∧ b ≤ 126 := by
  intro b hb
  exact h b (List.mem_of_mem_drop ((List.takeWhile_sublist _).subset hb))
/-- what is read from a on -/
theorem rw_end {L : List Nat} {f : Nat → Int32} (hf : ∀ j, j < L.length → f j = nI (L.getD j 0)) (hb : ∀ b ∈ L, 32 ≤ b ∧ b ≤ 126) : ∀ (m a : Nat) (v : Int64), a + m = L.length → (rwL f m a v).2 = weL L a
  | 0, a, v, h => by
    show a = weL L a
    unfold weL
    rw [wb_end (by omega)]
    rfl
  | m + 1, a, v, h => by
    have ha : a < L.length := by omega
    unfold rwL weL
    rw [hf a ha, wb_step ha]
    have hg : L.getD a 0 = L[a] := by rw [List.getD_eq_getElem?_getD, List.getElem?_eq_getElem ha]; rfl
    have hv := hb L[a] (List.getElem_mem ha)
    rw [← hg] at hv
    by_cases h32 : L.getD a 0 = 32
    · rw [if_pos (show nI (L.getD a 0) = 32 by rw [h32]; rfl), if_pos h32]
      rfl
    · rw [if_neg (show ¬ nI (L.getD a 0) = 32 from fun q => h32 ((nI_eq (b := 32) (by omega) (by omega)).mp q)), if_neg h32, rw_end hf hb m (a + 1) _ (by omega), List.length_cons]
      unfold weL
      omega
theorem rw_val {L : List Nat} {f : Nat → Int32} (hf : ∀ j, j < L.length → f j = nI (L.getD j 0)) (hb : ∀ b ∈ L, 32 ≤ b ∧ b ≤ 126) : ∀ (m a v k : Nat), a + m = L.length → v < 256 ^ k → k + (wbL L a).length ≤ 8 → (rwL f m a (lN v)).1 = lN (vF (wbL L a) v)
  | 0, a, v, k, h, _, _ => by
    rw [wb_end (by omega)]
    rfl
  | m + 1, a, v, k, h, hv, hk => by
    have ha : a < L.length := by omega
    unfold rwL
    rw [hf a ha]
    rw [wb_step ha] at hk ⊢
    have hg : L.getD a 0 = L[a] := by rw [List.getD_eq_getElem?_getD, List.getElem?_eq_getElem ha]; rfl
    have hv2 := hb L[a] (List.getElem_mem ha)
    rw [← hg] at hv2
    by_cases h32 : L.getD a 0 = 32
    · rw [if_pos (show nI (L.getD a 0) = 32 by rw [h32]; rfl), if_pos h32]
      rfl
    · rw [if_neg h32, List.length_cons] at hk
      have hlt : v * 256 + L.getD a 0 < 256 ^ (k + 1) := by
        rw [Nat.pow_succ]
        omega
      rw [if_neg (show ¬ nI (L.getD a 0) = 32 from fun q => h32 ((nI_eq (b := 32) (by omega) (by omega)).mp q)), if_neg h32, shl8_N (by omega) (Nat.lt_of_lt_of_le hlt (pow_le8 (by omega))), rw_val hf hb m (a + 1) _ (k + 1) (by omega) hlt (by omega)]
      rfl
theorem rw_0 {L : List Nat} {f : Nat → Int32} (hf : ∀ j, j < L.length → f j = nI (L.getD j 0)) (hb : ∀ b ∈ L, 32 ≤ b ∧ b ≤ 126) {a : Nat} (ha : a ≤ L.length) : (rwL f (L.length - a) a 0).2 = weL L a ∧ ((wbL L a).length ≤ 8 → (rwL f (L.length - a) a 0).1 = lN (vF (wbL L a) 0)) := ⟨rw_end hf hb _ _ _ (by omega), fun h => rw_val hf hb _ _ 0 0 (by omega) (by decide) (by omega)⟩
/-- the program's word -/
theorem rwW_eq {L : List Nat} {f : Nat → Int32} (hf : ∀ j, j < L.length → f j = nI (L.getD j 0)) (hb : ∀ b ∈ L, 32 ≤ b ∧ b ≤ 126) {a : Nat} (ha : a ≤ L.length) : rwW f a L.length = wdL2 L a ∧ rwE f a L.length = weL L a := by
  obtain ⟨h1, h2⟩ := rw_0 hf hb ha
  have e : rwE f a L.length - a = (wbL L a).length := by
    unfold rwE
    rw [h1]
    unfold weL
    omega
  constructor
  · unfold rwW wdL2
    rw [e]
    by_cases h : 1 ≤ (wbL L a).length ∧ (wbL L a).length ≤ 7
    · rw [if_pos h, if_pos h, h2 (by omega)]
    · rw [if_neg h, if_neg h]
  · unfold rwE
    exact h1
/-- the reference's word, held against a number that 1 to 7 letters can make -/
theorem vF_ge : ∀ (bs : List Nat) (v : Nat), v * 256 ^ bs.length ≤ vF bs v
  | [], v => by
    show v * 256 ^ 0 ≤ v
    omega
  | b :: bs, v => by
    have := vF_ge bs (v * 256 + b)
    show v * 256 ^ (bs.length + 1) ≤ vF bs (v * 256 + b)
    refine Nat.le_trans ?_ this
    rw [Nat.pow_succ, Nat.mul_comm (256 ^ bs.length) 256, ← Nat.mul_assoc]
    exact Nat.mul_le_mul_right _ (by omega)
theorem wdR_eq {L : List Nat} {f : Nat → Int32} (hf : ∀ j, j < L.length → f j = nI (L.getD j 0)) (hb : ∀ b ∈ L, 32 ≤ b ∧ b ≤ 126) {a : Nat} (ha : a ≤ L.length) : (∀ t : Nat, 0 < t → t < 256 ^ 7 → (wdR f L.length a = lN t ↔ wdL2 L a = lN t)) ∧ ((48 ≤ wdR f L.length a ∧ wdR f L.length a ≤ 57) ↔ (48 ≤ wdL2 L a ∧ wdL2 L a ≤ 57)) ∧ (1 ≤ (wbL L a).length → (wbL L a).length ≤ 7 → wdR f L.length a = wdL2 L a) := by
  obtain ⟨h1, h2⟩ := rw_0 hf hb ha
  have e : (rwL f (L.length - a) a 0).2 - a = (wbL L a).length := by
    rw [h1]
    unfold weL
    omega
  have p7 : (256 : Nat) ^ 7 < 2 ^ 63 := by decide
  unfold wdR wdL2
  rw [e]
  by_cases h7 : 1 ≤ (wbL L a).length ∧ (wbL L a).length ≤ 7
  · rw [if_pos (by omega), if_pos h7, h2 (by omega)]
    exact ⟨fun t _ _ => Iff.rfl, Iff.rfl, fun _ _ => rfl⟩
  · rw [if_neg h7]
    have no1 : ∀ t : Nat, t < 256 ^ 7 → ¬ (-1 : Int64) = lN t := fun t ht q => lN_m1 (n := t) (by omega) q.symm
    have no2 : ¬ ((48 : Int64) ≤ -1 ∧ (-1 : Int64) ≤ 57) := by decide
    by_cases h8 : (wbL L a).length ≤ 8
    · rw [if_pos h8, h2 h8]
      by_cases h0 : (wbL L a).length = 0
      · rw [List.eq_nil_of_length_eq_zero h0]
        refine ⟨fun t t0 t1 => ?_, ?_, fun q => absurd q (by decide)⟩
        · constructor
          · intro q
            have := (pk_lEQ (a := 0) (b := t) (by decide) (by omega)).mp q
            omega
          · intro q
            exact absurd q (no1 t t1)
        · constructor
          · intro q
            exact absurd q (by decide)
          · intro q
            exact absurd q no2
      · have hl8 : (wbL L a).length = 8 := by omega
        have hch := wb_ch hb a
        -- eight letters make a number above all those
        have hbig : 32 * 256 ^ 7 ≤ vF (wbL L a) 0 ∧ vF (wbL L a) 0 < 2 ^ 63 := by
          obtain ⟨b, bs, e2⟩ : ∃ b bs, wbL L a = b :: bs := by
            cases hh : wbL L a with
            | nil => rw [hh] at hl8; simp at hl8
            | cons b bs => exact ⟨b, bs, rfl⟩
          rw [e2, List.length_cons] at hl8
          have hbl : bs.length = 7 := by omega
          have hb1 := hch b (by rw [e2]; exact List.mem_cons_self)
          have hbs : ∀ c ∈ bs, c < 256 := fun c hc => by
            have := hch c (by rw [e2]; exact List.mem_cons_of_mem _ hc)
            omega
          rw [e2]
          show 32 * 256 ^ 7 ≤ vF bs (0 * 256 + b) ∧ vF bs (0 * 256 + b) < 2 ^ 63
          rw [Nat.zero_mul, Nat.zero_add]
          constructor
          · have := vF_ge bs b
            rw [hbl] at this
            exact Nat.le_trans (Nat.mul_le_mul_right _ hb1.1) this
          · have key : ∀ (l : List Nat) (v : Nat), (∀ c ∈ l, c < 256) → vF l v < (v + 1) * 256 ^ l.length := by
              intro l
              induction l with
              | nil => intro v _; show v < (v + 1) * 1; omega
              | cons c l ih =>
                intro v hc
                have h1 := ih (v * 256 + c) (fun d hd => hc d (List.mem_cons_of_mem _ hd))
                have h2 := hc c List.mem_cons_self
                show vF l (v * 256 + c) < (v + 1) * 256 ^ (l.length + 1)
                refine Nat.lt_of_lt_of_le h1 ?_
                rw [Nat.pow_succ, Nat.mul_comm (256 ^ l.length) 256, ← Nat.mul_assoc]
                exact Nat.mul_le_mul_right _ (by omega)
            have := key bs b hbs
            rw [hbl] at this
            refine Nat.lt_of_lt_of_le this (Nat.le_trans (Nat.mul_le_mul_right _ (show b + 1 ≤ 127 by omega)) (by decide))
        have p8 : 256 ^ 7 ≤ 32 * 256 ^ 7 := by decide
        have p57 : 57 < 32 * 256 ^ 7 := by decide
        refine ⟨fun t t0 t1 => ?_, ?_, fun _ q => by omega⟩
        · constructor
          · intro q
            have := (pk_lEQ (a := vF (wbL L a) 0) (b := t) hbig.2 (by omega)).mp q
            omega
          · intro q
            exact absurd q (no1 t t1)
        · constructor
          · rintro ⟨_, q⟩
            have := (pk_lLE (a := vF (wbL L a) 0) (b := 57) hbig.2 (by decide)).mp q
            omega
          · intro q
            exact absurd q no2
    · rw [if_neg h8]
      exact ⟨fun t _ _ => Iff.rfl, Iff.rfl, fun _ _ => rfl⟩
theorem we_le {L : List Nat} {a : Nat} (ha : a ≤ L.length) : a ≤ weL L a ∧ weL L a ≤ L.length := by
  have := wb_len L a
  unfold weL
  omega
/-- where the next word begins, as the reference keeps it -/
def atR (n a : Nat) : Nat := if n < a then 61 else a
theorem neR_eq {L : List Nat} {f : Nat → Int32} (hf : ∀ j, j < L.length → f j = nI (L.getD j 0)) (hb : ∀ b ∈ L, 32 ≤ b ∧ b ≤ 126) {a : Nat} (ha : a ≤ L.length) : neR f L.length a = atR L.length (weL L a + 1) := by
  obtain ⟨h1, _⟩ := rw_0 hf hb ha
  have := we_le ha
  unfold neR atR
  rw [h1]
  by_cases h : weL L a < L.length
  · rw [if_pos h, if_neg (by omega)]
  · rw [if_neg h, if_pos (by omega)]
