-- words as longs: their bytes, on both sides
def bN (w : Int64) (m : Nat) : Nat := w.toBitVec.toNat / 2 ^ (8 * m) % 256
theorem bN_lt (w : Int64) (m : Nat) : bN w m < 256 := Nat.mod_lt _ (by decide)
theorem by_bits (w : Int64) {k : Nat} (hk : k ≤ 56) : (w >>> ((nI k).toInt64 &&& 63)) &&& 255 = lN (w.toBitVec.toNat / 2 ^ k % 256) := by
  rw [wb_c k (by omega)]
  apply wb_inj
  refine BitVec.eq_of_getLsbD_eq fun i hi => ?_
  have h255 : ((255 : Int64).toBitVec).getLsbD i = decide (i < 8) := by
    have : ∀ i, i < 64 → ((255 : Int64).toBitVec).getLsbD i = decide (i < 8) := by decide +kernel
    exact this i hi
  rw [Int64.toBitVec_and, BitVec.getLsbD_and, h255, Int64.toBitVec_shiftRight, wb_tb]
  show ((w.toBitVec.sshiftRight ((BitVec.ofNat 64 k).smod 64).toNat).getLsbD i && decide (i < 8)) = _
  rw [wb_sm k (by omega), BitVec.toNat_ofNat, Nat.mod_eq_of_lt (show k < 2 ^ 64 by omega), BitVec.getLsbD_sshiftRight, wb_tb, BitVec.getLsbD_ofNat, show (256 : Nat) = 2 ^ 8 from rfl, Nat.testBit_mod_two_pow, Nat.testBit_div_two_pow]
  by_cases h8 : i < 8
  · simp [h8, hi, show k + i < 64 by omega, BitVec.testBit_toNat, Nat.add_comm]
  · simp [h8]
theorem byG_N (w : Int64) : ∀ m, m < 8 → byG w (shN (m + 1)) = lN (bN w m) := by
  intro m hm
  exact by_bits w (k := 8 * m) (by omega)
theorem l32_tab : ∀ b, b < 256 → (lN b).toInt32 = nI b := by decide +kernel
theorem byF_N (w : Int64) (m : Nat) (hm : m < 8) : byF w (shN (m + 1)) = nI (bN w m) := by
  have := byG_N w m hm
  unfold byG at this
  unfold byF
  rw [this]
  exact l32_tab _ (bN_lt w m)
/-- the bytes but those that are 0, the highest first -/
def nzL (w : Int64) : Nat → List Nat
  | 0 => []
  | m + 1 => if bN w m = 0 then nzL w m else bN w m :: nzL w m
theorem nzL_ok (w : Int64) : ∀ m, ∀ b ∈ nzL w m, 0 < b ∧ b < 256
  | 0, b, h => absurd h List.not_mem_nil
  | m + 1, b, h => by
    unfold nzL at h
    split at h
    · exact nzL_ok w m b h
    · rcases List.mem_cons.mp h with e | h
      · have := bN_lt w m
        rw [e]
        omega
      · exact nzL_ok w m b h
theorem nzL_len (w : Int64) : ∀ m, (nzL w m).length ≤ m
  | 0 => Nat.le_refl _
  | m + 1 => by
    have := nzL_len w m
    unfold nzL
    split
    · omega
    · rw [List.length_cons]; omega
def vF : List Nat → Nat → Nat
  | [], v => v
  | b :: bs, v => vF bs (v * 256 + b)
theorem vF_lt : ∀ (bs : List Nat) (v k : Nat), (∀ b ∈ bs, b < 256) → v < 256 ^ k → vF bs v < 256 ^ (k + bs.length)
  | [], v, k, _, h => h
  | b :: bs, v, k, hb, h => by
    have h1 := vF_lt bs (v * 256 + b) (k + 1) (fun c hc => hb c (List.mem_cons_of_mem _ hc)) (by
      rw [Nat.pow_succ]
      have := hb b List.mem_cons_self
      omega)
    rw [List.length_cons, show k + (bs.length + 1) = k + 1 + bs.length by omega]
    exact h1
theorem p64 : (256 : Nat) ^ 8 = 2 ^ 64 := by decide
theorem sh8_N {v b : Nat} (hb : b < 256) (h : v * 256 + b < 2 ^ 64) : lN v <<< ((8 : Int32).toInt64 &&& 63) ||| lN b = lN (v * 256 + b) := by
  have h1 : lN v <<< ((nI 8).toInt64 &&& 63) = lN (v * 2 ^ 8) := wb_shl v (by decide)
  rw [show (8 : Int32) = nI 8 from rfl, h1]
  exact g_or (k := 8) (p := 256) (by decide) hb h
theorem nI64_tab : ∀ b, b < 256 → (nI b).toInt64 = lN b := by decide +kernel
theorem shl8_N {v b : Nat} (hb : b < 256) (h : v * 256 + b < 2 ^ 64) : shl8 (lN v) (nI b) = lN (v * 256 + b) := by
  unfold shl8
  rw [nI64_tab b hb]
  exact sh8_N hb h
theorem lN0_iff {b : Nat} (hb : b < 2 ^ 63) : lN b = 0 ↔ b = 0 := pk_lEQ (b := 0) hb (by decide)
theorem pow_le8 {a : Nat} (h : a ≤ 8) : (256 : Nat) ^ a ≤ 2 ^ 64 := by
  rw [← p64]
  exact Nat.pow_le_pow_right (by decide) h
theorem leS_N (w : Int64) : ∀ (m v : Nat), m ≤ 8 → v < 256 ^ (8 - m) → leS w m (lN v) = lN (vF (nzL w m) v)
  | 0, v, _, _ => rfl
  | m + 1, v, hm, hv => by
    unfold leS
    have hb := bN_lt w m
    rw [byG_N w m (by omega)]
    by_cases h0 : bN w m = 0
    · rw [if_pos ((lN0_iff (by omega)).mpr h0)]
      have e : nzL w (m + 1) = nzL w m := by
        show (if bN w m = 0 then _ else _) = _
        rw [if_pos h0]
      rw [e]
      refine leS_N w m v (by omega) (Nat.lt_of_lt_of_le hv (Nat.pow_le_pow_right (by decide) (by omega)))
    · rw [if_neg (fun q => h0 ((lN0_iff (by omega)).mp q))]
      have e : nzL w (m + 1) = bN w m :: nzL w m := by
        show (if bN w m = 0 then _ else _) = _
        rw [if_neg h0]
      have hlt : v * 256 + bN w m < 256 ^ (8 - m) := by
        have : 8 - m = (8 - (m + 1)) + 1 := by omega
        rw [this, Nat.pow_succ]
        omega
      rw [e, sh8_N hb (Nat.lt_of_lt_of_le hlt (pow_le8 (by omega)))]
      exact leS_N w m _ (by omega) hlt
def isLt (b : Nat) : Bool := decide (97 ≤ b ∧ b ≤ 122)
theorem b97 {b : Nat} (hb : b < 256) : (nI b < 97 ∨ 122 < nI b) ↔ isLt b = false := by
  unfold isLt
  rw [decide_eq_false_iff_not, show (97 : Int32) = nI 97 from rfl, show (122 : Int32) = nI 122 from rfl, nI_ltI (by omega) (by omega), nI_ltI (by omega) (by omega)]
  omega
theorem wdO_N (w : Int64) : ∀ (m v n : Nat), m ≤ 8 → v < 256 ^ (8 - m) → wdO (byL w m) (lN v) n = if (nzL w m).all isLt = true ∧ 1 ≤ n + (nzL w m).length ∧ n + (nzL w m).length ≤ 6 then lN (vF (nzL w m) v) else -1
  | 0, v, n, _, _ => by
    show (if 1 ≤ n ∧ n ≤ 6 then lN v else -1) = (if ([] : List Nat).all isLt = true ∧ 1 ≤ n + 0 ∧ n + 0 ≤ 6 then lN v else -1)
    by_cases h : 1 ≤ n ∧ n ≤ 6
    · rw [if_pos h, if_pos ⟨rfl, h.1, h.2⟩]
    · rw [if_neg h, if_neg (fun q => h ⟨q.2.1, q.2.2⟩)]
  | m + 1, v, n, hm, hv => by
    have hb := bN_lt w m
    show wdO (byF w (shN (m + 1)) :: byL w m) (lN v) n = _
    unfold wdO
    rw [byF_N w m (by omega)]
    by_cases h0 : bN w m = 0
    · rw [if_pos (by rw [h0]; rfl)]
      have e : nzL w (m + 1) = nzL w m := by
        show (if bN w m = 0 then _ else _) = _
        rw [if_pos h0]
      rw [e]
      exact wdO_N w m v n (by omega) (Nat.lt_of_lt_of_le hv (Nat.pow_le_pow_right (by decide) (by omega)))
    · rw [if_neg (nI_ne0 (by omega) (by omega))]
      have e : nzL w (m + 1) = bN w m :: nzL w m := by
        show (if bN w m = 0 then _ else _) = _
        rw [if_neg h0]
      rw [e, List.all_cons, List.length_cons]
      by_cases h1 : nI (bN w m) < 97 ∨ 122 < nI (bN w m)
      · rw [if_pos h1, (b97 hb).mp h1, Bool.false_and, if_neg (fun q => Bool.false_ne_true q.1)]
      · have hl : isLt (bN w m) = true := by
          cases hh : isLt (bN w m) with
          | true => rfl
          | false => exact absurd ((b97 hb).mpr hh) h1
        have hlt : v * 256 + bN w m < 256 ^ (8 - m) := by
          have : 8 - m = (8 - (m + 1)) + 1 := by omega
          rw [this, Nat.pow_succ]
          omega
        rw [if_neg h1, hl, Bool.true_and, shl8_N hb (Nat.lt_of_lt_of_le hlt (pow_le8 (by omega))), wdO_N w m _ (n + 1) (by omega) hlt, show n + 1 + (nzL w m).length = n + ((nzL w m).length + 1) by omega]
        rfl
/-- the same number from its lowest byte on -/
def rvF : List Nat → Nat
  | [] => 0
  | b :: rs => rvF rs * 256 + b
theorem vF_app : ∀ (a b : List Nat) (v : Nat), vF (a ++ b) v = vF b (vF a v)
  | [], _, _ => rfl
  | x :: a, b, v => vF_app a b (v * 256 + x)
theorem vF_rev : ∀ rs : List Nat, vF rs.reverse 0 = rvF rs
  | [] => rfl
  | b :: rs => by
    rw [List.reverse_cons, vF_app, vF_rev rs]
    rfl
theorem us_N {x : Nat} (hx : x < 2 ^ 64) : usF (lN x) = lN (x / 256) := by
  unfold usF
  have := wb_shr (n := x) (k := 8) hx (by decide)
  exact this
theorem l255 {x : Nat} (hx : x < 2 ^ 64) : lN x &&& 255 = lN (x % 256) := wb_mask (k := 8) hx (by decide)
theorem rvF_lt : ∀ rs : List Nat, (∀ b ∈ rs, b < 256) → rvF rs < 256 ^ rs.length
  | [], _ => by decide
  | b :: rs, h => by
    have h1 := rvF_lt rs (fun c hc => h c (List.mem_cons_of_mem _ hc))
    have h2 := h b List.mem_cons_self
    rw [List.length_cons, Nat.pow_succ]
    show rvF rs * 256 + b < _
    omega
theorem nmR_N : ∀ (rs : List Nat) (m many : Nat), (∀ b ∈ rs, 0 < b ∧ b < 256) → rs.length ≤ m → m ≤ 8 → nmR m (lN (rvF rs)) many = if rs.all isLt = true then some (many + rs.length) else none
  | [], m, many, _, _, _ => by
    rw [if_pos (show ([] : List Nat).all isLt = true from rfl)]
    cases m with
    | zero => rfl
    | succ m =>
      show (if lN 0 = 0 then some many else _) = _
      rw [if_pos (show lN 0 = (0 : Int64) from rfl)]
      rfl
  | b :: rs, 0, many, _, h, _ => by simp at h
  | b :: rs, m + 1, many, hb, hl, hm => by
    have hb0 := hb b List.mem_cons_self
    rw [List.length_cons] at hl
    have h1 := rvF_lt (b :: rs) (fun c hc => (hb c hc).2)
    have h64 : rvF (b :: rs) < 2 ^ 64 := Nat.lt_of_lt_of_le h1 (pow_le8 (by rw [List.length_cons]; omega))
    have e1 : rvF (b :: rs) = rvF rs * 256 + b := rfl
    have hne : ¬ lN (rvF (b :: rs)) = 0 := by
      intro q
      have := congrArg (fun z => z.toBitVec.toNat) q
      rw [show (lN (rvF (b :: rs))).toBitVec.toNat = rvF (b :: rs) from wb_tn h64] at this
      have z : ((0 : Int64).toBitVec.toNat) = 0 := by decide
      rw [z] at this
      omega
    have em : rvF (b :: rs) % 256 = b := by rw [e1]; omega
    have ed : rvF (b :: rs) / 256 = rvF rs := by rw [e1]; omega
    unfold nmR
    rw [if_neg hne, l255 h64, em, us_N h64, ed, List.all_cons, List.length_cons]
    have hc : (lN b < 97 ∨ 122 < lN b) ↔ isLt b = false := by
      unfold isLt
      rw [decide_eq_false_iff_not, show (97 : Int64) = lN 97 from rfl, show (122 : Int64) = lN 122 from rfl, pk_lLT (by omega) (by omega), pk_lLT (by omega) (by omega)]
      omega
    cases hh : isLt b with
    | false => rw [if_pos (hc.mpr hh), Bool.false_and, if_neg Bool.false_ne_true]
    | true =>
      rw [if_neg (fun q => by rw [hc.mp q] at hh; exact Bool.false_ne_true hh), Bool.true_and, nmR_N rs m (many + 1) (fun c hc => hb c (List.mem_cons_of_mem _ hc)) (by omega) (by omega)]
      rw [show many + 1 + rs.length = many + (rs.length + 1) by omega]
/-- the word of w, if it is one -/
def wordN (w : Int64) : Option Nat := if (nzL w 8).all isLt = true ∧ 1 ≤ (nzL w 8).length ∧ (nzL w 8).length ≤ 6 then some (vF (nzL w 8) 0) else none
theorem word_c (w : Int64) : wdO (byL w 8) 0 0 = match wordN w with
    | some v => lN v
    | none => -1 := by
  have h := wdO_N w 8 0 0 (Nat.le_refl _) (by decide)
  rw [show lN 0 = (0 : Int64) from rfl, Nat.zero_add] at h
  rw [h]
  unfold wordN
  split <;> rfl
theorem word_r (w : Int64) : leS w 8 0 = lN (vF (nzL w 8) 0) ∧ nmR 8 (leS w 8 0) 0 = if (nzL w 8).all isLt = true then some (nzL w 8).length else none := by
  have h : leS w 8 0 = lN (vF (nzL w 8) 0) := leS_N w 8 0 (Nat.le_refl _) (by decide)
  refine ⟨h, ?_⟩
  have hr : vF (nzL w 8) 0 = rvF (nzL w 8).reverse := by
    have := vF_rev (nzL w 8).reverse
    rw [List.reverse_reverse] at this
    exact this
  rw [h, hr, nmR_N (nzL w 8).reverse 8 0 (fun b hb => nzL_ok w 8 b (List.mem_reverse.mp hb)) (by rw [List.length_reverse]; exact nzL_len w 8) (Nat.le_refl _), List.all_reverse, List.length_reverse, Nat.zero_add]
/-- what a word's number is -/
theorem vF_pos : ∀ (bs : List Nat) (v : Nat), (∀ b ∈ bs, 0 < b) → 0 < v ∨ bs ≠ [] → 0 < vF bs v
  | [], v, _, h => by
    rcases h with h | h
    · exact h
    · exact absurd rfl h
  | b :: bs, v, hb, _ => by
    refine vF_pos bs (v * 256 + b) (fun c hc => hb c (List.mem_cons_of_mem _ hc)) (Or.inl ?_)
    have := hb b List.mem_cons_self
    omega
def isWordL (bs : List Nat) : Prop := bs.all isLt = true ∧ 1 ≤ bs.length ∧ bs.length ≤ 6
theorem word_is {w : Int64} {v : Nat} (h : wordN w = some v) : ∃ bs, isWordL bs ∧ v = vF bs 0 := by
  unfold wordN at h
  split at h
  · rename_i hc
    cases h
    exact ⟨_, hc, rfl⟩
  · cases h
theorem isLt_b {bs : List Nat} (h : bs.all isLt = true) : ∀ b ∈ bs, 97 ≤ b ∧ b ≤ 122 := fun b hb => of_decide_eq_true (List.all_eq_true.mp h b hb)
theorem word_lt {bs : List Nat} (h : isWordL bs) : 0 < vF bs 0 ∧ vF bs 0 < 2 ^ 48 := by
  obtain ⟨h1, h2, h3⟩ := h
  have hb := isLt_b h1
  refine ⟨vF_pos bs 0 (fun b q => by have := hb b q; omega) (Or.inr (fun e => by rw [e] at h2; simp at h2)), ?_⟩
  have := vF_lt bs 0 0 (fun b q => by have := hb b q; omega) (by decide)
  refine Nat.lt_of_lt_of_le this ?_
  rw [show (2 : Nat) ^ 48 = 256 ^ 6 by decide]
  exact Nat.pow_le_pow_right (by decide) (by omega)
