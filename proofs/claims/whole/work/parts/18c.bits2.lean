-- needs 18 18b
def bitF (p : Nat) : Int32 := 1 <<< (nI p &&& 31)
theorem bt_1 : ∀ i, i < 32 → bt 1 i = decide (i = 0) := by decide +kernel
theorem bt_bitF : ∀ p, p < 32 → ∀ i, i < 32 → bt (bitF p) i = decide (i = p) := by decide +kernel
theorem bit_is {x : Int32} {p : Nat} (hp : p < 32) : (x >>> (nI p &&& 31)) &&& 1 = 0 ↔ bt x p = false := by
  constructor
  · intro h
    have h1 : bt ((x >>> (nI p &&& 31)) &&& 1) 0 = bt 0 0 := by rw [h]
    rw [b_and, b_sshr p hp x (by omega), bt_1 0 (by omega), b_0, if_pos (by omega)] at h1
    simpa using h1
  · intro h
    refine b_ext fun i hi => ?_
    rw [b_and, b_0, bt_1 i hi]
    by_cases h0 : i = 0
    · subst h0
      rw [b_sshr p hp x (by omega), if_pos (by omega), Nat.add_zero, h]
      rfl
    · simp [h0]
theorem bit_off {x : Int32} {p : Nat} (hp : p < 32) (h : (x >>> (nI p &&& 31)) &&& 1 = 0) : (x ||| bitF p) &&& (bitF p ^^^ (-1)) = x := by
  rw [bit_is hp] at h
  refine b_ext fun i hi => ?_
  rw [b_and, b_or, b_xor, bt_bitF p hp i hi, b_m1 i hi]
  by_cases hi2 : i = p
  · subst hi2
    simp [h]
  · simp [hi2]
