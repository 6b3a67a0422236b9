-- the law's loop
theorem lw_gt {L j : Nat} (hL : L ≤ 3586) (hj : j ≤ 4000) : (Int32.ofNat L - 7 < nI j) = (L < j + 7) := by
  apply propext
  by_cases c : 7 ≤ L
  · obtain ⟨q, rfl⟩ : ∃ q, L = q + 7 := ⟨L - 7, by omega⟩
    have e : Int32.ofNat (q + 7) - 7 = nI q := by
      have : Int32.ofNat (q + 7) = nI q + nI 7 := (nI_add q 7).symm
      rw [this]
      exact Int32.add_sub_cancel (nI q) (nI 7)
    rw [e]
    rw [nI_ltI (by omega) (by omega)]
    omega
  · have h6 : L = 0 ∨ L = 1 ∨ L = 2 ∨ L = 3 ∨ L = 4 ∨ L = 5 ∨ L = 6 := by omega
    have h0 : Int32.ofNat L - 7 < 0 := by
      rcases h6 with rfl | rfl | rfl | rfl | rfl | rfl | rfl <;> decide
    exact ⟨fun _ => by omega, fun _ => Int32.lt_of_lt_of_le h0 (nI_pos' (by omega))⟩
theorem lw_31 (x : Int32) : ∃ t : Nat, t < 32 ∧ x &&& 31 = nI t := by
  refine ⟨(x &&& 31).toBitVec.toNat, ?_, Int32.toBitVec_inj.mp (by simp [nI])⟩
  have : (x &&& 31).toBitVec = x.toBitVec &&& 31#32 := rfl
  rw [this, BitVec.toNat_and]
  exact Nat.lt_of_le_of_lt Nat.and_le_right (by decide)
