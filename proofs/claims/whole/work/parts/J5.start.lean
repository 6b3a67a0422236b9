-- the law's start: what is new is apart; the relation at the start
theorem so_no {x : Option va_E} {y : va_E} (h1 : x = some y) (h2 : x = none) : False := by
  rw [h1] at h2
  cases h2
theorem isRM_some {cL cI : ClassId} {N K : Nat} {M : Nat → Nat} {s : RMS} {h : gH} (hI : isRM cL cI N K M s h) : ∀ i, i < 32 → ¬ h (M i) = none := by
  obtain ⟨x0, ⟨x1, x2, -⟩, ⟨⟨x4, x5, x3⟩, ⟨x6, x7, -⟩, ⟨_, _, _, _, _, _, _, _, _, _, x8, x9, x10, x11, x12, x13, x14, -⟩, ⟨x16, x17, x18, x19, x20, x15⟩⟩, ⟨x22, x23, x24, x25, x26, x21⟩, ⟨x28, x29, x30, x31, x27⟩⟩ := hI
  intro i hi e
  match i, hi, e with
  | 0, _, e => exact so_no x0 e
  | 1, _, e => exact so_no x1 e
  | 2, _, e => exact so_no x2 e
  | 3, _, e => exact so_no x3 e
  | 4, _, e => exact so_no x4 e
  | 5, _, e => exact so_no x5 e
  | 6, _, e => exact so_no x6 e
  | 7, _, e => exact so_no x7 e
  | 8, _, e => exact so_no x8 e
  | 9, _, e => exact so_no x9 e
  | 10, _, e => exact so_no x10 e
  | 11, _, e => exact so_no x11 e
  | 12, _, e => exact so_no x12 e
  | 13, _, e => exact so_no x13 e
  | 14, _, e => exact so_no x14 e
  | 15, _, e => exact so_no x15 e
  | 16, _, e => exact so_no x16 e
  | 17, _, e => exact so_no x17 e
  | 18, _, e => exact so_no x18 e
  | 19, _, e => exact so_no x19 e
  | 20, _, e => exact so_no x20 e
  | 21, _, e => exact so_no x21 e
  | 22, _, e => exact so_no x22 e
  | 23, _, e => exact so_no x23 e
  | 24, _, e => exact so_no x24 e
  | 25, _, e => exact so_no x25 e
  | 26, _, e => exact so_no x26 e
  | 27, _, e => exact so_no x27 e
  | 28, _, e => exact so_no x28 e
  | 29, _, e => exact so_no x29 e
  | 30, _, e => exact so_no x30 e
  | 31, _, e => exact so_no x31 e
  | k + 32, hi, _ => omega
theorem isRF_some {cB cL cI : ClassId} {N K D : Nat} {W : Nat → Nat} {wd : Nat → Int64} {od : Nat → Int32} {a : RA} {n : RN} {i : RI} {h : gH} (hI : isRF cB cL cI N K D W wd od a n i h) : ∀ j, j < 14 → ¬ h (W j) = none := by
  obtain ⟨x0, ⟨x1, x2⟩, x3, x4, x5, x6, x7, x8, x9, x10, x11, x12, x13⟩ := hI
  intro i hi e
  match i, hi, e with
  | 0, _, e => exact so_no x0 e
  | 1, _, e => exact so_no x1 e
  | 2, _, e => exact so_no x2 e
  | 3, _, e => exact so_no x3 e
  | 4, _, e => exact so_no x4 e
  | 5, _, e => exact so_no x5 e
  | 6, _, e => exact so_no x6 e
  | 7, _, e => exact so_no x7 e
  | 8, _, e => exact so_no x8 e
  | 9, _, e => exact so_no x9 e
  | 10, _, e => exact so_no x10 e
  | 11, _, e => exact so_no x11 e
  | 12, _, e => exact so_no x12 e
  | 13, _, e => exact so_no x13 e
  | k + 14, hi, _ => omega
theorem ords_new {N K D : Nat} {od : Nat → Int32} (h : okNK N K) (ho : odOK N D od) (hD : 0 < D) : ordsQ N K D od := by
  obtain ⟨h1, h2, h3, h4, h5⟩ := h
  refine ⟨⟨h1, h2⟩, ⟨h3, h4⟩, hD, ?_, ho⟩
  obtain ⟨l1, l2, l3, l4⟩ := odL_len ⟨h1, h2⟩
  rw [ho.1]
  have hK : K = 1 ∨ K = 2 ∨ K = 3 := by omega
  rcases hK with rfl | rfl | rfl
  · rw [Nat.pow_one]; omega
  · exact l3
  · exact l4 (by have := h5; omega)
theorem rel_new {N K D : Nat} {od : Nat → Int32} (ho : ordsQ N K D od) : rel N K D od rm9 ra9 rn9 ri9 := by
  refine ⟨fun _ => (0, 0, 0, 0, 0, 0), fun _ => none, [], [], ⟨ho.1, ho.2.1, ho.2.2.1, ho.2.2.2.1, ho.2.2.2.2, fun k hk => absurd hk (Nat.not_lt_zero _), fun k hk => absurd hk (Nat.not_lt_zero _), fun k hk => absurd hk (Nat.not_lt_zero _)⟩, rfl, ⟨fun i hi => ⟨rfl, rfl, fun bs hb => (by cases hb)⟩, fun _ _ _ => rfl, fun _ _ _ => rfl, fun _ _ _ _ _ _ _ hb => (by cases hb)⟩, ⟨⟨rfl, by decide, fun b hb => (by cases hb), fun j hj => absurd hj (Nat.not_lt_zero _)⟩, ⟨rfl, by decide, fun b hb => (by cases hb), fun j hj => absurd hj (Nat.not_lt_zero _)⟩⟩, ⟨⟨rfl, by decide, fun j hj => absurd hj (Nat.not_lt_zero _)⟩, ⟨rfl, by decide, fun j hj => absurd hj (Nat.not_lt_zero _)⟩⟩, rfl, ⟨rfl, Nat.zero_le _, fun k hk => absurd hk (Nat.not_lt_zero _), fun j hj => rfl⟩⟩
def fRM9 : List Value := [.int 0, .int 0, .null, .null, .null, .null, .null, .null]
def fRF9 : List Value := [.null, .int 0, .int 0, .int 0, .int 0, .null, .int 0, .int 0, .null, .null, .null, .int 0, .int 0, .null, .null, .null, .null, .null, .null, .null, .int 0, .int 0, .int 0, .int 0, .int 0, .null, .long 0, .int 0, .int 0, .int 0, .int 0, .int 0, .int 0]
theorem df_RM : ∀ j, j < 8 → defaultValue (gTY 5 j) = vp_V fRM9 j := fun j hj => by
  match j, hj with
  | 0, _ => rfl
  | 1, _ => rfl
  | 2, _ => rfl
  | 3, _ => rfl
  | 4, _ => rfl
  | 5, _ => rfl
  | 6, _ => rfl
  | 7, _ => rfl
theorem df_RF : ∀ j, j < 33 → defaultValue (gTY 6 j) = vp_V fRF9 j := fun j hj => by
  match j, hj with
  | 0, _ => rfl
  | 1, _ => rfl
  | 2, _ => rfl
  | 3, _ => rfl
  | 4, _ => rfl
  | 5, _ => rfl
  | 6, _ => rfl
  | 7, _ => rfl
  | 8, _ => rfl
  | 9, _ => rfl
  | 10, _ => rfl
  | 11, _ => rfl
  | 12, _ => rfl
  | 13, _ => rfl
  | 14, _ => rfl
  | 15, _ => rfl
  | 16, _ => rfl
  | 17, _ => rfl
  | 18, _ => rfl
  | 19, _ => rfl
  | 20, _ => rfl
  | 21, _ => rfl
  | 22, _ => rfl
  | 23, _ => rfl
  | 24, _ => rfl
  | 25, _ => rfl
  | 26, _ => rfl
  | 27, _ => rfl
  | 28, _ => rfl
  | 29, _ => rfl
  | 30, _ => rfl
  | 31, _ => rfl
  | 32, _ => rfl
  | k + 33, hj => exact absurd hj (by omega)
set_option maxRecDepth 20000 in
theorem wk_LW_8 : Cond.classLink "RiddleMillLaw" 8 "RiddleMill" ∈ gWS := gin 18 rfl rfl
set_option maxRecDepth 20000 in
theorem wx_RM : Cond.instantiable "RiddleMill" 8 ∈ gWS := gin 19 rfl rfl
set_option maxRecDepth 20000 in
theorem wk_LW_48 : Cond.classLink "RiddleMillLaw" 48 "RiddleMillModel" ∈ gWS := gin 762 rfl rfl
set_option maxRecDepth 20000 in
theorem wx_RF : Cond.instantiable "RiddleMillModel" 33 ∈ gWS := gin 763 rfl rfl
