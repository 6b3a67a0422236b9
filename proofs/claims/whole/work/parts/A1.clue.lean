-- clues as numbers: their codes, what they say of a row of places, what speakers may be behind them
abbrev Clue : Type := Nat × Nat × Nat × Nat × Nat × Int32
def cdC (q : Clue) : Int32 := ofF (nI q.1) (nI q.2.1) (nI q.2.2.1) (nI q.2.2.2.1) (nI q.2.2.2.2.1) q.2.2.2.2.2
def rngC (q : Clue) : Prop := q.1 < 10 ∧ q.2.1 < 40 ∧ q.2.2.1 < 40 ∧ q.2.2.2.1 < 40 ∧ q.2.2.2.2.1 < 10 ∧ (q.2.2.2.2.2 = -1 ∨ q.2.2.2.2.2 = 0 ∨ q.2.2.2.2.2 = 1)
theorem bt_nI (n i : Nat) (hi : i < 32) : bt (nI n) i = n.testBit i := by
  show (BitVec.ofNat 32 n).getLsbD i = _
  rw [BitVec.getLsbD_ofNat]
  simp [hi]
theorem bt_hi {n w i : Nat} (h : n < 2 ^ w) (hw : w ≤ i) : n.testBit i = false := Nat.testBit_lt_two_pow (Nat.lt_of_lt_of_le h (Nat.pow_le_pow_right (by decide) hw))
theorem cd_all {k x y z d s : Nat} (hk : k < 16) (hx : x < 64) (hy : y < 64) (hz : z < 64) (hd : d < 16) (hs : s < 4) (i : Nat) (hi : i < 32) : bt (nI k ||| nI x <<< ((4 : Int32) &&& 31) ||| nI y <<< ((10 : Int32) &&& 31) ||| nI z <<< ((16 : Int32) &&& 31) ||| nI d <<< ((22 : Int32) &&& 31) ||| nI s <<< ((26 : Int32) &&& 31)) i = (k.testBit i || (decide (4 ≤ i) && x.testBit (i - 4)) || (decide (10 ≤ i) && y.testBit (i - 10)) || (decide (16 ≤ i) && z.testBit (i - 16)) || (decide (22 ≤ i) && d.testBit (i - 22)) || (decide (26 ≤ i) && s.testBit (i - 26))) := by
  have e4 := b_shl 4 (by decide) (nI x) hi
  have e10 := b_shl 10 (by decide) (nI y) hi
  have e16 := b_shl 16 (by decide) (nI z) hi
  have e22 := b_shl 22 (by decide) (nI d) hi
  have e26 := b_shl 26 (by decide) (nI s) hi
  rw [b_or, b_or, b_or, b_or, b_or]
  rw [show ((4 : Int32) &&& 31) = (nI 4 &&& 31) from rfl, show ((10 : Int32) &&& 31) = (nI 10 &&& 31) from rfl, show ((16 : Int32) &&& 31) = (nI 16 &&& 31) from rfl, show ((22 : Int32) &&& 31) = (nI 22 &&& 31) from rfl, show ((26 : Int32) &&& 31) = (nI 26 &&& 31) from rfl]
  rw [e4, e10, e16, e22, e26, bt_nI k i hi, bt_nI x (i - 4) (by omega), bt_nI y (i - 10) (by omega), bt_nI z (i - 16) (by omega), bt_nI d (i - 22) (by omega), bt_nI s (i - 26) (by omega)]
theorem bt_mask : ∀ w, w < 7 → ∀ i, i < 32 → bt (nI (2 ^ w - 1)) i = decide (i < w) := by decide +kernel
/-- a field of a code: w bits from b on -/
theorem cd_field {c : Int32} {b w v : Nat} (hb : b + w ≤ 31) (hw : w < 7) (hv : v < 2 ^ w) (h : ∀ i, i < w → bt c (b + i) = v.testBit i) : (c >>> (nI b &&& 31)) &&& nI (2 ^ w - 1) = nI v := by
  refine b_ext fun i hi => ?_
  rw [b_and, bt_mask w hw i hi, bt_nI v i hi, b_sshr b (by omega) c hi]
  by_cases h1 : i < w
  · rw [if_pos (by omega), h i h1, decide_eq_true h1, Bool.and_true]
  · rw [decide_eq_false h1, Bool.and_false, bt_hi hv (by omega)]
theorem sp_nI {s : Int32} (h : s = -1 ∨ s = 0 ∨ s = 1) : ∃ t : Nat, t < 3 ∧ s + 1 = nI t ∧ nI t - 1 = s := by
  rcases h with rfl | rfl | rfl
  · exact ⟨0, by decide, by decide, by decide⟩
  · exact ⟨1, by decide, by decide, by decide⟩
  · exact ⟨2, by decide, by decide, by decide⟩
theorem cd_dec {q : Clue} (h : rngC q) : kindF (cdC q) = nI q.1 ∧ xF (cdC q) = nI q.2.1 ∧ yF (cdC q) = nI q.2.2.1 ∧ zF (cdC q) = nI q.2.2.2.1 ∧ dF (cdC q) = nI q.2.2.2.2.1 ∧ spF (cdC q) = q.2.2.2.2.2 := by
  obtain ⟨k, x, y, z, d, sp⟩ := q
  obtain ⟨hk, hx, hy, hz, hd, hs⟩ := h
  simp only at hk hx hy hz hd hs
  obtain ⟨t, ht, e1, e2⟩ := sp_nI hs
  obtain ⟨c, hc⟩ : ∃ c, c = cdC (k, x, y, z, d, sp) := ⟨_, rfl⟩
  have hb : ∀ i, i < 32 → bt c i = (k.testBit i || (decide (4 ≤ i) && x.testBit (i - 4)) || (decide (10 ≤ i) && y.testBit (i - 10)) || (decide (16 ≤ i) && z.testBit (i - 16)) || (decide (22 ≤ i) && d.testBit (i - 22)) || (decide (26 ≤ i) && t.testBit (i - 26))) := by
    intro i hi
    rw [hc]
    show bt (ofF _ _ _ _ _ _) i = _
    unfold ofF
    rw [e1]
    exact cd_all (k := k) (x := x) (y := y) (z := z) (d := d) (s := t) (by omega) (by omega) (by omega) (by omega) (by omega) (by omega) i hi
  rw [← hc]
  have k4 : k < 2 ^ 4 := by omega
  have x6 : x < 2 ^ 6 := by omega
  have y6 : y < 2 ^ 6 := by omega
  have z6 : z < 2 ^ 6 := by omega
  have d4 : d < 2 ^ 4 := by omega
  have t2 : t < 2 ^ 2 := by omega
  refine ⟨?_, ?_, ?_, ?_, ?_, ?_⟩
  · show c &&& nI (2 ^ 4 - 1) = nI k
    refine b_ext fun i hi => ?_
    rw [b_and, bt_mask 4 (by decide) i hi, bt_nI k i hi]
    by_cases h1 : i < 4
    · rw [hb i hi, decide_eq_true h1, decide_eq_false (show ¬ 4 ≤ i by omega), decide_eq_false (show ¬ 10 ≤ i by omega), decide_eq_false (show ¬ 16 ≤ i by omega), decide_eq_false (show ¬ 22 ≤ i by omega), decide_eq_false (show ¬ 26 ≤ i by omega)]
      simp
    · rw [decide_eq_false h1, Bool.and_false, bt_hi k4 (by omega)]
  · refine cd_field (b := 4) (w := 6) (by decide) (by decide) x6 (fun i hi => ?_)
    rw [hb _ (by omega), bt_hi k4 (by omega), decide_eq_true (show 4 ≤ 4 + i by omega), decide_eq_false (show ¬ 10 ≤ 4 + i by omega), decide_eq_false (show ¬ 16 ≤ 4 + i by omega), decide_eq_false (show ¬ 22 ≤ 4 + i by omega), decide_eq_false (show ¬ 26 ≤ 4 + i by omega), show 4 + i - 4 = i by omega]
    simp
  · refine cd_field (b := 10) (w := 6) (by decide) (by decide) y6 (fun i hi => ?_)
    rw [hb _ (by omega), bt_hi k4 (by omega), bt_hi x6 (show 6 ≤ 10 + i - 4 by omega), decide_eq_true (show 10 ≤ 10 + i by omega), decide_eq_false (show ¬ 16 ≤ 10 + i by omega), decide_eq_false (show ¬ 22 ≤ 10 + i by omega), decide_eq_false (show ¬ 26 ≤ 10 + i by omega), show 10 + i - 10 = i by omega]
    simp
  · refine cd_field (b := 16) (w := 6) (by decide) (by decide) z6 (fun i hi => ?_)
    rw [hb _ (by omega), bt_hi k4 (by omega), bt_hi x6 (show 6 ≤ 16 + i - 4 by omega), bt_hi y6 (show 6 ≤ 16 + i - 10 by omega), decide_eq_true (show 16 ≤ 16 + i by omega), decide_eq_false (show ¬ 22 ≤ 16 + i by omega), decide_eq_false (show ¬ 26 ≤ 16 + i by omega), show 16 + i - 16 = i by omega]
    simp
  · refine cd_field (b := 22) (w := 4) (by decide) (by decide) d4 (fun i hi => ?_)
    rw [hb _ (by omega), bt_hi k4 (by omega), bt_hi x6 (show 6 ≤ 22 + i - 4 by omega), bt_hi y6 (show 6 ≤ 22 + i - 10 by omega), bt_hi z6 (show 6 ≤ 22 + i - 16 by omega), decide_eq_true (show 22 ≤ 22 + i by omega), decide_eq_false (show ¬ 26 ≤ 22 + i by omega), show 22 + i - 22 = i by omega]
    simp
  · show ((c >>> (nI 26 &&& 31)) &&& nI (2 ^ 2 - 1)) - 1 = sp
    rw [cd_field (c := c) (b := 26) (w := 2) (v := t) (by decide) (by decide) t2 (fun i hi => ?_)]
    · exact e2
    · rw [hb _ (by omega), bt_hi k4 (by omega), bt_hi x6 (show 6 ≤ 26 + i - 4 by omega), bt_hi y6 (show 6 ≤ 26 + i - 10 by omega), bt_hi z6 (show 6 ≤ 26 + i - 16 by omega), bt_hi d4 (show 4 ≤ 26 + i - 22 by omega), decide_eq_true (show 26 ≤ 26 + i by omega), show 26 + i - 26 = i by omega]
      simp
-- what speakers may be
def resB (bad b0 b1 b2 b3 : Bool) : Int32 := if bad || (b0 && b1) || (b2 && b3) then 0 else nI (15 - (b0.toNat + 2 * b1.toNat + 4 * b2.toNat + 8 * b3.toNat))
def mskB (b0 b1 b2 b3 : Bool) : Int32 := nI (15 - (b0.toNat + 2 * b1.toNat + 4 * b2.toNat + 8 * b3.toNat))
def hearB : List (Bool × Int32) → Int32 → Int32
  | [], left => left
  | c :: cs, left => if c.2 = -1 then (if c.1 = true then hearB cs left else 0) else if (lieF c.1 c.2 left >>> ((2 * c.2) &&& 31)) &&& 3 = 0 then 0 else hearB cs (lieF c.1 c.2 left)
theorem hearF_B (pa pw : Nat → Int32) : ∀ (L : List Int32) (left : Int32), hearF pa pw L left = hearB (L.map (fun c => (soW pa pw c, spF c))) left
  | [], _ => rfl
  | c :: L, left => by
    show (if spF c = -1 then (if soW pa pw c = true then hearF pa pw L left else 0) else if _ then 0 else hearF pa pw L _) = (if spF c = -1 then (if soW pa pw c = true then hearB _ left else 0) else if _ then 0 else hearB _ _)
    rw [hearF_B pa pw L, hearF_B pa pw L]
def spOK (c : Bool × Int32) : Prop := c.2 = -1 ∨ c.2 = 0 ∨ c.2 = 1
theorem lie_0 : ∀ so b0 b1 b2 b3 : Bool, (b0 && b1) = false → (b2 && b3) = false → ((lieF so 0 (resB false b0 b1 b2 b3) >>> ((2 * 0) &&& 31)) &&& 3 = 0 ↔ (so && b1 || !so && b0) = true) ∧ ((so && b1 || !so && b0) = false → lieF so 0 (resB false b0 b1 b2 b3) = resB false (b0 || so) (b1 || !so) b2 b3 ∧ ((b0 || so) && (b1 || !so)) = false) := by decide +kernel
theorem lie_1 : ∀ so b0 b1 b2 b3 : Bool, (b0 && b1) = false → (b2 && b3) = false → ((lieF so 1 (resB false b0 b1 b2 b3) >>> ((2 * 1) &&& 31)) &&& 3 = 0 ↔ (so && b3 || !so && b2) = true) ∧ ((so && b3 || !so && b2) = false → lieF so 1 (resB false b0 b1 b2 b3) = resB false b0 b1 (b2 || so) (b3 || !so) ∧ ((b2 || so) && (b3 || !so)) = false) := by decide +kernel
theorem res_a {bad b0 b1 b2 b3 : Bool} (h : (b0 && b1) = true) : resB bad b0 b1 b2 b3 = 0 := if_pos (by rw [h]; simp)
theorem res_b {bad b0 b1 b2 b3 : Bool} (h : (b2 && b3) = true) : resB bad b0 b1 b2 b3 = 0 := if_pos (by rw [h]; simp)
theorem res_c {b0 b1 b2 b3 : Bool} : resB true b0 b1 b2 b3 = 0 := if_pos (by simp)
def anyC (s : Int32) (so : Bool) (L : List (Bool × Int32)) : Bool := L.any (fun c => decide (c.2 = s) && (c.1 == so))
theorem anyC_c (s : Int32) (so : Bool) (c : Bool × Int32) (L : List (Bool × Int32)) : anyC s so (c :: L) = ((decide (c.2 = s) && (c.1 == so)) || anyC s so L) := List.any_cons
def resL (L : List (Bool × Int32)) : Int32 := resB (anyC (-1) false L) (anyC 0 true L) (anyC 0 false L) (anyC 1 true L) (anyC 1 false L)
theorem hear_res : ∀ (L : List (Bool × Int32)), (∀ c ∈ L, spOK c) → ∀ b0 b1 b2 b3 : Bool, (b0 && b1) = false → (b2 && b3) = false → hearB L (resB false b0 b1 b2 b3) = resB (anyC (-1) false L) (b0 || anyC 0 true L) (b1 || anyC 0 false L) (b2 || anyC 1 true L) (b3 || anyC 1 false L)
  | [], _, b0, b1, b2, b3, _, _ => by simp [hearB, anyC]
  | (so, sp) :: L, h, b0, b1, b2, b3, h01, h23 => by
    have ih := hear_res L (fun c hc => h c (List.mem_cons_of_mem _ hc))
    have hsp : sp = -1 ∨ sp = 0 ∨ sp = 1 := h (so, sp) List.mem_cons_self
    have m0 : decide ((-1 : Int32) = 0) = false := by decide
    have m1 : decide ((-1 : Int32) = 1) = false := by decide
    have z1 : decide ((0 : Int32) = 1) = false := by decide
    have zm : decide ((0 : Int32) = -1) = false := by decide
    have o0 : decide ((1 : Int32) = 0) = false := by decide
    have om : decide ((1 : Int32) = -1) = false := by decide
    rw [anyC_c, anyC_c, anyC_c, anyC_c, anyC_c]
    rcases hsp with rfl | rfl | rfl
    · show (if (-1 : Int32) = -1 then (if so = true then hearB L _ else 0) else _) = _
      rw [if_pos rfl]
      cases so with
      | true =>
        rw [if_pos rfl, ih b0 b1 b2 b3 h01 h23]
        simp only [m0, m1, decide_true, Bool.true_and, Bool.false_and, Bool.false_or, Bool.or_false]
        rfl
      | false =>
        rw [if_neg Bool.false_ne_true]
        exact (if_pos (by simp)).symm
    · show (if (0 : Int32) = -1 then _ else if (lieF so 0 _ >>> ((2 * 0) &&& 31)) &&& 3 = 0 then 0 else hearB L _) = _
      rw [if_neg (by decide)]
      have ht := lie_0 so b0 b1 b2 b3 h01 h23
      cases hc : (so && b1 || !so && b0) with
      | true =>
        rw [if_pos (ht.1.mpr hc)]
        refine (res_a ?_).symm
        revert hc
        cases so <;> cases b0 <;> cases b1 <;> simp
      | false =>
        rw [if_neg (fun q => by rw [ht.1.mp q] at hc; exact Bool.false_ne_true hc.symm)]
        obtain ⟨e, e2⟩ := ht.2 hc
        rw [e, ih _ _ _ _ e2 h23]
        simp only [zm, z1, decide_true, Bool.true_and, Bool.false_and, Bool.false_or, Bool.or_assoc]
        cases so <;> rfl
    · show (if (1 : Int32) = -1 then _ else if (lieF so 1 _ >>> ((2 * 1) &&& 31)) &&& 3 = 0 then 0 else hearB L _) = _
      rw [if_neg (by decide)]
      have ht := lie_1 so b0 b1 b2 b3 h01 h23
      cases hc : (so && b3 || !so && b2) with
      | true =>
        rw [if_pos (ht.1.mpr hc)]
        refine (res_b ?_).symm
        revert hc
        cases so <;> cases b2 <;> cases b3 <;> simp
      | false =>
        rw [if_neg (fun q => by rw [ht.1.mp q] at hc; exact Bool.false_ne_true hc.symm)]
        obtain ⟨e, e2⟩ := ht.2 hc
        rw [e, ih _ _ _ _ h01 e2]
        simp only [om, o0, decide_true, Bool.true_and, Bool.false_and, Bool.false_or, Bool.or_assoc]
        cases so <;> rfl
theorem hear_15 (L : List (Bool × Int32)) (h : ∀ c ∈ L, spOK c) : hearB L 15 = resL L := by
  have := hear_res L h false false false false rfl rfl
  simp only [Bool.false_or] at this
  exact this
theorem hear_0 : ∀ (L : List (Bool × Int32)), (∀ c ∈ L, spOK c) → hearB L 0 = 0
  | [], _ => rfl
  | (so, sp) :: L, h => by
    have ih := hear_0 L (fun c hc => h c (List.mem_cons_of_mem _ hc))
    have hsp : sp = -1 ∨ sp = 0 ∨ sp = 1 := h (so, sp) List.mem_cons_self
    rcases hsp with rfl | rfl | rfl
    · show (if (-1 : Int32) = -1 then (if so = true then hearB L _ else 0) else _) = _
      rw [if_pos rfl, ih]
      cases so <;> rfl
    · show (if (0 : Int32) = -1 then _ else if (lieF so 0 _ >>> ((2 * 0) &&& 31)) &&& 3 = 0 then 0 else hearB L _) = _
      rw [if_neg (by decide), if_pos (by cases so <;> decide)]
    · show (if (1 : Int32) = -1 then _ else if (lieF so 1 _ >>> ((2 * 1) &&& 31)) &&& 3 = 0 then 0 else hearB L _) = _
      rw [if_neg (by decide), if_pos (by cases so <;> decide)]
theorem hear_app : ∀ (A B : List (Bool × Int32)), (∀ c ∈ B, spOK c) → ∀ left, hearB (A ++ B) left = hearB B (hearB A left)
  | [], _, _, _ => rfl
  | (so, sp) :: A, B, h, left => by
    show (if sp = -1 then (if so = true then hearB (A ++ B) left else 0) else if (lieF so sp left >>> ((2 * sp) &&& 31)) &&& 3 = 0 then 0 else hearB (A ++ B) (lieF so sp left)) = hearB B (if sp = -1 then (if so = true then hearB A left else 0) else if (lieF so sp left >>> ((2 * sp) &&& 31)) &&& 3 = 0 then 0 else hearB A (lieF so sp left))
    rw [hear_app A B h left, hear_app A B h (lieF so sp left)]
    split
    · split
      · rfl
      · exact (hear_0 B h).symm
    · split
      · exact (hear_0 B h).symm
      · rfl
-- the same in the reference
theorem msk_0 : ∀ so b0 b1 b2 b3 : Bool, mskB b0 b1 b2 b3 &&& ((1 <<< ((2 * (0 : Int32) + (if so = true then 0 else 1)) &&& 31)) ^^^ -1) = mskB (b0 || so) (b1 || !so) b2 b3 := by decide +kernel
theorem msk_1 : ∀ so b0 b1 b2 b3 : Bool, mskB b0 b1 b2 b3 &&& ((1 <<< ((2 * (1 : Int32) + (if so = true then 0 else 1)) &&& 31)) ^^^ -1) = mskB b0 b1 (b2 || so) (b3 || !so) := by decide +kernel
theorem msk_e : ∀ b0 b1 b2 b3 : Bool, spkE (mskB b0 b1 b2 b3) = resB false b0 b1 b2 b3 := by decide +kernel
/-- the clues from k on but one, as what they say and who says it -/
def refL (cl pl : Nat → Int32) (wo : Int32) : Nat → Nat → List (Bool × Int32)
  | 0, _ => []
  | m + 1, k => if nI k = wo then refL cl pl wo m (k + 1) else (isoF cl pl k, cl (6 * k + 5)) :: refL cl pl wo m (k + 1)
theorem spk_res (cl pl : Nat → Int32) (wo : Int32) : ∀ (m k : Nat), (∀ c ∈ refL cl pl wo m k, spOK c) → ∀ b0 b1 b2 b3 : Bool, spkR cl pl wo m k (mskB b0 b1 b2 b3) = resB (anyC (-1) false (refL cl pl wo m k)) (b0 || anyC 0 true (refL cl pl wo m k)) (b1 || anyC 0 false (refL cl pl wo m k)) (b2 || anyC 1 true (refL cl pl wo m k)) (b3 || anyC 1 false (refL cl pl wo m k))
  | 0, k, _, b0, b1, b2, b3 => by
    show spkE _ = _
    rw [msk_e]
    simp [refL, anyC]
  | m + 1, k, h, b0, b1, b2, b3 => by
    have m0 : decide ((-1 : Int32) = 0) = false := by decide
    have m1 : decide ((-1 : Int32) = 1) = false := by decide
    have z1 : decide ((0 : Int32) = 1) = false := by decide
    have zm : decide ((0 : Int32) = -1) = false := by decide
    have o0 : decide ((1 : Int32) = 0) = false := by decide
    have om : decide ((1 : Int32) = -1) = false := by decide
    unfold spkR refL
    unfold refL at h
    by_cases hw : nI k = wo
    · rw [if_pos hw, if_pos hw]
      rw [if_pos hw] at h
      exact spk_res cl pl wo m (k + 1) h b0 b1 b2 b3
    · rw [if_neg hw, if_neg hw]
      rw [if_neg hw] at h
      have ih := spk_res cl pl wo m (k + 1) (fun c hc => h c (List.mem_cons_of_mem _ hc))
      have hsp : cl (6 * k + 5) = -1 ∨ cl (6 * k + 5) = 0 ∨ cl (6 * k + 5) = 1 := h _ List.mem_cons_self
      rw [anyC_c, anyC_c, anyC_c, anyC_c, anyC_c]
      obtain ⟨so, hso⟩ : ∃ so, so = isoF cl pl k := ⟨_, rfl⟩
      rw [← hso]
      rcases hsp with e | e | e
      · rw [e, if_pos rfl]
        cases so with
        | true =>
          rw [if_pos rfl, ih b0 b1 b2 b3]
          simp only [m0, m1, decide_true, Bool.true_and, Bool.false_and, Bool.false_or, Bool.or_false]
          rfl
        | false =>
          rw [if_neg Bool.false_ne_true]
          exact (if_pos (by simp)).symm
      · rw [e, if_neg (by decide), msk_0 so b0 b1 b2 b3, ih]
        simp only [zm, z1, decide_true, Bool.true_and, Bool.false_and, Bool.false_or, Bool.or_assoc]
        cases so <;> rfl
      · rw [e, if_neg (by decide), msk_1 so b0 b1 b2 b3, ih]
        simp only [om, o0, decide_true, Bool.true_and, Bool.false_and, Bool.false_or, Bool.or_assoc]
        cases so <;> rfl
theorem spk_15 (cl pl : Nat → Int32) (wo : Int32) (n : Nat) (h : ∀ c ∈ refL cl pl wo n 0, spOK c) : spkR cl pl wo n 0 15 = resL (refL cl pl wo n 0) := by
  have := spk_res cl pl wo n 0 h false false false false
  simp only [Bool.false_or] at this
  exact this
theorem anyC_eq {s : Int32} {so : Bool} {A B : List (Bool × Int32)} (h : ∀ c, c ∈ A ↔ c ∈ B) : anyC s so A = anyC s so B := by
  rw [Bool.eq_iff_iff]
  unfold anyC
  rw [List.any_eq_true, List.any_eq_true]
  constructor
  · rintro ⟨c, h1, h2⟩
    exact ⟨c, (h c).mp h1, h2⟩
  · rintro ⟨c, h1, h2⟩
    exact ⟨c, (h c).mpr h1, h2⟩
theorem resL_eq {A B : List (Bool × Int32)} (h : ∀ c, c ∈ A ↔ c ∈ B) : resL A = resL B := by
  unfold resL
  rw [anyC_eq h, anyC_eq h, anyC_eq h, anyC_eq h, anyC_eq h]
theorem refL_mem (cl pl : Nat → Int32) (wo : Int32) (c : Bool × Int32) : ∀ (m k : Nat), c ∈ refL cl pl wo m k ↔ ∃ j, k ≤ j ∧ j < k + m ∧ ¬ nI j = wo ∧ c = (isoF cl pl j, cl (6 * j + 5))
  | 0, k => by
    constructor
    · intro h
      exact absurd h List.not_mem_nil
    · rintro ⟨j, h1, h2, _⟩
      omega
  | m + 1, k => by
    unfold refL
    by_cases hw : nI k = wo
    · rw [if_pos hw, refL_mem cl pl wo c m (k + 1)]
      constructor
      · rintro ⟨j, h1, h2, h3⟩
        exact ⟨j, by omega, by omega, h3⟩
      · rintro ⟨j, h1, h2, h3⟩
        have : j ≠ k := fun e => h3.1 (e ▸ hw)
        exact ⟨j, by omega, by omega, h3⟩
    · rw [if_neg hw, List.mem_cons, refL_mem cl pl wo c m (k + 1)]
      constructor
      · rintro (h | ⟨j, h1, h2, h3⟩)
        · exact ⟨k, by omega, by omega, hw, h⟩
        · exact ⟨j, by omega, by omega, h3⟩
      · rintro ⟨j, h1, h2, h3, h4⟩
        by_cases e : j = k
        · rw [e] at h4
          exact Or.inl h4
        · exact Or.inr ⟨j, by omega, by omega, h3, h4⟩
