-- name and type: both sides answer alike
theorem nI_m1 {n : Nat} (h : n < 2 ^ 31) : ¬ nI n = -1 := by
  intro e
  have : (nI n).toInt = -1 := by rw [e]; rfl
  rw [nI_toInt h] at this
  omega
theorem lN_m1 {n : Nat} (h : n < 2 ^ 63) : ¬ lN n = -1 := by
  intro e
  have : (lN n).toInt = -1 := by rw [e]; rfl
  rw [pk_lT h] at this
  omega
/-- names on both sides: B i, the letters of thing i's name, none if it has none -/
def nmI (o : Option (List Nat)) : Int64 := match o with
  | some bs => lN (vF bs 0)
  | none => 0
def nmOK (N K : Nat) (B : Nat → Option (List Nat)) (nc nr : Nat → Int64) : Prop := (∀ i, i < N * K → nc (tAt N i) = nmI (B i) ∧ nr (j5 N i) = nmI (B i) ∧ ∀ bs, B i = some bs → isWordL bs ∧ ∀ k, k < 15 → ¬ wdF k = lN (vF bs 0)) ∧ (∀ t, t < 40 → (∀ i, i < N * K → t ≠ tAt N i) → nc t = 0) ∧ (∀ j, j < 15 → (∀ i, i < N * K → j ≠ j5 N i) → nr j = 0) ∧ ∀ i k, i < N * K → k < N * K → i ≠ k → ∀ bs cs, B i = some bs → B k = some cs → vF bs 0 ≠ vF cs 0
def updB (B : Nat → Option (List Nat)) (i : Nat) (bs : List Nat) : Nat → Option (List Nat) := fun j => if j = i then some bs else B j
section NAMES
variable {N K : Nat} {B : Nat → Option (List Nat)} {nc nr : Nat → Int64}
theorem nm_val {o : Option (List Nat)} {v : Nat} (hv : 0 < v ∧ v < 2 ^ 48) (h : ∀ bs, o = some bs → isWordL bs) : nmI o = lN v ↔ ∃ bs, o = some bs ∧ vF bs 0 = v := by
  cases o with
  | none =>
    constructor
    · intro e
      have := (pk_lEQ (a := 0) (b := v) (by decide) (by omega)).mp e
      omega
    · rintro ⟨bs, e, _⟩
      cases e
  | some bs =>
    have hb := word_lt (h bs rfl)
    constructor
    · intro e
      exact ⟨bs, rfl, (pk_lEQ (by omega) (by omega)).mp e⟩
    · rintro ⟨cs, e, e2⟩
      cases e
      show lN (vF bs 0) = _
      rw [e2]
theorem named_iff (hN : 0 < N ∧ N ≤ 5) (hK : K ≤ 3) (h : nmOK N K B nc nr) {v : Nat} (hv : 0 < v ∧ v < 2 ^ 48) : (namedF nc (lN v) = -1 ∧ ∀ i, i < N * K → ¬ nc (tAt N i) = lN v) ∨ ∃ i, i < N * K ∧ nc (tAt N i) = lN v ∧ namedF nc (lN v) = nI (tAt N i) := by
  have hz : ¬ lN v = 0 := fun e => by
    have := (lN0_iff (by omega)).mp e
    omega
  unfold namedF
  rcases seg_find (fun x => decide (¬ lN v = 0 ∧ nc x = lN v)) 40 0 with ⟨e, hn⟩ | ⟨t, e, t1, t2, t3, t4⟩
  · left
    rw [e]
    refine ⟨rfl, fun i hi hc => ?_⟩
    have hl := tAt_lt hN hK hi
    have := hn (tAt N i) (by omega) (by omega)
    rw [decide_eq_true ⟨hz, hc⟩] at this
    exact Bool.false_ne_true this.symm
  · right
    rw [e]
    have t3 := of_decide_eq_true t3
    have hex : ∃ i, i < N * K ∧ t = tAt N i := by
      refine Classical.byContradiction fun hc => ?_
      have := h.2.1 t (by omega) (fun i hi e => hc ⟨i, hi, e⟩)
      rw [this] at t3
      exact hz t3.2.symm
    obtain ⟨i, hi, rfl⟩ := hex
    exact ⟨i, hi, t3.2, rfl⟩
/-- name: what both sides answer, and the names behind it -/
theorem same_name (hN : 0 < N ∧ N ≤ 5) (hK : K ≤ 3) (h : nmOK N K B nc nr) (wd : Nat → Int64) (hwd : ∀ k, k < 15 → wd k = wdF k) {i : Nat} (hi : i < N * K) (w : Int64) : ((gnF nc (nI (tAt N i)) w).isSome = nmF (nI N) (nI K) wd nr (nI (tAt N i)) w) ∧ ∀ v, gnF nc (nI (tAt N i)) w = some v → v = leS w 8 0 ∧ ∃ bs, nmOK N K (updB B i bs) (vp_updL nc (tAt N i) v) (vp_updL nr (j5 N i) v) := by
  have hthing : thingB (nI N) (nI K) (nI (tAt N i)) = true := (thing_iff hN hK _).mpr ⟨i, hi, rfl⟩
  have hidx : idxF (nI (tAt N i)) = nI (j5 N i) := idx_t hN hK hi
  have hj := j5_lt hN hK hi
  have hl := tAt_lt hN hK hi
  obtain ⟨r1, r2⟩ := word_r w
  cases hw : wordN w with
  | none =>
    have hcn : wdO (byL w 8) 0 0 = -1 := by rw [word_c, hw]
    have e1 : gnF nc (nI (tAt N i)) w = none := by
      unfold gnF
      rw [if_pos (Or.inl hcn)]
    have e2 : nmF (nI N) (nI K) wd nr (nI (tAt N i)) w = false := by
      unfold nmF
      rw [r2]
      by_cases ha : (nzL w 8).all isLt = true
      · rw [if_pos ha]
        show nmE _ _ _ _ _ _ _ = false
        unfold nmE
        have : ¬ (1 ≤ (nzL w 8).length ∧ (nzL w 8).length ≤ 6) := by
          intro q
          unfold wordN at hw
          rw [if_pos ⟨ha, q.1, q.2⟩] at hw
          cases hw
        rw [decide_eq_false this, Bool.false_and, Bool.and_false]
      · rw [if_neg ha]
    rw [e1, e2]
    exact ⟨rfl, fun v q => by cases q⟩
  | some v =>
    obtain ⟨bs, hbs, ev⟩ := word_is hw
    have hvb := word_lt hbs
    rw [← ev] at hvb
    have hcn : wdO (byL w 8) 0 0 = lN v := by rw [word_c, hw]
    have hcond : (nzL w 8).all isLt = true ∧ 1 ≤ (nzL w 8).length ∧ (nzL w 8).length ≤ 6 ∧ vF (nzL w 8) 0 = v := by
      unfold wordN at hw
      split at hw
      · rename_i hc
        cases hw
        exact ⟨hc.1, hc.2.1, hc.2.2, rfl⟩
      · cases hw
    have hle : leS w 8 0 = lN v := by rw [r1, hcond.2.2.2]
    have hnr : nmR 8 (leS w 8 0) 0 = some (nzL w 8).length := by rw [r2, if_pos hcond.1]
    have hnF : nmF (nI N) (nI K) wd nr (nI (tAt N i)) w = !(segF id 15 0).any (nmQ wd nr (lN v) (nI (tAt N i))) := by
      unfold nmF
      rw [hnr]
      show nmE _ _ _ _ _ _ _ = _
      unfold nmE
      rw [hthing, decide_eq_true ⟨hcond.2.1, hcond.2.2.1⟩, hle, Bool.true_and, Bool.true_and]
    have hnm1 : ¬ lN v = -1 := lN_m1 (by omega)
    -- a word of the sentences
    have hwords : (segF id 15 0).any (fun k => decide (wdF k = lN v)) = true ↔ ∃ k, k < 15 ∧ wdF k = lN v := by
      rw [List.any_eq_true]
      constructor
      · rintro ⟨k, hk, hc⟩
        obtain ⟨j, hj, e⟩ := seg_mem.mp hk
        exact ⟨k, by omega, of_decide_eq_true hc⟩
      · rintro ⟨k, hk, hc⟩
        exact ⟨k, seg_mem.mpr ⟨k, hk, by omega⟩, decide_eq_true hc⟩
    have href : (segF id 15 0).any (nmQ wd nr (lN v) (nI (tAt N i))) = true ↔ (∃ k, k < 15 ∧ wdF k = lN v) ∨ ∃ k, k < N * K ∧ k ≠ i ∧ nc (tAt N k) = lN v := by
      rw [List.any_eq_true]
      constructor
      · rintro ⟨k, hk, hc⟩
        obtain ⟨j, hj, e⟩ := seg_mem.mp hk
        have hk15 : k < 15 := by omega
        have hc := of_decide_eq_true hc
        rw [hwd k hk15, hidx] at hc
        rcases hc with hc | ⟨c1, c2⟩
        · exact Or.inl ⟨k, hk15, hc⟩
        · right
          have hex : ∃ i', i' < N * K ∧ k = j5 N i' := by
            refine Classical.byContradiction fun hno => ?_
            have := h.2.2.1 k hk15 (fun i' hi' e => hno ⟨i', hi', e⟩)
            rw [this] at c1
            have := (lN0_iff (by omega)).mp c1.symm
            omega
          obtain ⟨i', hi', rfl⟩ := hex
          refine ⟨i', hi', fun e => c2 (by rw [e]), ?_⟩
          rw [(h.1 i' hi').1, ← (h.1 i' hi').2.1]
          exact c1
      · rintro (⟨k, hk, hc⟩ | ⟨k, hk, hne, hc⟩)
        · exact ⟨k, seg_mem.mpr ⟨k, hk, by omega⟩, decide_eq_true (Or.inl (by rw [hwd k hk]; exact hc))⟩
        · have hjk := j5_lt hN hK hk
          refine ⟨j5 N k, seg_mem.mpr ⟨j5 N k, hjk, by omega⟩, decide_eq_true (Or.inr ⟨?_, ?_⟩)⟩
          · rw [(h.1 k hk).2.1, ← (h.1 k hk).1]
            exact hc
          · rw [hidx]
            exact fun e => hne (j5_inj hN ((nI_eq (by omega) (by omega)).mp e))
    have hown : (¬ namedF nc (lN v) = -1 ∧ ¬ namedF nc (lN v) = nI (tAt N i)) ↔ ∃ k, k < N * K ∧ k ≠ i ∧ nc (tAt N k) = lN v := by
      rcases named_iff hN hK h hvb with ⟨e, hno⟩ | ⟨k, hk, hc, e⟩
      · rw [e]
        constructor
        · rintro ⟨q, _⟩
          exact absurd rfl q
        · rintro ⟨k, hk, _, hc⟩
          exact absurd hc (hno k hk)
      · have hlk := tAt_lt hN hK hk
        rw [e, nI_eq (by omega) (by omega)]
        constructor
        · rintro ⟨_, q⟩
          exact ⟨k, hk, fun z => q (by rw [z]), hc⟩
        · rintro ⟨k', hk', hne, hc'⟩
          refine ⟨nI_m1 (by omega), fun z => ?_⟩
          have hki := tAt_inj hN z
          -- two things of one name
          rw [(h.1 k hk).1] at hc
          rw [(h.1 k' hk').1] at hc'
          obtain ⟨b1, q1, q2⟩ := (nm_val hvb (fun bs q => ((h.1 k hk).2.2 bs q).1)).mp hc
          obtain ⟨b2, q3, q4⟩ := (nm_val hvb (fun bs q => ((h.1 k' hk').2.2 bs q).1)).mp hc'
          exact h.2.2.2 k k' hk hk' (by rw [hki]; exact Ne.symm hne) b1 b2 q1 q3 (by rw [q2, q4])
    rw [hnF]
    unfold gnF
    rw [hcn]
    by_cases a1 : (segF id 15 0).any (fun k => decide (wdF k = lN v)) = true
    · rw [if_pos (Or.inr a1), href.mpr (Or.inl (hwords.mp a1))]
      exact ⟨rfl, fun v q => by cases q⟩
    · rw [if_neg (fun q => q.elim hnm1 a1)]
      by_cases a2 : ¬ namedF nc (lN v) = -1 ∧ ¬ namedF nc (lN v) = nI (tAt N i)
      · rw [if_pos a2, href.mpr (Or.inr (hown.mp a2))]
        exact ⟨rfl, fun v q => by cases q⟩
      · rw [if_neg a2]
        have a3 : (segF id 15 0).any (nmQ wd nr (lN v) (nI (tAt N i))) = false := by
          cases hc : (segF id 15 0).any (nmQ wd nr (lN v) (nI (tAt N i))) with
          | false => rfl
          | true =>
            rcases href.mp hc with q | q
            · exact absurd (hwords.mpr q) a1
            · exact absurd (hown.mpr q) a2
        rw [a3]
        refine ⟨rfl, fun v' q => ?_⟩
        cases q
        refine ⟨hle.symm, bs, ?_, ?_, ?_, ?_⟩
        · intro k hk
          by_cases e : k = i
          · rw [e]
            have eB : updB B i bs i = some bs := if_pos rfl
            rw [eB, pk_uLs, pk_uLs]
            refine ⟨by rw [ev]; rfl, by rw [ev]; rfl, fun cs q => ?_⟩
            cases q
            refine ⟨hbs, fun k' hk' q => a1 (hwords.mpr ⟨k', hk', by rw [q, ev]⟩)⟩
          · have eB : updB B i bs k = B k := if_neg e
            rw [eB, pk_uLn (fun z => e (tAt_inj hN z)), pk_uLn (fun z => e (j5_inj hN z))]
            exact h.1 k hk
        · intro t ht hno
          rw [pk_uLn (hno i hi)]
          exact h.2.1 t ht hno
        · intro j hj hno
          rw [pk_uLn (hno i hi)]
          exact h.2.2.1 j hj hno
        · have other : ∀ k, k < N * K → k ≠ i → ∀ cs, B k = some cs → vF cs 0 ≠ vF bs 0 := by
            intro k hk hne cs q e
            apply a2
            refine hown.mpr ⟨k, hk, hne, ?_⟩
            rw [(h.1 k hk).1, q]
            show lN (vF cs 0) = _
            rw [e, ← ev]
          intro k k' hk hk' hne b1 b2 q1 q2
          by_cases e1 : k = i
          · have eB : updB B i bs k = some bs := if_pos e1
            rw [eB] at q1
            cases q1
            have eB2 : updB B i bs k' = B k' := if_neg (fun z => hne (by rw [e1, z]))
            rw [eB2] at q2
            exact Ne.symm (other k' hk' (fun z => hne (by rw [e1, z])) b2 q2)
          · have eB : updB B i bs k = B k := if_neg e1
            rw [eB] at q1
            by_cases e2 : k' = i
            · have eB2 : updB B i bs k' = some bs := if_pos e2
              rw [eB2] at q2
              cases q2
              exact other k hk e1 b1 q1
            · have eB2 : updB B i bs k' = B k' := if_neg e2
              rw [eB2] at q2
              exact h.2.2.2 k k' hk hk' hne b1 b2 q1 q2
end NAMES
-- type
theorem bv_N (w : Int64) {m : Nat} (hm : m < 8) (hb : bN w m < 128) : bvF w (shN (m + 1)) = nI (bN w m) := by
  have h := by_bits w (k := 8 * m) (by omega)
  unfold bvF
  rw [pk_vb]
  show ((w >>> ((nI (8 * m)).toInt64 &&& 63)).toInt32.toInt8).toInt32 = _
  obtain ⟨y, hy⟩ : ∃ y, y = w >>> ((nI (8 * m)).toInt64 &&& 63) := ⟨_, rfl⟩
  rw [← hy] at h ⊢
  have e8 : y.toInt32.toInt8 = (lN (bN w m)).toInt32.toInt8 := by
    apply Int8.toBitVec_inj.mp
    apply BitVec.eq_of_toNat_eq
    have nn : ∀ z : Int64, (z.toInt32.toInt8).toBitVec.toNat = z.toBitVec.toNat % 2 ^ 32 % 2 ^ 8 := by
      intro z
      rw [Int32.toBitVec_toInt8, Int64.toBitVec_toInt32, BitVec.signExtend_eq_setWidth_of_le _ (by decide), BitVec.signExtend_eq_setWidth_of_le _ (by decide), BitVec.toNat_setWidth, BitVec.toNat_setWidth]
    have n1 := nn y
    have n2 := nn (lN (bN w m))
    have h2 := congrArg (fun z => z.toBitVec.toNat) h
    obtain ⟨n, hn, rfl⟩ := wb_of y
    have h3 : (lN n &&& 255).toBitVec.toNat = n % 256 := by
      rw [l255 hn, wb_tn (by have := Nat.mod_lt n (show 0 < 256 by decide); omega)]
    have hbn := bN_lt w m
    rw [n1, n2, wb_tn hn, wb_tn (by omega)]
    have h2' : (lN n &&& 255).toBitVec.toNat = (lN (bN w m)).toBitVec.toNat := h2
    rw [h3, wb_tn (by omega)] at h2'
    omega
  rw [e8]
  have tab : ∀ b, b < 128 → ((lN b).toInt32.toInt8).toInt32 = nI b := by decide +kernel
  exact tab _ hb
def isCh (b : Nat) : Bool := decide (32 ≤ b ∧ b ≤ 126)
theorem apC_N (w : Int64) : ∀ (m n : Nat), m ≤ 8 → apC (byL w m) n = if (nzL w m).all isCh = true then some (n + (nzL w m).length) else none
  | 0, n, _ => rfl
  | m + 1, n, hm => by
    have hb := bN_lt w m
    show apC (byF w (shN (m + 1)) :: byL w m) n = _
    unfold apC
    rw [byF_N w m (by omega)]
    by_cases h0 : bN w m = 0
    · have e : nzL w (m + 1) = nzL w m := by
        show (if bN w m = 0 then _ else _) = _
        rw [if_pos h0]
      rw [if_pos (by rw [h0]; rfl), e]
      exact apC_N w m n (by omega)
    · have e : nzL w (m + 1) = bN w m :: nzL w m := by
        show (if bN w m = 0 then _ else _) = _
        rw [if_neg h0]
      rw [if_neg (nI_ne0 (by omega) (by omega)), e, List.all_cons, List.length_cons]
      have hc : (nI (bN w m) < 32 ∨ 126 < nI (bN w m)) ↔ isCh (bN w m) = false := by
        unfold isCh
        rw [decide_eq_false_iff_not, show (32 : Int32) = nI 32 from rfl, show (126 : Int32) = nI 126 from rfl, nI_ltI (by omega) (by omega), nI_ltI (by omega) (by omega)]
        omega
      cases hh : isCh (bN w m) with
      | false => rw [if_pos (hc.mpr hh), Bool.false_and, if_neg Bool.false_ne_true]
      | true =>
        rw [if_neg (fun q => by rw [hc.mp q] at hh; exact Bool.false_ne_true hh), Bool.true_and, apC_N w m (n + 1) (by omega), show n + 1 + (nzL w m).length = n + ((nzL w m).length + 1) by omega]
theorem tyR_N (w : Int64) : ∀ (m n : Nat), m ≤ 8 → tyR w m n = if (nzL w m).all isCh = true then some (n + (nzL w m).length) else none
  | 0, n, _ => rfl
  | m + 1, n, hm => by
    have hb := bN_lt w m
    unfold tyR
    rw [byG_N w m (by omega)]
    by_cases h0 : bN w m = 0
    · have e : nzL w (m + 1) = nzL w m := by
        show (if bN w m = 0 then _ else _) = _
        rw [if_pos h0]
      rw [if_pos ((lN0_iff (by omega)).mpr h0), e]
      exact tyR_N w m n (by omega)
    · have e : nzL w (m + 1) = bN w m :: nzL w m := by
        show (if bN w m = 0 then _ else _) = _
        rw [if_neg h0]
      rw [if_neg (fun q => h0 ((lN0_iff (by omega)).mp q)), e, List.all_cons, List.length_cons]
      have hc : (lN (bN w m) < 32 ∨ 126 < lN (bN w m)) ↔ isCh (bN w m) = false := by
        unfold isCh
        rw [decide_eq_false_iff_not, show (32 : Int64) = lN 32 from rfl, show (126 : Int64) = lN 126 from rfl, pk_lLT (by omega) (by omega), pk_lLT (by omega) (by omega)]
        omega
      cases hh : isCh (bN w m) with
      | false => rw [if_pos (hc.mpr hh), Bool.false_and, if_neg Bool.false_ne_true]
      | true =>
        rw [if_neg (fun q => by rw [hc.mp q] at hh; exact Bool.false_ne_true hh), Bool.true_and, tyR_N w m (n + 1) (by omega), show n + 1 + (nzL w m).length = n + ((nzL w m).length + 1) by omega]
/-- bytes put behind a row -/
def putL (f : Nat → Int32) (n : Nat) : List Nat → Nat → Int32
  | [] => f
  | b :: bs => putL (upd f n (nI b)) (n + 1) bs
theorem apB_N (w : Int64) : ∀ (m : Nat) (s : SS), m ≤ 8 → (byL w m).foldl apB s = (s.1, putL s.2.1 s.2.2.2.2.1 (nzL w m), s.2.2.1, s.2.2.2.1, s.2.2.2.2.1 + (nzL w m).length, s.2.2.2.2.2)
  | 0, s, _ => rfl
  | m + 1, s, hm => by
    have hb := bN_lt w m
    show (byL w m).foldl apB (apB s (byF w (shN (m + 1)))) = _
    rw [byF_N w m (by omega), apB_N w m _ (by omega)]
    unfold apB
    by_cases h0 : bN w m = 0
    · have e : nzL w (m + 1) = nzL w m := by
        show (if bN w m = 0 then _ else _) = _
        rw [if_pos h0]
      rw [if_pos (show nI (bN w m) = 0 by rw [h0]; rfl), e]
    · have e : nzL w (m + 1) = bN w m :: nzL w m := by
        show (if bN w m = 0 then _ else _) = _
        rw [if_neg h0]
      rw [if_neg (nI_ne0 (by omega) (by omega)), e]
      show (s.1, putL (upd s.2.1 s.2.2.2.2.1 (nI (bN w m))) (s.2.2.2.2.1 + 1) (nzL w m), s.2.2.1, s.2.2.2.1, s.2.2.2.2.1 + 1 + (nzL w m).length, s.2.2.2.2.2) = (s.1, putL (upd s.2.1 s.2.2.2.2.1 (nI (bN w m))) (s.2.2.2.2.1 + 1) (nzL w m), s.2.2.1, s.2.2.2.1, s.2.2.2.2.1 + ((nzL w m).length + 1), s.2.2.2.2.2)
      rw [show s.2.2.2.2.1 + 1 + (nzL w m).length = s.2.2.2.2.1 + ((nzL w m).length + 1) by omega]
theorem shBw_N (w : Int64) : ∀ (m : Nat) (s : SH), m ≤ 8 → (∀ b ∈ nzL w m, b < 128) → shBw w m s = (putL s.1 s.2 (nzL w m), s.2 + (nzL w m).length)
  | 0, s, _, _ => rfl
  | m + 1, s, hm, hlt => by
    have hb := bN_lt w m
    show shBw w m (if byG w (shN (m + 1)) = 0 then s else shP (bvF w (shN (m + 1))) s) = _
    rw [byG_N w m (by omega)]
    by_cases h0 : bN w m = 0
    · have e : nzL w (m + 1) = nzL w m := by
        show (if bN w m = 0 then _ else _) = _
        rw [if_pos h0]
      rw [e] at hlt ⊢
      rw [if_pos ((lN0_iff (by omega)).mpr h0)]
      exact shBw_N w m s (by omega) hlt
    · have e : nzL w (m + 1) = bN w m :: nzL w m := by
        show (if bN w m = 0 then _ else _) = _
        rw [if_neg h0]
      rw [e] at hlt ⊢
      rw [if_neg (fun q => h0 ((lN0_iff (by omega)).mp q)), bv_N w (by omega) (hlt _ List.mem_cons_self), shBw_N w m _ (by omega) (fun b q => hlt b (List.mem_cons_of_mem _ q))]
      show (putL (upd s.1 s.2 (nI (bN w m))) (s.2 + 1) (nzL w m), s.2 + 1 + (nzL w m).length) = (putL (upd s.1 s.2 (nI (bN w m))) (s.2 + 1) (nzL w m), s.2 + ((nzL w m).length + 1))
      rw [show s.2 + 1 + (nzL w m).length = s.2 + ((nzL w m).length + 1) by omega]
theorem putL_at : ∀ (bs : List Nat) (f : Nat → Int32) (n j : Nat), putL f n bs j = if n ≤ j ∧ j < n + bs.length then nI (bs.getD (j - n) 0) else f j
  | [], f, n, j => by
    rw [if_neg (by simp)]
    rfl
  | b :: bs, f, n, j => by
    show putL (upd f n (nI b)) (n + 1) bs j = _
    rw [putL_at bs (upd f n (nI b)) (n + 1) j, List.length_cons]
    by_cases e : j = n
    · rw [if_neg (by omega), if_pos (by omega), e, Nat.sub_self, pk_us]
      rfl
    · rw [pk_un e]
      by_cases h : n + 1 ≤ j ∧ j < n + 1 + bs.length
      · rw [if_pos h, if_pos (by omega), show j - n = (j - (n + 1)) + 1 by omega]
        rfl
      · rw [if_neg h, if_neg (by omega)]
/-- the lines of both sides -/
def lnOK (L : List Nat) (n : Nat) (f : Nat → Int32) : Prop := n = L.length ∧ L.length ≤ 60 ∧ (∀ b ∈ L, 32 ≤ b ∧ b ≤ 126) ∧ ∀ j, j < L.length → f j = nI (L.getD j 0)
theorem ln_put {L bs : List Nat} {n : Nat} {f : Nat → Int32} (h : lnOK L n f) (hb : ∀ b ∈ bs, 32 ≤ b ∧ b ≤ 126) (hl : L.length + bs.length ≤ 60) : lnOK (L ++ bs) (n + bs.length) (putL f n bs) := by
  obtain ⟨h1, h2, h3, h4⟩ := h
  refine ⟨by rw [List.length_append, h1], by rw [List.length_append]; exact hl, fun b q => ?_, fun j hj => ?_⟩
  · rcases List.mem_append.mp q with q | q
    · exact h3 b q
    · exact hb b q
  · rw [List.length_append] at hj
    rw [putL_at]
    by_cases hjL : j < L.length
    · rw [if_neg (by omega), getD_app hjL]
      exact h4 j hjL
    · rw [if_pos (by omega), List.getD_eq_getElem?_getD, List.getD_eq_getElem?_getD, List.getElem?_append_right (by omega), h1]
/-- type: what both sides answer, and the lines behind it -/
theorem same_type {L : List Nat} {s : SS} {t : SH} (hc : lnOK L s.2.2.2.2.1 s.2.1) (hr : lnOK L t.2 t.1) (w : Int64) : (tyB w t.2 = false ∧ apF w s = (-1, s)) ∨ (tyB w t.2 = true ∧ ∃ L', lnOK L' (apF w s).2.2.2.2.2.1 (apF w s).2.2.1 ∧ lnOK L' (shBw w 8 t).2 (shBw w 8 t).1 ∧ (apF w s).1 = nI (shBw w 8 t).2 ∧ (apF w s).2 = (s.1, (apF w s).2.2.1, s.2.2.1, s.2.2.2.1, (apF w s).2.2.2.2.2.1, s.2.2.2.2.2)) := by
  have e1 := apC_N w 8 0 (Nat.le_refl _)
  have e2 := tyR_N w 8 0 (Nat.le_refl _)
  rw [Nat.zero_add] at e1 e2
  by_cases ha : (nzL w 8).all isCh = true
  · rw [if_pos ha] at e1 e2
    have hb : ∀ b ∈ nzL w 8, 32 ≤ b ∧ b ≤ 126 := fun b q => of_decide_eq_true (List.all_eq_true.mp ha b q)
    have hty : tyB w t.2 = decide (t.2 + (nzL w 8).length ≤ 60) := by
      unfold tyB
      rw [e2]
    by_cases hl : L.length + (nzL w 8).length ≤ 60
    · right
      rw [hty, decide_eq_true (by rw [hr.1]; exact hl)]
      have ea : apF w s = (nI (s.2.2.2.2.1 + (nzL w 8).length), (s.1, putL s.2.1 s.2.2.2.2.1 (nzL w 8), s.2.2.1, s.2.2.2.1, s.2.2.2.2.1 + (nzL w 8).length, s.2.2.2.2.2)) := by
        unfold apF
        rw [e1, apB_N w 8 s (Nat.le_refl _)]
        show (if s.2.2.2.2.1 + (nzL w 8).length ≤ 60 then _ else _) = _
        rw [if_pos (by rw [hc.1]; exact hl)]
      rw [ea, shBw_N w 8 t (Nat.le_refl _) (fun b q => by have := hb b q; omega)]
      refine ⟨rfl, L ++ nzL w 8, ln_put hc hb hl, ln_put hr hb hl, ?_, rfl⟩
      show nI (s.2.2.2.2.1 + (nzL w 8).length) = nI (t.2 + (nzL w 8).length)
      rw [hc.1, hr.1]
    · left
      rw [hty, decide_eq_false (by rw [hr.1]; exact hl)]
      refine ⟨rfl, ?_⟩
      unfold apF
      rw [e1]
      show (if s.2.2.2.2.1 + (nzL w 8).length ≤ 60 then _ else _) = _
      rw [if_neg (by rw [hc.1]; exact hl)]
  · rw [if_neg ha] at e1 e2
    left
    constructor
    · unfold tyB
      rw [e2]
    · unfold apF
      rw [e1]
