-- reading: both sides as a whole; printed by wip/whole/gen_c6.py
def readA (L : List Nat) (nc : Nat → Int64) (sl : Nat → Int32) : Int32 × Nat × (Nat ⊕ (Nat → Int32)) := if wdL2 L 0 = 48 ∨ wdL2 L 0 = 49 then ((wdL2 L 0).toInt32 - 48, if tokA L nc 1935767923 (weL L 0 + 1) = -1 then (0, .inl (fpA L (weL L 0 + 1))) else sentA L nc (weL L (weL L 0 + 1) + 1) sl) else (-1, sentA L nc 0 sl)
section READC
variable {N K : Nat} {B : Nat → Option (List Nat)} {nr : Nat → Int64} {L : List Nat} {nc : Nat → Int64}
def sl0 (s : SS) : Nat → Int32 := (segF id 5 0).foldl zeF s.2.2.2.1
theorem parse_c (hN : 0 < N ∧ N ≤ 5) (hK : K ≤ 3) (h : nmOK N K B nc nr) (s : SS) (hs : s.1 = nc) (hl : lnOK L s.2.2.2.2.1 s.2.1) : resA (clS s (sl0 s)) (readA L nc (sl0 s)).2.1 (readA L nc (sl0 s)).1 (readA L nc (sl0 s)).2.2 (parF s) := by
  obtain ⟨l1, l2, l3, l4⟩ := hl
  obtain ⟨s', hs'⟩ : ∃ s', s' = clS s (sl0 s) := ⟨_, rfl⟩
  have c0 : cst L nc s' 0 (sl0 s) := by
    rw [hs']
    exact ⟨hs, l4, l1, rfl, rfl, rfl⟩
  have hp : parF s = pjF (rsF s').1 7 0 1023 (rsF s').2 := by
    rw [hs']
    rfl
  rw [hp, ← hs']
  obtain ⟨h1, h2, h3, h4, h5, h6⟩ := c0
  obtain ⟨w1, w2⟩ := rwW_eq h2 l3 (Nat.zero_le _)
  have hw : rdW s' = wdL2 L 0 := by
    unfold rdW
    rw [h4, h3]
    exact w1
  have hwe : rwE s'.2.1 (sWs s') (sLe s') = weL L 0 := by
    rw [h4, h3]
    exact w2
  unfold rsF readA
  rw [hw]
  by_cases hsp : wdL2 L 0 = 48 ∨ wdL2 L 0 = 49
  · rw [if_pos hsp, if_pos hsp]
    -- behind the speaker's number
    obtain ⟨s2, hs2⟩ : ∃ s2, s2 = nxS (rwS s') := ⟨_, rfl⟩
    have c2 : cst L nc s2 (weL L 0 + 1) (sl0 s) := by
      rw [hs2]
      refine ⟨h1, h2, h3, ?_, h5, h6⟩
      show rwE s'.2.1 (sWs s') (sLe s') + 1 = _
      rw [hwe]
    have k2 : kpS s' s2 := by
      rw [hs2]
      exact ⟨rfl, rfl, rfl, rfl, rfl⟩
    rw [← hs2]
    obtain ⟨g1, g2, g3, g4, g5, g6⟩ := c2
    unfold rsM tokA fpA
    rw [g3, g4]
    by_cases hend : L.length < weL L 0 + 1
    · rw [if_pos hend, if_pos hend, if_pos rfl, if_pos hend]
      have hf : sFp (nxS (fpS s2 (nI L.length))) = nI L.length := rfl
      rw [pj_stop _ _ _ _ _ L.length (by omega) hf]
      exact ⟨kpS_tr k2 ⟨rfl, rfl, rfl, rfl, rfl⟩, rfl, rfl⟩
    · rw [if_neg hend, if_neg hend, if_neg hend]
      have ha' : weL L 0 + 1 ≤ L.length := by omega
      obtain ⟨v1, v2⟩ := rwW_eq g2 l3 ha'
      have hw2 : rdW s2 = wdL2 L (weL L 0 + 1) := by
        unfold rdW
        rw [g4, g3]
        exact v1
      have hwe2 : rwE s2.2.1 (sWs s2) (sLe s2) = weL L (weL L 0 + 1) := by
        rw [g4, g3]
        exact v2
      rw [hw2]
      by_cases hsay : wdL2 L (weL L 0 + 1) = 1935767923
      · have hm : ¬ mnF nc 1935767923 (wdL2 L (weL L 0 + 1)) = -1 := by
          rw [hsay]
          unfold mnF
          rw [if_neg (by decide), if_neg (by decide), if_neg (by decide), if_pos rfl]
          decide
        rw [if_pos hsay, if_neg hm]
        have c3 : cst L nc (nxS (rwS s2)) (weL L (weL L 0 + 1) + 1) (sl0 s) := by
          refine ⟨g1, g2, g3, ?_, g5, g6⟩
          show rwE s2.2.1 (sWs s2) (sLe s2) + 1 = _
          rw [hwe2]
        exact resA_tr (kpS_tr k2 ⟨rfl, rfl, rfl, rfl, rfl⟩) (pj_sent hN hK h l2 l3 _ c3)
      · have hm : mnF nc 1935767923 (wdL2 L (weL L 0 + 1)) = -1 := mn_ne (by decide) (by decide) hsay
        rw [if_neg hsay, if_pos hm]
        have hf : sFp (nxS (fpS (rwS s2) (nI (weL L 0 + 1)))) = nI (weL L 0 + 1) := rfl
        rw [pj_stop _ _ _ _ _ (weL L 0 + 1) (by omega) hf]
        exact ⟨kpS_tr k2 ⟨rfl, rfl, rfl, rfl, rfl⟩, rfl, rfl⟩
  · rw [if_neg hsp, if_neg hsp]
    have c1 : cst L nc (rwS s') 0 (sl0 s) := ⟨h1, h2, h3, h4, h5, h6⟩
    exact resA_tr (s := s') (t := rwS s') ⟨rfl, rfl, rfl, rfl, rfl⟩ (pj_sent hN hK h l2 l3 _ c1)
end READC
-- the reference's side
section READR
variable {N K : Nat} {B : Nat → Option (List Nat)} {nr : Nat → Int64} {L : List Nat} {nc : Nat → Int64} {f : Nat → Int32}
theorem at_in {n a : Nat} (h : a ≤ n) : atR n a = a := if_neg (by omega)
theorem at_out {n a : Nat} (h : n < a) : atR n a = 61 := if_pos h
theorem bad_at {n a : Nat} (hn : n ≤ 60) {s : RS} (hs : s.1 = atR n a) : badR n s = (s.1, nI (if n < a then n else a), s.2.2) := by
  unfold badR
  rw [hs]
  by_cases h : n < a
  · rw [at_out h, if_neg (by omega), if_pos h]
  · rw [at_in (by omega), if_pos (by omega), if_neg h]
theorem is_tok (hL : L.length ≤ 60) (hf : ∀ j, j < L.length → f j = nI (L.getD j 0)) (hb : ∀ b ∈ L, 32 ≤ b ∧ b ≤ 126) {t : Int64} {c : Nat} (ht : t = lN c) (hc : 4 < c ∧ c < 256 ^ 7) {s : RS} {a : Nat} (hs : s.1 = atR L.length a) : isR f L.length t s = true ↔ ¬ tokA L nc t a = -1 := by
  have p7 : (256 : Nat) ^ 7 < 2 ^ 63 := by decide
  have n4 : ¬ t < 4 := by
    rw [ht, show (4 : Int64) = lN 4 from rfl, pk_lLT (by omega) (by decide)]
    omega
  have e4 : ¬ t = 4 := by
    rw [ht, show (4 : Int64) = lN 4 from rfl, pk_lEQ (by omega) (by decide)]
    omega
  unfold isR tokA
  rw [decide_eq_true_iff, hs]
  by_cases ha : L.length < a
  · rw [at_out ha, if_pos ha]
    constructor
    · rintro ⟨q, _⟩
      exact absurd rfl q
    · intro q
      exact absurd rfl q
  · rw [at_in (by omega), if_neg ha]
    have h1 := (wdR_eq hf hb (show a ≤ L.length by omega)).1 c (by omega) hc.2
    rw [← ht] at h1
    rw [h1]
    constructor
    · rintro ⟨_, q⟩
      rw [q]
      unfold mnF
      rw [if_neg (by
        rintro (z | z)
        · rw [ht, lN0_iff (by omega)] at z
          omega
        · rw [ht] at z
          exact lN_m1 (by omega) z), if_neg n4, if_neg e4, if_pos rfl]
      decide
    · intro q
      exact ⟨by omega, mn_w n4 e4 q⟩
theorem nx_at (hf : ∀ j, j < L.length → f j = nI (L.getD j 0)) (hb : ∀ b ∈ L, 32 ≤ b ∧ b ≤ 126) {s : RS} {a : Nat} (ha : a ≤ L.length) (hs : s.1 = atR L.length a) : nxR f L.length s = (atR L.length (weL L a + 1), s.2) := by
  unfold nxR
  rw [hs, at_in ha, neR_eq hf hb ha]
theorem tok_in {t : Int64} {a : Nat} (h : ¬ tokA L nc t a = -1) : a ≤ L.length := by
  refine Classical.byContradiction fun q => h ?_
  exact if_pos (by omega)
theorem r_must (hL : L.length ≤ 60) (hf : ∀ j, j < L.length → f j = nI (L.getD j 0)) (hb : ∀ b ∈ L, 32 ≤ b ∧ b ≤ 126) {t : Int64} {c : Nat} (ht : t = lN c) (hc : 4 < c ∧ c < 256 ^ 7) {s : RS} {a : Nat} (hs : s.1 = atR L.length a) (h0 : s.2.1 = -1) : muR f L.length t s = if tokA L nc t a = -1 then (s.1, nI (fpA L a), s.2.2) else (atR L.length (weL L a + 1), s.2) := by
  have hi := is_tok (nc := nc) hL hf hb ht hc hs
  unfold muR
  rw [if_pos h0]
  by_cases h : tokA L nc t a = -1
  · rw [if_pos h, if_neg (fun q => (hi.mp q) h)]
    exact bad_at hL hs
  · rw [if_neg h, if_pos (hi.mpr h)]
    exact nx_at hf hb (tok_in h) hs
theorem r_thing (hN : 0 < N ∧ N ≤ 5) (hK : K ≤ 3) (h : nmOK N K B nc nr) (hL : L.length ≤ 60) (hf : ∀ j, j < L.length → f j = nI (L.getD j 0)) (hb : ∀ b ∈ L, 32 ≤ b ∧ b ≤ 126) {t : Int64} (ht : t = 1 ∨ t = 2 ∨ t = 3) {s : RS} {a : Nat} (hs : s.1 = atR L.length a) (h0 : s.2.1 = -1) : thgR f L.length nr s = if tokA L nc t a = -1 then ((s.1, nI (fpA L a), s.2.2), 0) else ((atR L.length (weL L a + 1), s.2), tokA L nc t a) := by
  have hth : thgR f L.length nr s = thL f L.length nr s 15 0 := if_pos h0
  rw [hth]
  have p48 : (2 : Nat) ^ 48 < 256 ^ 7 := by decide
  have no_all : (∀ j, j < 15 → thQ f L.length nr s j = false) → thL f L.length nr s 15 0 = (badR L.length s, 0) := by
    intro hn
    have key : ∀ m j, j + m = 15 → thL f L.length nr s m j = (badR L.length s, 0) := by
      intro m
      induction m with
      | zero => intro j _; rfl
      | succ m ih =>
        intro j hj
        unfold thL
        rw [hn j (by omega), if_neg Bool.false_ne_true]
        exact ih (j + 1) (by omega)
    exact key 15 0 (by decide)
  have mnt : ∀ w, ¬ w = -1 → mnF nc t w = namedF nc w := by
    intro w hw
    unfold mnF
    rw [if_neg (by
      rintro (z | z)
      · rcases ht with rfl | rfl | rfl <;> exact absurd z (by decide)
      · exact hw z), if_pos (by rcases ht with rfl | rfl | rfl <;> decide)]
  by_cases ha : L.length < a
  · have e : tokA L nc t a = -1 := if_pos ha
    rw [if_pos e, no_all (fun j _ => decide_eq_false (fun q => q.1 (by rw [hs, at_out ha])))]
    exact congrArg (fun z => (z, (0 : Int32))) (bad_at hL hs)
  have ha' : a ≤ L.length := by omega
  have e : tokA L nc t a = mnF nc t (wdL2 L a) := if_neg ha
  rw [e]
  have hat : s.1 = a := by rw [hs, at_in ha']
  have hw := (wdR_eq hf hb ha').1
  -- a name that is read
  have iff : ∀ i, i < N * K → (thQ f L.length nr s (j5 N i) = true ↔ ¬ nc (tAt N i) = 0 ∧ wdL2 L a = nc (tAt N i)) := by
    intro i hi
    unfold thQ
    rw [decide_eq_true_iff, hat, (h.1 i hi).2.1, (h.1 i hi).1]
    cases hB : B i with
    | none =>
      constructor
      · rintro ⟨_, q, _⟩
        exact absurd rfl q
      · rintro ⟨q, _⟩
        exact absurd rfl q
    | some bs =>
      have hwl := word_lt (((h.1 i hi).2.2 bs hB).1)
      have h2 := hw (vF bs 0) hwl.1 (by omega)
      show _ ∧ ¬ lN (vF bs 0) = 0 ∧ wdR f L.length a = lN (vF bs 0) ↔ ¬ lN (vF bs 0) = 0 ∧ wdL2 L a = lN (vF bs 0)
      rw [h2]
      constructor
      · rintro ⟨_, q⟩
        exact q
      · intro q
        exact ⟨by omega, q⟩
  have other : ∀ j, j < 15 → (∀ i, i < N * K → j ≠ j5 N i) → thQ f L.length nr s j = false := by
    intro j hj hno
    refine decide_eq_false (fun q => q.2.1 (h.2.2.1 j hj hno))
  by_cases hm : mnF nc t (wdL2 L a) = -1
  · rw [if_pos hm, no_all (fun j hj => ?_)]
    · exact congrArg (fun z => (z, (0 : Int32))) (bad_at hL hs)
    · by_cases hex : ∃ i, i < N * K ∧ j = j5 N i
      · obtain ⟨i, hi, rfl⟩ := hex
        cases hq : thQ f L.length nr s (j5 N i) with
        | false => rfl
        | true =>
          obtain ⟨c1, c2⟩ := (iff i hi).mp hq
          exfalso
          have hlt := tAt_lt hN hK hi
          have hnm : ¬ namedF nc (wdL2 L a) = -1 := by
            unfold namedF
            rcases seg_find (fun x => decide (¬ wdL2 L a = 0 ∧ nc x = wdL2 L a)) 40 0 with ⟨_, hn⟩ | ⟨u, e2, u1, u2, _, _⟩
            · have := hn (tAt N i) (by omega) (by omega)
              rw [decide_eq_true ⟨by rw [c2]; exact c1, c2.symm⟩] at this
              exact absurd this.symm Bool.false_ne_true
            · rw [e2]
              exact nI_m1 (by omega)
          have hne : ¬ wdL2 L a = -1 := by
            intro z
            cases hB : B i with
            | none =>
              rw [(h.1 i hi).1, hB] at c1
              exact c1 rfl
            | some bs =>
              have hwl := word_lt (((h.1 i hi).2.2 bs hB).1)
              rw [(h.1 i hi).1, hB] at c2
              rw [z] at c2
              exact lN_m1 (n := vF bs 0) (by omega) c2.symm
          rw [mnt _ hne] at hm
          exact hnm hm
      · exact other j hj (fun i hi e => hex ⟨i, hi, e⟩)
  · rw [if_neg hm]
    have hnm := mn_2 ht hm
    obtain ⟨i, bs, hi, hB, hwl, ew, en, _⟩ := named_word hN hK h hnm
    have hlt := word_lt hwl
    have hne : ¬ wdL2 L a = -1 := by rw [ew]; exact lN_m1 (by omega)
    have hval : mnF nc t (wdL2 L a) = nI (tAt N i) := by rw [mnt _ hne, en]
    have hnc : nc (tAt N i) = wdL2 L a := by rw [(h.1 i hi).1, hB, ew]; rfl
    have hj15 := j5_lt hN hK hi
    have hyes : thQ f L.length nr s (j5 N i) = true := (iff i hi).mpr ⟨by rw [hnc, ew]; exact fun z => by rw [lN0_iff (by omega)] at z; omega, hnc.symm⟩
    have huniq : ∀ j, j < 15 → j ≠ j5 N i → thQ f L.length nr s j = false := by
      intro j hj hne2
      by_cases hex : ∃ i', i' < N * K ∧ j = j5 N i'
      · obtain ⟨i', hi', rfl⟩ := hex
        cases hq : thQ f L.length nr s (j5 N i') with
        | false => rfl
        | true =>
          exfalso
          obtain ⟨c1, c2⟩ := (iff i' hi').mp hq
          cases hB' : B i' with
          | none =>
            rw [(h.1 i' hi').1, hB'] at c1
            exact c1 rfl
          | some cs =>
            have hwl' := word_lt (((h.1 i' hi').2.2 cs hB').1)
            rw [(h.1 i' hi').1, hB', ew] at c2
            have c3 : vF bs 0 = vF cs 0 := (pk_lEQ (by omega) (by omega)).mp c2
            exact h.2.2.2 i i' hi hi' (fun z => hne2 (by rw [z])) bs cs hB hB' c3
      · exact other j hj (fun i' hi' e => hex ⟨i', hi', e⟩)
    have key : ∀ m j, j + m = 15 → j ≤ j5 N i → thL f L.length nr s m j = (nxR f L.length s, nI (10 * (j5 N i / 5 + 1) + j5 N i % 5)) := by
      intro m
      induction m with
      | zero => intro j h1 h2; omega
      | succ m ih =>
        intro j h1 h2
        unfold thL
        by_cases e2 : j = j5 N i
        · rw [e2, hyes, if_pos rfl]
        · rw [huniq j (by omega) e2, if_neg Bool.false_ne_true]
          exact ih (j + 1) (by omega) (by omega)
    rw [key 15 0 (by decide) (Nat.zero_le _), nx_at hf hb ha' hs, hval, (j5_d hN i).1, (j5_d hN i).2]
    rfl
theorem r_digit (hL : L.length ≤ 60) (hf : ∀ j, j < L.length → f j = nI (L.getD j 0)) (hb : ∀ b ∈ L, 32 ≤ b ∧ b ≤ 126) {s : RS} {a : Nat} (hs : s.1 = atR L.length a) (h0 : s.2.1 = -1) : (dgR f L.length s = true ↔ ¬ tokA L nc 4 a = -1) ∧ digR f L.length s = if tokA L nc 4 a = -1 then ((s.1, nI (fpA L a), s.2.2), 0) else ((atR L.length (weL L a + 1), s.2), tokA L nc 4 a) := by
  have hi : (dgR f L.length s = true ↔ ¬ tokA L nc 4 a = -1) ∧ (¬ tokA L nc 4 a = -1 → tokA L nc 4 a = (wdR f L.length s.1).toInt32 - 48) := by
    unfold dgR tokA
    rw [decide_eq_true_iff, hs]
    by_cases ha : L.length < a
    · rw [at_out ha, if_pos ha]
      exact ⟨⟨fun q => absurd rfl q.1, fun q => absurd rfl q⟩, fun q => absurd rfl q⟩
    · have ha' : a ≤ L.length := by omega
      rw [at_in ha', if_neg ha]
      obtain ⟨_, h2, h3⟩ := wdR_eq hf hb ha'
      have val : (48 ≤ wdL2 L a ∧ wdL2 L a ≤ 57) → mnF nc 4 (wdL2 L a) = (wdL2 L a).toInt32 - 48 := by
        intro q
        unfold mnF
        rw [if_neg (by
          rintro (z | z)
          · exact absurd z (by decide)
          · rw [z] at q
            exact absurd q (by decide)), if_neg (by decide), if_pos rfl, if_pos q]
      have tab : ∀ d, d < 10 → ¬ ((lN (48 + d)).toInt32 - 48 = -1) := by decide +kernel
      have dig : (48 ≤ wdL2 L a ∧ wdL2 L a ≤ 57) → ∃ d, d < 10 ∧ wdL2 L a = lN (48 + d) ∧ 1 ≤ (wbL L a).length ∧ (wbL L a).length ≤ 7 := by
        intro q
        by_cases hr : 1 ≤ (wbL L a).length ∧ (wbL L a).length ≤ 7
        · have hnn : ¬ wdL2 L a < 0 := fun z => by
            have := Int64.lt_of_lt_of_le z (show (0 : Int64) ≤ 48 by decide)
            exact Int64.not_le.mpr this q.1
          obtain ⟨v, hv, ev⟩ := pk_lOf hnn
          rw [ev, show (48 : Int64) = lN 48 from rfl, show (57 : Int64) = lN 57 from rfl, pk_lLE (by decide) hv, pk_lLE hv (by decide)] at q
          exact ⟨v - 48, by omega, by rw [ev]; congr 1; omega, hr.1, hr.2⟩
        · have : wdL2 L a = -1 := if_neg hr
          rw [this] at q
          exact absurd q (by decide)
      constructor
      · rw [h2]
        constructor
        · rintro ⟨_, q⟩
          obtain ⟨d, hd, ed, _⟩ := dig q
          rw [val q, ed]
          exact tab d hd
        · intro q
          exact ⟨by omega, mn_4 q⟩
      · intro q
        have q4 := mn_4 q
        obtain ⟨d, hd, ed, r1, r2⟩ := dig q4
        rw [val q4, h3 r1 r2]
  refine ⟨hi.1, ?_⟩
  unfold digR
  rw [if_pos h0]
  by_cases h : tokA L nc 4 a = -1
  · rw [if_pos h, if_neg (fun q => (hi.1.mp q) h)]
    exact congrArg (fun z => (z, (0 : Int32))) (bad_at hL hs)
  · rw [if_neg h, if_pos (hi.1.mpr h), nx_at hf hb (tok_in h) hs, hi.2 h]
/-- the reference's steps, by what a form has there -/
def opR (f : Nat → Int32) (n : Nat) (nr : Nat → Int64) (t : Int64) (s : RS) : RS := if t = 2 then rsY f n nr s else if t = 3 then rsZ f n nr s else if t = 4 then rsD f n s else muR f n t s
/-- the state of the reference at a word -/
def rst (L : List Nat) (s : RS) (a : Nat) (sl : Nat → Int32) : Prop := s.1 = atR L.length a ∧ s.2.1 = -1 ∧ s.2.2.2.1 = sl 1 ∧ s.2.2.2.2.1 = sl 2 ∧ s.2.2.2.2.2.1 = sl 3 ∧ s.2.2.2.2.2.2.1 = sl 4
def samK (s t : RS) : Prop := t.2.2.1 = s.2.2.1 ∧ t.2.2.2.2.2.2.2 = s.2.2.2.2.2.2.2
theorem op_bad {t : Int64} {s : RS} (h : ¬ s.2.1 = -1) : (opR f L.length nr t s).2.1 = s.2.1 := by
  have h1 : thgR f L.length nr s = (s, 0) := if_neg h
  have h2 : digR f L.length s = (s, 0) := if_neg h
  have h3 : muR f L.length t s = s := if_neg h
  unfold opR
  split
  · unfold rsY
    rw [h1]
    rfl
  · split
    · unfold rsZ
      rw [h1]
      rfl
    · split
      · unfold rsD
        rw [h2]
        rfl
      · rw [h3]
theorem ops_bad : ∀ (ts : List Int64) (s : RS), ¬ s.2.1 = -1 → (ts.foldl (fun s t => opR f L.length nr t s) s).2.1 = s.2.1
  | [], _, _ => rfl
  | t :: ts, s, h => by
    have h1 := op_bad (f := f) (L := L) (nr := nr) (t := t) h
    rw [List.foldl_cons, ops_bad ts _ (by rw [h1]; exact h), h1]
def okT (t : Int64) : Prop := t = 2 ∨ t = 3 ∨ t = 4 ∨ ∃ c, t = lN c ∧ 4 < c ∧ c < 256 ^ 7
theorem okT_c {t : Int64} {c : Nat} (ht : t = lN c) (hc : 4 < c ∧ c < 256 ^ 7) : ¬ t = 2 ∧ ¬ t = 3 ∧ ¬ t = 4 ∧ ¬ (1 ≤ t ∧ t ≤ 4) := by
  have p7 : (256 : Nat) ^ 7 < 2 ^ 63 := by decide
  refine ⟨?_, ?_, ?_, ?_⟩
  · rw [ht, show (2 : Int64) = lN 2 from rfl, pk_lEQ (by omega) (by decide)]; omega
  · rw [ht, show (3 : Int64) = lN 3 from rfl, pk_lEQ (by omega) (by decide)]; omega
  · rw [ht, show (4 : Int64) = lN 4 from rfl, pk_lEQ (by omega) (by decide)]; omega
  · rw [ht, show (4 : Int64) = lN 4 from rfl, pk_lLE (by omega) (by decide)]; omega
theorem op_one (hN : 0 < N ∧ N ≤ 5) (hK : K ≤ 3) (h : nmOK N K B nc nr) (hL : L.length ≤ 60) (hf : ∀ j, j < L.length → f j = nI (L.getD j 0)) (hb : ∀ b ∈ L, 32 ≤ b ∧ b ≤ 126) {t : Int64} (ht : okT t) {s : RS} {a : Nat} {sl : Nat → Int32} (hs : rst L s a sl) : (tokA L nc t a = -1 → (opR f L.length nr t s).2.1 = nI (fpA L a)) ∧ (¬ tokA L nc t a = -1 → rst L (opR f L.length nr t s) (weL L a + 1) (slU t (tokA L nc t a) sl)) ∧ samK s (opR f L.length nr t s) := by
  obtain ⟨s1, s2, s3, s4, s5, s6⟩ := hs
  have u2 : ∀ m, slU 2 m sl = upd sl 2 m := fun m => if_pos (by decide)
  have u3 : ∀ m, slU 3 m sl = upd sl 3 m := fun m => if_pos (by decide)
  have u4 : ∀ m, slU 4 m sl = upd sl 4 m := fun m => if_pos (by decide)
  rcases ht with rfl | rfl | rfl | ⟨c, hc, hc2⟩
  · have e : opR f L.length nr 2 s = rsY f L.length nr s := if_pos rfl
    have hr := r_thing hN hK h hL hf hb (t := 2) (Or.inr (Or.inl rfl)) s1 s2
    rw [e]
    unfold rsY
    rw [hr]
    refine ⟨fun q => ?_, fun q => ?_, ?_⟩
    · rw [if_pos q]
      rfl
    · rw [if_neg q, u2]
      exact ⟨rfl, s2, s3.trans (pk_un (by decide)).symm, pk_us.symm, s5.trans (pk_un (by decide)).symm, s6.trans (pk_un (by decide)).symm⟩
    · split <;> exact ⟨rfl, rfl⟩
  · have e : opR f L.length nr 3 s = rsZ f L.length nr s := by
      unfold opR
      rw [if_neg (by decide), if_pos rfl]
    have hr := r_thing hN hK h hL hf hb (t := 3) (Or.inr (Or.inr rfl)) s1 s2
    rw [e]
    unfold rsZ
    rw [hr]
    refine ⟨fun q => ?_, fun q => ?_, ?_⟩
    · rw [if_pos q]
      rfl
    · rw [if_neg q, u3]
      exact ⟨rfl, s2, s3.trans (pk_un (by decide)).symm, s4.trans (pk_un (by decide)).symm, pk_us.symm, s6.trans (pk_un (by decide)).symm⟩
    · split <;> exact ⟨rfl, rfl⟩
  · have e : opR f L.length nr 4 s = rsD f L.length s := by
      unfold opR
      rw [if_neg (by decide), if_neg (by decide), if_pos rfl]
    have hr := (r_digit (nc := nc) hL hf hb s1 s2).2
    rw [e]
    unfold rsD
    rw [hr]
    refine ⟨fun q => ?_, fun q => ?_, ?_⟩
    · rw [if_pos q]
      rfl
    · rw [if_neg q, u4]
      exact ⟨rfl, s2, s3.trans (pk_un (by decide)).symm, s4.trans (pk_un (by decide)).symm, s5.trans (pk_un (by decide)).symm, pk_us.symm⟩
    · split <;> exact ⟨rfl, rfl⟩
  · obtain ⟨n2, n3, n4, n5⟩ := okT_c hc hc2
    have e : opR f L.length nr t s = muR f L.length t s := by
      unfold opR
      rw [if_neg n2, if_neg n3, if_neg n4]
    have hr := r_must (nc := nc) hL hf hb hc hc2 s1 s2
    rw [e, hr]
    refine ⟨fun q => ?_, fun q => ?_, ?_⟩
    · rw [if_pos q]
    · rw [if_neg q]
      have : slU t (tokA L nc t a) sl = sl := if_neg n5
      rw [this]
      exact ⟨rfl, s2, s3, s4, s5, s6⟩
    · split <;> exact ⟨rfl, rfl⟩
theorem ops_seq (hN : 0 < N ∧ N ≤ 5) (hK : K ≤ 3) (h : nmOK N K B nc nr) (hL : L.length ≤ 60) (hf : ∀ j, j < L.length → f j = nI (L.getD j 0)) (hb : ∀ b ∈ L, 32 ≤ b ∧ b ≤ 126) : ∀ (ts : List Int64) (s : RS) (a : Nat) (sl : Nat → Int32), (∀ t ∈ ts, okT t) → rst L s a sl → samK s (ts.foldl (fun s t => opR f L.length nr t s) s) ∧ match seqA L nc ts a sl with
    | .inl g => (ts.foldl (fun s t => opR f L.length nr t s) s).2.1 = nI g ∧ g ≤ 60
    | .inr q => rst L (ts.foldl (fun s t => opR f L.length nr t s) s) q.1 q.2
  | [], s, a, sl, _, hs => ⟨⟨rfl, rfl⟩, hs⟩
  | t :: ts, s, a, sl, ht, hs => by
    obtain ⟨o1, o2, o3⟩ := op_one hN hK h hL hf hb (ht t List.mem_cons_self) hs
    have kk : ∀ (ts : List Int64) (s : RS), (∀ t ∈ ts, okT t) → ¬ s.2.1 = -1 → samK s (ts.foldl (fun s t => opR f L.length nr t s) s) := by
      intro ts
      induction ts with
      | nil => intro s _ _; exact ⟨rfl, rfl⟩
      | cons t ts ih =>
        intro s ht hn
        have hbad := op_bad (f := f) (L := L) (nr := nr) (t := t) hn
        have i1 := ih (opR f L.length nr t s) (fun u hu => ht u (List.mem_cons_of_mem _ hu)) (by rw [hbad]; exact hn)
        have h1 : thgR f L.length nr s = (s, 0) := if_neg hn
        have h2 : digR f L.length s = (s, 0) := if_neg hn
        have h3 : muR f L.length t s = s := if_neg hn
        have i2 : samK s (opR f L.length nr t s) := by
          unfold opR
          split
          · unfold rsY
            rw [h1]
            exact ⟨rfl, rfl⟩
          · split
            · unfold rsZ
              rw [h1]
              exact ⟨rfl, rfl⟩
            · split
              · unfold rsD
                rw [h2]
                exact ⟨rfl, rfl⟩
              · rw [h3]
                exact ⟨rfl, rfl⟩
        exact ⟨i1.1.trans i2.1, i1.2.trans i2.2⟩
    rw [List.foldl_cons]
    unfold seqA
    by_cases hm : tokA L nc t a = -1
    · rw [if_pos hm]
      have hle : fpA L a ≤ 60 := by
        unfold fpA
        split <;> omega
      have hbad : ¬ (opR f L.length nr t s).2.1 = -1 := by rw [o1 hm]; exact nI_m1 (by omega)
      have k2 := kk ts _ (fun u hu => ht u (List.mem_cons_of_mem _ hu)) hbad
      exact ⟨⟨k2.1.trans o3.1, k2.2.trans o3.2⟩, by rw [ops_bad ts _ hbad]; exact o1 hm, hle⟩
    · rw [if_neg hm]
      obtain ⟨i1, i2⟩ := ops_seq hN hK h hL hf hb ts _ _ _ (fun u hu => ht u (List.mem_cons_of_mem _ hu)) (o2 hm)
      exact ⟨⟨i1.1.trans o3.1, i1.2.trans o3.2⟩, i2⟩
theorem tkr_1 : tokL 1 5 2 = [7237492, 2] := by decide +kernel
theorem tkr_2 : tokL 2 5 2 = [1818584692, 28518, 2] := by decide +kernel
theorem tkr_3 : tokL 3 5 2 = [1852143732, 29807, 2] := by decide +kernel
theorem tkr_4 : tokL 4 5 2 = [4, 1718775661, 2] := by decide +kernel
theorem tkr_5 : tokL 5 5 2 = [27696098611389806, 2, 6385252, 3] := by decide +kernel
theorem tkr_6 : tokL 6 5 2 = [24948, 4] := by decide +kernel
theorem tkr_8 : tokL 8 5 2 = [111503598970226, 2, 28530, 3] := by decide +kernel
theorem tkr_9 : tokL 9 5 2 = [504363246962, 2, 26990, 4] := by decide +kernel
theorem op_2 {s : RS} : opR f L.length nr 2 s = rsY f L.length nr s := if_pos rfl
theorem op_3 {s : RS} : opR f L.length nr 3 s = rsZ f L.length nr s := by
  unfold opR
  rw [if_neg (by decide), if_pos rfl]
theorem op_4 {s : RS} : opR f L.length nr 4 s = rsD f L.length s := by
  unfold opR
  rw [if_neg (by decide), if_neg (by decide), if_pos rfl]
theorem op_w {t : Int64} {c : Nat} (ht : t = lN c) (hc : 4 < c ∧ c < 256 ^ 7) {s : RS} : opR f L.length nr t s = muR f L.length t s := by
  obtain ⟨n2, n3, n4, _⟩ := okT_c ht hc
  unfold opR
  rw [if_neg n2, if_neg n3, if_neg n4]
theorem nx_mu {t : Int64} {k : Int32} {s : RS} (h0 : s.2.1 = -1) (q : isR f L.length t s = true) : muR f L.length t (seK k s) = nxR f L.length (seK k s) := by
  have q1 : (seK k s).2.1 = -1 := h0
  have q2 : isR f L.length t (seK k s) = true := q
  unfold muR
  rw [if_pos q1, if_pos q2]
theorem rk_1 {s : RS} (h0 : s.2.1 = -1) (hc : isR f L.length 7237492 s = true) : rs1 f L.length nr s = (tokL 1 5 2).foldl (fun s t => opR f L.length nr t s) (seK 1 s) := by
  rw [tkr_1]
  simp only [List.foldl_cons, List.foldl_nil]
  rw [op_2, op_w (t := 7237492) (c := 7237492) rfl (by decide), nx_mu h0 hc]
  unfold rs1
  rfl
theorem rk_2 {s : RS} (h0 : s.2.1 = -1) (hc : isR f L.length 1818584692 s = true) : rs2 f L.length nr s = (tokL 2 5 2).foldl (fun s t => opR f L.length nr t s) (seK 2 s) := by
  rw [tkr_2]
  simp only [List.foldl_cons, List.foldl_nil]
  rw [op_2, op_w (t := 28518) (c := 28518) rfl (by decide), op_w (t := 1818584692) (c := 1818584692) rfl (by decide), nx_mu h0 hc]
  unfold rs2
  rfl
theorem rk_3 {s : RS} (h0 : s.2.1 = -1) (hc : isR f L.length 1852143732 s = true) : rs3 f L.length nr s = (tokL 3 5 2).foldl (fun s t => opR f L.length nr t s) (seK 3 s) := by
  rw [tkr_3]
  simp only [List.foldl_cons, List.foldl_nil]
  rw [op_2, op_w (t := 29807) (c := 29807) rfl (by decide), op_w (t := 1852143732) (c := 1852143732) rfl (by decide), nx_mu h0 hc]
  unfold rs3
  rfl
theorem rk_4 {s : RS} : rs4 f L.length nr s = (tokL 4 5 2).foldl (fun s t => opR f L.length nr t s) (seK 4 s) := by
  rw [tkr_4]
  simp only [List.foldl_cons, List.foldl_nil]
  rw [op_2, op_w (t := 1718775661) (c := 1718775661) rfl (by decide), op_4]
  unfold rs4
  rfl
theorem rk_5 {s : RS} (h0 : s.2.1 = -1) (hc : isR f L.length 27696098611389806 s = true) : rs5 f L.length nr s = (tokL 5 5 2).foldl (fun s t => opR f L.length nr t s) (seK 5 s) := by
  rw [tkr_5]
  simp only [List.foldl_cons, List.foldl_nil]
  rw [op_3, op_w (t := 6385252) (c := 6385252) rfl (by decide), op_2, op_w (t := 27696098611389806) (c := 27696098611389806) rfl (by decide), nx_mu h0 hc]
  unfold rs5
  rfl
theorem rk_6 {s : RS} (h0 : s.2.1 = -1) (hc : isR f L.length 24948 s = true) : rs6 f L.length nr s = (tokL 6 5 2).foldl (fun s t => opR f L.length nr t s) (seK 6 s) := by
  rw [tkr_6]
  simp only [List.foldl_cons, List.foldl_nil]
  rw [op_4, op_w (t := 24948) (c := 24948) rfl (by decide), nx_mu h0 hc]
  unfold rs6
  rfl
theorem rk_8 {s : RS} (h0 : s.2.1 = -1) (hc : isR f L.length 111503598970226 s = true) : rs8 f L.length nr s = (tokL 8 5 2).foldl (fun s t => opR f L.length nr t s) (seK 8 s) := by
  rw [tkr_8]
  simp only [List.foldl_cons, List.foldl_nil]
  rw [op_3, op_w (t := 28530) (c := 28530) rfl (by decide), op_2, op_w (t := 111503598970226) (c := 111503598970226) rfl (by decide), nx_mu h0 hc]
  unfold rs8
  rfl
theorem rk_9 {s : RS} (h0 : s.2.1 = -1) (hc : isR f L.length 504363246962 s = true) : rs9 f L.length nr s = (tokL 9 5 2).foldl (fun s t => opR f L.length nr t s) (seK 9 s) := by
  rw [tkr_9]
  simp only [List.foldl_cons, List.foldl_nil]
  rw [op_4, op_w (t := 26990) (c := 26990) rfl (by decide), op_2, op_w (t := 504363246962) (c := 504363246962) rfl (by decide), nx_mu h0 hc]
  unfold rs9
  rfl
/-- how the reference's reading ends -/
def finR (L : List Nat) (s : RS) (k : Nat) (o : Nat ⊕ (Nat → Int32)) : Prop := match o with
  | .inl g => (rdE L.length s).2.1 = nI g ∧ g ≤ 60
  | .inr sl => (rdE L.length s).2.1 = -1 ∧ (rdE L.length s).2.2.1 = nI k ∧ (rdE L.length s).2.2.2.1 = sl 1 ∧ (rdE L.length s).2.2.2.2.1 = sl 2 ∧ (rdE L.length s).2.2.2.2.2.1 = sl 3 ∧ (rdE L.length s).2.2.2.2.2.2.1 = sl 4
theorem fin_bad {s : RS} {k g : Nat} (hg : g ≤ 60) (h : s.2.1 = nI g) : finR L s k (.inl g) := by
  have e : rdE L.length s = s := if_neg (fun q => by rw [h] at q; exact nI_m1 (n := g) (by omega) q.1)
  show (rdE L.length s).2.1 = nI g ∧ _
  rw [e]
  exact ⟨h, hg⟩
theorem fin_end (hL : L.length ≤ 60) {s : RS} {k a : Nat} {sl : Nat → Int32} (hs : rst L s a sl) (hk : s.2.2.1 = nI k) : finR L s k (endA L (.inr (a, sl))) := by
  obtain ⟨s1, s2, s3, s4, s5, s6⟩ := hs
  show finR L s k (if L.length < a then .inr sl else .inl a)
  by_cases ha : L.length < a
  · rw [if_pos ha]
    have e : rdE L.length s = s := if_neg (fun q => q.2 (by rw [s1, at_out ha]))
    show (rdE L.length s).2.1 = -1 ∧ _
    rw [e]
    exact ⟨s2, hk, s3, s4, s5, s6⟩
  · rw [if_neg ha]
    have e : rdE L.length s = badR L.length s := if_pos ⟨s2, by rw [s1, at_in (by omega)]; omega⟩
    show (rdE L.length s).2.1 = nI a ∧ _
    rw [e, bad_at hL s1, if_neg ha]
    exact ⟨rfl, by omega⟩
theorem fin_seq (hN : 0 < N ∧ N ≤ 5) (hK : K ≤ 3) (h : nmOK N K B nc nr) (hL : L.length ≤ 60) (hf : ∀ j, j < L.length → f j = nI (L.getD j 0)) (hb : ∀ b ∈ L, 32 ≤ b ∧ b ≤ 126) (ts : List Int64) (ht : ∀ t ∈ ts, okT t) {s : RS} {k a : Nat} {sl : Nat → Int32} (hs : rst L s a sl) (hk : s.2.2.1 = nI k) : finR L (ts.foldl (fun s t => opR f L.length nr t s) s) k (endA L (seqA L nc ts a sl)) ∧ (ts.foldl (fun s t => opR f L.length nr t s) s).2.2.2.2.2.2.2 = s.2.2.2.2.2.2.2 := by
  obtain ⟨h1, h2⟩ := ops_seq hN hK h hL hf hb ts s a sl ht hs
  refine ⟨?_, h1.2⟩
  cases hq : seqA L nc ts a sl with
  | inl g =>
    rw [hq] at h2
    exact fin_bad h2.2 h2.1
  | inr q =>
    rw [hq] at h2
    exact fin_end hL h2 (h1.1.trans hk)
theorem okT_w {c : Nat} (h : 4 < c ∧ c < 256 ^ 7) : okT (lN c) := Or.inr (Or.inr (Or.inr ⟨c, rfl, h⟩))
/-- behind the word is, in the reference -/
theorem r_rest (hN : 0 < N ∧ N ≤ 5) (hK : K ≤ 3) (h : nmOK N K B nc nr) (hL : L.length ≤ 60) (hf : ∀ j, j < L.length → f j = nI (L.getD j 0)) (hb : ∀ b ∈ L, 32 ≤ b ∧ b ≤ 126) {s : RS} {a : Nat} {sl : Nat → Int32} (hs : rst L s a sl) : finR L (restF f L.length nr s) (restA L nc a sl).1 (restA L nc a sl).2 ∧ (restF f L.length nr s).2.2.2.2.2.2.2 = s.2.2.2.2.2.2.2 := by
  have hsk : ∀ k : Int32, rst L (seK k s) a sl := fun _ => hs
  have is' : ∀ (t : Int64) (c : Nat), t = lN c → (4 < c ∧ c < 256 ^ 7) → (isR f L.length t s = true ↔ ¬ tokA L nc t a = -1) := fun t c e1 e2 => is_tok hL hf hb e1 e2 hs.1
  have p2 : okT 2 := Or.inl rfl
  have p3 : okT 3 := Or.inr (Or.inl rfl)
  have p4 : okT 4 := Or.inr (Or.inr (Or.inl rfl))
  unfold restF restA
  have i1 := is' 7237492 7237492 rfl (by decide)
  by_cases c1 : isR f L.length 7237492 s = true
  case pos =>
    rw [if_pos c1, if_pos (i1.mp c1)]
    have e := rk_1 (f := f) (L := L) (nr := nr) hs.2.1 c1
    rw [e]
    refine fin_seq hN hK h hL hf hb (tokL 1 5 2) (fun t ht => ?_) (hsk 1) rfl
    rw [tkr_1] at ht
    simp only [List.mem_cons, List.not_mem_nil, or_false] at ht
    rcases ht with rfl | rfl
    · exact okT_w (c := 7237492) (by decide)
    · exact p2
  rw [if_neg c1, if_neg (fun q => c1 (i1.mpr q))]
  have i2 := is' 1818584692 1818584692 rfl (by decide)
  by_cases c2 : isR f L.length 1818584692 s = true
  case pos =>
    rw [if_pos c2, if_pos (i2.mp c2)]
    have e := rk_2 (f := f) (L := L) (nr := nr) hs.2.1 c2
    rw [e]
    refine fin_seq hN hK h hL hf hb (tokL 2 5 2) (fun t ht => ?_) (hsk 2) rfl
    rw [tkr_2] at ht
    simp only [List.mem_cons, List.not_mem_nil, or_false] at ht
    rcases ht with rfl | rfl | rfl
    · exact okT_w (c := 1818584692) (by decide)
    · exact okT_w (c := 28518) (by decide)
    · exact p2
  rw [if_neg c2, if_neg (fun q => c2 (i2.mpr q))]
  have i3 := is' 1852143732 1852143732 rfl (by decide)
  by_cases c3 : isR f L.length 1852143732 s = true
  case pos =>
    rw [if_pos c3, if_pos (i3.mp c3)]
    have e := rk_3 (f := f) (L := L) (nr := nr) hs.2.1 c3
    rw [e]
    refine fin_seq hN hK h hL hf hb (tokL 3 5 2) (fun t ht => ?_) (hsk 3) rfl
    rw [tkr_3] at ht
    simp only [List.mem_cons, List.not_mem_nil, or_false] at ht
    rcases ht with rfl | rfl | rfl
    · exact okT_w (c := 1852143732) (by decide)
    · exact okT_w (c := 29807) (by decide)
    · exact p2
  rw [if_neg c3, if_neg (fun q => c3 (i3.mpr q))]
  have d4 := (r_digit (nc := nc) hL hf hb hs.1 hs.2.1).1
  by_cases c4 : dgR f L.length s = true
  case pos =>
    rw [if_pos c4, if_pos (d4.mp c4)]
    have e := rk_4 (f := f) (L := L) (nr := nr) (s := s)
    rw [e]
    refine fin_seq hN hK h hL hf hb (tokL 4 5 2) (fun t ht => ?_) (hsk 4) rfl
    rw [tkr_4] at ht
    simp only [List.mem_cons, List.not_mem_nil, or_false] at ht
    rcases ht with rfl | rfl | rfl
    · exact p4
    · exact okT_w (c := 1718775661) (by decide)
    · exact p2
  rw [if_neg c4, if_neg (fun q => c4 (d4.mpr q))]
  have i5 := is' 27696098611389806 27696098611389806 rfl (by decide)
  by_cases c5 : isR f L.length 27696098611389806 s = true
  case pos =>
    rw [if_pos c5, if_pos (i5.mp c5)]
    have e := rk_5 (f := f) (L := L) (nr := nr) hs.2.1 c5
    rw [e]
    refine fin_seq hN hK h hL hf hb (tokL 5 5 2) (fun t ht => ?_) (hsk 5) rfl
    rw [tkr_5] at ht
    simp only [List.mem_cons, List.not_mem_nil, or_false] at ht
    rcases ht with rfl | rfl | rfl | rfl
    · exact okT_w (c := 27696098611389806) (by decide)
    · exact p2
    · exact okT_w (c := 6385252) (by decide)
    · exact p3
  rw [if_neg c5, if_neg (fun q => c5 (i5.mpr q))]
  have i6 := is' 24948 24948 rfl (by decide)
  by_cases c6 : isR f L.length 24948 s = true
  case pos =>
    rw [if_pos c6, if_pos (i6.mp c6)]
    have e := rk_6 (f := f) (L := L) (nr := nr) hs.2.1 c6
    rw [e]
    refine fin_seq hN hK h hL hf hb (tokL 6 5 2) (fun t ht => ?_) (hsk 6) rfl
    rw [tkr_6] at ht
    simp only [List.mem_cons, List.not_mem_nil, or_false] at ht
    rcases ht with rfl | rfl
    · exact okT_w (c := 24948) (by decide)
    · exact p4
  rw [if_neg c6, if_neg (fun q => c6 (i6.mpr q))]
  have i8 := is' 111503598970226 111503598970226 rfl (by decide)
  by_cases c8 : isR f L.length 111503598970226 s = true
  case pos =>
    rw [if_pos c8, if_pos (i8.mp c8)]
    have e := rk_8 (f := f) (L := L) (nr := nr) hs.2.1 c8
    rw [e]
    refine fin_seq hN hK h hL hf hb (tokL 8 5 2) (fun t ht => ?_) (hsk 8) rfl
    rw [tkr_8] at ht
    simp only [List.mem_cons, List.not_mem_nil, or_false] at ht
    rcases ht with rfl | rfl | rfl | rfl
    · exact okT_w (c := 111503598970226) (by decide)
    · exact p2
    · exact okT_w (c := 28530) (by decide)
    · exact p3
  rw [if_neg c8, if_neg (fun q => c8 (i8.mpr q))]
  have i9 := is' 504363246962 504363246962 rfl (by decide)
  by_cases c9 : isR f L.length 504363246962 s = true
  case pos =>
    rw [if_pos c9, if_pos (i9.mp c9)]
    have e := rk_9 (f := f) (L := L) (nr := nr) hs.2.1 c9
    rw [e]
    refine fin_seq hN hK h hL hf hb (tokL 9 5 2) (fun t ht => ?_) (hsk 9) rfl
    rw [tkr_9] at ht
    simp only [List.mem_cons, List.not_mem_nil, or_false] at ht
    rcases ht with rfl | rfl | rfl | rfl
    · exact okT_w (c := 504363246962) (by decide)
    · exact p2
    · exact okT_w (c := 26990) (by decide)
    · exact p4
  rw [if_neg c9, if_neg (fun q => c9 (i9.mpr q))]
  obtain ⟨y1, y2, y3⟩ := op_one hN hK h hL hf hb p2 (hsk 0)
  have ey : opR f L.length nr 2 (seK 0 s) = rsY f L.length nr (seK 0 s) := if_pos rfl
  rw [ey] at y1 y2 y3
  unfold rs0
  by_cases c2 : tokA L nc 2 a = -1
  · rw [if_pos c2]
    have hle : fpA L a ≤ 60 := by
      unfold fpA
      split <;> omega
    have hb1 : ¬ (rsY f L.length nr (seK 0 s)).2.1 = -1 := by rw [y1 c2]; exact nI_m1 (by omega)
    have e7 : rs7 f L.length nr (rsY f L.length nr (seK 0 s)) = rsY f L.length nr (seK 0 s) := if_neg (fun q => hb1 q.1)
    rw [e7]
    exact ⟨fin_bad hle (y1 c2), y3.2⟩
  rw [if_neg c2]
  have y2 := y2 c2
  obtain ⟨u, hu⟩ : ∃ u, u = rsY f L.length nr (seK 0 s) := ⟨_, rfl⟩
  rw [← hu] at y2 y3 ⊢
  have ior := is_tok (nc := nc) hL hf hb (t := 28530) (c := 28530) rfl (by decide) y2.1
  by_cases cor : isR f L.length 28530 u = true
  · have hor := ior.mp cor
    have hin := tok_in hor
    rw [if_neg (by omega), if_neg hor]
    have e7 : rs7 f L.length nr u = (tokL 7 4 3).foldl (fun s t => opR f L.length nr t s) (seK 7 u) := by
      have t7 : tokL 7 4 3 = [28530, 3] := by decide +kernel
      rw [t7]
      exact if_pos ⟨y2.2.1, cor⟩
    rw [e7]
    have h9 := fin_seq hN hK h hL hf hb (tokL 7 4 3) (fun t ht => by
      have t7 : tokL 7 4 3 = [28530, 3] := by decide +kernel
      rw [t7] at ht
      simp only [List.mem_cons, List.not_mem_nil, or_false] at ht
      rcases ht with rfl | rfl
      · exact okT_w (c := 28530) (by decide)
      · exact p3) (s := seK 7 u) (k := 7) y2 rfl
    exact ⟨h9.1, h9.2.trans y3.2⟩
  · have hor : tokA L nc 28530 (weL L a + 1) = -1 := Classical.byContradiction fun q => cor (ior.mpr q)
    have e7 : rs7 f L.length nr u = u := if_neg (fun q => cor q.2)
    rw [e7]
    have hk0 : u.2.2.1 = nI 0 := y3.1
    have hfin := fin_end hL y2 hk0
    by_cases hend : L.length < weL L a + 1
    · rw [if_pos hend]
      have e9 : endA L (.inr (weL L a + 1, slU 2 (tokA L nc 2 a) sl)) = .inr (slU 2 (tokA L nc 2 a) sl) := if_pos hend
      rw [e9] at hfin
      exact ⟨hfin, y3.2⟩
    · rw [if_neg hend, if_pos hor]
      have e9 : endA L (.inr (weL L a + 1, slU 2 (tokA L nc 2 a) sl)) = .inl (weL L a + 1) := if_neg hend
      rw [e9] at hfin
      exact ⟨hfin, y3.2⟩
end READR
