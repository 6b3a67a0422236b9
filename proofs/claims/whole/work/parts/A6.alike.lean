-- answer: the seeker and the reference answer alike
def sgl (o : Nat) : Bool := o == 1 || o == 2 || o == 4 || o == 8 || o == 16
theorem sgl_v {o : Nat} (h : sgl o = true) : ∃ v, v < 5 ∧ o = 2 ^ v := by
  unfold sgl at h
  simp only [Bool.or_eq_true, beq_iff_eq] at h
  rcases h with (((h | h) | h) | h) | h
  · exact ⟨0, by decide, h⟩
  · exact ⟨1, by decide, h⟩
  · exact ⟨2, by decide, h⟩
  · exact ⟨3, by decide, h⟩
  · exact ⟨4, by decide, h⟩
theorem sgl_2 : ∀ v, v < 5 → sgl (2 ^ v) = true := by decide
theorem al_t1 : ∀ o, o < 32 → ∀ b, b < 32 → nI o ||| nI b = nI (o ||| b) ∧ o ||| b < 32 := by decide +kernel
theorem al_t2 : ∀ o, o < 32 → manyF (nI o) = !(o == 0 || sgl o) := by decide +kernel
theorem al_t3' : ∀ o, o < 32 → ∀ b, b < 32 → (!(o == 0 || sgl o) || b == 0 || !sgl (o ||| b) || ((o ||| b) == b && (o == 0 || o == b))) = true := by decide +kernel
theorem al_t3 (o : Nat) (ho : o < 32) (b : Nat) (hb : b < 32) (h1 : (o == 0 || sgl o) = true) (h2 : 0 < b) (h3 : sgl (o ||| b) = true) : o ||| b = b ∧ (o = 0 ∨ o = b) := by
  have h := al_t3' o ho b hb
  rw [h1, h3, beq_eq_false_iff_ne.mpr (show b ≠ 0 by omega)] at h
  simp only [Bool.not_true, Bool.false_or, Bool.and_eq_true, Bool.or_eq_true, beq_iff_eq] at h
  exact h
theorem al_t4 : ∀ v, v < 5 → bcF (nI (2 ^ v) - 1) = nI v := by decide +kernel
theorem al_t5 : ∀ o, o < 32 → ∀ b, b < 32 → 0 < b → ¬ o ||| b = 0 := by decide +kernel
theorem pow_inj5 : ∀ v, v < 5 → ∀ u, u < 5 → 2 ^ v = 2 ^ u → v = u := by decide
theorem pow_n3 : ∀ v, v < 5 → ¬ 2 ^ v = 3 := by decide
def alR : List Nat → Nat → Nat
  | [], o => o
  | b :: bs, o => if sgl (o ||| b) = true then alR bs (o ||| b) else o ||| b
theorem alR_lt : ∀ (bs : List Nat) (o : Nat), (∀ b ∈ bs, 0 < b ∧ b < 32) → o < 32 → alR bs o < 32
  | [], o, _, h => h
  | b :: bs, o, hb, h => by
    have h1 := (al_t1 o h b (hb b List.mem_cons_self).2).2
    unfold alR
    split
    · exact alR_lt bs _ (fun c hc => hb c (List.mem_cons_of_mem _ hc)) h1
    · exact h1
theorem alR_1 : ∀ (bs : List Nat) (o : Nat), (∀ b ∈ bs, 0 < b ∧ b < 32) → o < 32 → (o == 0 || sgl o) = true → sgl (alR bs o) = true → (∀ b ∈ bs, b = alR bs o) ∧ (o ≠ 0 → alR bs o = o)
  | [], o, _, _, _, _ => ⟨fun b hb => absurd hb List.not_mem_nil, fun _ => rfl⟩
  | b :: bs, o, hb, h, ho, hs => by
    have hb0 := hb b List.mem_cons_self
    unfold alR at hs ⊢
    by_cases h1 : sgl (o ||| b) = true
    · rw [if_pos h1] at hs ⊢
      obtain ⟨e1, e2⟩ := al_t3 o h b hb0.2 ho hb0.1 h1
      rw [e1] at hs h1 ⊢
      obtain ⟨i1, i2⟩ := alR_1 bs b (fun c hc => hb c (List.mem_cons_of_mem _ hc)) hb0.2 (by rw [h1, Bool.or_true]) hs
      have i3 := i2 (by omega)
      rw [i3] at i1 ⊢
      refine ⟨fun c hc => ?_, fun q => ?_⟩
      · rcases List.mem_cons.mp hc with rfl | hc
        · rfl
        · exact i1 c hc
      · rcases e2 with e2 | e2
        · exact absurd e2 q
        · exact e2.symm
    · rw [if_neg h1] at hs
      exact absurd hs h1
theorem alR_2 : ∀ (bs : List Nat) (c : Nat), c < 32 → sgl c = true → (∀ b ∈ bs, b = c) → alR bs c = c
  | [], _, _, _, _ => rfl
  | b :: bs, c, hc, hs, h => by
    have e : b = c := h b List.mem_cons_self
    unfold alR
    rw [e, Nat.or_self, if_pos hs]
    exact alR_2 bs c hc hs (fun d hd => h d (List.mem_cons_of_mem _ hd))
theorem alR_3 (bs : List Nat) (c : Nat) (hc : c < 32) (hs : sgl c = true) (h : ∀ b ∈ bs, b = c) (hne : bs ≠ []) : alR bs 0 = c := by
  cases bs with
  | nil => exact absurd rfl hne
  | cons b bs =>
    have e : b = c := h b List.mem_cons_self
    unfold alR
    rw [e, Nat.zero_or, if_pos hs]
    exact alR_2 bs c hc hs (fun d hd => h d (List.mem_cons_of_mem _ hd))
def alA (S : Int32) : Int32 := if S = 0 ∨ manyF S = true then -1 else bcF (S - 1)
/-- the seeker's answer, told by the values of the leaves -/
theorem alA_all {bs : List Nat} (hb : ∀ b ∈ bs, 0 < b ∧ b < 32) {v : Nat} (hv : v < 5) (hne : bs ≠ []) (h : ∀ b ∈ bs, b = 2 ^ v) : alA (nI (alR bs 0)) = nI v := by
  have h32 : 2 ^ v < 32 := Nat.pow_lt_pow_right (by decide) hv
  have hp : 0 < 2 ^ v := Nat.two_pow_pos v
  rw [alR_3 bs (2 ^ v) h32 (sgl_2 v hv) h hne]
  unfold alA
  rw [if_neg, al_t4 v hv]
  rintro (q | q)
  · exact nI_ne0 hp (by omega) q
  · rw [al_t2 _ h32, sgl_2 v hv, Bool.or_true] at q
    exact Bool.false_ne_true q
theorem alA_no {bs : List Nat} (hb : ∀ b ∈ bs, 0 < b ∧ b < 32) (h : ¬ ∃ v, v < 5 ∧ bs ≠ [] ∧ ∀ b ∈ bs, b = 2 ^ v) : alA (nI (alR bs 0)) = -1 := by
  have hl := alR_lt bs 0 hb (by decide)
  unfold alA
  refine if_pos ?_
  by_cases h0 : alR bs 0 = 0
  · rw [h0]
    exact Or.inl rfl
  · right
    rw [al_t2 _ hl]
    cases hs : sgl (alR bs 0) with
    | false => simp [h0]
    | true =>
      exfalso
      obtain ⟨h1, _⟩ := alR_1 bs 0 hb (by decide) (by decide) hs
      obtain ⟨v, hv, e⟩ := sgl_v hs
      refine h ⟨v, hv, ?_, fun b hb => by rw [h1 b hb, e]⟩
      intro hn
      rw [hn] at h0
      exact h0 rfl
theorem alike_st (N : Nat) (x : Int32) (bl : List Nat × Int32 → Nat) : ∀ (L : List (List Nat × Int32)) (a p o : Nat), (∀ q ∈ L, okV q.2 ∧ 0 < bl q ∧ bl q < 32 ∧ ∀ old, seenF x (paN N q.1) q.2 old = old ||| nI (bl q)) → a + 4 * L.length < 1000000 → p + L.length < 1000000 → o < 32 → (o == 0 || sgl o) = true → (stF N 1000000 1000000 x L (nI a, nI p, nI o, 0)).2.2.1 = nI (alR (L.map bl) o)
  | [], _, _, _, _, _, _, _, _ => rfl
  | q :: L, a, p, o, hq, ha, hp, ho, hs => by
    rw [List.length_cons] at ha hp
    obtain ⟨hv, hb0, hb1, hb⟩ := hq q List.mem_cons_self
    obtain ⟨c1, c2, c3⟩ := okV_cnt hv
    obtain ⟨t1, t2⟩ := al_t1 o ho (bl q) hb1
    have e : tkS N 1000000 1000000 x (nI a, nI p, nI o, 0) q = (nI (a + cwF q.2), nI (p + 1), nI (o ||| bl q), bI (decide ((1000000 : Int32) ≤ nI (a + cwF q.2)) || decide ((1000000 : Int32) ≤ nI (p + 1)) || manyF (nI (o ||| bl q)))) := by
      show takeC 1000000 1000000 x (paN N q.1) q.2 (nI a, nI p, nI o, 0) = _
      unfold takeC
      show (nI a + cntF q.2, nI p + 1, seenF x (paN N q.1) q.2 (nI o), bI (decide ((1000000 : Int32) ≤ nI a + cntF q.2) || decide ((1000000 : Int32) ≤ nI p + 1) || manyF (seenF x (paN N q.1) q.2 (nI o)))) = _
      rw [hb, c1, nI_add, nI_1, t1]
    have e2 : decide ((1000000 : Int32) ≤ nI (a + cwF q.2)) = false := decide_eq_false (by rw [one_m]; exact nI_ge (by omega) (by omega))
    have e3 : decide ((1000000 : Int32) ≤ nI (p + 1)) = false := decide_eq_false (by rw [one_m]; exact nI_ge (by omega) (by omega))
    have nz := al_t5 o ho (bl q) hb1 hb0
    have z : ((o ||| bl q) == 0) = false := beq_eq_false_iff_ne.mpr nz
    rw [e2, e3, al_t2 _ t2, z] at e
    show (stF N 1000000 1000000 x L (tkS N 1000000 1000000 x (nI a, nI p, nI o, 0) q)).2.2.1 = nI (if sgl (o ||| bl q) = true then alR (L.map bl) (o ||| bl q) else o ||| bl q)
    rw [e]
    cases h1 : sgl (o ||| bl q) with
    | true =>
      rw [if_pos rfl]
      exact alike_st N x bl L (a + cwF q.2) (p + 1) (o ||| bl q) (fun r hr => hq r (List.mem_cons_of_mem _ hr)) (by omega) (by omega) t2 (by rw [h1, Bool.or_true])
    | false =>
      rw [if_neg Bool.false_ne_true, stF_stop _ _ _ _ _ _ (show ¬ bI (false || false || !(false || false)) = 0 by decide)]
-- the reference
def lfW (x : Int32) (f pv : Nat → Int32) (bW : Nat → Nat) (w : Nat) : Prop := ¬ f w = 0 → (∃ v, v < 5 ∧ bW w = 2 ^ v ∧ valF x (f w) (pv w) = nI v ∧ ¬ twoF x (f w) = 3) ∨ (bW w = 3 ∧ twoF x (f w) = 3)
theorem ans_all (x : Int32) (f pv : Nat → Int32) (bW : Nat → Nat) {v : Nat} (hv : v < 5) : ∀ (m w : Nat) (told : Int32), (∀ j, w ≤ j → j < w + m → lfW x f pv bW j) → (∀ j, w ≤ j → j < w + m → ¬ f j = 0 → bW j = 2 ^ v) → (told = -1 ∨ told = nI v) → (told = nI v ∨ ∃ j, w ≤ j ∧ j < w + m ∧ ¬ f j = 0) → ansR x f pv m w told = nI v
  | 0, w, told, _, _, _, h => by
    rcases h with h | ⟨j, h1, h2, _⟩
    · exact h
    · omega
  | m + 1, w, told, hl, ha, ht, hn => by
    have hl' : ∀ j, w + 1 ≤ j → j < w + 1 + m → lfW x f pv bW j := fun j a b => hl j (by omega) (by omega)
    have ha' : ∀ j, w + 1 ≤ j → j < w + 1 + m → ¬ f j = 0 → bW j = 2 ^ v := fun j a b => ha j (by omega) (by omega)
    unfold ansR
    by_cases h0 : f w = 0
    · rw [if_pos h0]
      refine ans_all x f pv bW hv m (w + 1) told hl' ha' ht ?_
      rcases hn with h | ⟨j, h1, h2, h3⟩
      · exact Or.inl h
      · refine Or.inr ⟨j, ?_, by omega, h3⟩
        have : j ≠ w := fun e => h3 (e ▸ h0)
        omega
    · rw [if_neg h0]
      have hb := ha w (by omega) (by omega) h0
      rcases hl w (by omega) (by omega) h0 with ⟨u, hu, e1, e2, e3⟩ | ⟨e1, _⟩
      · have huv : v = u := pow_inj5 v hv u hu (by rw [← hb, e1])
        rw [← huv] at e2
        rw [if_neg e3, e2]
        rw [if_neg (by
          rintro ⟨q1, q2⟩
          rcases ht with h | h
          · exact q1 h
          · exact q2 h)]
        exact ans_all x f pv bW hv m (w + 1) (nI v) hl' ha' (Or.inr rfl) (Or.inl rfl)
      · rw [hb] at e1
        exact absurd e1 (pow_n3 v hv)
theorem ans_no (x : Int32) (f pv : Nat → Int32) (bW : Nat → Nat) : ∀ (m w : Nat) (told : Int32), (∀ j, w ≤ j → j < w + m → lfW x f pv bW j) → (told = -1 ∨ ∃ t, t < 5 ∧ told = nI t) → ¬ ansR x f pv m w told = -1 → ∃ v, v < 5 ∧ ansR x f pv m w told = nI v ∧ (∀ j, w ≤ j → j < w + m → ¬ f j = 0 → bW j = 2 ^ v) ∧ (¬ told = -1 → told = nI v) ∧ (told = -1 → ∃ j, w ≤ j ∧ j < w + m ∧ ¬ f j = 0)
  | 0, w, told, _, ht, h => by
    rcases ht with ht | ⟨t, h1, h2⟩
    · exact absurd ht h
    · exact ⟨t, h1, h2, fun j a b => by omega, fun _ => h2, fun q => absurd q h⟩
  | m + 1, w, told, hl, ht, h => by
    have hl' : ∀ j, w + 1 ≤ j → j < w + 1 + m → lfW x f pv bW j := fun j a b => hl j (by omega) (by omega)
    unfold ansR at h ⊢
    by_cases h0 : f w = 0
    · rw [if_pos h0] at h ⊢
      obtain ⟨v, i1, i2, i3, i4, i5⟩ := ans_no x f pv bW m (w + 1) told hl' ht h
      refine ⟨v, i1, i2, fun j a b c => ?_, i4, fun q => ?_⟩
      · have : j ≠ w := fun e => c (e ▸ h0)
        exact i3 j (by omega) (by omega) c
      · obtain ⟨j, a, b, c⟩ := i5 q
        exact ⟨j, by omega, by omega, c⟩
    · rw [if_neg h0] at h ⊢
      by_cases h3 : twoF x (f w) = 3
      · rw [if_pos h3] at h
        exact absurd rfl h
      · rw [if_neg h3] at h ⊢
        by_cases h4 : ¬ told = -1 ∧ ¬ told = valF x (f w) (pv w)
        · rw [if_pos h4] at h
          exact absurd rfl h
        · rw [if_neg h4] at h ⊢
          rcases hl w (by omega) (by omega) h0 with ⟨u, hu, e1, e2, _⟩ | ⟨_, e⟩
          · rw [e2] at h h4 ⊢
            obtain ⟨v, i1, i2, i3, i4, i5⟩ := ans_no x f pv bW m (w + 1) (nI u) hl' (Or.inr ⟨u, hu, rfl⟩) h
            have hun : ¬ nI u = -1 := by
              intro e
              have : (nI u).toInt = -1 := by rw [e]; rfl
              rw [nI_toInt (by omega)] at this
              omega
            have huv := i4 hun
            refine ⟨v, i1, i2, fun j a b c => ?_, fun q => ?_, fun _ => ⟨w, by omega, by omega, h0⟩⟩
            · by_cases e : j = w
              · rw [e, e1]
                rw [(nI_eq (by omega) (by omega)).mp huv]
              · exact i3 j (by omega) (by omega) c
            · rw [← huv]
              exact Classical.byContradiction fun c => h4 ⟨q, c⟩
          · exact absurd e h3
-- the values of the leaves
theorem two_tab : ∀ bad b0 b1 b2 b3 : Bool, ¬ resB bad b0 b1 b2 b3 = 0 → (∃ b, b < 4 ∧ 0 < b ∧ twoF 0 (resB bad b0 b1 b2 b3) = nI b) ∧ ∃ b, b < 4 ∧ 0 < b ∧ twoF 1 (resB bad b0 b1 b2 b3) = nI b := by decide +kernel
theorem two_ok {x s : Int32} (hx : x = 0 ∨ x = 1) (h : okV s) : ∃ b, b < 4 ∧ 0 < b ∧ twoF x s = nI b := by
  obtain ⟨bad, b0, b1, b2, b3, rfl, h0⟩ := h
  rcases hx with rfl | rfl
  · exact (two_tab bad b0 b1 b2 b3 h0).1
  · exact (two_tab bad b0 b1 b2 b3 h0).2
theorem sh_pow : ∀ v, v < 5 → (1 : Int32) <<< (nI v &&& 31) = nI (2 ^ v) := by decide +kernel
section ALIKE
variable {N K D n : Nat} {Q : Nat → Clue} {cs cl od pl : Nat → Int32}
/-- both sides, whatever is watched -/
theorem same_via (hB : bothQ N K D n Q cs cl od) (pl pa pw pt : Nat → Int32) (hpt : ∀ j, pt j = 0) (x : Int32) (hx : x < 10 ∨ ∃ j, j < N * K ∧ x = nI (tAt N j)) (bl : List Nat × Int32 → Nat) (pv : Nat → Int32)
    (h1 : ∀ w, w < D ^ K → okV (spW N K D n od cl pl (-1) w) → 0 < bl (fwL N D K w, spW N K D n od cl pl (-1) w) ∧ bl (fwL N D K w, spW N K D n od cl pl (-1) w) < 32 ∧ (∀ old, seenF x (paN N (fwL N D K w)) (spW N K D n od cl pl (-1) w) old = old ||| nI (bl (fwL N D K w, spW N K D n od cl pl (-1) w))) ∧ lfW x (spW N K D n od cl pl (-1)) pv (fun w => bl (fwL N D K w, spW N K D n od cl pl (-1) w)) w) :
    alA (plRun N K n cs (-1) 1000000 1000000 x pa pw pt).2.2.2.2.2.1 = ansR x (spW N K D n od cl pl (-1)) pv (D ^ K) 0 (-1) := by
  have hl := leaf_len (sk := -1) hB
  have hlo := fun q (h : q ∈ lvL N Q (dueI (dueS (nI N) cs (-1)) n) (N * K) [] 15) => leaf_ok hB pl h
  have hB' := hB
  obtain ⟨hN, hK, hD0, hDK, ho, hcs, hQ, hcl⟩ := hB
  have hN0 : 0 < N ∧ N ≤ 5 := ⟨by omega, hN.2⟩
  have hperm := leaves_perm (sk := -1) (pl := pl) hN hK.2 hD0 ho hcs hQ hcl
  have hv : ∀ w, w < D ^ K → ¬ spW N K D n od cl pl (-1) w = 0 → okV (spW N K D n od cl pl (-1) w) := by
    intro w hw h0
    have : (fwL N D K w, spW N K D n od cl pl (-1) w) ∈ rwL2 N K D (spW N K D n od cl pl (-1)) := List.mem_filterMap.mpr ⟨w, List.mem_range.mpr hw, if_neg h0⟩
    exact (hlo _ (hperm.mem_iff.mpr this)).1
  rw [plRun_lv hN0 hK.2 hcs hQ 1000000 1000000 x hx pa pw pt hpt]
  have e := alike_st N x bl (lvL N Q (dueI (dueS (nI N) cs (-1)) n) (N * K) [] 15) 0 0 0 (fun q hq => by
    obtain ⟨h2, w, hw, h0, e⟩ := hlo q hq
    obtain ⟨a, b, c, _⟩ := h1 w hw (hv w hw h0)
    rw [e]
    rw [e] at h2
    exact ⟨h2, a, b, c⟩) (by omega) (by omega) (by decide) (by decide)
  have e' : (stF N 1000000 1000000 x (lvL N Q (dueI (dueS (nI N) cs (-1)) n) (N * K) [] 15) (0, 0, 0, 0)).2.2.1 = nI (alR ((lvL N Q (dueI (dueS (nI N) cs (-1)) n) (N * K) [] 15).map bl) 0) := e
  rw [e']
  have hbs : ∀ b ∈ (lvL N Q (dueI (dueS (nI N) cs (-1)) n) (N * K) [] 15).map bl, 0 < b ∧ b < 32 := by
    intro b hb
    obtain ⟨q, hq, e⟩ := List.mem_map.mp hb
    obtain ⟨h2, w, hw, h0, e2⟩ := hlo q hq
    rw [← e, e2]
    obtain ⟨a, b, _⟩ := h1 w hw (hv w hw h0)
    exact ⟨a, b⟩
  have hlf : ∀ j, 0 ≤ j → j < 0 + D ^ K → lfW x (spW N K D n od cl pl (-1)) pv (fun w => bl (fwL N D K w, spW N K D n od cl pl (-1) w)) j := fun j _ hj h0 => (h1 j (by omega) (hv j (by omega) h0)).2.2.2 h0
  have inL : ∀ w, w < D ^ K → ¬ spW N K D n od cl pl (-1) w = 0 → bl (fwL N D K w, spW N K D n od cl pl (-1) w) ∈ (lvL N Q (dueI (dueS (nI N) cs (-1)) n) (N * K) [] 15).map bl := by
    intro w hw h0
    have : (fwL N D K w, spW N K D n od cl pl (-1) w) ∈ rwL2 N K D (spW N K D n od cl pl (-1)) := List.mem_filterMap.mpr ⟨w, List.mem_range.mpr hw, if_neg h0⟩
    exact List.mem_map.mpr ⟨_, hperm.mem_iff.mpr this, rfl⟩
  by_cases hE : ∃ v, v < 5 ∧ (lvL N Q (dueI (dueS (nI N) cs (-1)) n) (N * K) [] 15).map bl ≠ [] ∧ ∀ b ∈ (lvL N Q (dueI (dueS (nI N) cs (-1)) n) (N * K) [] 15).map bl, b = 2 ^ v
  · obtain ⟨v, hv5, hne, hall⟩ := hE
    rw [alA_all hbs hv5 hne hall]
    refine (ans_all x _ pv (fun w => bl (fwL N D K w, spW N K D n od cl pl (-1) w)) hv5 (D ^ K) 0 (-1) hlf (fun j _ hj h0 => hall _ (inL j (by omega) h0)) (Or.inl rfl) (Or.inr ?_)).symm
    have hne2 : lvL N Q (dueI (dueS (nI N) cs (-1)) n) (N * K) [] 15 ≠ [] := fun q => hne (by rw [q]; rfl)
    obtain ⟨q, hq⟩ := List.exists_mem_of_ne_nil _ hne2
    obtain ⟨_, w, hw, h0, _⟩ := hlo q hq
    exact ⟨w, by omega, by omega, h0⟩
  · rw [alA_no hbs hE]
    refine Classical.byContradiction fun hc => hE ?_
    obtain ⟨v, i1, i2, i3, _, i5⟩ := ans_no x _ pv (fun w => bl (fwL N D K w, spW N K D n od cl pl (-1) w)) (D ^ K) 0 (-1) hlf (Or.inl rfl) (fun q => hc q.symm)
    refine ⟨v, i1, ?_, ?_⟩
    · obtain ⟨j, _, hj, h0⟩ := i5 rfl
      intro q
      have := inL j (by omega) h0
      rw [q] at this
      exact absurd this List.not_mem_nil
    · intro b hb
      obtain ⟨q, hq, e⟩ := List.mem_map.mp hb
      obtain ⟨_, w, hw, h0, e2⟩ := hlo q hq
      rw [← e, e2]
      exact i3 w (by omega) (by omega) h0
theorem val_tab : ∀ b, b < 4 → 0 < b → (b = 3 ∧ nI b = 3) ∨ (∃ v, v < 5 ∧ b = 2 ^ v ∧ (if nI b = 2 then (1 : Int32) else 0) = nI v ∧ ¬ nI b = 3) := by decide +kernel
/-- answer -/
theorem same_alike (hB : bothQ N K D n Q cs cl od) (pl pa pw pt : Nat → Int32) (hpt : ∀ j, pt j = 0) (x : Int32) (hx : (x = 0 ∨ x = 1) ∨ ∃ j, j < N * K ∧ x = nI (tAt N j)) : alA (plRun N K n cs (-1) 1000000 1000000 x pa pw pt).2.2.2.2.2.1 = ansR x (spW N K D n od cl pl (-1)) (pvW N K D od pl x) (D ^ K) 0 (-1) := by
  have hB' := hB
  obtain ⟨hN, hK, hD0, hDK, ho, hcs, hQ, hcl⟩ := hB
  have hN0 : 0 < N ∧ N ≤ 5 := ⟨by omega, hN.2⟩
  rcases hx with hx | ⟨j, hj, hx⟩
  · have x10 : x < 10 := by rcases hx with rfl | rfl <;> decide
    have x0 : ¬ x < 0 := by rcases hx with rfl | rfl <;> decide
    have x1 : x ≤ 1 := by rcases hx with rfl | rfl <;> decide
    refine same_via hB' pl pa pw pt hpt x (Or.inl x10) (fun q => (twoF x q.2).toNatClampNeg) (pvW N K D od pl x) (fun w hw hv => ?_)
    obtain ⟨b, hb4, hb0, e⟩ := two_ok hx hv
    show 0 < (twoF x (spW N K D n od cl pl (-1) w)).toNatClampNeg ∧ (twoF x (spW N K D n od cl pl (-1) w)).toNatClampNeg < 32 ∧ (∀ old, seenF x (paN N (fwL N D K w)) (spW N K D n od cl pl (-1) w) old = old ||| nI (twoF x (spW N K D n od cl pl (-1) w)).toNatClampNeg) ∧ _
    have ec : (twoF x (spW N K D n od cl pl (-1) w)).toNatClampNeg = b := by rw [e, nI_clamp (by omega)]
    refine ⟨by rw [ec]; exact hb0, by rw [ec]; omega, fun old => ?_, fun _ => ?_⟩
    · unfold seenF
      rw [if_pos x10, if_neg x0, ec, ← e]
      unfold twoF
      rw [if_pos x1]
    · show (∃ v, v < 5 ∧ (twoF x (spW N K D n od cl pl (-1) w)).toNatClampNeg = 2 ^ v ∧ _) ∨ ((twoF x (spW N K D n od cl pl (-1) w)).toNatClampNeg = 3 ∧ _)
      unfold valF
      rw [if_pos x1, ec, e]
      rcases val_tab b hb4 hb0 with ⟨q1, q2⟩ | q
      · exact Or.inr ⟨q1, q2⟩
      · exact Or.inl q
  · have hl := tAt_lt hN0 hK.2 hj
    have hg := tAt_ge (N := N) j
    have x10 : ¬ x < 10 := by rw [hx]; exact nI_nlt (b := 10) hg (by omega)
    have x1 : ¬ x ≤ 1 := by rw [hx]; exact nI_ge (a := 1) (by omega) (by omega)
    refine same_via hB' pl pa pw pt hpt x (Or.inr ⟨j, hj, hx⟩) (fun q => 2 ^ atL N q.1 (tAt N j)) (pvW N K D od pl x) (fun w hw hv => ?_)
    have hat := at_lt hN hK.2 hD0 ho hw ⟨j, hj, rfl⟩
    obtain ⟨v, hv9⟩ : ∃ v, v = atL N (fwL N D K w) (tAt N j) := ⟨_, rfl⟩
    rw [← hv9] at hat
    have h5 : v < 5 := by omega
    show 0 < 2 ^ atL N (fwL N D K w) (tAt N j) ∧ 2 ^ atL N (fwL N D K w) (tAt N j) < 32 ∧ (∀ old, seenF x (paN N (fwL N D K w)) (spW N K D n od cl pl (-1) w) old = old ||| nI (2 ^ atL N (fwL N D K w) (tAt N j))) ∧ _
    refine ⟨Nat.two_pow_pos _, ?_, fun old => ?_, fun _ => Or.inl ⟨v, h5, ?_, ?_, ?_⟩⟩
    · rw [← hv9]
      exact Nat.pow_lt_pow_right (by decide) h5
    · unfold seenF
      rw [if_neg x10, hx, nI_clamp (by omega)]
      show old ||| (1 <<< (nI (atL N (fwL N D K w) (tAt N j)) &&& 31)) = _
      rw [← hv9, sh_pow v h5]
    · show 2 ^ atL N (fwL N D K w) (tAt N j) = 2 ^ v
      rw [hv9]
    · unfold valF pvW
      rw [if_neg x1, hx, pl_at hN0 hK.2 hD0 ho ⟨j, hj, rfl⟩, hv9]
    · unfold twoF
      rw [if_neg x1]
      decide
end ALIKE
theorem thing_iff {N K : Nat} (hN : 0 < N ∧ N ≤ 5) (hK : K ≤ 3) (x : Int32) : thingB (nI N) (nI K) x = true ↔ ∃ i, i < N * K ∧ x = nI (tAt N i) := by
  unfold thingB
  rw [decide_eq_true_iff]
  constructor
  · rintro ⟨h1, h2, h3⟩
    have h0 : ¬ x < 0 := fun q => h1 (Int32.lt_trans q (by decide))
    obtain ⟨X, hX, rfl⟩ := nI_of h0
    have h1' : 10 ≤ X := by
      refine Classical.byContradiction fun q => h1 ?_
      exact nI_lt (b := 10) (by omega) (by omega)
    have e1 : nI X / 10 = nI (X / 10) := pk_div (d := 10) hX (by omega) (by omega)
    have e2 : nI X - nI (X / 10) * 10 = nI (X % 10) := by
      rw [← e1]
      exact pk_rem (a := X) (d := 10) hX (by omega) (by omega)
    rw [e1] at h2 h3
    rw [e2] at h3
    have h2' := (nI_leI (by omega) (by omega)).mp h2
    have h3' := (nI_ltI (by omega) (by omega)).mp h3
    refine ⟨N * (X / 10 - 1) + X % 10, ?_, ?_⟩
    · have : N * (X / 10 - 1 + 1) ≤ N * K := Nat.mul_le_mul_left N (by omega)
      rw [Nat.mul_succ] at this
      omega
    · congr 1
      unfold tAt
      rw [Nat.mul_add_div hN.1, Nat.div_eq_of_lt h3', Nat.mul_add_mod, Nat.mod_eq_of_lt h3']
      omega
  · rintro ⟨i, hi, rfl⟩
    have hl := tAt_lt hN hK hi
    have hg := tAt_ge (N := N) i
    have e1 : nI (tAt N i) / 10 = nI (tAt N i / 10) := pk_div (d := 10) (by omega) (by omega) (by omega)
    have e2 : nI (tAt N i) - nI (tAt N i / 10) * 10 = nI (tAt N i % 10) := by
      rw [← e1]
      exact pk_rem (a := tAt N i) (d := 10) (by omega) (by omega) (by omega)
    have hd := div_lt_K hN.1 hi
    have hm := Nat.mod_lt i hN.1
    refine ⟨nI_nlt (b := 10) hg (by omega), ?_, ?_⟩
    · rw [e1, (tAt_q hN i).1]
      exact nI_le (by omega) (by omega)
    · rw [e1, e2, (tAt_q hN i).2]
      exact nI_lt hm (by omega)
