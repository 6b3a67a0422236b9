-- reading: the whole line, both sides
section READ2
variable {N K : Nat} {B : Nat → Option (List Nat)} {nr : Nat → Int64} {L : List Nat} {nc : Nat → Int64} {f : Nat → Int32}
theorem inl_ne {α : Type} {g : Nat} {o : α} (h : (Sum.inl g : Nat ⊕ α) = Sum.inr o) : False := by cases h
theorem fpA_le (hL : L.length ≤ 60) {a : Nat} : fpA L a ≤ 60 := by
  unfold fpA
  split <;> omega
theorem r_sent (hN : 0 < N ∧ N ≤ 5) (hK : K ≤ 3) (h : nmOK N K B nc nr) (hL : L.length ≤ 60) (hf : ∀ j, j < L.length → f j = nI (L.getD j 0)) (hb : ∀ b ∈ L, 32 ≤ b ∧ b ≤ 126) {s : RS} {a : Nat} {sl : Nat → Int32} (h1 : s.1 = atR L.length a) (h2 : s.2.1 = -1) (h4 : s.2.2.2.2.1 = sl 2) (h5 : s.2.2.2.2.2.1 = sl 3) (h6 : s.2.2.2.2.2.2.1 = sl 4) : finR L (rdD f L.length nr (rdC f L.length nr s)) (sentA L nc a sl).1 (sentA L nc a sl).2 ∧ (rdD f L.length nr (rdC f L.length nr s)).2.2.2.2.2.2.2 = s.2.2.2.2.2.2.2 := by
  have hr := r_thing hN hK h hL hf hb (t := 1) (Or.inl rfl) h1 h2
  have stop : ∀ (u : RS) (g : Nat), g ≤ 60 → u.2.1 = nI g → rdD f L.length nr u = u := fun u g hg hu => if_neg (by rw [hu]; exact nI_m1 (by omega))
  have e0 : seqA L nc [1, 26995] a sl = if tokA L nc 1 a = -1 then .inl (fpA L a) else if tokA L nc 26995 (weL L a + 1) = -1 then .inl (fpA L (weL L a + 1)) else .inr (weL L (weL L a + 1) + 1, slU 26995 (tokA L nc 26995 (weL L a + 1)) (slU 1 (tokA L nc 1 a) sl)) := rfl
  unfold rdC rdX sentA
  rw [e0, hr]
  by_cases q : tokA L nc 1 a = -1
  · rw [if_pos q, if_pos q]
    have hg := fpA_le (a := a) hL
    obtain ⟨u, hu⟩ : ∃ u : RS, u = seX 0 (s.1, nI (fpA L a), s.2.2) := ⟨_, rfl⟩
    have hub : u.2.1 = nI (fpA L a) := by rw [hu]; rfl
    have hus : u.2.2.2.2.2.2.2 = s.2.2.2.2.2.2.2 := by rw [hu]; rfl
    have e1 : muR f L.length 26995 u = u := if_neg (by rw [hub]; exact nI_m1 (by omega))
    show finR L (rdD f L.length nr (muR f L.length 26995 (seX 0 (s.1, nI (fpA L a), s.2.2)))) 0 (.inl (fpA L a)) ∧ (rdD f L.length nr (muR f L.length 26995 (seX 0 (s.1, nI (fpA L a), s.2.2)))).2.2.2.2.2.2.2 = _
    rw [← hu, e1, stop u _ hg hub]
    exact ⟨fin_bad hg hub, hus⟩
  · rw [if_neg q, if_neg q]
    obtain ⟨u, hu⟩ : ∃ u : RS, u = seX (tokA L nc 1 a) (atR L.length (weL L a + 1), s.2) := ⟨_, rfl⟩
    have u1 : u.1 = atR L.length (weL L a + 1) := by rw [hu]; rfl
    have u2 : u.2.1 = -1 := by rw [hu]; exact h2
    have us : u.2.2.2.2.2.2.2 = s.2.2.2.2.2.2.2 := by rw [hu]; rfl
    have sl1 : slU 1 (tokA L nc 1 a) sl = upd sl 1 (tokA L nc 1 a) := if_pos (by decide)
    have ru : rst L u (weL L a + 1) (slU 1 (tokA L nc 1 a) sl) := by
      rw [sl1]
      exact ⟨u1, u2, (by rw [hu, pk_us]; rfl), (by rw [hu, pk_un (by decide)]; exact h4), (by rw [hu, pk_un (by decide)]; exact h5), (by rw [hu, pk_un (by decide)]; exact h6)⟩
    have hm := r_must (nc := nc) hL hf hb (t := 26995) (c := 26995) rfl (by decide) u1 u2
    show finR L (rdD f L.length nr (muR f L.length 26995 (seX (tokA L nc 1 a) (atR L.length (weL L a + 1), s.2)))) _ _ ∧ (rdD f L.length nr (muR f L.length 26995 (seX (tokA L nc 1 a) (atR L.length (weL L a + 1), s.2)))).2.2.2.2.2.2.2 = _
    rw [← hu, hm]
    by_cases q2 : tokA L nc 26995 (weL L a + 1) = -1
    · rw [if_pos q2, if_pos q2]
      have hg := fpA_le (a := weL L a + 1) hL
      obtain ⟨v, hv⟩ : ∃ v : RS, v = (u.1, nI (fpA L (weL L a + 1)), u.2.2) := ⟨_, rfl⟩
      have hvb : v.2.1 = nI (fpA L (weL L a + 1)) := by rw [hv]
      have hvs : v.2.2.2.2.2.2.2 = s.2.2.2.2.2.2.2 := by rw [hv]; exact us
      rw [← hv, stop v _ hg hvb]
      exact ⟨fin_bad hg hvb, hvs⟩
    · rw [if_neg q2, if_neg q2]
      obtain ⟨v, hv⟩ : ∃ v : RS, v = (atR L.length (weL L (weL L a + 1) + 1), u.2) := ⟨_, rfl⟩
      have sl2 : slU 26995 (tokA L nc 26995 (weL L a + 1)) (slU 1 (tokA L nc 1 a) sl) = slU 1 (tokA L nc 1 a) sl := if_neg (by decide)
      have rv : rst L v (weL L (weL L a + 1) + 1) (slU 1 (tokA L nc 1 a) sl) := by
        rw [hv]
        exact ⟨rfl, ru.2⟩
      have vs : v.2.2.2.2.2.2.2 = s.2.2.2.2.2.2.2 := by rw [hv]; exact us
      have ed : rdD f L.length nr v = restF f L.length nr v := if_pos rv.2.1
      rw [← hv, ed, sl2]
      obtain ⟨r1, r2⟩ := r_rest hN hK h hL hf hb rv
      exact ⟨r1, r2.trans vs⟩
/-- the reference reads as the plain reader -/
theorem read_r (hN : 0 < N ∧ N ≤ 5) (hK : K ≤ 3) (h : nmOK N K B nc nr) (hL : L.length ≤ 60) (hf : ∀ j, j < L.length → f j = nI (L.getD j 0)) (hb : ∀ b ∈ L, 32 ≤ b ∧ b ≤ 126) (s : RS) {sl : Nat → Int32} (hsl : sl 2 = 0 ∧ sl 3 = 0 ∧ sl 4 = 0) : finR L (rdD f L.length nr (rdC f L.length nr (rdB f L.length (rdA s)))) (readA L nc sl).2.1 (readA L nc sl).2.2 ∧ ((∃ o, (readA L nc sl).2.2 = .inr o) → (rdD f L.length nr (rdC f L.length nr (rdB f L.length (rdA s)))).2.2.2.2.2.2.2 = (readA L nc sl).1) := by
  have a1 : (rdA s).1 = atR L.length 0 := (at_in (Nat.zero_le _)).symm
  have a2 : (rdA s).2.1 = -1 := rfl
  have w := (wdR_eq hf hb (Nat.zero_le L.length)).1
  have i48 : isR f L.length 48 (rdA s) = true ↔ wdL2 L 0 = 48 := by
    rw [show (48 : Int64) = lN 48 from rfl, ← w 48 (by decide) (by decide)]
    unfold isR
    rw [decide_eq_true_iff]
    exact ⟨fun q => q.2, fun q => ⟨by show (0 : Nat) ≠ 61; decide, q⟩⟩
  have i49 : isR f L.length 49 (rdA s) = true ↔ wdL2 L 0 = 49 := by
    rw [show (49 : Int64) = lN 49 from rfl, ← w 49 (by decide) (by decide)]
    unfold isR
    rw [decide_eq_true_iff]
    exact ⟨fun q => q.2, fun q => ⟨by show (0 : Nat) ≠ 61; decide, q⟩⟩
  unfold rdB readA
  by_cases hsp : wdL2 L 0 = 48 ∨ wdL2 L 0 = 49
  · have hsp' : isR f L.length 48 (rdA s) = true ∨ isR f L.length 49 (rdA s) = true := hsp.elim (fun q => Or.inl (i48.mpr q)) (fun q => Or.inr (i49.mpr q))
    rw [if_pos hsp', if_pos hsp]
    have ht : tokA L nc 4 0 = (wdL2 L 0).toInt32 - 48 ∧ ¬ tokA L nc 4 0 = -1 := by
      have e : tokA L nc 4 0 = mnF nc 4 (wdL2 L 0) := if_neg (by omega)
      rw [e]
      rcases hsp with q | q
      · rw [q]
        unfold mnF
        rw [if_neg (by decide), if_neg (by decide), if_pos rfl, if_pos (by decide)]
        exact ⟨rfl, by decide⟩
      · rw [q]
        unfold mnF
        rw [if_neg (by decide), if_neg (by decide), if_pos rfl, if_pos (by decide)]
        exact ⟨rfl, by decide⟩
    have hd := (r_digit (nc := nc) hL hf hb a1 a2).2
    rw [if_neg ht.2] at hd
    rw [hd]
    obtain ⟨u, hu⟩ : ∃ u : RS, u = seP (tokA L nc 4 0) (atR L.length (weL L 0 + 1), (rdA s).2) := ⟨_, rfl⟩
    show finR L (rdD f L.length nr (rdC f L.length nr (muR f L.length 1935767923 (seP (tokA L nc 4 0) (atR L.length (weL L 0 + 1), (rdA s).2))))) _ _ ∧ (_ → (rdD f L.length nr (rdC f L.length nr (muR f L.length 1935767923 (seP (tokA L nc 4 0) (atR L.length (weL L 0 + 1), (rdA s).2))))).2.2.2.2.2.2.2 = _)
    rw [← hu]
    have u1 : u.1 = atR L.length (weL L 0 + 1) := by rw [hu]; rfl
    have u2 : u.2.1 = -1 := by rw [hu]; rfl
    have u4 : u.2.2.2.2.1 = sl 2 := by rw [hu, hsl.1]; rfl
    have u5 : u.2.2.2.2.2.1 = sl 3 := by rw [hu, hsl.2.1]; rfl
    have u6 : u.2.2.2.2.2.2.1 = sl 4 := by rw [hu, hsl.2.2]; rfl
    have u7 : u.2.2.2.2.2.2.2 = (wdL2 L 0).toInt32 - 48 := by rw [hu, ← ht.1]; rfl
    have hm := r_must (nc := nc) hL hf hb (t := 1935767923) (c := 1935767923) rfl (by decide) u1 u2
    rw [hm]
    by_cases q : tokA L nc 1935767923 (weL L 0 + 1) = -1
    · rw [if_pos q, if_pos q]
      have hg := fpA_le (a := weL L 0 + 1) hL
      obtain ⟨v, hv⟩ : ∃ v : RS, v = (u.1, nI (fpA L (weL L 0 + 1)), u.2.2) := ⟨_, rfl⟩
      have hvb : v.2.1 = nI (fpA L (weL L 0 + 1)) := by rw [hv]
      have hn : ¬ v.2.1 = -1 := by rw [hvb]; exact nI_m1 (by omega)
      have et : thgR f L.length nr v = (v, 0) := if_neg hn
      rw [← hv]
      have e1 : rdC f L.length nr v = seX 0 v := by
        unfold rdC rdX
        rw [et]
        exact if_neg hn
      have e2 : rdD f L.length nr (seX 0 v) = seX 0 v := if_neg hn
      rw [e1, e2]
      refine ⟨fin_bad hg hvb, fun ⟨o, ho⟩ => ?_⟩
      exact (inl_ne ho).elim
    · rw [if_neg q, if_neg q]
      obtain ⟨r1, r2⟩ := r_sent hN hK h hL hf hb (s := (atR L.length (weL L (weL L 0 + 1) + 1), u.2)) (a := weL L (weL L 0 + 1) + 1) (sl := sl) rfl u2 u4 u5 u6
      exact ⟨r1, fun _ => r2.trans u7⟩
  · have hsp' : ¬ (isR f L.length 48 (rdA s) = true ∨ isR f L.length 49 (rdA s) = true) := fun q => hsp (q.elim (fun q => Or.inl (i48.mp q)) (fun q => Or.inr (i49.mp q)))
    rw [if_neg hsp', if_neg hsp]
    obtain ⟨r1, r2⟩ := r_sent hN hK h hL hf hb (s := rdA s) (a := 0) (sl := sl) a1 a2 hsl.1.symm hsl.2.1.symm hsl.2.2.symm
    exact ⟨r1, fun _ => r2⟩
-- what a sentence can name
def slOK (sl : Nat → Int32) : Prop := (∃ v, v < 40 ∧ sl 1 = nI v) ∧ (∃ v, v < 40 ∧ sl 2 = nI v) ∧ (∃ v, v < 40 ∧ sl 3 = nI v) ∧ ∃ v, v < 10 ∧ sl 4 = nI v
theorem tok_th (hN : 0 < N ∧ N ≤ 5) (hK : K ≤ 3) (h : nmOK N K B nc nr) {t : Int64} (ht : t = 1 ∨ t = 2 ∨ t = 3) {a : Nat} (q : ¬ tokA L nc t a = -1) : ∃ v, v < 40 ∧ tokA L nc t a = nI v := by
  have e : tokA L nc t a = mnF nc t (wdL2 L a) := if_neg (by have := tok_in q; omega)
  rw [e] at q ⊢
  obtain ⟨i, bs, hi, hB, hwl, ew, en, _⟩ := named_word hN hK h (mn_2 ht q)
  refine ⟨tAt N i, by have := tAt_lt hN hK hi; omega, ?_⟩
  rw [← en]
  have p48 : (2 : Nat) ^ 48 < 2 ^ 63 := by decide
  have hl := word_lt hwl
  unfold mnF
  rw [if_neg (by
    rintro (z | z)
    · rcases ht with rfl | rfl | rfl <;> exact absurd z (by decide)
    · rw [ew] at z
      exact lN_m1 (n := vF bs 0) (by omega) z), if_pos (by rcases ht with rfl | rfl | rfl <;> decide)]
theorem tok_dg {a : Nat} (q : ¬ tokA L nc 4 a = -1) : ∃ v, v < 10 ∧ tokA L nc 4 a = nI v := by
  have e : tokA L nc 4 a = mnF nc 4 (wdL2 L a) := if_neg (by have := tok_in q; omega)
  rw [e] at q ⊢
  have q4 := mn_4 q
  have hnn : ¬ wdL2 L a < 0 := fun z => by
    have := Int64.lt_of_lt_of_le z (show (0 : Int64) ≤ 48 by decide)
    exact Int64.not_le.mpr this q4.1
  obtain ⟨v, hv, ev⟩ := pk_lOf hnn
  have q5 := q4
  rw [ev, show (48 : Int64) = lN 48 from rfl, show (57 : Int64) = lN 57 from rfl, pk_lLE (by decide) hv, pk_lLE hv (by decide)] at q4
  have tab : ∀ d, d < 10 → (lN (48 + d)).toInt32 - 48 = nI d := by decide +kernel
  refine ⟨v - 48, by omega, ?_⟩
  have val : mnF nc 4 (wdL2 L a) = (wdL2 L a).toInt32 - 48 := by
    unfold mnF
    rw [if_neg (by
      rintro (z | z)
      · exact absurd z (by decide)
      · rw [z] at q5
        exact absurd q5 (by decide)), if_neg (by decide), if_pos rfl, if_pos q5]
  rw [val, ev, ← tab (v - 48) (by omega), show 48 + (v - 48) = v by omega]
def okT1 (t : Int64) : Prop := t = 1 ∨ okT t
theorem sl_one (hN : 0 < N ∧ N ≤ 5) (hK : K ≤ 3) (h : nmOK N K B nc nr) {t : Int64} (ht : okT1 t) {a : Nat} {sl : Nat → Int32} (q : ¬ tokA L nc t a = -1) (hs : slOK sl) : slOK (slU t (tokA L nc t a) sl) := by
  obtain ⟨h1, h2, h3, h4⟩ := hs
  rcases ht with rfl | rfl | rfl | rfl | ⟨c, hc, hc2⟩
  · have u : slU 1 (tokA L nc 1 a) sl = upd sl 1 (tokA L nc 1 a) := if_pos (by decide)
    obtain ⟨v, hv, e⟩ := tok_th hN hK h (t := 1) (Or.inl rfl) q
    rw [u]
    exact ⟨⟨v, hv, by rw [pk_us, e]⟩, by rw [pk_un (by decide)]; exact h2, by rw [pk_un (by decide)]; exact h3, by rw [pk_un (by decide)]; exact h4⟩
  · have u : slU 2 (tokA L nc 2 a) sl = upd sl 2 (tokA L nc 2 a) := if_pos (by decide)
    obtain ⟨v, hv, e⟩ := tok_th hN hK h (t := 2) (Or.inr (Or.inl rfl)) q
    rw [u]
    exact ⟨by rw [pk_un (by decide)]; exact h1, ⟨v, hv, by rw [pk_us, e]⟩, by rw [pk_un (by decide)]; exact h3, by rw [pk_un (by decide)]; exact h4⟩
  · have u : slU 3 (tokA L nc 3 a) sl = upd sl 3 (tokA L nc 3 a) := if_pos (by decide)
    obtain ⟨v, hv, e⟩ := tok_th hN hK h (t := 3) (Or.inr (Or.inr rfl)) q
    rw [u]
    exact ⟨by rw [pk_un (by decide)]; exact h1, by rw [pk_un (by decide)]; exact h2, ⟨v, hv, by rw [pk_us, e]⟩, by rw [pk_un (by decide)]; exact h4⟩
  · have u : slU 4 (tokA L nc 4 a) sl = upd sl 4 (tokA L nc 4 a) := if_pos (by decide)
    obtain ⟨v, hv, e⟩ := tok_dg q
    rw [u]
    exact ⟨by rw [pk_un (by decide)]; exact h1, by rw [pk_un (by decide)]; exact h2, by rw [pk_un (by decide)]; exact h3, ⟨v, hv, by rw [pk_us, e]⟩⟩
  · obtain ⟨_, _, _, n5⟩ := okT_c hc hc2
    have u : slU t (tokA L nc t a) sl = sl := if_neg n5
    rw [u]
    exact ⟨h1, h2, h3, h4⟩
theorem sl_seq (hN : 0 < N ∧ N ≤ 5) (hK : K ≤ 3) (h : nmOK N K B nc nr) : ∀ (ts : List Int64) (a : Nat) (sl : Nat → Int32), (∀ t ∈ ts, okT1 t) → slOK sl → ∀ q, seqA L nc ts a sl = .inr q → slOK q.2
  | [], a, sl, _, hs, q, e => by
    have : (a, sl) = q := Sum.inr.inj e
    rw [← this]
    exact hs
  | t :: ts, a, sl, ht, hs, q, e => by
    unfold seqA at e
    by_cases c : tokA L nc t a = -1
    · rw [if_pos c] at e
      exact (inl_ne e).elim
    · rw [if_neg c] at e
      exact sl_seq hN hK h ts _ _ (fun u hu => ht u (List.mem_cons_of_mem _ hu)) (sl_one hN hK h (ht t List.mem_cons_self) c hs) q e
theorem sl_end {r : Nat ⊕ (Nat × (Nat → Int32))} {o : Nat → Int32} (hr : ∀ q, r = .inr q → slOK q.2) (h : endA L r = .inr o) : slOK o := by
  cases r with
  | inl g => exact (inl_ne h).elim
  | inr q =>
    have e : endA L (.inr q) = if L.length < q.1 then .inr q.2 else .inl q.1 := rfl
    rw [e] at h
    split at h
    · exact Sum.inr.inj h ▸ hr q rfl
    · exact (inl_ne h).elim
theorem tk_ok : ∀ k, k < 10 → ∀ t ∈ tokL k 5 2, okT1 t := by
  have tab : ∀ k, k < 10 → (tokL k 5 2).all (fun t => decide (t = 1 ∨ t = 2 ∨ t = 3 ∨ t = 4 ∨ (4 < t ∧ t < 72057594037927936))) = true := by decide +kernel
  intro k hk t ht
  have := of_decide_eq_true (List.all_eq_true.mp (tab k hk) t ht)
  rcases this with q | q | q | q | ⟨q1, q2⟩
  · exact Or.inl q
  · exact Or.inr (Or.inl q)
  · exact Or.inr (Or.inr (Or.inl q))
  · exact Or.inr (Or.inr (Or.inr (Or.inl q)))
  · have hnn : ¬ t < 0 := fun z => by
      have := Int64.lt_of_lt_of_le z (show (0 : Int64) ≤ 4 by decide)
      exact Int64.lt_irrefl (Int64.lt_trans q1 this)
    obtain ⟨v, hv, ev⟩ := pk_lOf hnn
    rw [ev, show (4 : Int64) = lN 4 from rfl, pk_lLT (by decide) hv] at q1
    rw [ev, show (72057594037927936 : Int64) = lN (256 ^ 7) from by decide +kernel, pk_lLT hv (by decide)] at q2
    exact Or.inr (Or.inr (Or.inr (Or.inr ⟨v, ev, q1, q2⟩)))
theorem sl_rest (hN : 0 < N ∧ N ≤ 5) (hK : K ≤ 3) (h : nmOK N K B nc nr) {a : Nat} {sl : Nat → Int32} (hs : slOK sl) : (restA L nc a sl).1 < 10 ∧ ∀ o, (restA L nc a sl).2 = .inr o → slOK o := by
  have kd : ∀ k, k < 10 → ∀ o, endA L (seqA L nc (tokL k 5 2) a sl) = .inr o → slOK o := fun k hk o e => sl_end (fun q e2 => sl_seq hN hK h _ _ _ (tk_ok k hk) hs q e2) e
  unfold restA
  by_cases c1 : ¬ tokA L nc 7237492 a = -1
  · rw [if_pos c1]
    exact ⟨by show (1 : Nat) < 10; decide, kd 1 (by decide)⟩
  rw [if_neg c1]
  by_cases c2 : ¬ tokA L nc 1818584692 a = -1
  · rw [if_pos c2]
    exact ⟨by show (2 : Nat) < 10; decide, kd 2 (by decide)⟩
  rw [if_neg c2]
  by_cases c3 : ¬ tokA L nc 1852143732 a = -1
  · rw [if_pos c3]
    exact ⟨by show (3 : Nat) < 10; decide, kd 3 (by decide)⟩
  rw [if_neg c3]
  by_cases c4 : ¬ tokA L nc 4 a = -1
  · rw [if_pos c4]
    exact ⟨by show (4 : Nat) < 10; decide, kd 4 (by decide)⟩
  rw [if_neg c4]
  by_cases c5 : ¬ tokA L nc 27696098611389806 a = -1
  · rw [if_pos c5]
    exact ⟨by show (5 : Nat) < 10; decide, kd 5 (by decide)⟩
  rw [if_neg c5]
  by_cases c6 : ¬ tokA L nc 24948 a = -1
  · rw [if_pos c6]
    exact ⟨by show (6 : Nat) < 10; decide, kd 6 (by decide)⟩
  rw [if_neg c6]
  by_cases c8 : ¬ tokA L nc 111503598970226 a = -1
  · rw [if_pos c8]
    exact ⟨by show (8 : Nat) < 10; decide, kd 8 (by decide)⟩
  rw [if_neg c8]
  by_cases c9 : ¬ tokA L nc 504363246962 a = -1
  · rw [if_pos c9]
    exact ⟨by show (9 : Nat) < 10; decide, kd 9 (by decide)⟩
  rw [if_neg c9]
  by_cases d2 : tokA L nc 2 a = -1
  · rw [if_pos d2]
    exact ⟨by show (0 : Nat) < 10; decide, fun o e => (inl_ne e).elim⟩
  rw [if_neg d2]
  have hs2 := sl_one hN hK h (t := 2) (Or.inr (Or.inl rfl)) d2 hs
  by_cases d3 : L.length < weL L a + 1
  · rw [if_pos d3]
    exact ⟨by show (0 : Nat) < 10; decide, fun o e => Sum.inr.inj e ▸ hs2⟩
  rw [if_neg d3]
  by_cases d4 : tokA L nc 28530 (weL L a + 1) = -1
  · rw [if_pos d4]
    exact ⟨by show (0 : Nat) < 10; decide, fun o e => (inl_ne e).elim⟩
  rw [if_neg d4]
  have t7 : tokL 7 4 3 = [28530, 3] := by decide +kernel
  refine ⟨by show (7 : Nat) < 10; decide, fun o e => sl_end (fun q e2 => sl_seq hN hK h (tokL 7 4 3) _ _ (fun t ht => ?_) hs2 q e2) e⟩
  rw [t7] at ht
  simp only [List.mem_cons, List.not_mem_nil, or_false] at ht
  rcases ht with rfl | rfl
  · exact Or.inr (okT_w (c := 28530) (by decide))
  · exact Or.inr (Or.inr (Or.inl rfl))
theorem sl_sent (hN : 0 < N ∧ N ≤ 5) (hK : K ≤ 3) (h : nmOK N K B nc nr) {a : Nat} {sl : Nat → Int32} (hs : slOK sl) : (sentA L nc a sl).1 < 10 ∧ ∀ o, (sentA L nc a sl).2 = .inr o → slOK o := by
  unfold sentA
  cases e : seqA L nc [1, 26995] a sl with
  | inl g => exact ⟨by show (0 : Nat) < 10; decide, fun o e => (inl_ne e).elim⟩
  | inr q =>
    have hq := sl_seq hN hK h [1, 26995] a sl (fun t ht => by
      simp only [List.mem_cons, List.not_mem_nil, or_false] at ht
      rcases ht with rfl | rfl
      · exact Or.inl rfl
      · exact Or.inr (okT_w (c := 26995) (by decide))) hs q e
    exact sl_rest hN hK h hq
theorem sl_read (hN : 0 < N ∧ N ≤ 5) (hK : K ≤ 3) (h : nmOK N K B nc nr) {sl : Nat → Int32} (hs : slOK sl) : ((readA L nc sl).1 = -1 ∨ (readA L nc sl).1 = 0 ∨ (readA L nc sl).1 = 1) ∧ (readA L nc sl).2.1 < 10 ∧ ∀ o, (readA L nc sl).2.2 = .inr o → slOK o := by
  unfold readA
  by_cases hsp : wdL2 L 0 = 48 ∨ wdL2 L 0 = 49
  · rw [if_pos hsp]
    refine ⟨?_, ?_⟩
    · show (wdL2 L 0).toInt32 - 48 = -1 ∨ _
      rcases hsp with q | q
      · rw [q]
        exact Or.inr (Or.inl (show (Int64.toInt32 48 - 48 : Int32) = 0 by decide))
      · rw [q]
        exact Or.inr (Or.inr (show (Int64.toInt32 49 - 48 : Int32) = 1 by decide))
    · by_cases q : tokA L nc 1935767923 (weL L 0 + 1) = -1
      · rw [if_pos q]
        exact ⟨by show (0 : Nat) < 10; decide, fun o e => (inl_ne e).elim⟩
      · rw [if_neg q]
        exact sl_sent hN hK h hs
  · rw [if_neg hsp]
    exact ⟨Or.inl rfl, sl_sent hN hK h hs⟩
/-- a line is read alike -/
theorem same_read (hN : 0 < N ∧ N ≤ 5) (hK : K ≤ 3) (h : nmOK N K B nc nr) (hf : ∀ j, j < L.length → f j = nI (L.getD j 0)) (s : SS) (hs : s.1 = nc) (hl : lnOK L s.2.2.2.2.1 s.2.1) (r : RS) : kpS (clS s (sl0 s)) (parF s).2 ∧ ((∃ g, g ≤ 60 ∧ (parF s).1 = false ∧ sFp (parF s).2 = nI g ∧ (rdF f L.length nr r).2.1 = nI g) ∨ ∃ q : Clue, rngC q ∧ (parF s).1 = true ∧ sFp (parF s).2 = -1 ∧ sPr (parF s).2 = cdC q ∧ (rdF f L.length nr r).2.1 = -1 ∧ (rdF f L.length nr r).2.2.1 = nI q.1 ∧ (rdF f L.length nr r).2.2.2.1 = nI q.2.1 ∧ (rdF f L.length nr r).2.2.2.2.1 = nI q.2.2.1 ∧ (rdF f L.length nr r).2.2.2.2.2.1 = nI q.2.2.2.1 ∧ (rdF f L.length nr r).2.2.2.2.2.2.1 = nI q.2.2.2.2.1 ∧ (rdF f L.length nr r).2.2.2.2.2.2.2 = q.2.2.2.2.2) := by
  have z1 : sl0 s 1 = 0 := rfl
  have z2 : sl0 s 2 = 0 := rfl
  have z3 : sl0 s 3 = 0 := rfl
  have z4 : sl0 s 4 = 0 := rfl
  have zok : slOK (sl0 s) := ⟨⟨0, by decide, z1⟩, ⟨0, by decide, z2⟩, ⟨0, by decide, z3⟩, ⟨0, by decide, z4⟩⟩
  have hc := parse_c hN hK h s hs hl
  obtain ⟨l1, l2, l3, l4⟩ := hl
  have hr := read_r hN hK h l2 hf l3 r (sl := sl0 s) ⟨z2, z3, z4⟩
  obtain ⟨o1, o2, o3⟩ := sl_read (L := L) hN hK h zok
  obtain ⟨c1, c2⟩ := hc
  obtain ⟨r1, r2⟩ := hr
  refine ⟨c1, ?_⟩
  have hE : rdF f L.length nr r = rdE L.length (rdD f L.length nr (rdC f L.length nr (rdB f L.length (rdA r)))) := rfl
  obtain ⟨u, hu⟩ : ∃ u, u = rdD f L.length nr (rdC f L.length nr (rdB f L.length (rdA r))) := ⟨_, rfl⟩
  rw [hE]
  rw [← hu] at r1 r2 ⊢
  cases ho : (readA L nc (sl0 s)).2.2 with
  | inl g =>
    rw [ho] at c2 r1
    exact Or.inl ⟨g, r1.2, c2.1, c2.2, r1.1⟩
  | inr sl =>
    rw [ho] at c2 r1
    obtain ⟨⟨x, x1, x2⟩, ⟨y, y1, y2⟩, ⟨z, z1, z2⟩, d, d1, d2⟩ := o3 sl ho
    obtain ⟨e1, e2, e3, e4, e5, e6⟩ := r1
    have es : (rdE L.length u).2.2.2.2.2.2.2 = (readA L nc (sl0 s)).1 := by
      have : rdE L.length u = u := by
        refine Classical.byContradiction fun n => ?_
        have hb : rdE L.length u = badR L.length u := by
          unfold rdE at n ⊢
          split
          · rfl
          · rename_i q
            rw [if_neg q] at n
            exact absurd rfl n
        have hcond : u.2.1 = -1 ∧ ¬ u.1 = 61 := by
          refine Classical.byContradiction fun q => n (if_neg q)
        rw [hb] at e1
        unfold badR at e1
        have : ∀ m : Nat, m ≤ 60 → ¬ nI m = (-1 : Int32) := fun m hm => nI_m1 (by omega)
        split at e1
        · rename_i hle
          exact this u.1 (by omega) e1
        · exact this L.length l2 e1
      rw [this]
      exact r2 ⟨sl, ho⟩
    refine Or.inr ⟨((readA L nc (sl0 s)).2.1, x, y, z, d, (readA L nc (sl0 s)).1), ⟨o2, x1, y1, z1, d1, o1⟩, c2.1, c2.2.1, ?_, e1, e2, e3.trans x2, e4.trans y2, e5.trans z2, e6.trans d2, es⟩
    rw [c2.2.2]
    show ofF _ (sl 1) (sl 2) (sl 3) (sl 4) _ = ofF _ (nI x) (nI y) (nI z) (nI d) _
    rw [x2, y2, z2, d2]
end READ2
