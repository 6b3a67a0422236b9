-- needs 10 11 12 13 14 15 16 17 18 18b 18c 20 21
/-- the heap of the seeker: its object and the three rows that change -/
def hWO (cI : ClassId) (o a w tk : Nat) (F : WC → List Value) (s : WS) (h : gH) : gH := gup (gup (gup (gup h a (.inl (cI, 40, .inl s.1))) w (.inl (cI, 40, .inl s.2.1))) tk (.inl (cI, 4, .inl s.2.2.1))) o (.inr (4, F s.2.2.2))
def apart4 (o a w tk : Nat) : Prop := o ≠ a ∧ o ≠ w ∧ o ≠ tk ∧ a ≠ w ∧ a ≠ tk ∧ w ≠ tk
section HWO
variable {cI : ClassId} {o a w tk : Nat} {F : WC → List Value} {s : WS} {h : gH}
theorem hWO_o : hWO cI o a w tk F s h o = some (.inr (4, F s.2.2.2)) := gup_s _ _ _
theorem hWO_a (d : apart4 o a w tk) : hWO cI o a w tk F s h a = some (.inl (cI, 40, .inl s.1)) := by
  obtain ⟨d1, d2, d3, d4, d5, d6⟩ := d
  simp [hWO, gup, d1, d2, d3, d4, d5, d6, Ne.symm d1]
theorem hWO_w (d : apart4 o a w tk) : hWO cI o a w tk F s h w = some (.inl (cI, 40, .inl s.2.1)) := by
  obtain ⟨d1, d2, d3, d4, d5, d6⟩ := d
  simp [hWO, gup, d1, d2, d3, d4, d5, d6, Ne.symm d2]
theorem hWO_t (d : apart4 o a w tk) : hWO cI o a w tk F s h tk = some (.inl (cI, 4, .inl s.2.2.1)) := by
  obtain ⟨d1, d2, d3, d4, d5, d6⟩ := d
  simp [hWO, gup, d1, d2, d3, d4, d5, d6, Ne.symm d3]
theorem hWO_x {q : Nat} (h1 : q ≠ o) (h2 : q ≠ a) (h3 : q ≠ w) (h4 : q ≠ tk) : hWO cI o a w tk F s h q = h q := by
  simp [hWO, gup, h1, h2, h3, h4]
theorem hWO_po (c : WC) : gup (hWO cI o a w tk F s h) o (.inr (4, F c)) = hWO cI o a w tk F (s.1, s.2.1, s.2.2.1, c) h := gup_up _ _ _ _
theorem hWO_pa (d : apart4 o a w tk) (f : Nat → Int32) : gup (hWO cI o a w tk F s h) a (.inl (cI, 40, .inl f)) = hWO cI o a w tk F (f, s.2) h := by
  obtain ⟨d1, d2, d3, d4, d5, d6⟩ := d
  funext q
  by_cases q1 : q = o
  · subst q1
    simp [hWO, gup, d1]
  · by_cases q2 : q = a
    · subst q2
      simp [hWO, gup, q1, d4, d5]
    · simp [hWO, gup, q1, q2]
theorem hWO_pw (d : apart4 o a w tk) (f : Nat → Int32) : gup (hWO cI o a w tk F s h) w (.inl (cI, 40, .inl f)) = hWO cI o a w tk F (s.1, f, s.2.2) h := by
  obtain ⟨d1, d2, d3, d4, d5, d6⟩ := d
  funext q
  by_cases q1 : q = o
  · subst q1
    simp [hWO, gup, d2]
  · by_cases q2 : q = w
    · subst q2
      simp [hWO, gup, q1, d6]
    · simp [hWO, gup, q1, q2]
theorem hWO_pt (d : apart4 o a w tk) (f : Nat → Int32) : gup (hWO cI o a w tk F s h) tk (.inl (cI, 4, .inl f)) = hWO cI o a w tk F (s.1, s.2.1, f, s.2.2.2) h := by
  obtain ⟨d1, d2, d3, d4, d5, d6⟩ := d
  funext q
  by_cases q1 : q = o
  · subst q1
    simp [hWO, gup, d3]
  · by_cases q2 : q = tk
    · subst q2
      simp [hWO, gup, q1]
    · simp [hWO, gup, q1, q2]
end HWO
def plSet (N i p : Nat) (s : WS) : WS := (upd s.1 (10 * (i / N + 1) + i % N) (nI p), upd s.2.1 (10 * (i / N + 1) + p) (nI (i % N)), s.2.2)
def plTk (N i : Nat) (f : Int32 → Int32) (s : WS) : WS := (s.1, s.2.1, upd s.2.2.1 (i / N + 1) (f (s.2.2.1 (i / N + 1))), s.2.2.2)
def plStep (N : Nat) (L : List Int32) (rec : Int32 → WS → WS) (i : Nat) (sp : Int32) (s : WS) (p : Nat) : WS :=
  if ¬ s.2.2.2.2.2.2 = 0 then s
  else if ¬ ((s.2.2.1 (i / N + 1)) >>> (nI p &&& 31)) &&& 1 = 0 then s
  else if hearF (plSet N i p s).1 (plSet N i p s).2.1 L sp = 0 then plSet N i p s
  else plTk N i (fun x => x &&& (bitF p ^^^ (-1))) (rec (hearF (plSet N i p s).1 (plSet N i p s).2.1 L sp) (plTk N i (fun x => x ||| bitF p) (plSet N i p s)))
def plF (N : Nat) (lim mp wat : Int32) (ls : Nat → List Int32) : Nat → Nat → Int32 → WS → WS
  | 0, _, sp, s => (s.1, s.2.1, s.2.2.1, takeC lim mp wat s.1 sp s.2.2.2)
  | m + 1, i, sp, s => (segF id N 0).foldl (plStep N (ls i) (plF N lim mp wat ls m (i + 1)) i sp) s
def InvA (pa : Nat → Int32) : Prop := ∀ j : Nat, ∃ v : Nat, v < 5 ∧ pa j = nI v
theorem InvA_upd {pa : Nat → Int32} (h : InvA pa) (k : Nat) {p : Nat} (hp : p < 5) : InvA (upd pa k (nI p)) := by
  intro j
  by_cases hj : j = k
  · exact ⟨p, hp, by rw [hj]; exact if_pos rfl⟩
  · obtain ⟨v, h1, h2⟩ := h j
    exact ⟨v, h1, by rw [← h2]; exact if_neg hj⟩
theorem plF_inv (N : Nat) (hN : N ≤ 5) (lim mp wat : Int32) (ls : Nat → List Int32) : ∀ (m i : Nat) (sp : Int32) (s : WS), InvA s.1 → InvA (plF N lim mp wat ls m i sp s).1 := by
  intro m
  induction m with
  | zero => exact fun i sp s h => h
  | succ m ih =>
    intro i sp s h
    have key : ∀ (k p : Nat) (s : WS), p + k = N → InvA s.1 → InvA ((segF id k p).foldl (plStep N (ls i) (plF N lim mp wat ls m (i + 1)) i sp) s).1 := by
      intro k
      induction k with
      | zero => exact fun p s _ h => h
      | succ k ih2 =>
        intro p s hp h
        refine ih2 (p + 1) _ (by omega) ?_
        show InvA (plStep N (ls i) (plF N lim mp wat ls m (i + 1)) i sp s p).1
        have h2 : InvA (plSet N i p s).1 := InvA_upd h _ (by omega)
        unfold plStep
        split
        · exact h
        · split
          · exact h
          · split
            · exact h2
            · exact ih _ _ _ h2
    exact key N 0 s (by omega) h
def okc (c : Int32) : Prop := vp_in (xF c) 40 ∧ vp_in (yF c) 40 ∧ vp_in (zF c) 40 ∧ (kindF c = 9 → ∃ d : Nat, d ≤ 3 ∧ dF c = nI d)
theorem okc_W {c : Int32} {pa : Nat → Int32} (h : okc c) (hp : InvA pa) : okW pa c := by
  obtain ⟨h1, h2, h3, h4⟩ := h
  refine ⟨h1, h2, h3, fun hk => ?_⟩
  obtain ⟨d, hd, e⟩ := h4 hk
  obtain ⟨v, hv, e2⟩ := hp (xF c).toNatClampNeg
  obtain ⟨u, hu, e3⟩ := hp (yF c).toNatClampNeg
  rw [e, e2, e3, show (10 : Int32) = nI 10 from rfl, pk_mul, nI_add, nI_add]
  exact ⟨vp_in_nI (by omega) (by omega), vp_in_nI (by omega) (by omega)⟩
