-- the relation behind clue, drop, count, needed, make, read
section RL2
variable {N K D : Nat} {od : Nat → Int32} {s : RMS} {a : RA} {n : RN} {i : RI}
theorem thr_cases {c : Nat} {Q : Nat → Clue} {cs cl : Nat → Int32} (hB : bothQ N K D c Q cs cl od) (h30 : c ≤ 30) (k x y z d p : Int32) : (clB (nI N) (nI K) k x y z d p = false ∧ thrC (nI N) (nI K) c cl k x y z d p = 1) ∨ (clB (nI N) (nI K) k x y z d p = true ∧ thrC (nI N) (nI K) c cl k x y z d p = 2 ∧ (c = 30 ∨ ∃ j, j < c ∧ cs j = ofF k x y z d p)) ∨ (clB (nI N) (nI K) k x y z d p = true ∧ thrC (nI N) (nI K) c cl k x y z d p = 0 ∧ c < 30 ∧ (¬ ∃ j, j < c ∧ cs j = ofF k x y z d p) ∧ okc (ofF k x y z d p) ∧ ∃ Q', bothQ N K D (c + 1) Q' (upd cs c (ofF k x y z d p)) (rowA cl c k x y z d p) od) := by
  obtain ⟨hN, hK⟩ := both_N hB
  unfold thrC
  cases hb : clB (nI N) (nI K) k x y z d p with
  | false => exact Or.inl ⟨rfl, if_neg Bool.false_ne_true⟩
  | true =>
    rw [if_pos rfl]
    obtain ⟨q, hq, rfl, rfl, rfl, rfl, rfl, rfl⟩ := cl_q hN hK hb
    have hd := dup_iff hB hq
    by_cases e : c = 30 ∨ (segF id c 0).any (fun i => isRow cl i (nI q.1) (nI q.2.1) (nI q.2.2.1) (nI q.2.2.2.1) (nI q.2.2.2.2.1) q.2.2.2.2.2) = true
    · rw [if_pos e]
      refine Or.inr (Or.inl ⟨rfl, rfl, ?_⟩)
      rcases e with e | e
      · exact Or.inl e
      · exact Or.inr (hd.mpr e)
    · rw [if_neg e]
      exact Or.inr (Or.inr ⟨rfl, rfl, by omega, fun z => e (Or.inr (hd.mp z)), okc_cd hN hK hq, _, both_add hB hq⟩)
theorem rel_set {c : Nat} {Q' : Nat → Clue} {cs cl : Nat → Int32} {fs : FS} {x : RA} {m : RN} {i' : RI} (hr : rel N K D od s a n i) (hB : bothQ N K D c Q' cs cl od) (h1 : x.1 = cl) (h2 : x.2.2.2.2.1 = a.2.2.2.2.1) (h3 : x.2.2.2.2.2.2 = (a.2.2.2.2.2.2.1, a.2.2.2.2.2.2.2.1, a.2.2.2.2.2.2.2.2.1, a.2.2.2.2.2.2.2.2.2.1, x.2.2.2.2.2.2.2.2.2.2)) (h4 : m.1 = c) (h5 : m.2.2.1 = n.2.2.1 ∧ m.2.2.2.1 = n.2.2.2.1 ∧ m.2.2.2.2.1 = n.2.2.2.2.1) (h6 : i'.2.2.1 = i.2.2.1) : rel N K D od ((c, cs), fs, s.2.2) x m i' := by
  obtain ⟨Q, B, L, T, hB0, hn, hnm, hl, hx, hfa, hpf⟩ := hr
  refine ⟨Q', B, L, T, ?_, h4, ?_, ⟨hl.1, ?_⟩, ⟨hx.1, ?_⟩, ?_, ?_⟩
  · rw [h1]; exact hB
  · rw [h3]; exact hnm
  · rw [h3, h5.2.2]; exact hl.2
  · rw [h3, h5.2.1]; exact hx.2
  · rw [h6]; exact hfa
  · rw [h2, h3, h5.1]; exact hpf
theorem rel_drop (hr : rel N K D od s a n i) {y : Nat} (hy : y < s.1.1) {i0 : Int32} : rel N K D od ((s.1.1 - 1, rmF s.1.2 y (s.1.1 - 1)), s.2) (rmvF a.1 y n.1, a.2) (n.1 - 1, n.2) (i0, i.2) := by
  obtain ⟨Q, B, L, T, hB, hn, -⟩ := id hr
  have h2 := both_rem hB hy
  rw [hn]
  exact rel_set (fs := s.2.1) hr h2 rfl rfl rfl rfl ⟨rfl, rfl, rfl⟩ rfl
theorem rel_count (hr : rel N K D od s a n i) (x : Int32) (hx : (0 : Int32) ≤ x) {pa pw pt : Nat → Int32} (hpt : ∀ j, pt j = 0) : (if 0 < x then minF (plRun N K s.1.1 s.1.2 (-1) x 1000000 (-1) pa pw pt).2.2.2.1 x else 0) = nI (min x.toNatClampNeg (cntG N K D n.1 od a.1 a.2.2.1 x.toNatClampNeg)) := by
  obtain ⟨Q, B, L, T, hB, hn, -⟩ := hr
  obtain ⟨y, hy, rfl⟩ := nI_of (Int32.not_lt.mpr hx)
  rw [nI_clamp hy, hn]
  exact same_count hB a.2.2.1 pa pw pt hpt y hy
theorem rel_codes (hr : rel N K D od s a n i) : ∃ Q, codesQ N K s.1.1 Q s.1.2 := by
  obtain ⟨Q, B, L, T, hB, hn, -⟩ := hr
  exact ⟨Q, hB.2.2.2.2.2.1, hB.2.2.2.2.2.2.1⟩
theorem rel_needed (hr : rel N K D od s a n i) (x : Int32) : difP N K s.1.1 s.1.2 x = difF N K D n.1 od a.1 a.2.2.1 x := by
  obtain ⟨Q, B, L, T, hB, hn, -⟩ := hr
  rw [hn]
  exact difP_F hB _ _
theorem both_cs {c : Nat} {Q : Nat → Clue} {cs cs' cl cl' : Nat → Int32} (hB : bothQ N K D c Q cs cl od) (h1 : ∀ k, k < c → cs' k = cs k) (h2 : ∀ j, j < 6 * c → cl' j = cl j) : bothQ N K D c Q cs' cl' od := by
  obtain ⟨b1, b2, b3, b4, b5, b6, b7, b8⟩ := hB
  refine ⟨b1, b2, b3, b4, b5, fun k hk => (h1 k hk).trans (b6 k hk), b7, fun k hk => ?_⟩
  obtain ⟨r1, r2, r3, r4, r5, r6⟩ := b8 k hk
  exact ⟨(h2 _ (by omega)).trans r1, (h2 _ (by omega)).trans r2, (h2 _ (by omega)).trans r3, (h2 _ (by omega)).trans r4, (h2 _ (by omega)).trans r5, (h2 _ (by omega)).trans r6⟩
theorem rel_make (hNK : okNK N K) (ho : ordsQ N K D od) (h30 : s.1.1 ≤ 30) (hr : rel N K D od s a n i) (v : Nat) (rt : Int32) {a' : RA} {n' : RN} {i' : RI} (e1 : a'.2.2.2.2.1 = a.2.2.2.2.1 ∧ a'.2.2.2.2.2.2 = (a.2.2.2.2.2.2.1, a.2.2.2.2.2.2.2.1, a.2.2.2.2.2.2.2.2.1, a.2.2.2.2.2.2.2.2.2.1, a'.2.2.2.2.2.2.2.2.2.2)) (e2 : n'.2.2.1 = n.2.2.1 ∧ n'.2.2.2.1 = n.2.2.2.1 ∧ n'.2.2.2.2.1 = n.2.2.2.2.1) (e3 : i'.1 = 0 ∧ i'.2.2 = i.2.2) (e4 : ¬ (mkC N K rt 4 1 v).1 = 0 → n'.1 = (ocN N K (mkC N K rt 4 1 v).2).2.1 ∧ ∃ Q, bothQ N K D n'.1 Q (ocN N K (mkC N K rt 4 1 v).2).2.2 a'.1 od) (e5 : (mkC N K rt 4 1 v).1 = 0 → n'.1 = n.1 ∧ ∀ j, j < 180 → a'.1 j = a.1 j) : (mkS N K v rt s).1 = (mkC N K rt 4 1 v).1 ∧ rel N K D od (if (mkS N K v rt s).1 = 0 then s.1 else ((mkS N K v rt s).2.2.1, va_cpy (mkS N K v rt s).2.2.2.1 s.1.2 0 0 (mkS N K v rt s).2.2.1), (mkS N K v rt s).2, s.2.2) a' n' i' := by
  obtain ⟨Q, B, L, T, hB, hn, -⟩ := id hr
  obtain ⟨f1, f2⟩ := find_seed hNK ho rt 4 1 ((s.2.1.1.1, s.2.1.1.2.1, s.2.1.1.2.2.1, v), s.2.1.2) (Nat.le_refl _)
  have f1' : (mkS N K v rt s).1 = (mkC N K rt 4 1 v).1 := f1
  refine ⟨f1', ?_⟩
  have e6 : i'.2.2.1 = i.2.2.1 := by rw [e3.2]
  by_cases c : (mkC N K rt 4 1 v).1 = 0
  · rw [f1', if_pos c]
    obtain ⟨g1, g2⟩ := e5 c
    exact rel_set (c := s.1.1) (cs := s.1.2) hr (both_cs hB (fun _ _ => rfl) (fun j hj => g2 j (by omega))) rfl e1.1 e1.2 (g1.trans hn) e2 e6
  · rw [f1', if_neg c]
    obtain ⟨g1, Q', g2⟩ := e4 c
    obtain ⟨f3, f4⟩ := f2 c
    have f3' : (mkS N K v rt s).2.2.1 = (ocN N K (mkC N K rt 4 1 v).2).2.1 := f3
    rw [g1] at g2
    rw [f3']
    refine rel_set hr (both_cs g2 (fun k hk => ?_) (fun _ _ => rfl)) rfl e1.1 e1.2 g1 e2 e6
    have : va_cpy (mkS N K v rt s).2.2.2.1 s.1.2 0 0 (ocN N K (mkC N K rt 4 1 v).2).2.1 k = (mkS N K v rt s).2.2.2.1 k := by
      unfold va_cpy
      rw [if_pos ⟨Nat.zero_le _, by omega⟩]
      simp
    rw [this]
    exact f4 k hk
end RL2
