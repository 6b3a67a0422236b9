-- both sides together: the relation, and what stays
theorem stepF_len {N K n : Nat} {cs : Nat → Int32} {s u : PS} (h : stepF N K n cs s = some u) : u.2.2.2.2.2.1 = s.2.2.2.2.2.1 + 1 := by
  unfold stepF at h
  split at h
  · cases h
    exact bsF_len (by assumption)
  · split at h
    · cases h
      exact bsF_len (by assumption)
    · split at h
      · cases h
        exact bcsF_len (by assumption)
      · split at h
        · cases h
          exact bsF_len (by assumption)
        · exact bcsF_len h
theorem rnF_len {N K n : Nat} {cs : Nat → Int32} : ∀ (m : Nat) (s : PS), (rnF N K n cs m s).2.2.2.2.2.1 ≤ s.2.2.2.2.2.1 + m
  | 0, s => Nat.le_refl _
  | m + 1, s => by
    unfold rnF
    split
    · omega
    · split
      · rename_i u hu
        have h1 := rnF_len (N := N) (K := K) (n := n) (cs := cs) m u
        have h2 := stepF_len hu
        omega
      · omega
theorem runF_len (N K n : Nat) (cs : Nat → Int32) (s : PS) : (runF N K n cs s).2.2.2.2.2.1 ≤ 50 := by
  have h := rnF_len (N := N) (K := K) (n := n) (cs := cs) 50 (startF N K s)
  have e : (startF N K s).2.2.2.2.2.1 = 0 := rfl
  unfold runF endF
  split <;> (show (rnF N K n cs 50 (startF N K s)).2.2.2.2.2.1 ≤ 50; omega)
/-- the proofs that both keep -/
def pfR (N K : Nat) (t : PS) (pv pg : Nat → Int32) (ps : Nat) : Prop := t.2.2.2.2.2.1 = ps ∧ ps ≤ 50 ∧ (∀ k, k < ps → pv (4 * k) = t.2.1 k ∧ pv (4 * k + 1) = t.2.2.1 k ∧ pv (4 * k + 2) = t.2.2.2.1 k ∧ pv (4 * k + 3) = t.2.2.2.2.1 k) ∧ ∀ j, j < N * K → t.1 (tAt N j) = pg (j5 N j)
def rel (N K D : Nat) (od : Nat → Int32) (s : RMS) (a : RA) (n : RN) (i : RI) : Prop := ∃ (Q : Nat → Clue) (B : Nat → Option (List Nat)) (L T : List Nat), bothQ N K D s.1.1 Q s.1.2 a.1 od ∧ n.1 = s.1.1 ∧ nmOK N K B s.2.2.2.1 a.2.2.2.2.2.2.2.1 ∧ (lnOK L s.2.2.2.2.2.2.2.1 s.2.2.2.2.1 ∧ lnOK L n.2.2.2.2.1 a.2.2.2.2.2.2.2.2.2.1) ∧ (txOK T s.2.2.2.2.2.2.2.2.1 s.2.2.2.2.2.1 ∧ txOK T n.2.2.2.1 a.2.2.2.2.2.2.2.2.1) ∧ s.2.2.2.2.2.2.2.2.2.1 = i.2.2.1 ∧ pfR N K s.2.2.1 a.2.2.2.2.1 a.2.2.2.2.2.2.1 n.2.2.1
section RLF
variable {cB cL cI : ClassId} {N K D : Nat} {M W : Nat → Nat} {wd : Nat → Int64} {od : Nat → Int32} {s : RMS} {a : RA} {n : RN} {i : RI} {h h' : gH}
theorem isRM_fr (f : ∀ j, j < 32 → h' (M j) = h (M j)) (hI : isRM cL cI N K M s h) : isRM cL cI N K M s h' := by
  obtain ⟨k0, i2, ⟨a1, a2, a3, a4⟩, i4, i5⟩ := hI
  exact ⟨(f 0 (by decide)).trans k0, isCL_fr (f _ (by omega)) (f _ (by omega)) i2, ⟨isMA_fr (fun i hi => f _ (by omega)) a1, isCL_fr (f _ (by omega)) (f _ (by omega)) a2, isWO_fr (fun i hi => f _ (by omega)) a3, isPR_fr (fun i hi => f _ (by omega)) a4⟩, isPR_fr (fun i hi => f _ (by omega)) i4, isSP_fr (fun i hi => f _ (by omega)) i5⟩
theorem isRF_fr (f : ∀ j, j < 14 → h' (W j) = h (W j)) (hI : isRF cB cL cI N K D W wd od a n i h) : isRF cB cL cI N K D W wd od a n i h' := by
  obtain ⟨k0, ⟨k1, k2⟩, k3, k4, k5, k6, k7, k8, k9, k10, k11, k12, k13⟩ := hI
  exact ⟨(f 0 (by decide)).trans k0, ⟨(f 1 (by decide)).trans k1, (f 2 (by decide)).trans k2⟩, (f 3 (by decide)).trans k3, (f 4 (by decide)).trans k4, (f 5 (by decide)).trans k5, (f 6 (by decide)).trans k6, (f 7 (by decide)).trans k7, (f 8 (by decide)).trans k8, (f 9 (by decide)).trans k9, (f 10 (by decide)).trans k10, (f 11 (by decide)).trans k11, (f 12 (by decide)).trans k12, (f 13 (by decide)).trans k13⟩
end RLF
/-- addresses: the mill's, the reference's, the array out; all apart, all new -/
def adr (g : gG) (M W : Nat → Nat) (u : Nat) : Prop := apU M 32 ∧ apU W 14 ∧ (∀ i, i < 32 → ∀ j, j < 14 → M i ≠ W j) ∧ (∀ i, i < 32 → u ≠ M i) ∧ (∀ j, j < 14 → u ≠ W j) ∧ (∀ i, i < 32 → gsz g ≤ M i) ∧ (∀ j, j < 14 → gsz g ≤ W j) ∧ gsz g ≤ u
def linv (cB cL cI : ClassId) (N K D : Nat) (wd : Nat → Int64) (od : Nat → Int32) (M W : Nat → Nat) (u : Nat) (s : RMS) (a : RA) (n : RN) (i : RI) (f : Nat → Int64) (h : gH) : Prop := isRM cL cI N K M s h ∧ isRF cB cL cI N K D W wd od a n i h ∧ h u = some (.inl (cL, 1, .inr (.inl f))) ∧ ∀ q, (∀ j, j < 32 → q ≠ M j) → (∀ j, j < 14 → q ≠ W j) → q ≠ u → h q = none
section LIV
variable {g : gG} {cB cL cI : ClassId} {N K D : Nat} {M W : Nat → Nat} {u : Nat} {wd : Nat → Int64} {od : Nat → Int32} {s s' : RMS} {a a' : RA} {n n' : RN} {i i' : RI} {f f' : Nat → Int64} {h h' h1 : gH}
/-- the mill has moved -/
theorem linv_M (hA : adr g M W u) (hI : linv cB cL cI N K D wd od M W u s a n i f h) (e1 : isRM cL cI N K M s' h') (e2 : ∀ q, (∀ j, j < 32 → q ≠ M j) → h' q = h q) : linv cB cL cI N K D wd od M W u s' a n i f h' := by
  obtain ⟨p1, p2, p3, p4⟩ := hI
  obtain ⟨aM, aW, xMW, xuM, xuW, -⟩ := hA
  exact ⟨e1, isRF_fr (fun j hj => e2 _ (fun i hi => Ne.symm (xMW i hi j hj))) p2, (e2 u xuM).trans p3, fun q q1 q2 q3 => (e2 q q1).trans (p4 q q1 q2 q3)⟩
/-- the reference has moved -/
theorem linv_W (hA : adr g M W u) (hI : linv cB cL cI N K D wd od M W u s a n i f h) (e : isRF cB cL cI N K D W wd od a' n' i' h' ∧ ∀ q, (∀ j, j < 14 → q ≠ W j) → h' q = h q) : linv cB cL cI N K D wd od M W u s a' n' i' f h' := by
  obtain ⟨p1, p2, p3, p4⟩ := hI
  obtain ⟨aM, aW, xMW, xuM, xuW, -⟩ := hA
  exact ⟨isRM_fr (fun j hj => e.2 _ (fun i hi => xMW j hj i hi)) p1, e.1, (e.2 u xuW).trans p3, fun q q1 q2 q3 => (e.2 q q2).trans (p4 q q1 q2 q3)⟩
/-- the array out has been written -/
theorem linv_u (hA : adr g M W u) (hI : linv cB cL cI N K D wd od M W u s a n i f h) (hh : h' = gup h u (.inl (cL, 1, .inr (.inl f')))) : linv cB cL cI N K D wd od M W u s a n i f' h' := by
  obtain ⟨p1, p2, p3, p4⟩ := hI
  obtain ⟨aM, aW, xMW, xuM, xuW, -⟩ := hA
  exact ⟨isRM_fr (fun j hj => by rw [hh]; exact gup_n _ _ (Ne.symm (xuM j hj))) p1, isRF_fr (fun j hj => by rw [hh]; exact gup_n _ _ (Ne.symm (xuW j hj))) p2, by rw [hh]; exact gup_s _ _ _, fun q q1 q2 q3 => by rw [hh, gup_n _ _ q3]; exact p4 q q1 q2 q3⟩
theorem linv_none (hA : adr g M W u) (hI : linv cB cL cI N K D wd od M W u s a n i f h) {q : Nat} (hq : q < gsz g) : h q = none := by
  obtain ⟨-, -, -, -, -, z1, z2, z3⟩ := hA
  exact hI.2.2.2 q (fun j hj e => by have := z1 j hj; omega) (fun j hj e => by have := z2 j hj; omega) (fun e => by omega)
end LIV
