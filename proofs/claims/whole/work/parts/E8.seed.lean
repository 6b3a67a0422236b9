-- making, told by the seed alone
def ps0 : PS := (zeR, zeR, zeR, zeR, zeR, 0, 0, 0)
def ocN (N K v : Nat) : MS × Nat × (Nat → Int32) := onceP N K (zeR, zeR, 0, v) zeR
def rtC (N K v : Nat) : Int32 := (runF N K (ocN N K v).2.1 (ocN N K v).2.2 ps0).2.2.2.2.2.2.1
def mkC (N K : Nat) (rt : Int32) : Nat → Nat → Nat → Nat × Nat
  | 0, _, v => (0, v)
  | m + 1, t, v => if rtC N K v = rt then (t, v) else mkC N K rt m (t + 1) (ocN N K v).1.2.2.2
theorem okNK_50 {N K : Nat} (h : okNK N K) : N * K * N ≤ 50 := by
  have tab : ∀ N, N < 6 → ∀ K, K < 4 → (decide (3 ≤ N ∧ N ≤ 5 ∧ 1 ≤ K ∧ K ≤ 3 ∧ (N = 5 → K ≤ 2)) = true → N * K * N ≤ 50) := by decide +kernel
  exact tab N (by have := h.2.1; omega) K (by have := h.2.2.2.1; omega) (decide_eq_true h)
section SEED
variable {N K D : Nat} {od : Nat → Int32}
/-- the reference's rating of what it made -/
theorem rate_ref (hNK : okNK N K) (ho : ordsQ N K D od) (pl po cl : Nat → Int32) (v : Nat) (w0 : WK) : (onceR N K D od pl po cl v).2.1 = (ocN N K v).2.1 ∧ (onceR N K D od pl po cl v).1.2.2.2 = (ocN N K v).1.2.2.2 ∧ ratF N K (wkF N K (ocN N K v).2.1 (onceR N K D od pl po cl v).2.2 76 (wk0 N w0)) = rtC N K v ∧ ∃ Q, bothQ N K D (ocN N K v).2.1 Q (ocN N K v).2.2 (onceR N K D od pl po cl v).2.2 od := by
  have hN : 0 < N ∧ N ≤ 5 := ⟨by have := hNK.1; omega, hNK.2.1⟩
  have hK : 1 ≤ K ∧ K ≤ 3 := ⟨hNK.2.2.1, hNK.2.2.2.1⟩
  obtain ⟨Q, n, hn, a1, a2, a3, hB⟩ := once_both (D := D) (od := od) hNK ho (zeR, zeR, 0, v) zeR pl po cl
  have a1' : (ocN N K v).2.1 = n := a1
  obtain ⟨_, c1, c2⟩ := both_un hB
  obtain ⟨X, _, _, _, e, _⟩ := same_run hN hK (okNK_50 hNK) c1.1 c1.2 c2.1 ps0 w0
  refine ⟨a2.trans a1'.symm, a3.symm, ?_, Q, ?_⟩
  · rw [a1']
    unfold rtC
    rw [a1']
    exact e.symm
  · rw [a1']
    exact hB
/-- the program's rating of what it made -/
theorem rate_once (hNK : okNK N K) (ho : ordsQ N K D od) (s : MS) (cc : Nat → Int32) (t : PS) : (runF N K (onceP N K s cc).2.1 (onceP N K s cc).2.2 t).2.2.2.2.2.2.1 = rtC N K s.2.2.2 := by
  have hN : 0 < N ∧ N ≤ 5 := ⟨by have := hNK.1; omega, hNK.2.1⟩
  have hK : 1 ≤ K ∧ K ≤ 3 := ⟨hNK.2.2.1, hNK.2.2.2.1⟩
  obtain ⟨Q, n, hn, a1, a2, a3, hB⟩ := once_both (D := D) (od := od) hNK ho s cc zeR zeR zeR
  obtain ⟨r1, _, r3, _⟩ := rate_ref (D := D) (od := od) hNK ho zeR zeR zeR s.2.2.2 (zeR, zeR, 0)
  obtain ⟨_, c1, c2⟩ := both_un hB
  obtain ⟨X, _, _, _, e, _⟩ := same_run hN hK (okNK_50 hNK) c1.1 c1.2 c2.1 t (zeR, zeR, 0)
  rw [a1, e, ← r3, ← r1, a2]
/-- the program's search -/
theorem find_seed (hNK : okNK N K) (ho : ordsQ N K D od) (rt : Int32) : ∀ (m t : Nat) (st : FS), 1 ≤ t → (fiF N K rt m t st).1 = (mkC N K rt m t st.1.2.2.2).1 ∧ (¬ (mkC N K rt m t st.1.2.2.2).1 = 0 → (fiF N K rt m t st).2.2.1 = (ocN N K (mkC N K rt m t st.1.2.2.2).2).2.1 ∧ ∀ k, k < (ocN N K (mkC N K rt m t st.1.2.2.2).2).2.1 → (fiF N K rt m t st).2.2.2.1 k = (ocN N K (mkC N K rt m t st.1.2.2.2).2).2.2 k)
  | 0, t, st, _ => ⟨rfl, fun h => absurd rfl h⟩
  | m + 1, t, st, ht => by
    have hr : (fiS N K st).2.2.2.2.2.2.2.2.2.1 = rtC N K st.1.2.2.2 := rate_once hNK ho st.1 st.2.2.1 st.2.2.2
    obtain ⟨s1, s2, s3⟩ := once_seed hNK ho (s := st.1) (s2 := (zeR, zeR, 0, st.1.2.2.2)) rfl st.2.2.1 zeR
    unfold fiF mkC
    rw [hr]
    by_cases c : rtC N K st.1.2.2.2 = rt
    · rw [if_pos c, if_pos c]
      exact ⟨rfl, fun _ => ⟨s1, fun k hk => s3 k (s1.symm ▸ hk)⟩⟩
    · rw [if_neg c, if_neg c]
      have e : (fiS N K st).1.2.2.2 = (ocN N K st.1.2.2.2).1.2.2.2 := s2
      have ih := find_seed hNK ho rt m (t + 1) (fiS N K st) (by omega)
      rw [e] at ih
      exact ih
end SEED
