-- needs 10 11 12 13 14 15 16 17
/-- less is known of the values -/
def gLe : gV → gV → Prop
  | [], _ => True
  | none :: a, _ :: b => gLe a b
  | some v :: a, w :: b => w = some v ∧ gLe a b
  | _ :: _, [] => False
theorem gLe_at : ∀ {a b : gV}, gLe a b → ∀ {i : Nat} {v : Value}, a[i]? = some (some v) → b[i]? = some (some v)
  | [], _, _, i, v, h => by simp at h
  | none :: a, _ :: b, hl, 0, v, h => by simp at h
  | none :: a, _ :: b, hl, i + 1, v, h => by
    simp only [List.getElem?_cons_succ] at h ⊢
    exact gLe_at (show gLe a b from hl) h
  | some x :: a, w :: b, hl, 0, v, h => by
    simp only [List.getElem?_cons_zero] at h ⊢
    rw [show w = some x from hl.1]
    exact h
  | some x :: a, w :: b, hl, i + 1, v, h => by
    simp only [List.getElem?_cons_succ] at h ⊢
    exact gLe_at (show gLe a b from hl.2) h
  | none :: a, [], hl, i, v, h => False.elim hl
  | some x :: a, [], hl, i, v, h => False.elim hl
theorem gw_less {l : Launch} {g : gG} {I : gI} {R : Room} {h0 h : gH} {Z : gZ} {k n pc : Nat} {lv lv' : gV} {st : List Value} (hle : gLe lv' lv) (K : gw l g I R h0 Z k n pc lv' st h) : gw l g I R h0 Z k n pc lv st h := by
  intro p e s m args below meth c C H locs hP hD hS ls hl
  refine K p e s m args below meth c C H locs hP hD hS ls ⟨hl.1, hl.2.1, fun q hq => hl.2.2 q ?_⟩
  obtain ⟨i, v⟩ := q
  exact gL_mem.mpr (gLe_at hle (gL_mem.mp hq))
def segF {α : Type} (q : Nat → α) : Nat → Nat → List α
  | 0, _ => []
  | m + 1, s => q s :: segF q m (s + 1)
theorem upd_s {α : Type} (f : Nat → Int32) (k : Nat) (x : Int32) : upd f k x k = x := if_pos rfl
theorem upd_n (f : Nat → Int32) {k j : Nat} (x : Int32) (h : j ≠ k) : upd f k x j = f j := if_neg h
theorem vp_in_c {x : Int32} {n : Nat} (h : vp_in x n) (hn : n < 2 ^ 31) : x = nI x.toNatClampNeg ∧ x.toNatClampNeg < n := by
  obtain ⟨j, h1, rfl⟩ := vp_in_of h hn
  rw [nI_clamp (by omega)]
  exact ⟨rfl, h1⟩
theorem bI_t : bI true = 1 := rfl
theorem bI_f : bI false = 0 := rfl
theorem zo : ((0 : Int32) = 1) = False := by decide
theorem oz : ((1 : Int32) = 0) = False := by decide
theorem mo : ((-1 : Int32) = 0) = False := by decide
theorem bI_0 (b : Bool) : (bI b = 0) = (b = false) := by cases b <;> decide
