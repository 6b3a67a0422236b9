-- the reference's constructor: the table of orders, plain
def mkM : Int32 → List Nat → Int32
  | m, [] => m
  | m, d :: l => mkM (m ||| 1 <<< (nI d &&& 31)) l
def wrF : (Nat → Int32) → Nat → List Nat → (Nat → Int32)
  | od, _, [] => od
  | od, b, d :: l => wrF (upd od b (nI d)) (b + 1) l
def odV (N v : Nat) : List (List Nat) := ((List.range v).map (dgL N N)).filter ndB
theorem odV_s (N v : Nat) : odV N (v + 1) = odV N v ++ (if ndB (dgL N N v) = true then [dgL N N v] else []) := by
  unfold odV
  rw [List.range_succ, List.map_append, List.filter_append]
  congr 1
  show List.filter ndB [dgL N N v] = _
  rw [List.filter_cons]
  rfl
theorem odV_le (N : Nat) {v : Nat} : ∀ w, (odV N v).length ≤ (odV N (v + w)).length
  | 0 => Nat.le_refl _
  | w + 1 => by
    have h := odV_le N (v := v) w
    rw [show v + (w + 1) = v + w + 1 by omega, odV_s, List.length_append]
    omega
set_option maxRecDepth 100000 in
theorem odL_len {N : Nat} (h : 3 ≤ N ∧ N ≤ 5) : (odL N).length ≤ 120 ∧ 0 < (odL N).length ∧ (odL N).length ^ 2 ≤ 14400 ∧ (N ≤ 4 → (odL N).length ^ 3 ≤ 14400) := by
  have h' : N = 3 ∨ N = 4 ∨ N = 5 := by omega
  rcases h' with rfl | rfl | rfl
  · decide +kernel
  · decide +kernel
  · decide +kernel
def mkB (N : Nat) : Bool := (List.range (N ^ N)).all (fun v => decide (mkM 0 (dgL N N v) = (1 <<< (nI N &&& 31)) - 1) == ndB (dgL N N v))
set_option maxRecDepth 100000 in
theorem mkB_3 : mkB 3 = true := by decide +kernel
set_option maxRecDepth 100000 in
theorem mkB_4 : mkB 4 = true := by decide +kernel
set_option maxRecDepth 100000 in
theorem mkB_5 : mkB 5 = true := by decide +kernel
theorem mk_ok {N v : Nat} (h : 3 ≤ N ∧ N ≤ 5) (hv : v < N ^ N) : decide (mkM 0 (dgL N N v) = (1 <<< (nI N &&& 31)) - 1) = ndB (dgL N N v) := by
  have h' : N = 3 ∨ N = 4 ∨ N = 5 := by omega
  have hb : mkB N = true := by
    rcases h' with rfl | rfl | rfl
    · exact mkB_3
    · exact mkB_4
    · exact mkB_5
  have := List.all_eq_true.mp hb v (List.mem_range.mpr hv)
  exact eq_of_beq this
theorem wrF_out : ∀ (l : List Nat) (od : Nat → Int32) (b q : Nat), q < b → wrF od b l q = od q
  | [], _, _, _, _ => rfl
  | d :: l, od, b, q, h => by
    show wrF (upd od b (nI d)) (b + 1) l q = od q
    rw [wrF_out l _ (b + 1) q (by omega)]
    unfold upd
    rw [if_neg (by omega)]
theorem wrF_in : ∀ (l : List Nat) (od : Nat → Int32) (b i : Nat), i < l.length → wrF od b l (b + i) = nI (l.getD i 0)
  | [], _, _, _, h => absurd h (Nat.not_lt_zero _)
  | d :: l, od, b, i, h => by
    show wrF (upd od b (nI d)) (b + 1) l (b + i) = _
    cases i with
    | zero =>
      rw [wrF_out l _ (b + 1) (b + 0) (by omega)]
      unfold upd
      rw [if_pos (Nat.add_zero b)]
      rfl
    | succ i =>
      have := wrF_in l (upd od b (nI d)) (b + 1) i (by simpa using h)
      rw [show b + (i + 1) = b + 1 + i by omega, this]
      rfl
def odP (N v D : Nat) (od : Nat → Int32) : Prop := D = (odV N v).length ∧ ∀ q i, q < D → i < N → od (5 * q + i) = nI (((odV N v).getD q []).getD i 0)
theorem odP_n {N v D : Nat} {od : Nat → Int32} (h : odP N v D od) (hb : ndB (dgL N N v) = false) : odP N (v + 1) D od := by
  have e : odV N (v + 1) = odV N v := by rw [odV_s, hb]; exact List.append_nil _
  unfold odP
  rw [e]
  exact h
theorem odP_y {N v D : Nat} {od : Nat → Int32} (hN : N ≤ 5) (h : odP N v D od) (hb : ndB (dgL N N v) = true) : odP N (v + 1) (D + 1) (wrF od (5 * D) (dgL N N v)) := by
  obtain ⟨h1, h2⟩ := h
  have e : odV N (v + 1) = odV N v ++ [dgL N N v] := by rw [odV_s, hb]; rfl
  unfold odP
  rw [e]
  refine ⟨by rw [List.length_append, ← h1]; rfl, fun q i hq hi => ?_⟩
  by_cases c : q < D
  · have e8 : (odV N v ++ [dgL N N v]).getD q [] = (odV N v).getD q [] := by
      rw [List.getD_eq_getElem?_getD, List.getElem?_append_left (by omega), ← List.getD_eq_getElem?_getD]
    rw [wrF_out _ _ _ _ (by omega), h2 q i c hi, e8]
  · have eq : q = D := by omega
    subst eq
    rw [wrF_in _ _ _ _ (by rw [dgL_len]; exact hi), List.getD_eq_getElem?_getD (l := odV N v ++ _), List.getElem?_append_right (by omega), h1, Nat.sub_self]
    rfl
theorem odP_lt {N v D : Nat} {od : Nat → Int32} (hN : 3 ≤ N ∧ N ≤ 5) (h : odP N v D od) (hv : v < N ^ N) (hb : ndB (dgL N N v) = true) : D < 120 := by
  have h1 := odV_le N (v := v + 1) (N ^ N - (v + 1))
  rw [show v + 1 + (N ^ N - (v + 1)) = N ^ N by omega] at h1
  have e : (odV N (v + 1)).length = D + 1 := by rw [odV_s, hb, List.length_append, ← h.1]; rfl
  have h2 : (odL N).length ≤ 120 := (odL_len hN).1
  have h3 : (odV N (N ^ N)).length = (odL N).length := rfl
  omega
theorem odP_le {N v D : Nat} {od : Nat → Int32} (hN : 3 ≤ N ∧ N ≤ 5) (h : odP N v D od) (hv : v ≤ N ^ N) : D ≤ 120 := by
  have h1 := odV_le N (v := v) (N ^ N - v)
  rw [show v + (N ^ N - v) = N ^ N by omega] at h1
  have h2 : (odL N).length ≤ 120 := (odL_len hN).1
  have h3 : (odV N (N ^ N)).length = (odL N).length := rfl
  have := h.1
  omega
