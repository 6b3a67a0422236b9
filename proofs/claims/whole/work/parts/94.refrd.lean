-- needs 10 11 12 13 14 15 16 17 18
-- printed by wip/whole/gen_fr.py
abbrev RS : Type := Nat × Int32 × Int32 × Int32 × Int32 × Int32 × Int32 × Int32
def fR (G : List Value) (s : RS) : List Value := (((((((G.set 22 (.int s.2.1)).set 23 (.int (nI s.1))).set 27 (.int s.2.2.1)).set 28 (.int s.2.2.2.1)).set 29 (.int s.2.2.2.2.1)).set 30 (.int s.2.2.2.2.2.1)).set 31 (.int s.2.2.2.2.2.2.1)).set 32 (.int s.2.2.2.2.2.2.2)
section FR
variable {G : List Value} {s : RS}
theorem fR_len (hl : G.length = 33) : (fR G s).length = 33 := by
  unfold fR
  simp only [List.length_set]
  exact hl
theorem fR_g22 (hl : G.length = 33) : (fR G s)[22]? = some (.int s.2.1) := by
  unfold fR
  rw [List.getElem?_set_ne (by omega)]
  rw [List.getElem?_set_ne (by omega)]
  rw [List.getElem?_set_ne (by omega)]
  rw [List.getElem?_set_ne (by omega)]
  rw [List.getElem?_set_ne (by omega)]
  rw [List.getElem?_set_ne (by omega)]
  rw [List.getElem?_set_ne (by omega)]
  exact List.getElem?_set_self (by first | omega | (simp only [List.length_set]; omega))
theorem fR_g23 (hl : G.length = 33) : (fR G s)[23]? = some (.int (nI s.1)) := by
  unfold fR
  rw [List.getElem?_set_ne (by omega)]
  rw [List.getElem?_set_ne (by omega)]
  rw [List.getElem?_set_ne (by omega)]
  rw [List.getElem?_set_ne (by omega)]
  rw [List.getElem?_set_ne (by omega)]
  rw [List.getElem?_set_ne (by omega)]
  exact List.getElem?_set_self (by first | omega | (simp only [List.length_set]; omega))
theorem fR_g27 (hl : G.length = 33) : (fR G s)[27]? = some (.int s.2.2.1) := by
  unfold fR
  rw [List.getElem?_set_ne (by omega)]
  rw [List.getElem?_set_ne (by omega)]
  rw [List.getElem?_set_ne (by omega)]
  rw [List.getElem?_set_ne (by omega)]
  rw [List.getElem?_set_ne (by omega)]
  exact List.getElem?_set_self (by first | omega | (simp only [List.length_set]; omega))
theorem fR_g28 (hl : G.length = 33) : (fR G s)[28]? = some (.int s.2.2.2.1) := by
  unfold fR
  rw [List.getElem?_set_ne (by omega)]
  rw [List.getElem?_set_ne (by omega)]
  rw [List.getElem?_set_ne (by omega)]
  rw [List.getElem?_set_ne (by omega)]
  exact List.getElem?_set_self (by first | omega | (simp only [List.length_set]; omega))
theorem fR_g29 (hl : G.length = 33) : (fR G s)[29]? = some (.int s.2.2.2.2.1) := by
  unfold fR
  rw [List.getElem?_set_ne (by omega)]
  rw [List.getElem?_set_ne (by omega)]
  rw [List.getElem?_set_ne (by omega)]
  exact List.getElem?_set_self (by first | omega | (simp only [List.length_set]; omega))
theorem fR_g30 (hl : G.length = 33) : (fR G s)[30]? = some (.int s.2.2.2.2.2.1) := by
  unfold fR
  rw [List.getElem?_set_ne (by omega)]
  rw [List.getElem?_set_ne (by omega)]
  exact List.getElem?_set_self (by first | omega | (simp only [List.length_set]; omega))
theorem fR_g31 (hl : G.length = 33) : (fR G s)[31]? = some (.int s.2.2.2.2.2.2.1) := by
  unfold fR
  rw [List.getElem?_set_ne (by omega)]
  exact List.getElem?_set_self (by first | omega | (simp only [List.length_set]; omega))
theorem fR_g32 (hl : G.length = 33) : (fR G s)[32]? = some (.int s.2.2.2.2.2.2.2) := by
  unfold fR
  exact List.getElem?_set_self (by first | omega | (simp only [List.length_set]; omega))
theorem fR_x {j : Nat} (n22 : 22 ≠ j) (n23 : 23 ≠ j) (n27 : 27 ≠ j) (n28 : 28 ≠ j) (n29 : 29 ≠ j) (n30 : 30 ≠ j) (n31 : 31 ≠ j) (n32 : 32 ≠ j) : (fR G s)[j]? = G[j]? := by
  unfold fR
  rw [List.getElem?_set_ne n32, List.getElem?_set_ne n31, List.getElem?_set_ne n30, List.getElem?_set_ne n29, List.getElem?_set_ne n28, List.getElem?_set_ne n27, List.getElem?_set_ne n23, List.getElem?_set_ne n22]
theorem fR_s22 (v : Int32) : (fR G s).set 22 (.int v) = fR G (s.1, v, s.2.2.1, s.2.2.2.1, s.2.2.2.2.1, s.2.2.2.2.2.1, s.2.2.2.2.2.2.1, s.2.2.2.2.2.2.2) := by
  unfold fR
  rw [List.set_comm _ _ (show 32 ≠ 22 by decide)]
  rw [List.set_comm _ _ (show 31 ≠ 22 by decide)]
  rw [List.set_comm _ _ (show 30 ≠ 22 by decide)]
  rw [List.set_comm _ _ (show 29 ≠ 22 by decide)]
  rw [List.set_comm _ _ (show 28 ≠ 22 by decide)]
  rw [List.set_comm _ _ (show 27 ≠ 22 by decide)]
  rw [List.set_comm _ _ (show 23 ≠ 22 by decide)]
  rw [List.set_set]
theorem fR_s23 (v : Nat) : (fR G s).set 23 (.int (nI v)) = fR G (v, s.2.1, s.2.2.1, s.2.2.2.1, s.2.2.2.2.1, s.2.2.2.2.2.1, s.2.2.2.2.2.2.1, s.2.2.2.2.2.2.2) := by
  unfold fR
  rw [List.set_comm _ _ (show 32 ≠ 23 by decide)]
  rw [List.set_comm _ _ (show 31 ≠ 23 by decide)]
  rw [List.set_comm _ _ (show 30 ≠ 23 by decide)]
  rw [List.set_comm _ _ (show 29 ≠ 23 by decide)]
  rw [List.set_comm _ _ (show 28 ≠ 23 by decide)]
  rw [List.set_comm _ _ (show 27 ≠ 23 by decide)]
  rw [List.set_set]
theorem fR_s27 (v : Int32) : (fR G s).set 27 (.int v) = fR G (s.1, s.2.1, v, s.2.2.2.1, s.2.2.2.2.1, s.2.2.2.2.2.1, s.2.2.2.2.2.2.1, s.2.2.2.2.2.2.2) := by
  unfold fR
  rw [List.set_comm _ _ (show 32 ≠ 27 by decide)]
  rw [List.set_comm _ _ (show 31 ≠ 27 by decide)]
  rw [List.set_comm _ _ (show 30 ≠ 27 by decide)]
  rw [List.set_comm _ _ (show 29 ≠ 27 by decide)]
  rw [List.set_comm _ _ (show 28 ≠ 27 by decide)]
  rw [List.set_set]
theorem fR_s28 (v : Int32) : (fR G s).set 28 (.int v) = fR G (s.1, s.2.1, s.2.2.1, v, s.2.2.2.2.1, s.2.2.2.2.2.1, s.2.2.2.2.2.2.1, s.2.2.2.2.2.2.2) := by
  unfold fR
  rw [List.set_comm _ _ (show 32 ≠ 28 by decide)]
  rw [List.set_comm _ _ (show 31 ≠ 28 by decide)]
  rw [List.set_comm _ _ (show 30 ≠ 28 by decide)]
  rw [List.set_comm _ _ (show 29 ≠ 28 by decide)]
  rw [List.set_set]
theorem fR_s29 (v : Int32) : (fR G s).set 29 (.int v) = fR G (s.1, s.2.1, s.2.2.1, s.2.2.2.1, v, s.2.2.2.2.2.1, s.2.2.2.2.2.2.1, s.2.2.2.2.2.2.2) := by
  unfold fR
  rw [List.set_comm _ _ (show 32 ≠ 29 by decide)]
  rw [List.set_comm _ _ (show 31 ≠ 29 by decide)]
  rw [List.set_comm _ _ (show 30 ≠ 29 by decide)]
  rw [List.set_set]
theorem fR_s30 (v : Int32) : (fR G s).set 30 (.int v) = fR G (s.1, s.2.1, s.2.2.1, s.2.2.2.1, s.2.2.2.2.1, v, s.2.2.2.2.2.2.1, s.2.2.2.2.2.2.2) := by
  unfold fR
  rw [List.set_comm _ _ (show 32 ≠ 30 by decide)]
  rw [List.set_comm _ _ (show 31 ≠ 30 by decide)]
  rw [List.set_set]
theorem fR_s31 (v : Int32) : (fR G s).set 31 (.int v) = fR G (s.1, s.2.1, s.2.2.1, s.2.2.2.1, s.2.2.2.2.1, s.2.2.2.2.2.1, v, s.2.2.2.2.2.2.2) := by
  unfold fR
  rw [List.set_comm _ _ (show 32 ≠ 31 by decide)]
  rw [List.set_set]
theorem fR_s32 (v : Int32) : (fR G s).set 32 (.int v) = fR G (s.1, s.2.1, s.2.2.1, s.2.2.2.1, s.2.2.2.2.1, s.2.2.2.2.2.1, s.2.2.2.2.2.2.1, v) := by
  unfold fR
  rw [List.set_set]
theorem fR_o0 (v : Value) : (fR G s).set 0 v = fR (G.set 0 v) s := by
  unfold fR
  rw [List.set_comm _ _ (show 32 ≠ 0 by decide)]
  rw [List.set_comm _ _ (show 31 ≠ 0 by decide)]
  rw [List.set_comm _ _ (show 30 ≠ 0 by decide)]
  rw [List.set_comm _ _ (show 29 ≠ 0 by decide)]
  rw [List.set_comm _ _ (show 28 ≠ 0 by decide)]
  rw [List.set_comm _ _ (show 27 ≠ 0 by decide)]
  rw [List.set_comm _ _ (show 23 ≠ 0 by decide)]
  rw [List.set_comm _ _ (show 22 ≠ 0 by decide)]
theorem fR_o1 (v : Value) : (fR G s).set 1 v = fR (G.set 1 v) s := by
  unfold fR
  rw [List.set_comm _ _ (show 32 ≠ 1 by decide)]
  rw [List.set_comm _ _ (show 31 ≠ 1 by decide)]
  rw [List.set_comm _ _ (show 30 ≠ 1 by decide)]
  rw [List.set_comm _ _ (show 29 ≠ 1 by decide)]
  rw [List.set_comm _ _ (show 28 ≠ 1 by decide)]
  rw [List.set_comm _ _ (show 27 ≠ 1 by decide)]
  rw [List.set_comm _ _ (show 23 ≠ 1 by decide)]
  rw [List.set_comm _ _ (show 22 ≠ 1 by decide)]
theorem fR_o2 (v : Value) : (fR G s).set 2 v = fR (G.set 2 v) s := by
  unfold fR
  rw [List.set_comm _ _ (show 32 ≠ 2 by decide)]
  rw [List.set_comm _ _ (show 31 ≠ 2 by decide)]
  rw [List.set_comm _ _ (show 30 ≠ 2 by decide)]
  rw [List.set_comm _ _ (show 29 ≠ 2 by decide)]
  rw [List.set_comm _ _ (show 28 ≠ 2 by decide)]
  rw [List.set_comm _ _ (show 27 ≠ 2 by decide)]
  rw [List.set_comm _ _ (show 23 ≠ 2 by decide)]
  rw [List.set_comm _ _ (show 22 ≠ 2 by decide)]
theorem fR_o3 (v : Value) : (fR G s).set 3 v = fR (G.set 3 v) s := by
  unfold fR
  rw [List.set_comm _ _ (show 32 ≠ 3 by decide)]
  rw [List.set_comm _ _ (show 31 ≠ 3 by decide)]
  rw [List.set_comm _ _ (show 30 ≠ 3 by decide)]
  rw [List.set_comm _ _ (show 29 ≠ 3 by decide)]
  rw [List.set_comm _ _ (show 28 ≠ 3 by decide)]
  rw [List.set_comm _ _ (show 27 ≠ 3 by decide)]
  rw [List.set_comm _ _ (show 23 ≠ 3 by decide)]
  rw [List.set_comm _ _ (show 22 ≠ 3 by decide)]
theorem fR_o6 (v : Value) : (fR G s).set 6 v = fR (G.set 6 v) s := by
  unfold fR
  rw [List.set_comm _ _ (show 32 ≠ 6 by decide)]
  rw [List.set_comm _ _ (show 31 ≠ 6 by decide)]
  rw [List.set_comm _ _ (show 30 ≠ 6 by decide)]
  rw [List.set_comm _ _ (show 29 ≠ 6 by decide)]
  rw [List.set_comm _ _ (show 28 ≠ 6 by decide)]
  rw [List.set_comm _ _ (show 27 ≠ 6 by decide)]
  rw [List.set_comm _ _ (show 23 ≠ 6 by decide)]
  rw [List.set_comm _ _ (show 22 ≠ 6 by decide)]
theorem fR_o8 (v : Value) : (fR G s).set 8 v = fR (G.set 8 v) s := by
  unfold fR
  rw [List.set_comm _ _ (show 32 ≠ 8 by decide)]
  rw [List.set_comm _ _ (show 31 ≠ 8 by decide)]
  rw [List.set_comm _ _ (show 30 ≠ 8 by decide)]
  rw [List.set_comm _ _ (show 29 ≠ 8 by decide)]
  rw [List.set_comm _ _ (show 28 ≠ 8 by decide)]
  rw [List.set_comm _ _ (show 27 ≠ 8 by decide)]
  rw [List.set_comm _ _ (show 23 ≠ 8 by decide)]
  rw [List.set_comm _ _ (show 22 ≠ 8 by decide)]
theorem fR_o17 (v : Value) : (fR G s).set 17 v = fR (G.set 17 v) s := by
  unfold fR
  rw [List.set_comm _ _ (show 32 ≠ 17 by decide)]
  rw [List.set_comm _ _ (show 31 ≠ 17 by decide)]
  rw [List.set_comm _ _ (show 30 ≠ 17 by decide)]
  rw [List.set_comm _ _ (show 29 ≠ 17 by decide)]
  rw [List.set_comm _ _ (show 28 ≠ 17 by decide)]
  rw [List.set_comm _ _ (show 27 ≠ 17 by decide)]
  rw [List.set_comm _ _ (show 23 ≠ 17 by decide)]
  rw [List.set_comm _ _ (show 22 ≠ 17 by decide)]
theorem fR_o19 (v : Value) : (fR G s).set 19 v = fR (G.set 19 v) s := by
  unfold fR
  rw [List.set_comm _ _ (show 32 ≠ 19 by decide)]
  rw [List.set_comm _ _ (show 31 ≠ 19 by decide)]
  rw [List.set_comm _ _ (show 30 ≠ 19 by decide)]
  rw [List.set_comm _ _ (show 29 ≠ 19 by decide)]
  rw [List.set_comm _ _ (show 28 ≠ 19 by decide)]
  rw [List.set_comm _ _ (show 27 ≠ 19 by decide)]
  rw [List.set_comm _ _ (show 23 ≠ 19 by decide)]
  rw [List.set_comm _ _ (show 22 ≠ 19 by decide)]
theorem fR_o21 (v : Value) : (fR G s).set 21 v = fR (G.set 21 v) s := by
  unfold fR
  rw [List.set_comm _ _ (show 32 ≠ 21 by decide)]
  rw [List.set_comm _ _ (show 31 ≠ 21 by decide)]
  rw [List.set_comm _ _ (show 30 ≠ 21 by decide)]
  rw [List.set_comm _ _ (show 29 ≠ 21 by decide)]
  rw [List.set_comm _ _ (show 28 ≠ 21 by decide)]
  rw [List.set_comm _ _ (show 27 ≠ 21 by decide)]
  rw [List.set_comm _ _ (show 23 ≠ 21 by decide)]
  rw [List.set_comm _ _ (show 22 ≠ 21 by decide)]
end FR
