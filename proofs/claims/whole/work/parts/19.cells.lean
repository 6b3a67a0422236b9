-- needs 10 11 12 13 14 15 16 17 18
-- heaplets of some cells over a heaplet; printed by wip/whole/gen_gh.py
def gh2 (a0 a1 : Nat) (e0 e1 : va_E) (h : gH) : gH := gup (gup h a0 e0) a1 e1
def ap2 (a0 a1 : Nat) : Prop := a0 ≠ a1
section GH2
variable {a0 a1 : Nat} {e0 e1 e : va_E} {h : gH}
theorem gh2_g0 (d : ap2 a0 a1) : gh2 a0 a1 e0 e1 h a0 = some e0 := by
  have d01 : a0 ≠ a1 := d
  simp [gh2, gup, d01, Ne.symm d01]
theorem gh2_p0 (d : ap2 a0 a1) : gup (gh2 a0 a1 e0 e1 h) a0 e = gh2 a0 a1 e e1 h := by
  have d01 : a0 ≠ a1 := d
  funext q
  by_cases q1 : q = a0
  · subst q1
    simp [gh2, gup, d01, Ne.symm d01]
  · simp [gh2, gup, q1]
theorem gh2_g1 (d : ap2 a0 a1) : gh2 a0 a1 e0 e1 h a1 = some e1 := by
  have d01 : a0 ≠ a1 := d
  simp [gh2, gup, d01, Ne.symm d01]
theorem gh2_p1 (d : ap2 a0 a1) : gup (gh2 a0 a1 e0 e1 h) a1 e = gh2 a0 a1 e0 e h := by
  have d01 : a0 ≠ a1 := d
  funext q
  by_cases q1 : q = a1
  · subst q1
    simp [gh2, gup, d01, Ne.symm d01]
  · simp [gh2, gup, q1]
theorem gh2_x {q : Nat} (n0 : q ≠ a0) (n1 : q ≠ a1) : gh2 a0 a1 e0 e1 h q = h q := by
  simp [gh2, gup, n0, n1]
theorem gh2_id (x0 : h a0 = some e0) (x1 : h a1 = some e1) : gh2 a0 a1 e0 e1 h = h := by
  unfold gh2
  rw [gup_id x0, gup_id x1]
end GH2
def gh3 (a0 a1 a2 : Nat) (e0 e1 e2 : va_E) (h : gH) : gH := gup (gup (gup h a0 e0) a1 e1) a2 e2
def ap3 (a0 a1 a2 : Nat) : Prop := a0 ≠ a1 ∧ a0 ≠ a2 ∧ a1 ≠ a2
section GH3
variable {a0 a1 a2 : Nat} {e0 e1 e2 e : va_E} {h : gH}
theorem gh3_g0 (d : ap3 a0 a1 a2) : gh3 a0 a1 a2 e0 e1 e2 h a0 = some e0 := by
  obtain ⟨d01, d02, d12⟩ := d
  simp [gh3, gup, d01, Ne.symm d01, d02, Ne.symm d02, d12, Ne.symm d12]
theorem gh3_p0 (d : ap3 a0 a1 a2) : gup (gh3 a0 a1 a2 e0 e1 e2 h) a0 e = gh3 a0 a1 a2 e e1 e2 h := by
  obtain ⟨d01, d02, d12⟩ := d
  funext q
  by_cases q1 : q = a0
  · subst q1
    simp [gh3, gup, d01, Ne.symm d01, d02, Ne.symm d02, d12, Ne.symm d12]
  · simp [gh3, gup, q1]
theorem gh3_g1 (d : ap3 a0 a1 a2) : gh3 a0 a1 a2 e0 e1 e2 h a1 = some e1 := by
  obtain ⟨d01, d02, d12⟩ := d
  simp [gh3, gup, d01, Ne.symm d01, d02, Ne.symm d02, d12, Ne.symm d12]
theorem gh3_p1 (d : ap3 a0 a1 a2) : gup (gh3 a0 a1 a2 e0 e1 e2 h) a1 e = gh3 a0 a1 a2 e0 e e2 h := by
  obtain ⟨d01, d02, d12⟩ := d
  funext q
  by_cases q1 : q = a1
  · subst q1
    simp [gh3, gup, d01, Ne.symm d01, d02, Ne.symm d02, d12, Ne.symm d12]
  · simp [gh3, gup, q1]
theorem gh3_g2 (d : ap3 a0 a1 a2) : gh3 a0 a1 a2 e0 e1 e2 h a2 = some e2 := by
  obtain ⟨d01, d02, d12⟩ := d
  simp [gh3, gup, d01, Ne.symm d01, d02, Ne.symm d02, d12, Ne.symm d12]
theorem gh3_p2 (d : ap3 a0 a1 a2) : gup (gh3 a0 a1 a2 e0 e1 e2 h) a2 e = gh3 a0 a1 a2 e0 e1 e h := by
  obtain ⟨d01, d02, d12⟩ := d
  funext q
  by_cases q1 : q = a2
  · subst q1
    simp [gh3, gup, d01, Ne.symm d01, d02, Ne.symm d02, d12, Ne.symm d12]
  · simp [gh3, gup, q1]
theorem gh3_x {q : Nat} (n0 : q ≠ a0) (n1 : q ≠ a1) (n2 : q ≠ a2) : gh3 a0 a1 a2 e0 e1 e2 h q = h q := by
  simp [gh3, gup, n0, n1, n2]
theorem gh3_id (x0 : h a0 = some e0) (x1 : h a1 = some e1) (x2 : h a2 = some e2) : gh3 a0 a1 a2 e0 e1 e2 h = h := by
  unfold gh3
  rw [gup_id x0, gup_id x1, gup_id x2]
end GH3
def gh4 (a0 a1 a2 a3 : Nat) (e0 e1 e2 e3 : va_E) (h : gH) : gH := gup (gup (gup (gup h a0 e0) a1 e1) a2 e2) a3 e3
def ap4 (a0 a1 a2 a3 : Nat) : Prop := a0 ≠ a1 ∧ a0 ≠ a2 ∧ a0 ≠ a3 ∧ a1 ≠ a2 ∧ a1 ≠ a3 ∧ a2 ≠ a3
section GH4
variable {a0 a1 a2 a3 : Nat} {e0 e1 e2 e3 e : va_E} {h : gH}
theorem gh4_g0 (d : ap4 a0 a1 a2 a3) : gh4 a0 a1 a2 a3 e0 e1 e2 e3 h a0 = some e0 := by
  obtain ⟨d01, d02, d03, d12, d13, d23⟩ := d
  simp [gh4, gup, d01, Ne.symm d01, d02, Ne.symm d02, d03, Ne.symm d03, d12, Ne.symm d12, d13, Ne.symm d13, d23, Ne.symm d23]
theorem gh4_p0 (d : ap4 a0 a1 a2 a3) : gup (gh4 a0 a1 a2 a3 e0 e1 e2 e3 h) a0 e = gh4 a0 a1 a2 a3 e e1 e2 e3 h := by
  obtain ⟨d01, d02, d03, d12, d13, d23⟩ := d
  funext q
  by_cases q1 : q = a0
  · subst q1
    simp [gh4, gup, d01, Ne.symm d01, d02, Ne.symm d02, d03, Ne.symm d03, d12, Ne.symm d12, d13, Ne.symm d13, d23, Ne.symm d23]
  · simp [gh4, gup, q1]
theorem gh4_g1 (d : ap4 a0 a1 a2 a3) : gh4 a0 a1 a2 a3 e0 e1 e2 e3 h a1 = some e1 := by
  obtain ⟨d01, d02, d03, d12, d13, d23⟩ := d
  simp [gh4, gup, d01, Ne.symm d01, d02, Ne.symm d02, d03, Ne.symm d03, d12, Ne.symm d12, d13, Ne.symm d13, d23, Ne.symm d23]
theorem gh4_p1 (d : ap4 a0 a1 a2 a3) : gup (gh4 a0 a1 a2 a3 e0 e1 e2 e3 h) a1 e = gh4 a0 a1 a2 a3 e0 e e2 e3 h := by
  obtain ⟨d01, d02, d03, d12, d13, d23⟩ := d
  funext q
  by_cases q1 : q = a1
  · subst q1
    simp [gh4, gup, d01, Ne.symm d01, d02, Ne.symm d02, d03, Ne.symm d03, d12, Ne.symm d12, d13, Ne.symm d13, d23, Ne.symm d23]
  · simp [gh4, gup, q1]
theorem gh4_g2 (d : ap4 a0 a1 a2 a3) : gh4 a0 a1 a2 a3 e0 e1 e2 e3 h a2 = some e2 := by
  obtain ⟨d01, d02, d03, d12, d13, d23⟩ := d
  simp [gh4, gup, d01, Ne.symm d01, d02, Ne.symm d02, d03, Ne.symm d03, d12, Ne.symm d12, d13, Ne.symm d13, d23, Ne.symm d23]
theorem gh4_p2 (d : ap4 a0 a1 a2 a3) : gup (gh4 a0 a1 a2 a3 e0 e1 e2 e3 h) a2 e = gh4 a0 a1 a2 a3 e0 e1 e e3 h := by
  obtain ⟨d01, d02, d03, d12, d13, d23⟩ := d
  funext q
  by_cases q1 : q = a2
  · subst q1
    simp [gh4, gup, d01, Ne.symm d01, d02, Ne.symm d02, d03, Ne.symm d03, d12, Ne.symm d12, d13, Ne.symm d13, d23, Ne.symm d23]
  · simp [gh4, gup, q1]
theorem gh4_g3 (d : ap4 a0 a1 a2 a3) : gh4 a0 a1 a2 a3 e0 e1 e2 e3 h a3 = some e3 := by
  obtain ⟨d01, d02, d03, d12, d13, d23⟩ := d
  simp [gh4, gup, d01, Ne.symm d01, d02, Ne.symm d02, d03, Ne.symm d03, d12, Ne.symm d12, d13, Ne.symm d13, d23, Ne.symm d23]
theorem gh4_p3 (d : ap4 a0 a1 a2 a3) : gup (gh4 a0 a1 a2 a3 e0 e1 e2 e3 h) a3 e = gh4 a0 a1 a2 a3 e0 e1 e2 e h := by
  obtain ⟨d01, d02, d03, d12, d13, d23⟩ := d
  funext q
  by_cases q1 : q = a3
  · subst q1
    simp [gh4, gup, d01, Ne.symm d01, d02, Ne.symm d02, d03, Ne.symm d03, d12, Ne.symm d12, d13, Ne.symm d13, d23, Ne.symm d23]
  · simp [gh4, gup, q1]
theorem gh4_x {q : Nat} (n0 : q ≠ a0) (n1 : q ≠ a1) (n2 : q ≠ a2) (n3 : q ≠ a3) : gh4 a0 a1 a2 a3 e0 e1 e2 e3 h q = h q := by
  simp [gh4, gup, n0, n1, n2, n3]
theorem gh4_id (x0 : h a0 = some e0) (x1 : h a1 = some e1) (x2 : h a2 = some e2) (x3 : h a3 = some e3) : gh4 a0 a1 a2 a3 e0 e1 e2 e3 h = h := by
  unfold gh4
  rw [gup_id x0, gup_id x1, gup_id x2, gup_id x3]
end GH4
def gh5 (a0 a1 a2 a3 a4 : Nat) (e0 e1 e2 e3 e4 : va_E) (h : gH) : gH := gup (gup (gup (gup (gup h a0 e0) a1 e1) a2 e2) a3 e3) a4 e4
def ap5 (a0 a1 a2 a3 a4 : Nat) : Prop := a0 ≠ a1 ∧ a0 ≠ a2 ∧ a0 ≠ a3 ∧ a0 ≠ a4 ∧ a1 ≠ a2 ∧ a1 ≠ a3 ∧ a1 ≠ a4 ∧ a2 ≠ a3 ∧ a2 ≠ a4 ∧ a3 ≠ a4
section GH5
variable {a0 a1 a2 a3 a4 : Nat} {e0 e1 e2 e3 e4 e : va_E} {h : gH}
theorem gh5_g0 (d : ap5 a0 a1 a2 a3 a4) : gh5 a0 a1 a2 a3 a4 e0 e1 e2 e3 e4 h a0 = some e0 := by
  obtain ⟨d01, d02, d03, d04, d12, d13, d14, d23, d24, d34⟩ := d
  simp [gh5, gup, d01, Ne.symm d01, d02, Ne.symm d02, d03, Ne.symm d03, d04, Ne.symm d04, d12, Ne.symm d12, d13, Ne.symm d13, d14, Ne.symm d14, d23, Ne.symm d23, d24, Ne.symm d24, d34, Ne.symm d34]
theorem gh5_p0 (d : ap5 a0 a1 a2 a3 a4) : gup (gh5 a0 a1 a2 a3 a4 e0 e1 e2 e3 e4 h) a0 e = gh5 a0 a1 a2 a3 a4 e e1 e2 e3 e4 h := by
  obtain ⟨d01, d02, d03, d04, d12, d13, d14, d23, d24, d34⟩ := d
  funext q
  by_cases q1 : q = a0
  · subst q1
    simp [gh5, gup, d01, Ne.symm d01, d02, Ne.symm d02, d03, Ne.symm d03, d04, Ne.symm d04, d12, Ne.symm d12, d13, Ne.symm d13, d14, Ne.symm d14, d23, Ne.symm d23, d24, Ne.symm d24, d34, Ne.symm d34]
  · simp [gh5, gup, q1]
theorem gh5_g1 (d : ap5 a0 a1 a2 a3 a4) : gh5 a0 a1 a2 a3 a4 e0 e1 e2 e3 e4 h a1 = some e1 := by
  obtain ⟨d01, d02, d03, d04, d12, d13, d14, d23, d24, d34⟩ := d
  simp [gh5, gup, d01, Ne.symm d01, d02, Ne.symm d02, d03, Ne.symm d03, d04, Ne.symm d04, d12, Ne.symm d12, d13, Ne.symm d13, d14, Ne.symm d14, d23, Ne.symm d23, d24, Ne.symm d24, d34, Ne.symm d34]
theorem gh5_p1 (d : ap5 a0 a1 a2 a3 a4) : gup (gh5 a0 a1 a2 a3 a4 e0 e1 e2 e3 e4 h) a1 e = gh5 a0 a1 a2 a3 a4 e0 e e2 e3 e4 h := by
  obtain ⟨d01, d02, d03, d04, d12, d13, d14, d23, d24, d34⟩ := d
  funext q
  by_cases q1 : q = a1
  · subst q1
    simp [gh5, gup, d01, Ne.symm d01, d02, Ne.symm d02, d03, Ne.symm d03, d04, Ne.symm d04, d12, Ne.symm d12, d13, Ne.symm d13, d14, Ne.symm d14, d23, Ne.symm d23, d24, Ne.symm d24, d34, Ne.symm d34]
  · simp [gh5, gup, q1]
theorem gh5_g2 (d : ap5 a0 a1 a2 a3 a4) : gh5 a0 a1 a2 a3 a4 e0 e1 e2 e3 e4 h a2 = some e2 := by
  obtain ⟨d01, d02, d03, d04, d12, d13, d14, d23, d24, d34⟩ := d
  simp [gh5, gup, d01, Ne.symm d01, d02, Ne.symm d02, d03, Ne.symm d03, d04, Ne.symm d04, d12, Ne.symm d12, d13, Ne.symm d13, d14, Ne.symm d14, d23, Ne.symm d23, d24, Ne.symm d24, d34, Ne.symm d34]
theorem gh5_p2 (d : ap5 a0 a1 a2 a3 a4) : gup (gh5 a0 a1 a2 a3 a4 e0 e1 e2 e3 e4 h) a2 e = gh5 a0 a1 a2 a3 a4 e0 e1 e e3 e4 h := by
  obtain ⟨d01, d02, d03, d04, d12, d13, d14, d23, d24, d34⟩ := d
  funext q
  by_cases q1 : q = a2
  · subst q1
    simp [gh5, gup, d01, Ne.symm d01, d02, Ne.symm d02, d03, Ne.symm d03, d04, Ne.symm d04, d12, Ne.symm d12, d13, Ne.symm d13, d14, Ne.symm d14, d23, Ne.symm d23, d24, Ne.symm d24, d34, Ne.symm d34]
  · simp [gh5, gup, q1]
theorem gh5_g3 (d : ap5 a0 a1 a2 a3 a4) : gh5 a0 a1 a2 a3 a4 e0 e1 e2 e3 e4 h a3 = some e3 := by
  obtain ⟨d01, d02, d03, d04, d12, d13, d14, d23, d24, d34⟩ := d
  simp [gh5, gup, d01, Ne.symm d01, d02, Ne.symm d02, d03, Ne.symm d03, d04, Ne.symm d04, d12, Ne.symm d12, d13, Ne.symm d13, d14, Ne.symm d14, d23, Ne.symm d23, d24, Ne.symm d24, d34, Ne.symm d34]
theorem gh5_p3 (d : ap5 a0 a1 a2 a3 a4) : gup (gh5 a0 a1 a2 a3 a4 e0 e1 e2 e3 e4 h) a3 e = gh5 a0 a1 a2 a3 a4 e0 e1 e2 e e4 h := by
  obtain ⟨d01, d02, d03, d04, d12, d13, d14, d23, d24, d34⟩ := d
  funext q
  by_cases q1 : q = a3
  · subst q1
    simp [gh5, gup, d01, Ne.symm d01, d02, Ne.symm d02, d03, Ne.symm d03, d04, Ne.symm d04, d12, Ne.symm d12, d13, Ne.symm d13, d14, Ne.symm d14, d23, Ne.symm d23, d24, Ne.symm d24, d34, Ne.symm d34]
  · simp [gh5, gup, q1]
theorem gh5_g4 (d : ap5 a0 a1 a2 a3 a4) : gh5 a0 a1 a2 a3 a4 e0 e1 e2 e3 e4 h a4 = some e4 := by
  obtain ⟨d01, d02, d03, d04, d12, d13, d14, d23, d24, d34⟩ := d
  simp [gh5, gup, d01, Ne.symm d01, d02, Ne.symm d02, d03, Ne.symm d03, d04, Ne.symm d04, d12, Ne.symm d12, d13, Ne.symm d13, d14, Ne.symm d14, d23, Ne.symm d23, d24, Ne.symm d24, d34, Ne.symm d34]
theorem gh5_p4 (d : ap5 a0 a1 a2 a3 a4) : gup (gh5 a0 a1 a2 a3 a4 e0 e1 e2 e3 e4 h) a4 e = gh5 a0 a1 a2 a3 a4 e0 e1 e2 e3 e h := by
  obtain ⟨d01, d02, d03, d04, d12, d13, d14, d23, d24, d34⟩ := d
  funext q
  by_cases q1 : q = a4
  · subst q1
    simp [gh5, gup, d01, Ne.symm d01, d02, Ne.symm d02, d03, Ne.symm d03, d04, Ne.symm d04, d12, Ne.symm d12, d13, Ne.symm d13, d14, Ne.symm d14, d23, Ne.symm d23, d24, Ne.symm d24, d34, Ne.symm d34]
  · simp [gh5, gup, q1]
theorem gh5_x {q : Nat} (n0 : q ≠ a0) (n1 : q ≠ a1) (n2 : q ≠ a2) (n3 : q ≠ a3) (n4 : q ≠ a4) : gh5 a0 a1 a2 a3 a4 e0 e1 e2 e3 e4 h q = h q := by
  simp [gh5, gup, n0, n1, n2, n3, n4]
theorem gh5_id (x0 : h a0 = some e0) (x1 : h a1 = some e1) (x2 : h a2 = some e2) (x3 : h a3 = some e3) (x4 : h a4 = some e4) : gh5 a0 a1 a2 a3 a4 e0 e1 e2 e3 e4 h = h := by
  unfold gh5
  rw [gup_id x0, gup_id x1, gup_id x2, gup_id x3, gup_id x4]
end GH5
def gh6 (a0 a1 a2 a3 a4 a5 : Nat) (e0 e1 e2 e3 e4 e5 : va_E) (h : gH) : gH := gup (gup (gup (gup (gup (gup h a0 e0) a1 e1) a2 e2) a3 e3) a4 e4) a5 e5
def ap6 (a0 a1 a2 a3 a4 a5 : Nat) : Prop := a0 ≠ a1 ∧ a0 ≠ a2 ∧ a0 ≠ a3 ∧ a0 ≠ a4 ∧ a0 ≠ a5 ∧ a1 ≠ a2 ∧ a1 ≠ a3 ∧ a1 ≠ a4 ∧ a1 ≠ a5 ∧ a2 ≠ a3 ∧ a2 ≠ a4 ∧ a2 ≠ a5 ∧ a3 ≠ a4 ∧ a3 ≠ a5 ∧ a4 ≠ a5
section GH6
variable {a0 a1 a2 a3 a4 a5 : Nat} {e0 e1 e2 e3 e4 e5 e : va_E} {h : gH}
theorem gh6_g0 (d : ap6 a0 a1 a2 a3 a4 a5) : gh6 a0 a1 a2 a3 a4 a5 e0 e1 e2 e3 e4 e5 h a0 = some e0 := by
  obtain ⟨d01, d02, d03, d04, d05, d12, d13, d14, d15, d23, d24, d25, d34, d35, d45⟩ := d
  simp [gh6, gup, d01, Ne.symm d01, d02, Ne.symm d02, d03, Ne.symm d03, d04, Ne.symm d04, d05, Ne.symm d05, d12, Ne.symm d12, d13, Ne.symm d13, d14, Ne.symm d14, d15, Ne.symm d15, d23, Ne.symm d23, d24, Ne.symm d24, d25, Ne.symm d25, d34, Ne.symm d34, d35, Ne.symm d35, d45, Ne.symm d45]
theorem gh6_p0 (d : ap6 a0 a1 a2 a3 a4 a5) : gup (gh6 a0 a1 a2 a3 a4 a5 e0 e1 e2 e3 e4 e5 h) a0 e = gh6 a0 a1 a2 a3 a4 a5 e e1 e2 e3 e4 e5 h := by
  obtain ⟨d01, d02, d03, d04, d05, d12, d13, d14, d15, d23, d24, d25, d34, d35, d45⟩ := d
  funext q
  by_cases q1 : q = a0
  · subst q1
    simp [gh6, gup, d01, Ne.symm d01, d02, Ne.symm d02, d03, Ne.symm d03, d04, Ne.symm d04, d05, Ne.symm d05, d12, Ne.symm d12, d13, Ne.symm d13, d14, Ne.symm d14, d15, Ne.symm d15, d23, Ne.symm d23, d24, Ne.symm d24, d25, Ne.symm d25, d34, Ne.symm d34, d35, Ne.symm d35, d45, Ne.symm d45]
  · simp [gh6, gup, q1]
theorem gh6_g1 (d : ap6 a0 a1 a2 a3 a4 a5) : gh6 a0 a1 a2 a3 a4 a5 e0 e1 e2 e3 e4 e5 h a1 = some e1 := by
  obtain ⟨d01, d02, d03, d04, d05, d12, d13, d14, d15, d23, d24, d25, d34, d35, d45⟩ := d
  simp [gh6, gup, d01, Ne.symm d01, d02, Ne.symm d02, d03, Ne.symm d03, d04, Ne.symm d04, d05, Ne.symm d05, d12, Ne.symm d12, d13, Ne.symm d13, d14, Ne.symm d14, d15, Ne.symm d15, d23, Ne.symm d23, d24, Ne.symm d24, d25, Ne.symm d25, d34, Ne.symm d34, d35, Ne.symm d35, d45, Ne.symm d45]
theorem gh6_p1 (d : ap6 a0 a1 a2 a3 a4 a5) : gup (gh6 a0 a1 a2 a3 a4 a5 e0 e1 e2 e3 e4 e5 h) a1 e = gh6 a0 a1 a2 a3 a4 a5 e0 e e2 e3 e4 e5 h := by
  obtain ⟨d01, d02, d03, d04, d05, d12, d13, d14, d15, d23, d24, d25, d34, d35, d45⟩ := d
  funext q
  by_cases q1 : q = a1
  · subst q1
    simp [gh6, gup, d01, Ne.symm d01, d02, Ne.symm d02, d03, Ne.symm d03, d04, Ne.symm d04, d05, Ne.symm d05, d12, Ne.symm d12, d13, Ne.symm d13, d14, Ne.symm d14, d15, Ne.symm d15, d23, Ne.symm d23, d24, Ne.symm d24, d25, Ne.symm d25, d34, Ne.symm d34, d35, Ne.symm d35, d45, Ne.symm d45]
  · simp [gh6, gup, q1]
theorem gh6_g2 (d : ap6 a0 a1 a2 a3 a4 a5) : gh6 a0 a1 a2 a3 a4 a5 e0 e1 e2 e3 e4 e5 h a2 = some e2 := by
  obtain ⟨d01, d02, d03, d04, d05, d12, d13, d14, d15, d23, d24, d25, d34, d35, d45⟩ := d
  simp [gh6, gup, d01, Ne.symm d01, d02, Ne.symm d02, d03, Ne.symm d03, d04, Ne.symm d04, d05, Ne.symm d05, d12, Ne.symm d12, d13, Ne.symm d13, d14, Ne.symm d14, d15, Ne.symm d15, d23, Ne.symm d23, d24, Ne.symm d24, d25, Ne.symm d25, d34, Ne.symm d34, d35, Ne.symm d35, d45, Ne.symm d45]
theorem gh6_p2 (d : ap6 a0 a1 a2 a3 a4 a5) : gup (gh6 a0 a1 a2 a3 a4 a5 e0 e1 e2 e3 e4 e5 h) a2 e = gh6 a0 a1 a2 a3 a4 a5 e0 e1 e e3 e4 e5 h := by
  obtain ⟨d01, d02, d03, d04, d05, d12, d13, d14, d15, d23, d24, d25, d34, d35, d45⟩ := d
  funext q
  by_cases q1 : q = a2
  · subst q1
    simp [gh6, gup, d01, Ne.symm d01, d02, Ne.symm d02, d03, Ne.symm d03, d04, Ne.symm d04, d05, Ne.symm d05, d12, Ne.symm d12, d13, Ne.symm d13, d14, Ne.symm d14, d15, Ne.symm d15, d23, Ne.symm d23, d24, Ne.symm d24, d25, Ne.symm d25, d34, Ne.symm d34, d35, Ne.symm d35, d45, Ne.symm d45]
  · simp [gh6, gup, q1]
theorem gh6_g3 (d : ap6 a0 a1 a2 a3 a4 a5) : gh6 a0 a1 a2 a3 a4 a5 e0 e1 e2 e3 e4 e5 h a3 = some e3 := by
  obtain ⟨d01, d02, d03, d04, d05, d12, d13, d14, d15, d23, d24, d25, d34, d35, d45⟩ := d
  simp [gh6, gup, d01, Ne.symm d01, d02, Ne.symm d02, d03, Ne.symm d03, d04, Ne.symm d04, d05, Ne.symm d05, d12, Ne.symm d12, d13, Ne.symm d13, d14, Ne.symm d14, d15, Ne.symm d15, d23, Ne.symm d23, d24, Ne.symm d24, d25, Ne.symm d25, d34, Ne.symm d34, d35, Ne.symm d35, d45, Ne.symm d45]
theorem gh6_p3 (d : ap6 a0 a1 a2 a3 a4 a5) : gup (gh6 a0 a1 a2 a3 a4 a5 e0 e1 e2 e3 e4 e5 h) a3 e = gh6 a0 a1 a2 a3 a4 a5 e0 e1 e2 e e4 e5 h := by
  obtain ⟨d01, d02, d03, d04, d05, d12, d13, d14, d15, d23, d24, d25, d34, d35, d45⟩ := d
  funext q
  by_cases q1 : q = a3
  · subst q1
    simp [gh6, gup, d01, Ne.symm d01, d02, Ne.symm d02, d03, Ne.symm d03, d04, Ne.symm d04, d05, Ne.symm d05, d12, Ne.symm d12, d13, Ne.symm d13, d14, Ne.symm d14, d15, Ne.symm d15, d23, Ne.symm d23, d24, Ne.symm d24, d25, Ne.symm d25, d34, Ne.symm d34, d35, Ne.symm d35, d45, Ne.symm d45]
  · simp [gh6, gup, q1]
theorem gh6_g4 (d : ap6 a0 a1 a2 a3 a4 a5) : gh6 a0 a1 a2 a3 a4 a5 e0 e1 e2 e3 e4 e5 h a4 = some e4 := by
  obtain ⟨d01, d02, d03, d04, d05, d12, d13, d14, d15, d23, d24, d25, d34, d35, d45⟩ := d
  simp [gh6, gup, d01, Ne.symm d01, d02, Ne.symm d02, d03, Ne.symm d03, d04, Ne.symm d04, d05, Ne.symm d05, d12, Ne.symm d12, d13, Ne.symm d13, d14, Ne.symm d14, d15, Ne.symm d15, d23, Ne.symm d23, d24, Ne.symm d24, d25, Ne.symm d25, d34, Ne.symm d34, d35, Ne.symm d35, d45, Ne.symm d45]
theorem gh6_p4 (d : ap6 a0 a1 a2 a3 a4 a5) : gup (gh6 a0 a1 a2 a3 a4 a5 e0 e1 e2 e3 e4 e5 h) a4 e = gh6 a0 a1 a2 a3 a4 a5 e0 e1 e2 e3 e e5 h := by
  obtain ⟨d01, d02, d03, d04, d05, d12, d13, d14, d15, d23, d24, d25, d34, d35, d45⟩ := d
  funext q
  by_cases q1 : q = a4
  · subst q1
    simp [gh6, gup, d01, Ne.symm d01, d02, Ne.symm d02, d03, Ne.symm d03, d04, Ne.symm d04, d05, Ne.symm d05, d12, Ne.symm d12, d13, Ne.symm d13, d14, Ne.symm d14, d15, Ne.symm d15, d23, Ne.symm d23, d24, Ne.symm d24, d25, Ne.symm d25, d34, Ne.symm d34, d35, Ne.symm d35, d45, Ne.symm d45]
  · simp [gh6, gup, q1]
theorem gh6_g5 (d : ap6 a0 a1 a2 a3 a4 a5) : gh6 a0 a1 a2 a3 a4 a5 e0 e1 e2 e3 e4 e5 h a5 = some e5 := by
  obtain ⟨d01, d02, d03, d04, d05, d12, d13, d14, d15, d23, d24, d25, d34, d35, d45⟩ := d
  simp [gh6, gup, d01, Ne.symm d01, d02, Ne.symm d02, d03, Ne.symm d03, d04, Ne.symm d04, d05, Ne.symm d05, d12, Ne.symm d12, d13, Ne.symm d13, d14, Ne.symm d14, d15, Ne.symm d15, d23, Ne.symm d23, d24, Ne.symm d24, d25, Ne.symm d25, d34, Ne.symm d34, d35, Ne.symm d35, d45, Ne.symm d45]
theorem gh6_p5 (d : ap6 a0 a1 a2 a3 a4 a5) : gup (gh6 a0 a1 a2 a3 a4 a5 e0 e1 e2 e3 e4 e5 h) a5 e = gh6 a0 a1 a2 a3 a4 a5 e0 e1 e2 e3 e4 e h := by
  obtain ⟨d01, d02, d03, d04, d05, d12, d13, d14, d15, d23, d24, d25, d34, d35, d45⟩ := d
  funext q
  by_cases q1 : q = a5
  · subst q1
    simp [gh6, gup, d01, Ne.symm d01, d02, Ne.symm d02, d03, Ne.symm d03, d04, Ne.symm d04, d05, Ne.symm d05, d12, Ne.symm d12, d13, Ne.symm d13, d14, Ne.symm d14, d15, Ne.symm d15, d23, Ne.symm d23, d24, Ne.symm d24, d25, Ne.symm d25, d34, Ne.symm d34, d35, Ne.symm d35, d45, Ne.symm d45]
  · simp [gh6, gup, q1]
theorem gh6_x {q : Nat} (n0 : q ≠ a0) (n1 : q ≠ a1) (n2 : q ≠ a2) (n3 : q ≠ a3) (n4 : q ≠ a4) (n5 : q ≠ a5) : gh6 a0 a1 a2 a3 a4 a5 e0 e1 e2 e3 e4 e5 h q = h q := by
  simp [gh6, gup, n0, n1, n2, n3, n4, n5]
theorem gh6_id (x0 : h a0 = some e0) (x1 : h a1 = some e1) (x2 : h a2 = some e2) (x3 : h a3 = some e3) (x4 : h a4 = some e4) (x5 : h a5 = some e5) : gh6 a0 a1 a2 a3 a4 a5 e0 e1 e2 e3 e4 e5 h = h := by
  unfold gh6
  rw [gup_id x0, gup_id x1, gup_id x2, gup_id x3, gup_id x4, gup_id x5]
end GH6
def gh7 (a0 a1 a2 a3 a4 a5 a6 : Nat) (e0 e1 e2 e3 e4 e5 e6 : va_E) (h : gH) : gH := gup (gup (gup (gup (gup (gup (gup h a0 e0) a1 e1) a2 e2) a3 e3) a4 e4) a5 e5) a6 e6
def ap7 (a0 a1 a2 a3 a4 a5 a6 : Nat) : Prop := a0 ≠ a1 ∧ a0 ≠ a2 ∧ a0 ≠ a3 ∧ a0 ≠ a4 ∧ a0 ≠ a5 ∧ a0 ≠ a6 ∧ a1 ≠ a2 ∧ a1 ≠ a3 ∧ a1 ≠ a4 ∧ a1 ≠ a5 ∧ a1 ≠ a6 ∧ a2 ≠ a3 ∧ a2 ≠ a4 ∧ a2 ≠ a5 ∧ a2 ≠ a6 ∧ a3 ≠ a4 ∧ a3 ≠ a5 ∧ a3 ≠ a6 ∧ a4 ≠ a5 ∧ a4 ≠ a6 ∧ a5 ≠ a6
section GH7
variable {a0 a1 a2 a3 a4 a5 a6 : Nat} {e0 e1 e2 e3 e4 e5 e6 e : va_E} {h : gH}
theorem gh7_g0 (d : ap7 a0 a1 a2 a3 a4 a5 a6) : gh7 a0 a1 a2 a3 a4 a5 a6 e0 e1 e2 e3 e4 e5 e6 h a0 = some e0 := by
  obtain ⟨d01, d02, d03, d04, d05, d06, d12, d13, d14, d15, d16, d23, d24, d25, d26, d34, d35, d36, d45, d46, d56⟩ := d
  simp [gh7, gup, d01, Ne.symm d01, d02, Ne.symm d02, d03, Ne.symm d03, d04, Ne.symm d04, d05, Ne.symm d05, d06, Ne.symm d06, d12, Ne.symm d12, d13, Ne.symm d13, d14, Ne.symm d14, d15, Ne.symm d15, d16, Ne.symm d16, d23, Ne.symm d23, d24, Ne.symm d24, d25, Ne.symm d25, d26, Ne.symm d26, d34, Ne.symm d34, d35, Ne.symm d35, d36, Ne.symm d36, d45, Ne.symm d45, d46, Ne.symm d46, d56, Ne.symm d56]
theorem gh7_p0 (d : ap7 a0 a1 a2 a3 a4 a5 a6) : gup (gh7 a0 a1 a2 a3 a4 a5 a6 e0 e1 e2 e3 e4 e5 e6 h) a0 e = gh7 a0 a1 a2 a3 a4 a5 a6 e e1 e2 e3 e4 e5 e6 h := by
  obtain ⟨d01, d02, d03, d04, d05, d06, d12, d13, d14, d15, d16, d23, d24, d25, d26, d34, d35, d36, d45, d46, d56⟩ := d
  funext q
  by_cases q1 : q = a0
  · subst q1
    simp [gh7, gup, d01, Ne.symm d01, d02, Ne.symm d02, d03, Ne.symm d03, d04, Ne.symm d04, d05, Ne.symm d05, d06, Ne.symm d06, d12, Ne.symm d12, d13, Ne.symm d13, d14, Ne.symm d14, d15, Ne.symm d15, d16, Ne.symm d16, d23, Ne.symm d23, d24, Ne.symm d24, d25, Ne.symm d25, d26, Ne.symm d26, d34, Ne.symm d34, d35, Ne.symm d35, d36, Ne.symm d36, d45, Ne.symm d45, d46, Ne.symm d46, d56, Ne.symm d56]
  · simp [gh7, gup, q1]
theorem gh7_g1 (d : ap7 a0 a1 a2 a3 a4 a5 a6) : gh7 a0 a1 a2 a3 a4 a5 a6 e0 e1 e2 e3 e4 e5 e6 h a1 = some e1 := by
  obtain ⟨d01, d02, d03, d04, d05, d06, d12, d13, d14, d15, d16, d23, d24, d25, d26, d34, d35, d36, d45, d46, d56⟩ := d
  simp [gh7, gup, d01, Ne.symm d01, d02, Ne.symm d02, d03, Ne.symm d03, d04, Ne.symm d04, d05, Ne.symm d05, d06, Ne.symm d06, d12, Ne.symm d12, d13, Ne.symm d13, d14, Ne.symm d14, d15, Ne.symm d15, d16, Ne.symm d16, d23, Ne.symm d23, d24, Ne.symm d24, d25, Ne.symm d25, d26, Ne.symm d26, d34, Ne.symm d34, d35, Ne.symm d35, d36, Ne.symm d36, d45, Ne.symm d45, d46, Ne.symm d46, d56, Ne.symm d56]
theorem gh7_p1 (d : ap7 a0 a1 a2 a3 a4 a5 a6) : gup (gh7 a0 a1 a2 a3 a4 a5 a6 e0 e1 e2 e3 e4 e5 e6 h) a1 e = gh7 a0 a1 a2 a3 a4 a5 a6 e0 e e2 e3 e4 e5 e6 h := by
  obtain ⟨d01, d02, d03, d04, d05, d06, d12, d13, d14, d15, d16, d23, d24, d25, d26, d34, d35, d36, d45, d46, d56⟩ := d
  funext q
  by_cases q1 : q = a1
  · subst q1
    simp [gh7, gup, d01, Ne.symm d01, d02, Ne.symm d02, d03, Ne.symm d03, d04, Ne.symm d04, d05, Ne.symm d05, d06, Ne.symm d06, d12, Ne.symm d12, d13, Ne.symm d13, d14, Ne.symm d14, d15, Ne.symm d15, d16, Ne.symm d16, d23, Ne.symm d23, d24, Ne.symm d24, d25, Ne.symm d25, d26, Ne.symm d26, d34, Ne.symm d34, d35, Ne.symm d35, d36, Ne.symm d36, d45, Ne.symm d45, d46, Ne.symm d46, d56, Ne.symm d56]
  · simp [gh7, gup, q1]
theorem gh7_g2 (d : ap7 a0 a1 a2 a3 a4 a5 a6) : gh7 a0 a1 a2 a3 a4 a5 a6 e0 e1 e2 e3 e4 e5 e6 h a2 = some e2 := by
  obtain ⟨d01, d02, d03, d04, d05, d06, d12, d13, d14, d15, d16, d23, d24, d25, d26, d34, d35, d36, d45, d46, d56⟩ := d
  simp [gh7, gup, d01, Ne.symm d01, d02, Ne.symm d02, d03, Ne.symm d03, d04, Ne.symm d04, d05, Ne.symm d05, d06, Ne.symm d06, d12, Ne.symm d12, d13, Ne.symm d13, d14, Ne.symm d14, d15, Ne.symm d15, d16, Ne.symm d16, d23, Ne.symm d23, d24, Ne.symm d24, d25, Ne.symm d25, d26, Ne.symm d26, d34, Ne.symm d34, d35, Ne.symm d35, d36, Ne.symm d36, d45, Ne.symm d45, d46, Ne.symm d46, d56, Ne.symm d56]
theorem gh7_p2 (d : ap7 a0 a1 a2 a3 a4 a5 a6) : gup (gh7 a0 a1 a2 a3 a4 a5 a6 e0 e1 e2 e3 e4 e5 e6 h) a2 e = gh7 a0 a1 a2 a3 a4 a5 a6 e0 e1 e e3 e4 e5 e6 h := by
  obtain ⟨d01, d02, d03, d04, d05, d06, d12, d13, d14, d15, d16, d23, d24, d25, d26, d34, d35, d36, d45, d46, d56⟩ := d
  funext q
  by_cases q1 : q = a2
  · subst q1
    simp [gh7, gup, d01, Ne.symm d01, d02, Ne.symm d02, d03, Ne.symm d03, d04, Ne.symm d04, d05, Ne.symm d05, d06, Ne.symm d06, d12, Ne.symm d12, d13, Ne.symm d13, d14, Ne.symm d14, d15, Ne.symm d15, d16, Ne.symm d16, d23, Ne.symm d23, d24, Ne.symm d24, d25, Ne.symm d25, d26, Ne.symm d26, d34, Ne.symm d34, d35, Ne.symm d35, d36, Ne.symm d36, d45, Ne.symm d45, d46, Ne.symm d46, d56, Ne.symm d56]
  · simp [gh7, gup, q1]
theorem gh7_g3 (d : ap7 a0 a1 a2 a3 a4 a5 a6) : gh7 a0 a1 a2 a3 a4 a5 a6 e0 e1 e2 e3 e4 e5 e6 h a3 = some e3 := by
  obtain ⟨d01, d02, d03, d04, d05, d06, d12, d13, d14, d15, d16, d23, d24, d25, d26, d34, d35, d36, d45, d46, d56⟩ := d
  simp [gh7, gup, d01, Ne.symm d01, d02, Ne.symm d02, d03, Ne.symm d03, d04, Ne.symm d04, d05, Ne.symm d05, d06, Ne.symm d06, d12, Ne.symm d12, d13, Ne.symm d13, d14, Ne.symm d14, d15, Ne.symm d15, d16, Ne.symm d16, d23, Ne.symm d23, d24, Ne.symm d24, d25, Ne.symm d25, d26, Ne.symm d26, d34, Ne.symm d34, d35, Ne.symm d35, d36, Ne.symm d36, d45, Ne.symm d45, d46, Ne.symm d46, d56, Ne.symm d56]
theorem gh7_p3 (d : ap7 a0 a1 a2 a3 a4 a5 a6) : gup (gh7 a0 a1 a2 a3 a4 a5 a6 e0 e1 e2 e3 e4 e5 e6 h) a3 e = gh7 a0 a1 a2 a3 a4 a5 a6 e0 e1 e2 e e4 e5 e6 h := by
  obtain ⟨d01, d02, d03, d04, d05, d06, d12, d13, d14, d15, d16, d23, d24, d25, d26, d34, d35, d36, d45, d46, d56⟩ := d
  funext q
  by_cases q1 : q = a3
  · subst q1
    simp [gh7, gup, d01, Ne.symm d01, d02, Ne.symm d02, d03, Ne.symm d03, d04, Ne.symm d04, d05, Ne.symm d05, d06, Ne.symm d06, d12, Ne.symm d12, d13, Ne.symm d13, d14, Ne.symm d14, d15, Ne.symm d15, d16, Ne.symm d16, d23, Ne.symm d23, d24, Ne.symm d24, d25, Ne.symm d25, d26, Ne.symm d26, d34, Ne.symm d34, d35, Ne.symm d35, d36, Ne.symm d36, d45, Ne.symm d45, d46, Ne.symm d46, d56, Ne.symm d56]
  · simp [gh7, gup, q1]
theorem gh7_g4 (d : ap7 a0 a1 a2 a3 a4 a5 a6) : gh7 a0 a1 a2 a3 a4 a5 a6 e0 e1 e2 e3 e4 e5 e6 h a4 = some e4 := by
  obtain ⟨d01, d02, d03, d04, d05, d06, d12, d13, d14, d15, d16, d23, d24, d25, d26, d34, d35, d36, d45, d46, d56⟩ := d
  simp [gh7, gup, d01, Ne.symm d01, d02, Ne.symm d02, d03, Ne.symm d03, d04, Ne.symm d04, d05, Ne.symm d05, d06, Ne.symm d06, d12, Ne.symm d12, d13, Ne.symm d13, d14, Ne.symm d14, d15, Ne.symm d15, d16, Ne.symm d16, d23, Ne.symm d23, d24, Ne.symm d24, d25, Ne.symm d25, d26, Ne.symm d26, d34, Ne.symm d34, d35, Ne.symm d35, d36, Ne.symm d36, d45, Ne.symm d45, d46, Ne.symm d46, d56, Ne.symm d56]
theorem gh7_p4 (d : ap7 a0 a1 a2 a3 a4 a5 a6) : gup (gh7 a0 a1 a2 a3 a4 a5 a6 e0 e1 e2 e3 e4 e5 e6 h) a4 e = gh7 a0 a1 a2 a3 a4 a5 a6 e0 e1 e2 e3 e e5 e6 h := by
  obtain ⟨d01, d02, d03, d04, d05, d06, d12, d13, d14, d15, d16, d23, d24, d25, d26, d34, d35, d36, d45, d46, d56⟩ := d
  funext q
  by_cases q1 : q = a4
  · subst q1
    simp [gh7, gup, d01, Ne.symm d01, d02, Ne.symm d02, d03, Ne.symm d03, d04, Ne.symm d04, d05, Ne.symm d05, d06, Ne.symm d06, d12, Ne.symm d12, d13, Ne.symm d13, d14, Ne.symm d14, d15, Ne.symm d15, d16, Ne.symm d16, d23, Ne.symm d23, d24, Ne.symm d24, d25, Ne.symm d25, d26, Ne.symm d26, d34, Ne.symm d34, d35, Ne.symm d35, d36, Ne.symm d36, d45, Ne.symm d45, d46, Ne.symm d46, d56, Ne.symm d56]
  · simp [gh7, gup, q1]
theorem gh7_g5 (d : ap7 a0 a1 a2 a3 a4 a5 a6) : gh7 a0 a1 a2 a3 a4 a5 a6 e0 e1 e2 e3 e4 e5 e6 h a5 = some e5 := by
  obtain ⟨d01, d02, d03, d04, d05, d06, d12, d13, d14, d15, d16, d23, d24, d25, d26, d34, d35, d36, d45, d46, d56⟩ := d
  simp [gh7, gup, d01, Ne.symm d01, d02, Ne.symm d02, d03, Ne.symm d03, d04, Ne.symm d04, d05, Ne.symm d05, d06, Ne.symm d06, d12, Ne.symm d12, d13, Ne.symm d13, d14, Ne.symm d14, d15, Ne.symm d15, d16, Ne.symm d16, d23, Ne.symm d23, d24, Ne.symm d24, d25, Ne.symm d25, d26, Ne.symm d26, d34, Ne.symm d34, d35, Ne.symm d35, d36, Ne.symm d36, d45, Ne.symm d45, d46, Ne.symm d46, d56, Ne.symm d56]
theorem gh7_p5 (d : ap7 a0 a1 a2 a3 a4 a5 a6) : gup (gh7 a0 a1 a2 a3 a4 a5 a6 e0 e1 e2 e3 e4 e5 e6 h) a5 e = gh7 a0 a1 a2 a3 a4 a5 a6 e0 e1 e2 e3 e4 e e6 h := by
  obtain ⟨d01, d02, d03, d04, d05, d06, d12, d13, d14, d15, d16, d23, d24, d25, d26, d34, d35, d36, d45, d46, d56⟩ := d
  funext q
  by_cases q1 : q = a5
  · subst q1
    simp [gh7, gup, d01, Ne.symm d01, d02, Ne.symm d02, d03, Ne.symm d03, d04, Ne.symm d04, d05, Ne.symm d05, d06, Ne.symm d06, d12, Ne.symm d12, d13, Ne.symm d13, d14, Ne.symm d14, d15, Ne.symm d15, d16, Ne.symm d16, d23, Ne.symm d23, d24, Ne.symm d24, d25, Ne.symm d25, d26, Ne.symm d26, d34, Ne.symm d34, d35, Ne.symm d35, d36, Ne.symm d36, d45, Ne.symm d45, d46, Ne.symm d46, d56, Ne.symm d56]
  · simp [gh7, gup, q1]
theorem gh7_g6 (d : ap7 a0 a1 a2 a3 a4 a5 a6) : gh7 a0 a1 a2 a3 a4 a5 a6 e0 e1 e2 e3 e4 e5 e6 h a6 = some e6 := by
  obtain ⟨d01, d02, d03, d04, d05, d06, d12, d13, d14, d15, d16, d23, d24, d25, d26, d34, d35, d36, d45, d46, d56⟩ := d
  simp [gh7, gup, d01, Ne.symm d01, d02, Ne.symm d02, d03, Ne.symm d03, d04, Ne.symm d04, d05, Ne.symm d05, d06, Ne.symm d06, d12, Ne.symm d12, d13, Ne.symm d13, d14, Ne.symm d14, d15, Ne.symm d15, d16, Ne.symm d16, d23, Ne.symm d23, d24, Ne.symm d24, d25, Ne.symm d25, d26, Ne.symm d26, d34, Ne.symm d34, d35, Ne.symm d35, d36, Ne.symm d36, d45, Ne.symm d45, d46, Ne.symm d46, d56, Ne.symm d56]
theorem gh7_p6 (d : ap7 a0 a1 a2 a3 a4 a5 a6) : gup (gh7 a0 a1 a2 a3 a4 a5 a6 e0 e1 e2 e3 e4 e5 e6 h) a6 e = gh7 a0 a1 a2 a3 a4 a5 a6 e0 e1 e2 e3 e4 e5 e h := by
  obtain ⟨d01, d02, d03, d04, d05, d06, d12, d13, d14, d15, d16, d23, d24, d25, d26, d34, d35, d36, d45, d46, d56⟩ := d
  funext q
  by_cases q1 : q = a6
  · subst q1
    simp [gh7, gup, d01, Ne.symm d01, d02, Ne.symm d02, d03, Ne.symm d03, d04, Ne.symm d04, d05, Ne.symm d05, d06, Ne.symm d06, d12, Ne.symm d12, d13, Ne.symm d13, d14, Ne.symm d14, d15, Ne.symm d15, d16, Ne.symm d16, d23, Ne.symm d23, d24, Ne.symm d24, d25, Ne.symm d25, d26, Ne.symm d26, d34, Ne.symm d34, d35, Ne.symm d35, d36, Ne.symm d36, d45, Ne.symm d45, d46, Ne.symm d46, d56, Ne.symm d56]
  · simp [gh7, gup, q1]
theorem gh7_x {q : Nat} (n0 : q ≠ a0) (n1 : q ≠ a1) (n2 : q ≠ a2) (n3 : q ≠ a3) (n4 : q ≠ a4) (n5 : q ≠ a5) (n6 : q ≠ a6) : gh7 a0 a1 a2 a3 a4 a5 a6 e0 e1 e2 e3 e4 e5 e6 h q = h q := by
  simp [gh7, gup, n0, n1, n2, n3, n4, n5, n6]
theorem gh7_id (x0 : h a0 = some e0) (x1 : h a1 = some e1) (x2 : h a2 = some e2) (x3 : h a3 = some e3) (x4 : h a4 = some e4) (x5 : h a5 = some e5) (x6 : h a6 = some e6) : gh7 a0 a1 a2 a3 a4 a5 a6 e0 e1 e2 e3 e4 e5 e6 h = h := by
  unfold gh7
  rw [gup_id x0, gup_id x1, gup_id x2, gup_id x3, gup_id x4, gup_id x5, gup_id x6]
end GH7
