-- the reference over its state
theorem gC_mono {l : Launch} {g : gG} {J : gI} {rm : Room} {as : List Value} {h : gH} {Q1 Q2 : Option Value → gH → Prop} (hC : gC l g J rm as h Q1) (hQ : ∀ r h', Q1 r h' → Q2 r h') : gC l g J rm as h Q2 := by
  intro sz p e ha hc hk s m args below hf happ hP hK
  obtain ⟨n, o, h1, h2, h3, ⟨⟨r, h', c1, c2, c3⟩, c4⟩, h5⟩ := hC sz p e ha hc hk s m args below hf happ hP hK
  exact ⟨n, o, h1, h2, h3, ⟨⟨r, h', c1, hQ r h' c2, c3⟩, c4⟩, h5⟩
section RFU
variable {cB cL cI : ClassId} {N K D : Nat} {W : Nat → Nat} {wd : Nat → Int64} {od : Nat → Int32} {a : RA} {n n' : RN} {i i' : RI} {h h' : gH}
theorem rfu0 (hW : apU W 14) (hI : isRF cB cL cI N K D W wd od a n i h)  (hh : h' = gup h (W 0) (.inr (6, fRF W N K D n' i'))) : isRF cB cL cI N K D W wd od a n' i' h' ∧ ∀ q, (∀ j, j < 14 → q ≠ W j) → h' q = h q := by
  have ne : ∀ {i j : Nat}, i < 14 → j < 14 → i ≠ j → W i ≠ W j := fun hi hj n => apU_ne hW hi hj n
  obtain ⟨k0, ⟨k1, k2⟩, k3, k4, k5, k6, k7, k8, k9, k10, k11, k12, k13⟩ := hI
  have g0 : h' (W 0) = some (.inr (6, fRF W N K D n' i')) := by rw [hh]; exact gup_s _ _ _
  have fr : ∀ j, j < 14 → j ≠ 0 → h' (W j) = h (W j) := fun j hj c0 => by rw [hh]; exact gup_n _ _ (ne hj (by decide) c0)
  have hfr : ∀ q, (∀ j, j < 14 → q ≠ W j) → h' q = h q := fun q hq => by rw [hh]; exact gup_n _ _ (hq 0 (by decide))
  exact ⟨⟨g0, ⟨(fr 1 (by decide) (by decide)).trans k1, (fr 2 (by decide) (by decide)).trans k2⟩, (fr 3 (by decide) (by decide)).trans k3, (fr 4 (by decide) (by decide)).trans k4, (fr 5 (by decide) (by decide)).trans k5, (fr 6 (by decide) (by decide)).trans k6, (fr 7 (by decide) (by decide)).trans k7, (fr 8 (by decide) (by decide)).trans k8, (fr 9 (by decide) (by decide)).trans k9, (fr 10 (by decide) (by decide)).trans k10, (fr 11 (by decide) (by decide)).trans k11, (fr 12 (by decide) (by decide)).trans k12, (fr 13 (by decide) (by decide)).trans k13⟩, hfr⟩
theorem rfu3 (hW : apU W 14) (hI : isRF cB cL cI N K D W wd od a n i h) {x3 : Nat → Int32} (hh : h' = gh2 (W 0) (W 3) (.inr (6, fRF W N K D n' i')) (.inl (cI, 186, .inl x3)) h) : isRF cB cL cI N K D W wd od (x3, a.2.1, a.2.2.1, a.2.2.2.1, a.2.2.2.2.1, a.2.2.2.2.2.1, a.2.2.2.2.2.2.1, a.2.2.2.2.2.2.2.1, a.2.2.2.2.2.2.2.2.1, a.2.2.2.2.2.2.2.2.2.1, a.2.2.2.2.2.2.2.2.2.2) n' i' h' ∧ ∀ q, (∀ j, j < 14 → q ≠ W j) → h' q = h q := by
  have ne : ∀ {i j : Nat}, i < 14 → j < 14 → i ≠ j → W i ≠ W j := fun hi hj n => apU_ne hW hi hj n
  obtain ⟨k0, ⟨k1, k2⟩, k3, k4, k5, k6, k7, k8, k9, k10, k11, k12, k13⟩ := hI
  have g0 : h' (W 0) = some (.inr (6, fRF W N K D n' i')) := by rw [hh]; exact gh2_g0 (ne (by decide) (by decide) (by decide))
  have g3 : h' (W 3) = some (.inl (cI, 186, .inl x3)) := by rw [hh]; exact gh2_g1 (ne (by decide) (by decide) (by decide))
  have fr : ∀ j, j < 14 → j ≠ 0 → j ≠ 3 → h' (W j) = h (W j) := fun j hj c0 c1 => by rw [hh]; exact gh2_x (ne hj (by decide) c0) (ne hj (by decide) c1)
  have hfr : ∀ q, (∀ j, j < 14 → q ≠ W j) → h' q = h q := fun q hq => by rw [hh]; exact gh2_x (hq 0 (by decide)) (hq 3 (by decide))
  exact ⟨⟨g0, ⟨(fr 1 (by decide) (by decide) (by decide)).trans k1, (fr 2 (by decide) (by decide) (by decide)).trans k2⟩, g3, (fr 4 (by decide) (by decide) (by decide)).trans k4, (fr 5 (by decide) (by decide) (by decide)).trans k5, (fr 6 (by decide) (by decide) (by decide)).trans k6, (fr 7 (by decide) (by decide) (by decide)).trans k7, (fr 8 (by decide) (by decide) (by decide)).trans k8, (fr 9 (by decide) (by decide) (by decide)).trans k9, (fr 10 (by decide) (by decide) (by decide)).trans k10, (fr 11 (by decide) (by decide) (by decide)).trans k11, (fr 12 (by decide) (by decide) (by decide)).trans k12, (fr 13 (by decide) (by decide) (by decide)).trans k13⟩, hfr⟩
theorem rfu5 (hW : apU W 14) (hI : isRF cB cL cI N K D W wd od a n i h) {x5 : Nat → Int32} (hh : h' = gh2 (W 0) (W 5) (.inr (6, fRF W N K D n' i')) (.inl (cI, 15, .inl x5)) h) : isRF cB cL cI N K D W wd od (a.1, a.2.1, x5, a.2.2.2.1, a.2.2.2.2.1, a.2.2.2.2.2.1, a.2.2.2.2.2.2.1, a.2.2.2.2.2.2.2.1, a.2.2.2.2.2.2.2.2.1, a.2.2.2.2.2.2.2.2.2.1, a.2.2.2.2.2.2.2.2.2.2) n' i' h' ∧ ∀ q, (∀ j, j < 14 → q ≠ W j) → h' q = h q := by
  have ne : ∀ {i j : Nat}, i < 14 → j < 14 → i ≠ j → W i ≠ W j := fun hi hj n => apU_ne hW hi hj n
  obtain ⟨k0, ⟨k1, k2⟩, k3, k4, k5, k6, k7, k8, k9, k10, k11, k12, k13⟩ := hI
  have g0 : h' (W 0) = some (.inr (6, fRF W N K D n' i')) := by rw [hh]; exact gh2_g0 (ne (by decide) (by decide) (by decide))
  have g5 : h' (W 5) = some (.inl (cI, 15, .inl x5)) := by rw [hh]; exact gh2_g1 (ne (by decide) (by decide) (by decide))
  have fr : ∀ j, j < 14 → j ≠ 0 → j ≠ 5 → h' (W j) = h (W j) := fun j hj c0 c1 => by rw [hh]; exact gh2_x (ne hj (by decide) c0) (ne hj (by decide) c1)
  have hfr : ∀ q, (∀ j, j < 14 → q ≠ W j) → h' q = h q := fun q hq => by rw [hh]; exact gh2_x (hq 0 (by decide)) (hq 5 (by decide))
  exact ⟨⟨g0, ⟨(fr 1 (by decide) (by decide) (by decide)).trans k1, (fr 2 (by decide) (by decide) (by decide)).trans k2⟩, (fr 3 (by decide) (by decide) (by decide)).trans k3, (fr 4 (by decide) (by decide) (by decide)).trans k4, g5, (fr 6 (by decide) (by decide) (by decide)).trans k6, (fr 7 (by decide) (by decide) (by decide)).trans k7, (fr 8 (by decide) (by decide) (by decide)).trans k8, (fr 9 (by decide) (by decide) (by decide)).trans k9, (fr 10 (by decide) (by decide) (by decide)).trans k10, (fr 11 (by decide) (by decide) (by decide)).trans k11, (fr 12 (by decide) (by decide) (by decide)).trans k12, (fr 13 (by decide) (by decide) (by decide)).trans k13⟩, hfr⟩
theorem rfu10 (hW : apU W 14) (hI : isRF cB cL cI N K D W wd od a n i h) {x10 : Nat → Int64} (hh : h' = gh2 (W 0) (W 10) (.inr (6, fRF W N K D n' i')) (.inl (cL, 15, .inr (.inl x10))) h) : isRF cB cL cI N K D W wd od (a.1, a.2.1, a.2.2.1, a.2.2.2.1, a.2.2.2.2.1, a.2.2.2.2.2.1, a.2.2.2.2.2.2.1, x10, a.2.2.2.2.2.2.2.2.1, a.2.2.2.2.2.2.2.2.2.1, a.2.2.2.2.2.2.2.2.2.2) n' i' h' ∧ ∀ q, (∀ j, j < 14 → q ≠ W j) → h' q = h q := by
  have ne : ∀ {i j : Nat}, i < 14 → j < 14 → i ≠ j → W i ≠ W j := fun hi hj n => apU_ne hW hi hj n
  obtain ⟨k0, ⟨k1, k2⟩, k3, k4, k5, k6, k7, k8, k9, k10, k11, k12, k13⟩ := hI
  have g0 : h' (W 0) = some (.inr (6, fRF W N K D n' i')) := by rw [hh]; exact gh2_g0 (ne (by decide) (by decide) (by decide))
  have g10 : h' (W 10) = some (.inl (cL, 15, .inr (.inl x10))) := by rw [hh]; exact gh2_g1 (ne (by decide) (by decide) (by decide))
  have fr : ∀ j, j < 14 → j ≠ 0 → j ≠ 10 → h' (W j) = h (W j) := fun j hj c0 c1 => by rw [hh]; exact gh2_x (ne hj (by decide) c0) (ne hj (by decide) c1)
  have hfr : ∀ q, (∀ j, j < 14 → q ≠ W j) → h' q = h q := fun q hq => by rw [hh]; exact gh2_x (hq 0 (by decide)) (hq 10 (by decide))
  exact ⟨⟨g0, ⟨(fr 1 (by decide) (by decide) (by decide)).trans k1, (fr 2 (by decide) (by decide) (by decide)).trans k2⟩, (fr 3 (by decide) (by decide) (by decide)).trans k3, (fr 4 (by decide) (by decide) (by decide)).trans k4, (fr 5 (by decide) (by decide) (by decide)).trans k5, (fr 6 (by decide) (by decide) (by decide)).trans k6, (fr 7 (by decide) (by decide) (by decide)).trans k7, (fr 8 (by decide) (by decide) (by decide)).trans k8, (fr 9 (by decide) (by decide) (by decide)).trans k9, g10, (fr 11 (by decide) (by decide) (by decide)).trans k11, (fr 12 (by decide) (by decide) (by decide)).trans k12, (fr 13 (by decide) (by decide) (by decide)).trans k13⟩, hfr⟩
theorem rfu11 (hW : apU W 14) (hI : isRF cB cL cI N K D W wd od a n i h) {x11 : Nat → Int32} (hh : h' = gh2 (W 0) (W 11) (.inr (6, fRF W N K D n' i')) (.inl (cB, 80, .inl x11)) h) : isRF cB cL cI N K D W wd od (a.1, a.2.1, a.2.2.1, a.2.2.2.1, a.2.2.2.2.1, a.2.2.2.2.2.1, a.2.2.2.2.2.2.1, a.2.2.2.2.2.2.2.1, x11, a.2.2.2.2.2.2.2.2.2.1, a.2.2.2.2.2.2.2.2.2.2) n' i' h' ∧ ∀ q, (∀ j, j < 14 → q ≠ W j) → h' q = h q := by
  have ne : ∀ {i j : Nat}, i < 14 → j < 14 → i ≠ j → W i ≠ W j := fun hi hj n => apU_ne hW hi hj n
  obtain ⟨k0, ⟨k1, k2⟩, k3, k4, k5, k6, k7, k8, k9, k10, k11, k12, k13⟩ := hI
  have g0 : h' (W 0) = some (.inr (6, fRF W N K D n' i')) := by rw [hh]; exact gh2_g0 (ne (by decide) (by decide) (by decide))
  have g11 : h' (W 11) = some (.inl (cB, 80, .inl x11)) := by rw [hh]; exact gh2_g1 (ne (by decide) (by decide) (by decide))
  have fr : ∀ j, j < 14 → j ≠ 0 → j ≠ 11 → h' (W j) = h (W j) := fun j hj c0 c1 => by rw [hh]; exact gh2_x (ne hj (by decide) c0) (ne hj (by decide) c1)
  have hfr : ∀ q, (∀ j, j < 14 → q ≠ W j) → h' q = h q := fun q hq => by rw [hh]; exact gh2_x (hq 0 (by decide)) (hq 11 (by decide))
  exact ⟨⟨g0, ⟨(fr 1 (by decide) (by decide) (by decide)).trans k1, (fr 2 (by decide) (by decide) (by decide)).trans k2⟩, (fr 3 (by decide) (by decide) (by decide)).trans k3, (fr 4 (by decide) (by decide) (by decide)).trans k4, (fr 5 (by decide) (by decide) (by decide)).trans k5, (fr 6 (by decide) (by decide) (by decide)).trans k6, (fr 7 (by decide) (by decide) (by decide)).trans k7, (fr 8 (by decide) (by decide) (by decide)).trans k8, (fr 9 (by decide) (by decide) (by decide)).trans k9, (fr 10 (by decide) (by decide) (by decide)).trans k10, g11, (fr 12 (by decide) (by decide) (by decide)).trans k12, (fr 13 (by decide) (by decide) (by decide)).trans k13⟩, hfr⟩
theorem rfu12 (hW : apU W 14) (hI : isRF cB cL cI N K D W wd od a n i h) {x12 : Nat → Int32} (hh : h' = gh2 (W 0) (W 12) (.inr (6, fRF W N K D n' i')) (.inl (cB, 60, .inl x12)) h) : isRF cB cL cI N K D W wd od (a.1, a.2.1, a.2.2.1, a.2.2.2.1, a.2.2.2.2.1, a.2.2.2.2.2.1, a.2.2.2.2.2.2.1, a.2.2.2.2.2.2.2.1, a.2.2.2.2.2.2.2.2.1, x12, a.2.2.2.2.2.2.2.2.2.2) n' i' h' ∧ ∀ q, (∀ j, j < 14 → q ≠ W j) → h' q = h q := by
  have ne : ∀ {i j : Nat}, i < 14 → j < 14 → i ≠ j → W i ≠ W j := fun hi hj n => apU_ne hW hi hj n
  obtain ⟨k0, ⟨k1, k2⟩, k3, k4, k5, k6, k7, k8, k9, k10, k11, k12, k13⟩ := hI
  have g0 : h' (W 0) = some (.inr (6, fRF W N K D n' i')) := by rw [hh]; exact gh2_g0 (ne (by decide) (by decide) (by decide))
  have g12 : h' (W 12) = some (.inl (cB, 60, .inl x12)) := by rw [hh]; exact gh2_g1 (ne (by decide) (by decide) (by decide))
  have fr : ∀ j, j < 14 → j ≠ 0 → j ≠ 12 → h' (W j) = h (W j) := fun j hj c0 c1 => by rw [hh]; exact gh2_x (ne hj (by decide) c0) (ne hj (by decide) c1)
  have hfr : ∀ q, (∀ j, j < 14 → q ≠ W j) → h' q = h q := fun q hq => by rw [hh]; exact gh2_x (hq 0 (by decide)) (hq 12 (by decide))
  exact ⟨⟨g0, ⟨(fr 1 (by decide) (by decide) (by decide)).trans k1, (fr 2 (by decide) (by decide) (by decide)).trans k2⟩, (fr 3 (by decide) (by decide) (by decide)).trans k3, (fr 4 (by decide) (by decide) (by decide)).trans k4, (fr 5 (by decide) (by decide) (by decide)).trans k5, (fr 6 (by decide) (by decide) (by decide)).trans k6, (fr 7 (by decide) (by decide) (by decide)).trans k7, (fr 8 (by decide) (by decide) (by decide)).trans k8, (fr 9 (by decide) (by decide) (by decide)).trans k9, (fr 10 (by decide) (by decide) (by decide)).trans k10, (fr 11 (by decide) (by decide) (by decide)).trans k11, g12, (fr 13 (by decide) (by decide) (by decide)).trans k13⟩, hfr⟩
end RFU
theorem r_thrown (l : Launch) (g : gG) (cB cL cI : ClassId) (hcB : (cB, FieldType.byte) ∈ g.2.1) (hcL : (cL, FieldType.long) ∈ g.2.1) (hcI : (cI, FieldType.int) ∈ g.2.1) (N K D : Nat) (W : Nat → Nat) (hW : apU W 14) (wd : Nat → Int64) (od : Nat → Int32) (a : RA) (n : RN) (i : RI) (h : gH) (hI : isRF cB cL cI N K D W wd od a n i h) : gC l g mRF_thrown (gr 0) [.ref (W 0)] h (fun r h' => r = some (.int i.1) ∧ h' = h) := c_RF_thrown l g (W 0) _ i.1 h hI.1 rfl
set_option maxRecDepth 100000 in
theorem r_fault (l : Launch) (g : gG) (cB cL cI : ClassId) (hcB : (cB, FieldType.byte) ∈ g.2.1) (hcL : (cL, FieldType.long) ∈ g.2.1) (hcI : (cI, FieldType.int) ∈ g.2.1) (N K D : Nat) (W : Nat → Nat) (hW : apU W 14) (wd : Nat → Int64) (od : Nat → Int32) (a : RA) (n : RN) (i : RI) (h : gH) (hI : isRF cB cL cI N K D W wd od a n i h)   : gC l g mRF_fault (gr 0) [.ref (W 0)] h (fun r h' => r = some (.int i.2.2.1) ∧ isRF cB cL cI N K D W wd od a n (0, i.2) h' ∧ ∀ q, (∀ j, j < 14 → q ≠ W j) → h' q = h q) := by
  have ne : ∀ {i j : Nat}, i < 14 → j < 14 → i ≠ j → W i ≠ W j := fun hi hj n => apU_ne hW hi hj n
  have hI9 := hI
  obtain ⟨k0, ⟨k1, k2⟩, k3, k4, k5, k6, k7, k8, k9, k10, k11, k12, k13⟩ := hI
  refine gC_mono (c_RF_fault l g (W 0) _ i.2.2.1 h k0 rfl rfl) ?_
  intro r h' hq
  exact ⟨hq.1, rfu0 hW hI9 hq.2⟩
set_option maxRecDepth 100000 in
theorem r_about (l : Launch) (g : gG) (cB cL cI : ClassId) (hcB : (cB, FieldType.byte) ∈ g.2.1) (hcL : (cL, FieldType.long) ∈ g.2.1) (hcI : (cI, FieldType.int) ∈ g.2.1) (N K D : Nat) (W : Nat → Nat) (hW : apU W 14) (wd : Nat → Int64) (od : Nat → Int32) (a : RA) (n : RN) (i : RI) (h : gH) (hI : isRF cB cL cI N K D W wd od a n i h) (w : Int32)  : gC l g mRF_about (gr 0) [.ref (W 0), .int w] h (fun r h' => r = some (.int (aboutF (nI N) (nI K) (nI n.1) w)) ∧ isRF cB cL cI N K D W wd od a n (0, i.2) h' ∧ ∀ q, (∀ j, j < 14 → q ≠ W j) → h' q = h q) := by
  have ne : ∀ {i j : Nat}, i < 14 → j < 14 → i ≠ j → W i ≠ W j := fun hi hj n => apU_ne hW hi hj n
  have hI9 := hI
  obtain ⟨k0, ⟨k1, k2⟩, k3, k4, k5, k6, k7, k8, k9, k10, k11, k12, k13⟩ := hI
  refine gC_mono (c_RF_about l g (W 0) (nI N) (nI K) (nI n.1) w _ h k0 rfl rfl rfl rfl) ?_
  intro r h' hq
  exact ⟨hq.1, rfu0 hW hI9 hq.2⟩
set_option maxRecDepth 100000 in
theorem r_clueAt (l : Launch) (g : gG) (cB cL cI : ClassId) (hcB : (cB, FieldType.byte) ∈ g.2.1) (hcL : (cL, FieldType.long) ∈ g.2.1) (hcI : (cI, FieldType.int) ∈ g.2.1) (N K D : Nat) (W : Nat → Nat) (hW : apU W 14) (wd : Nat → Int64) (od : Nat → Int32) (a : RA) (n : RN) (i : RI) (h : gH) (hI : isRF cB cL cI N K D W wd od a n i h) (k w : Int32) (hn : n.1 ≤ 30)  : gC l g mRF_clueAt (gr 0) [.ref (W 0), .int k, .int w] h (fun r h' => r = some (.int (clAt a.1 n.1 k w)) ∧ isRF cB cL cI N K D W wd od a n (0, i.2) h' ∧ ∀ q, (∀ j, j < 14 → q ≠ W j) → h' q = h q) := by
  have ne : ∀ {i j : Nat}, i < 14 → j < 14 → i ≠ j → W i ≠ W j := fun hi hj n => apU_ne hW hi hj n
  have hI9 := hI
  obtain ⟨k0, ⟨k1, k2⟩, k3, k4, k5, k6, k7, k8, k9, k10, k11, k12, k13⟩ := hI
  refine gC_mono (c_RF_clueAt l g cI hcI (W 0) (W 3) n.1 hn _ a.1 k w h k0 rfl rfl rfl k3 (ne (by decide) (by decide) (by decide))) ?_
  intro r h' hq
  exact ⟨hq.1, rfu0 hW hI9 hq.2⟩
set_option maxRecDepth 100000 in
theorem r_step (l : Launch) (g : gG) (cB cL cI : ClassId) (hcB : (cB, FieldType.byte) ∈ g.2.1) (hcL : (cL, FieldType.long) ∈ g.2.1) (hcI : (cI, FieldType.int) ∈ g.2.1) (N K D : Nat) (W : Nat → Nat) (hW : apU W 14) (wd : Nat → Int64) (od : Nat → Int32) (a : RA) (n : RN) (i : RI) (h : gH) (hI : isRF cB cL cI N K D W wd od a n i h) (k w : Int32) (hn : n.2.2.1 ≤ 100)  : gC l g mRF_step (gr 0) [.ref (W 0), .int k, .int w] h (fun r h' => r = some (.int (stAt a.2.2.2.2.1 n.2.2.1 k w)) ∧ isRF cB cL cI N K D W wd od a n (0, i.2) h' ∧ ∀ q, (∀ j, j < 14 → q ≠ W j) → h' q = h q) := by
  have ne : ∀ {i j : Nat}, i < 14 → j < 14 → i ≠ j → W i ≠ W j := fun hi hj n => apU_ne hW hi hj n
  have hI9 := hI
  obtain ⟨k0, ⟨k1, k2⟩, k3, k4, k5, k6, k7, k8, k9, k10, k11, k12, k13⟩ := hI
  refine gC_mono (c_RF_step l g cI hcI (W 0) (W 7) n.2.2.1 hn _ a.2.2.2.2.1 k w h k0 rfl rfl rfl k7 (ne (by decide) (by decide) (by decide))) ?_
  intro r h' hq
  exact ⟨hq.1, rfu0 hW hI9 hq.2⟩
set_option maxRecDepth 100000 in
theorem r_may (l : Launch) (g : gG) (cB cL cI : ClassId) (hcB : (cB, FieldType.byte) ∈ g.2.1) (hcL : (cL, FieldType.long) ∈ g.2.1) (hcI : (cI, FieldType.int) ∈ g.2.1) (N K D : Nat) (W : Nat → Nat) (hW : apU W 14) (wd : Nat → Int64) (od : Nat → Int32) (a : RA) (n : RN) (i : RI) (h : gH) (hI : isRF cB cL cI N K D W wd od a n i h) (x : Int32) (hx : thingB (nI N) (nI K) x = true → vp_in (idxF x) 15)  : gC l g mRF_may (gr 1) [.ref (W 0), .int x] h (fun r h' => r = some (.int (if thingB (nI N) (nI K) x = true then a.2.2.2.2.2.2.1 (idxF x).toNatClampNeg else 0)) ∧ isRF cB cL cI N K D W wd od a n (0, i.2) h' ∧ ∀ q, (∀ j, j < 14 → q ≠ W j) → h' q = h q) := by
  have ne : ∀ {i j : Nat}, i < 14 → j < 14 → i ≠ j → W i ≠ W j := fun hi hj n => apU_ne hW hi hj n
  have hI9 := hI
  obtain ⟨k0, ⟨k1, k2⟩, k3, k4, k5, k6, k7, k8, k9, k10, k11, k12, k13⟩ := hI
  refine gC_mono (c_RF_may l g cI hcI (W 0) (W 9) (nI N) (nI K) x _ a.2.2.2.2.2.2.1 h k0 rfl rfl rfl rfl k9 (ne (by decide) (by decide) (by decide)) hx) ?_
  intro r h' hq
  exact ⟨hq.1, rfu0 hW hI9 hq.2⟩
set_option maxRecDepth 100000 in
theorem r_shown (l : Launch) (g : gG) (cB cL cI : ClassId) (hcB : (cB, FieldType.byte) ∈ g.2.1) (hcL : (cL, FieldType.long) ∈ g.2.1) (hcI : (cI, FieldType.int) ∈ g.2.1) (N K D : Nat) (W : Nat → Nat) (hW : apU W 14) (wd : Nat → Int64) (od : Nat → Int32) (a : RA) (n : RN) (i : RI) (h : gH) (hI : isRF cB cL cI N K D W wd od a n i h) (kk : Int32) (hn : n.2.2.2.1 ≤ 80)  : gC l g mRF_shown (gr 0) [.ref (W 0), .int kk] h (fun r h' => r = some (.int (if kk < 0 ∨ nI n.2.2.2.1 ≤ kk then -1 else a.2.2.2.2.2.2.2.2.1 kk.toNatClampNeg)) ∧ isRF cB cL cI N K D W wd od a n (0, i.2) h' ∧ ∀ q, (∀ j, j < 14 → q ≠ W j) → h' q = h q) := by
  have ne : ∀ {i j : Nat}, i < 14 → j < 14 → i ≠ j → W i ≠ W j := fun hi hj n => apU_ne hW hi hj n
  have hI9 := hI
  obtain ⟨k0, ⟨k1, k2⟩, k3, k4, k5, k6, k7, k8, k9, k10, k11, k12, k13⟩ := hI
  refine gC_mono (c_RF_shown l g cB hcB (W 0) (W 11) n.2.2.2.1 hn kk a.2.2.2.2.2.2.2.2.1 _ rfl h k0 rfl rfl k11 (ne (by decide) (by decide) (by decide))) ?_
  intro r h' hq
  exact ⟨hq.1, rfu0 hW hI9 hq.2⟩
set_option maxRecDepth 100000 in
theorem r_dropN (l : Launch) (g : gG) (cB cL cI : ClassId) (hcB : (cB, FieldType.byte) ∈ g.2.1) (hcL : (cL, FieldType.long) ∈ g.2.1) (hcI : (cI, FieldType.int) ∈ g.2.1) (N K D : Nat) (W : Nat → Nat) (hW : apU W 14) (wd : Nat → Int64) (od : Nat → Int32) (a : RA) (n : RN) (i : RI) (h : gH) (hI : isRF cB cL cI N K D W wd od a n i h) (x : Int32) (hn : n.1 ≤ 30) (hx : x < 0 ∨ nI n.1 ≤ x)  : gC l g mRF_drop (gr 1) [.ref (W 0), .int x] h (fun r h' => r = none ∧ isRF cB cL cI N K D W wd od a n (1, i.2) h' ∧ ∀ q, (∀ j, j < 14 → q ≠ W j) → h' q = h q) := by
  have ne : ∀ {i j : Nat}, i < 14 → j < 14 → i ≠ j → W i ≠ W j := fun hi hj n => apU_ne hW hi hj n
  have hI9 := hI
  obtain ⟨k0, ⟨k1, k2⟩, k3, k4, k5, k6, k7, k8, k9, k10, k11, k12, k13⟩ := hI
  refine gC_mono (c_RF_drop l g cI hcI (W 0) (W 3) n.1 hn x _ rfl a.1 h k0 rfl rfl k3 (ne (by decide) (by decide) (by decide))) ?_
  intro r h' hq
  obtain ⟨h1, h2⟩ := hq
  rw [if_pos hx] at h2
  exact ⟨h1, rfu0 hW hI9 h2⟩
set_option maxRecDepth 100000 in
theorem r_dropY (l : Launch) (g : gG) (cB cL cI : ClassId) (hcB : (cB, FieldType.byte) ∈ g.2.1) (hcL : (cL, FieldType.long) ∈ g.2.1) (hcI : (cI, FieldType.int) ∈ g.2.1) (N K D : Nat) (W : Nat → Nat) (hW : apU W 14) (wd : Nat → Int64) (od : Nat → Int32) (a : RA) (n : RN) (i : RI) (h : gH) (hI : isRF cB cL cI N K D W wd od a n i h) (x : Int32) (hn : n.1 ≤ 30) (hx : ¬ (x < 0 ∨ nI n.1 ≤ x))  : gC l g mRF_drop (gr 1) [.ref (W 0), .int x] h (fun r h' => r = none ∧ isRF cB cL cI N K D W wd od (rmvF a.1 x.toNatClampNeg n.1, a.2) (n.1 - 1, n.2) (0, i.2) h' ∧ ∀ q, (∀ j, j < 14 → q ≠ W j) → h' q = h q) := by
  have ne : ∀ {i j : Nat}, i < 14 → j < 14 → i ≠ j → W i ≠ W j := fun hi hj n => apU_ne hW hi hj n
  have hI9 := hI
  obtain ⟨k0, ⟨k1, k2⟩, k3, k4, k5, k6, k7, k8, k9, k10, k11, k12, k13⟩ := hI
  refine gC_mono (c_RF_drop l g cI hcI (W 0) (W 3) n.1 hn x _ rfl a.1 h k0 rfl rfl k3 (ne (by decide) (by decide) (by decide))) ?_
  intro r h' hq
  obtain ⟨h1, h2⟩ := hq
  rw [if_neg hx] at h2
  exact ⟨h1, rfu3 (n' := (n.1 - 1, n.2)) hW hI9 h2⟩
set_option maxRecDepth 100000 in
theorem r_clueY (l : Launch) (g : gG) (cB cL cI : ClassId) (hcB : (cB, FieldType.byte) ∈ g.2.1) (hcL : (cL, FieldType.long) ∈ g.2.1) (hcI : (cI, FieldType.int) ∈ g.2.1) (N K D : Nat) (W : Nat → Nat) (hW : apU W 14) (wd : Nat → Int64) (od : Nat → Int32) (a : RA) (n : RN) (i : RI) (h : gH) (hI : isRF cB cL cI N K D W wd od a n i h) (k x y z d p : Int32) (hn : n.1 ≤ 30) (ht : thrC (nI N) (nI K) n.1 a.1 k x y z d p = 0)  : gC l g mRF_clue (gr 2) [.ref (W 0), .int k, .int x, .int y, .int z, .int d, .int p] h (fun r h' => r = some (.int (nI n.1)) ∧ isRF cB cL cI N K D W wd od (rowA a.1 n.1 k x y z d p, a.2) (n.1 + 1, n.2) (0, i.2) h' ∧ ∀ q, (∀ j, j < 14 → q ≠ W j) → h' q = h q) := by
  have ne : ∀ {i j : Nat}, i < 14 → j < 14 → i ≠ j → W i ≠ W j := fun hi hj n => apU_ne hW hi hj n
  have hI9 := hI
  obtain ⟨k0, ⟨k1, k2⟩, k3, k4, k5, k6, k7, k8, k9, k10, k11, k12, k13⟩ := hI
  refine gC_mono (c_RF_clue l g cI hcI (W 0) (W 3) n.1 hn (nI N) (nI K) k x y z d p _ rfl a.1 h k0 rfl rfl rfl rfl k3 (ne (by decide) (by decide) (by decide))) ?_
  intro r h' hq
  rw [if_pos ht] at hq
  exact ⟨hq.1, rfu3 (n' := (n.1 + 1, n.2)) hW hI9 hq.2⟩
set_option maxRecDepth 100000 in
theorem r_clueN (l : Launch) (g : gG) (cB cL cI : ClassId) (hcB : (cB, FieldType.byte) ∈ g.2.1) (hcL : (cL, FieldType.long) ∈ g.2.1) (hcI : (cI, FieldType.int) ∈ g.2.1) (N K D : Nat) (W : Nat → Nat) (hW : apU W 14) (wd : Nat → Int64) (od : Nat → Int32) (a : RA) (n : RN) (i : RI) (h : gH) (hI : isRF cB cL cI N K D W wd od a n i h) (k x y z d p : Int32) (hn : n.1 ≤ 30) (ht : ¬ thrC (nI N) (nI K) n.1 a.1 k x y z d p = 0)  : gC l g mRF_clue (gr 2) [.ref (W 0), .int k, .int x, .int y, .int z, .int d, .int p] h (fun r h' => r = some (.int 0) ∧ isRF cB cL cI N K D W wd od a n (nI (thrC (nI N) (nI K) n.1 a.1 k x y z d p), i.2) h' ∧ ∀ q, (∀ j, j < 14 → q ≠ W j) → h' q = h q) := by
  have ne : ∀ {i j : Nat}, i < 14 → j < 14 → i ≠ j → W i ≠ W j := fun hi hj n => apU_ne hW hi hj n
  have hI9 := hI
  obtain ⟨k0, ⟨k1, k2⟩, k3, k4, k5, k6, k7, k8, k9, k10, k11, k12, k13⟩ := hI
  refine gC_mono (c_RF_clue l g cI hcI (W 0) (W 3) n.1 hn (nI N) (nI K) k x y z d p _ rfl a.1 h k0 rfl rfl rfl rfl k3 (ne (by decide) (by decide) (by decide))) ?_
  intro r h' hq
  rw [if_neg ht] at hq
  exact ⟨hq.1, rfu0 hW hI9 hq.2⟩
set_option maxRecDepth 100000 in
theorem r_count (l : Launch) (g : gG) (cB cL cI : ClassId) (hcB : (cB, FieldType.byte) ∈ g.2.1) (hcL : (cL, FieldType.long) ∈ g.2.1) (hcI : (cI, FieldType.int) ∈ g.2.1) (N K D : Nat) (W : Nat → Nat) (hW : apU W 14) (wd : Nat → Int64) (od : Nat → Int32) (a : RA) (n : RN) (i : RI) (h : gH) (hI : isRF cB cL cI N K D W wd od a n i h) (L : Int32) (hN : N ≤ 5) (hK : K ≤ 3) (hD : 0 < D ∧ D ≤ 120) (hn : n.1 ≤ 30) (hok : ∀ w, w < D ^ K → ∀ k, k < n.1 → okC a.1 (laF N K D od w a.2.2.1) k)  : gC l g mRF_count (gr 4) [.ref (W 0), .int L] h (fun r h' => r = some (.int (if L < 0 then 0 else nI (min L.toNatClampNeg (cntG N K D n.1 od a.1 a.2.2.1 L.toNatClampNeg)))) ∧ ∃ pl : Nat → Int32, isRF cB cL cI N K D W wd od (a.1, a.2.1, pl, a.2.2.2) n ((if L < 0 then 1 else 0), i.2) h' ∧ ∀ q, (∀ j, j < 14 → q ≠ W j) → h' q = h q) := by
  have ne : ∀ {i j : Nat}, i < 14 → j < 14 → i ≠ j → W i ≠ W j := fun hi hj n => apU_ne hW hi hj n
  have hI9 := hI
  obtain ⟨k0, ⟨k1, k2⟩, k3, k4, k5, k6, k7, k8, k9, k10, k11, k12, k13⟩ := hI
  refine gC_mono (c_RF_count l g cI hcI (W 0) (W 3) (W 5) (W 2) N K D n.1 hN hK hD hn L _ rfl od a.1 a.2.2.1 hok h k0 rfl rfl rfl rfl rfl rfl rfl k2 k3 k5 (ne (by decide) (by decide) (by decide)) (ne (by decide) (by decide) (by decide)) (ne (by decide) (by decide) (by decide)) (ne (by decide) (by decide) (by decide)) (ne (by decide) (by decide) (by decide))) ?_
  intro r h' hq
  obtain ⟨pl, -, h1, h2⟩ := hq
  exact ⟨h1, pl, rfu5 hW hI9 h2⟩
set_option maxRecDepth 100000 in
theorem r_answer (l : Launch) (g : gG) (cB cL cI : ClassId) (hcB : (cB, FieldType.byte) ∈ g.2.1) (hcL : (cL, FieldType.long) ∈ g.2.1) (hcI : (cI, FieldType.int) ∈ g.2.1) (N K D : Nat) (W : Nat → Nat) (hW : apU W 14) (wd : Nat → Int64) (od : Nat → Int32) (a : RA) (n : RN) (i : RI) (h : gH) (hI : isRF cB cL cI N K D W wd od a n i h) (x : Int32) (hx : ¬ x ≤ 1 → thingB (nI N) (nI K) x = true → vp_in (idxF x) 15) (hN : N ≤ 5) (hK : K ≤ 3) (hD : 0 < D ∧ D ≤ 120) (hn : n.1 ≤ 30) (hok : ∀ w, w < D ^ K → ∀ k, k < n.1 → okC a.1 (laF N K D od w a.2.2.1) k)  : gC l g mRF_answer (gr 4) [.ref (W 0), .int x] h (fun r h' => r = some (.int (ansF N K D n.1 od a.1 a.2.2.1 x)) ∧ ∃ pl : Nat → Int32, isRF cB cL cI N K D W wd od (a.1, a.2.1, pl, a.2.2.2) n (0, i.2) h' ∧ ∀ q, (∀ j, j < 14 → q ≠ W j) → h' q = h q) := by
  have ne : ∀ {i j : Nat}, i < 14 → j < 14 → i ≠ j → W i ≠ W j := fun hi hj n => apU_ne hW hi hj n
  have hI9 := hI
  obtain ⟨k0, ⟨k1, k2⟩, k3, k4, k5, k6, k7, k8, k9, k10, k11, k12, k13⟩ := hI
  refine gC_mono (c_RF_answer l g cI hcI (W 0) (W 3) (W 5) (W 2) N K D n.1 hN hK hD hn x hx _ rfl od a.1 a.2.2.1 hok h k0 rfl rfl rfl rfl rfl rfl rfl k2 k3 k5 (ne (by decide) (by decide) (by decide)) (ne (by decide) (by decide) (by decide)) (ne (by decide) (by decide) (by decide)) (ne (by decide) (by decide) (by decide)) (ne (by decide) (by decide) (by decide))) ?_
  intro r h' hq
  obtain ⟨pl, -, h1, h2⟩ := hq
  exact ⟨h1, pl, rfu5 hW hI9 h2⟩
set_option maxRecDepth 100000 in
theorem r_needed (l : Launch) (g : gG) (cB cL cI : ClassId) (hcB : (cB, FieldType.byte) ∈ g.2.1) (hcL : (cL, FieldType.long) ∈ g.2.1) (hcI : (cI, FieldType.int) ∈ g.2.1) (N K D : Nat) (W : Nat → Nat) (hW : apU W 14) (wd : Nat → Int64) (od : Nat → Int32) (a : RA) (n : RN) (i : RI) (h : gH) (hI : isRF cB cL cI N K D W wd od a n i h) (x : Int32) (hN : N ≤ 5) (hK : K ≤ 3) (hD : 0 < D ∧ D ≤ 120) (hn : n.1 ≤ 30) (hok : ∀ w, w < D ^ K → ∀ k, k < n.1 → okC a.1 (laF N K D od w a.2.2.1) k)  : gC l g mRF_needed (gr 5) [.ref (W 0), .int x] h (fun r h' => r = some (.int (bI (if x < 0 ∨ nI n.1 ≤ x then false else difF N K D n.1 od a.1 a.2.2.1 x))) ∧ ∃ pl : Nat → Int32, isRF cB cL cI N K D W wd od (a.1, a.2.1, pl, a.2.2.2) n ((if x < 0 ∨ nI n.1 ≤ x then 1 else 0), i.2) h' ∧ ∀ q, (∀ j, j < 14 → q ≠ W j) → h' q = h q) := by
  have ne : ∀ {i j : Nat}, i < 14 → j < 14 → i ≠ j → W i ≠ W j := fun hi hj n => apU_ne hW hi hj n
  have hI9 := hI
  obtain ⟨k0, ⟨k1, k2⟩, k3, k4, k5, k6, k7, k8, k9, k10, k11, k12, k13⟩ := hI
  refine gC_mono (c_RF_needed l g cI hcI (W 0) (W 3) (W 5) (W 2) N K D n.1 hN hK hD hn x _ rfl od a.1 a.2.2.1 hok h k0 rfl rfl rfl rfl rfl rfl rfl k2 k3 k5 (ne (by decide) (by decide) (by decide)) (ne (by decide) (by decide) (by decide)) (ne (by decide) (by decide) (by decide)) (ne (by decide) (by decide) (by decide)) (ne (by decide) (by decide) (by decide))) ?_
  intro r h' hq
  obtain ⟨pl, -, h1, h2⟩ := hq
  exact ⟨h1, pl, rfu5 hW hI9 h2⟩
set_option maxRecDepth 100000 in
theorem r_nameY (l : Launch) (g : gG) (cB cL cI : ClassId) (hcB : (cB, FieldType.byte) ∈ g.2.1) (hcL : (cL, FieldType.long) ∈ g.2.1) (hcI : (cI, FieldType.int) ∈ g.2.1) (N K D : Nat) (W : Nat → Nat) (hW : apU W 14) (wd : Nat → Int64) (od : Nat → Int32) (a : RA) (n : RN) (i : RI) (h : gH) (hI : isRF cB cL cI N K D W wd od a n i h) (x : Int32) (w : Int64) (hx : thingB (nI N) (nI K) x = true → vp_in (idxF x) 15) (hb : nmF (nI N) (nI K) wd a.2.2.2.2.2.2.2.1 x w = true)  : gC l g mRF_name (gr 1) [.ref (W 0), .int x, .long w] h (fun r h' => r = some (.int 1) ∧ isRF cB cL cI N K D W wd od (a.1, a.2.1, a.2.2.1, a.2.2.2.1, a.2.2.2.2.1, a.2.2.2.2.2.1, a.2.2.2.2.2.2.1, vp_updL a.2.2.2.2.2.2.2.1 (idxF x).toNatClampNeg (leS w 8 0), a.2.2.2.2.2.2.2.2) n (0, i.2) h' ∧ ∀ q, (∀ j, j < 14 → q ≠ W j) → h' q = h q) := by
  have ne : ∀ {i j : Nat}, i < 14 → j < 14 → i ≠ j → W i ≠ W j := fun hi hj n => apU_ne hW hi hj n
  have hI9 := hI
  obtain ⟨k0, ⟨k1, k2⟩, k3, k4, k5, k6, k7, k8, k9, k10, k11, k12, k13⟩ := hI
  refine gC_mono (c_RF_name l g cL hcL (W 0) (W 1) (W 10) (nI N) (nI K) x w hx _ rfl wd a.2.2.2.2.2.2.2.1 h k0 rfl rfl rfl rfl k1 k10 (ne (by decide) (by decide) (by decide)) (ne (by decide) (by decide) (by decide))) ?_
  intro r h' hq
  obtain ⟨h1, h2⟩ := hq
  rw [if_pos hb] at h2
  rw [hb] at h1
  exact ⟨h1, rfu10 hW hI9 h2⟩
set_option maxRecDepth 100000 in
theorem r_nameN (l : Launch) (g : gG) (cB cL cI : ClassId) (hcB : (cB, FieldType.byte) ∈ g.2.1) (hcL : (cL, FieldType.long) ∈ g.2.1) (hcI : (cI, FieldType.int) ∈ g.2.1) (N K D : Nat) (W : Nat → Nat) (hW : apU W 14) (wd : Nat → Int64) (od : Nat → Int32) (a : RA) (n : RN) (i : RI) (h : gH) (hI : isRF cB cL cI N K D W wd od a n i h) (x : Int32) (w : Int64) (hx : thingB (nI N) (nI K) x = true → vp_in (idxF x) 15) (hb : nmF (nI N) (nI K) wd a.2.2.2.2.2.2.2.1 x w = false)  : gC l g mRF_name (gr 1) [.ref (W 0), .int x, .long w] h (fun r h' => r = some (.int 0) ∧ isRF cB cL cI N K D W wd od a n (0, i.2) h' ∧ ∀ q, (∀ j, j < 14 → q ≠ W j) → h' q = h q) := by
  have ne : ∀ {i j : Nat}, i < 14 → j < 14 → i ≠ j → W i ≠ W j := fun hi hj n => apU_ne hW hi hj n
  have hI9 := hI
  obtain ⟨k0, ⟨k1, k2⟩, k3, k4, k5, k6, k7, k8, k9, k10, k11, k12, k13⟩ := hI
  refine gC_mono (c_RF_name l g cL hcL (W 0) (W 1) (W 10) (nI N) (nI K) x w hx _ rfl wd a.2.2.2.2.2.2.2.1 h k0 rfl rfl rfl rfl k1 k10 (ne (by decide) (by decide) (by decide)) (ne (by decide) (by decide) (by decide))) ?_
  intro r h' hq
  obtain ⟨h1, h2⟩ := hq
  rw [if_neg (by rw [hb]; exact Bool.false_ne_true)] at h2
  rw [hb] at h1
  exact ⟨h1, rfu0 hW hI9 h2⟩
set_option maxRecDepth 100000 in
theorem r_printY (l : Launch) (g : gG) (cB cL cI : ClassId) (hcB : (cB, FieldType.byte) ∈ g.2.1) (hcL : (cL, FieldType.long) ∈ g.2.1) (hcI : (cI, FieldType.int) ∈ g.2.1) (N K D : Nat) (W : Nat → Nat) (hW : apU W 14) (wd : Nat → Int64) (od : Nat → Int32) (a : RA) (n : RN) (i : RI) (h : gH) (hI : isRF cB cL cI N K D W wd od a n i h) (kk : Int32) (hn : n.1 ≤ 30) (hok : ∀ k, k < n.1 → okP a.1 k) (hb : prC a.2.2.2.2.2.2.2.1 a.1 n.1 kk = true)  : gC l g mRF_print (gr 2) [.ref (W 0), .int kk] h (fun r h' => r = some (.int (nI (prT a.2.2.2.2.2.2.2.1 a.1 a.2.2.2.2.2.2.2.2.1 kk.toNatClampNeg).2)) ∧ isRF cB cL cI N K D W wd od (a.1, a.2.1, a.2.2.1, a.2.2.2.1, a.2.2.2.2.1, a.2.2.2.2.2.1, a.2.2.2.2.2.2.1, a.2.2.2.2.2.2.2.1, (prT a.2.2.2.2.2.2.2.1 a.1 a.2.2.2.2.2.2.2.2.1 kk.toNatClampNeg).1, a.2.2.2.2.2.2.2.2.2) (n.1, n.2.1, n.2.2.1, (prT a.2.2.2.2.2.2.2.1 a.1 a.2.2.2.2.2.2.2.2.1 kk.toNatClampNeg).2, n.2.2.2.2) (0, i.2) h' ∧ ∀ q, (∀ j, j < 14 → q ≠ W j) → h' q = h q) := by
  have ne : ∀ {i j : Nat}, i < 14 → j < 14 → i ≠ j → W i ≠ W j := fun hi hj n => apU_ne hW hi hj n
  have hI9 := hI
  obtain ⟨k0, ⟨k1, k2⟩, k3, k4, k5, k6, k7, k8, k9, k10, k11, k12, k13⟩ := hI
  refine gC_mono (c_RF_print l g cB cL cI hcB hcL hcI (W 0) (W 11) (W 10) (W 3) n.1 hn kk a.2.2.2.2.2.2.2.1 a.1 a.2.2.2.2.2.2.2.2.1 hok _ rfl h k0 rfl rfl rfl rfl k10 k3 k11 (ne (by decide) (by decide) (by decide)) (ne (by decide) (by decide) (by decide)) (ne (by decide) (by decide) (by decide)) (ne (by decide) (by decide) (by decide)) (ne (by decide) (by decide) (by decide))) ?_
  intro r h' hq
  obtain ⟨h1, h2⟩ := hq
  rw [if_pos hb] at h1 h2
  exact ⟨h1, rfu11 (n' := (n.1, n.2.1, n.2.2.1, (prT a.2.2.2.2.2.2.2.1 a.1 a.2.2.2.2.2.2.2.2.1 kk.toNatClampNeg).2, n.2.2.2.2)) hW hI9 h2⟩
set_option maxRecDepth 100000 in
theorem r_printN (l : Launch) (g : gG) (cB cL cI : ClassId) (hcB : (cB, FieldType.byte) ∈ g.2.1) (hcL : (cL, FieldType.long) ∈ g.2.1) (hcI : (cI, FieldType.int) ∈ g.2.1) (N K D : Nat) (W : Nat → Nat) (hW : apU W 14) (wd : Nat → Int64) (od : Nat → Int32) (a : RA) (n : RN) (i : RI) (h : gH) (hI : isRF cB cL cI N K D W wd od a n i h) (kk : Int32) (hn : n.1 ≤ 30) (hok : ∀ k, k < n.1 → okP a.1 k) (hb : prC a.2.2.2.2.2.2.2.1 a.1 n.1 kk = false)  : gC l g mRF_print (gr 2) [.ref (W 0), .int kk] h (fun r h' => r = some (.int 0) ∧ isRF cB cL cI N K D W wd od a n (0, i.2) h' ∧ ∀ q, (∀ j, j < 14 → q ≠ W j) → h' q = h q) := by
  have ne : ∀ {i j : Nat}, i < 14 → j < 14 → i ≠ j → W i ≠ W j := fun hi hj n => apU_ne hW hi hj n
  have hI9 := hI
  obtain ⟨k0, ⟨k1, k2⟩, k3, k4, k5, k6, k7, k8, k9, k10, k11, k12, k13⟩ := hI
  refine gC_mono (c_RF_print l g cB cL cI hcB hcL hcI (W 0) (W 11) (W 10) (W 3) n.1 hn kk a.2.2.2.2.2.2.2.1 a.1 a.2.2.2.2.2.2.2.2.1 hok _ rfl h k0 rfl rfl rfl rfl k10 k3 k11 (ne (by decide) (by decide) (by decide)) (ne (by decide) (by decide) (by decide)) (ne (by decide) (by decide) (by decide)) (ne (by decide) (by decide) (by decide)) (ne (by decide) (by decide) (by decide))) ?_
  intro r h' hq
  obtain ⟨h1, h2⟩ := hq
  rw [if_neg (by rw [hb]; exact Bool.false_ne_true)] at h1 h2
  exact ⟨h1, rfu0 hW hI9 h2⟩
set_option maxRecDepth 100000 in
theorem r_typeY (l : Launch) (g : gG) (cB cL cI : ClassId) (hcB : (cB, FieldType.byte) ∈ g.2.1) (hcL : (cL, FieldType.long) ∈ g.2.1) (hcI : (cI, FieldType.int) ∈ g.2.1) (N K D : Nat) (W : Nat → Nat) (hW : apU W 14) (wd : Nat → Int64) (od : Nat → Int32) (a : RA) (n : RN) (i : RI) (h : gH) (hI : isRF cB cL cI N K D W wd od a n i h) (w : Int64) (hn : n.2.2.2.2.1 ≤ 60) (hb : tyB w n.2.2.2.2.1 = true)  : gC l g mRF_type (gr 0) [.ref (W 0), .long w] h (fun r h' => r = some (.int (nI (shBw w 8 (a.2.2.2.2.2.2.2.2.2.1, n.2.2.2.2.1)).2)) ∧ isRF cB cL cI N K D W wd od (a.1, a.2.1, a.2.2.1, a.2.2.2.1, a.2.2.2.2.1, a.2.2.2.2.2.1, a.2.2.2.2.2.2.1, a.2.2.2.2.2.2.2.1, a.2.2.2.2.2.2.2.2.1, (shBw w 8 (a.2.2.2.2.2.2.2.2.2.1, n.2.2.2.2.1)).1, a.2.2.2.2.2.2.2.2.2.2) (n.1, n.2.1, n.2.2.1, n.2.2.2.1, (shBw w 8 (a.2.2.2.2.2.2.2.2.2.1, n.2.2.2.2.1)).2, n.2.2.2.2.2) (0, i.2) h' ∧ ∀ q, (∀ j, j < 14 → q ≠ W j) → h' q = h q) := by
  have ne : ∀ {i j : Nat}, i < 14 → j < 14 → i ≠ j → W i ≠ W j := fun hi hj n => apU_ne hW hi hj n
  have hI9 := hI
  obtain ⟨k0, ⟨k1, k2⟩, k3, k4, k5, k6, k7, k8, k9, k10, k11, k12, k13⟩ := hI
  refine gC_mono (c_RF_type l g cB hcB (W 0) (W 12) w _ rfl (a.2.2.2.2.2.2.2.2.2.1, n.2.2.2.2.1) hn h k0 rfl rfl k12 (ne (by decide) (by decide) (by decide))) ?_
  intro r h' hq
  obtain ⟨h1, h2⟩ := hq
  rw [if_pos hb] at h1 h2
  exact ⟨h1, rfu12 (n' := (n.1, n.2.1, n.2.2.1, n.2.2.2.1, (shBw w 8 (a.2.2.2.2.2.2.2.2.2.1, n.2.2.2.2.1)).2, n.2.2.2.2.2)) hW hI9 h2⟩
set_option maxRecDepth 100000 in
theorem r_typeN (l : Launch) (g : gG) (cB cL cI : ClassId) (hcB : (cB, FieldType.byte) ∈ g.2.1) (hcL : (cL, FieldType.long) ∈ g.2.1) (hcI : (cI, FieldType.int) ∈ g.2.1) (N K D : Nat) (W : Nat → Nat) (hW : apU W 14) (wd : Nat → Int64) (od : Nat → Int32) (a : RA) (n : RN) (i : RI) (h : gH) (hI : isRF cB cL cI N K D W wd od a n i h) (w : Int64) (hn : n.2.2.2.2.1 ≤ 60) (hb : tyB w n.2.2.2.2.1 = false)  : gC l g mRF_type (gr 0) [.ref (W 0), .long w] h (fun r h' => r = some (.int (-1)) ∧ isRF cB cL cI N K D W wd od a n (0, i.2) h' ∧ ∀ q, (∀ j, j < 14 → q ≠ W j) → h' q = h q) := by
  have ne : ∀ {i j : Nat}, i < 14 → j < 14 → i ≠ j → W i ≠ W j := fun hi hj n => apU_ne hW hi hj n
  have hI9 := hI
  obtain ⟨k0, ⟨k1, k2⟩, k3, k4, k5, k6, k7, k8, k9, k10, k11, k12, k13⟩ := hI
  refine gC_mono (c_RF_type l g cB hcB (W 0) (W 12) w _ rfl (a.2.2.2.2.2.2.2.2.2.1, n.2.2.2.2.1) hn h k0 rfl rfl k12 (ne (by decide) (by decide) (by decide))) ?_
  intro r h' hq
  obtain ⟨h1, h2⟩ := hq
  rw [if_neg (by show ¬ tyB w n.2.2.2.2.1 = true; rw [hb]; exact Bool.false_ne_true)] at h1 h2
  exact ⟨h1, rfu0 hW hI9 h2⟩
