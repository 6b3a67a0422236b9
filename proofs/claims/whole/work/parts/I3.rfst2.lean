-- the reference over its state: prove, rating, make, read
set_option maxRecDepth 100000 in
theorem r_prove (l : Launch) (g : gG) (cB cL cI : ClassId) (hcB : (cB, FieldType.byte) ∈ g.2.1) (hcL : (cL, FieldType.long) ∈ g.2.1) (hcI : (cI, FieldType.int) ∈ g.2.1) (N K D : Nat) (W : Nat → Nat) (hW : apU W 14) (wd : Nat → Int64) (od : Nat → Int32) (a : RA) (n : RN) (i : RI) (h : gH) (hI : isRF cB cL cI N K D W wd od a n i h) (hN : 1 ≤ N ∧ N ≤ 5) (hK : K ≤ 3) (hn : n.1 ≤ 30) (hok : ∀ rule k, k < n.1 → isOfB (nI rule) (a.1 (6 * k)) (a.1 (6 * k + 5)) = true → rule = 3 ∨ rule = 5 → okR a.1 k) : gC l g mRF_prove (gr 8) [.ref (W 0)] h (fun r h' => r = some (.int (nI (wkF N K n.1 a.1 76 (wk0 N (a.2.2.2.2.2.1, a.2.2.2.1, n.2.1))).2.2)) ∧ isRF cB cL cI N K D W wd od (a.1, a.2.1, a.2.2.1, (wkF N K n.1 a.1 76 (wk0 N (a.2.2.2.2.2.1, a.2.2.2.1, n.2.1))).2.1, cpF (wkF N K n.1 a.1 76 (wk0 N (a.2.2.2.2.2.1, a.2.2.2.1, n.2.1))).2.1 a.2.2.2.2.1 (4 * (wkF N K n.1 a.1 76 (wk0 N (a.2.2.2.2.2.1, a.2.2.2.1, n.2.1))).2.2), (wkF N K n.1 a.1 76 (wk0 N (a.2.2.2.2.2.1, a.2.2.2.1, n.2.1))).1, cpF (wkF N K n.1 a.1 76 (wk0 N (a.2.2.2.2.2.1, a.2.2.2.1, n.2.1))).1 a.2.2.2.2.2.2.1 15, a.2.2.2.2.2.2.2) (n.1, (wkF N K n.1 a.1 76 (wk0 N (a.2.2.2.2.2.1, a.2.2.2.1, n.2.1))).2.2, (wkF N K n.1 a.1 76 (wk0 N (a.2.2.2.2.2.1, a.2.2.2.1, n.2.1))).2.2, n.2.2.2) (0, i.2) h' ∧ ∀ q, (∀ j, j < 14 → q ≠ W j) → h' q = h q) := by
  have ne : ∀ {i j : Nat}, i < 14 → j < 14 → i ≠ j → W i ≠ W j := fun hi hj n => apU_ne hW hi hj n
  have hI9 := hI
  obtain ⟨k0, ⟨k1, k2⟩, k3, k4, k5, k6, k7, k8, k9, k10, k11, k12, k13⟩ := hI
  have e0 : h = hWK cI (W 0) (W 8) (W 6) (fRF W N K D n i) (a.2.2.2.2.2.1, a.2.2.2.1, n.2.1) h := (gh3_id k0 k8 k6).symm
  have hap : ap5 (W 7) (W 9) (W 0) (W 8) (W 6) := by
    refine ⟨?_, ?_, ?_, ?_, ?_, ?_, ?_, ?_, ?_, ?_⟩ <;> exact ne (by decide) (by decide) (by decide)
  have a3 : ap3 (W 0) (W 8) (W 6) := by
    refine ⟨?_, ?_, ?_⟩ <;> exact ne (by decide) (by decide) (by decide)
  refine gC_mono (c_RF_prove l g cI hcI (W 0) (W 3) (W 8) (W 6) (W 9) (W 7) N K n.1 hN hK hn _ rfl a.1 a.2.2.2.2.2.2.1 a.2.2.2.2.1 hok _ h h e0 rfl rfl rfl rfl rfl rfl rfl rfl k3 hap (ne (by decide) (by decide) (by decide)) (ne (by decide) (by decide) (by decide)) (ne (by decide) (by decide) (by decide)) k7 k9) ?_
  intro r h' hq
  obtain ⟨hr, hh⟩ := hq
  generalize wkF N K n.1 a.1 76 (wk0 N (a.2.2.2.2.2.1, a.2.2.2.1, n.2.1)) = w at hr hh ⊢
  have fr : ∀ j, j < 14 → j ≠ 0 → j ≠ 8 → j ≠ 6 → j ≠ 7 → j ≠ 9 → h' (W j) = h (W j) := fun j hj c0 c1 c2 c3 c4 => by
    rw [hh]
    exact (gh3_x (ne hj (by decide) c0) (ne hj (by decide) c1) (ne hj (by decide) c2)).trans (gh2_x (ne hj (by decide) c3) (ne hj (by decide) c4))
  have g0 : h' (W 0) = some (.inr (6, fRF W N K D (n.1, w.2.2, w.2.2, n.2.2.2) (0, i.2))) := by rw [hh]; exact gh3_g0 a3
  have g8 : h' (W 8) = some (.inl (cI, 15, .inl w.1)) := by rw [hh]; exact gh3_g1 a3
  have g6 : h' (W 6) = some (.inl (cI, 400, .inl w.2.1)) := by rw [hh]; exact gh3_g2 a3
  have g7 : h' (W 7) = some (.inl (cI, 400, .inl (cpF w.2.1 a.2.2.2.2.1 (4 * w.2.2)))) := by
    rw [hh]
    exact (gh3_x (ne (by decide) (by decide) (by decide)) (ne (by decide) (by decide) (by decide)) (ne (by decide) (by decide) (by decide))).trans (gh2_g0 (ne (by decide) (by decide) (by decide)))
  have g9 : h' (W 9) = some (.inl (cI, 15, .inl (cpF w.1 a.2.2.2.2.2.2.1 15))) := by
    rw [hh]
    exact (gh3_x (ne (by decide) (by decide) (by decide)) (ne (by decide) (by decide) (by decide)) (ne (by decide) (by decide) (by decide))).trans (gh2_g1 (ne (by decide) (by decide) (by decide)))
  have F : ∀ j, j < 14 → j ≠ 0 → j ≠ 8 → j ≠ 6 → j ≠ 7 → j ≠ 9 → ∀ {x : Option va_E}, h (W j) = x → h' (W j) = x := fun j hj c0 c1 c2 c3 c4 x hx => (fr j hj c0 c1 c2 c3 c4).trans hx
  refine ⟨hr, ⟨g0, ⟨F 1 (by decide) (by decide) (by decide) (by decide) (by decide) (by decide) k1, F 2 (by decide) (by decide) (by decide) (by decide) (by decide) (by decide) k2⟩, F 3 (by decide) (by decide) (by decide) (by decide) (by decide) (by decide) k3, F 4 (by decide) (by decide) (by decide) (by decide) (by decide) (by decide) k4, F 5 (by decide) (by decide) (by decide) (by decide) (by decide) (by decide) k5, g6, g7, g8, g9, F 10 (by decide) (by decide) (by decide) (by decide) (by decide) (by decide) k10, F 11 (by decide) (by decide) (by decide) (by decide) (by decide) (by decide) k11, F 12 (by decide) (by decide) (by decide) (by decide) (by decide) (by decide) k12, F 13 (by decide) (by decide) (by decide) (by decide) (by decide) (by decide) k13⟩, fun q hq => ?_⟩
  rw [hh]
  exact (gh3_x (hq 0 (by decide)) (hq 8 (by decide)) (hq 6 (by decide))).trans (gh2_x (hq 7 (by decide)) (hq 9 (by decide)))
set_option maxRecDepth 100000 in
theorem r_rating (l : Launch) (g : gG) (cB cL cI : ClassId) (hcB : (cB, FieldType.byte) ∈ g.2.1) (hcL : (cL, FieldType.long) ∈ g.2.1) (hcI : (cI, FieldType.int) ∈ g.2.1) (N K D : Nat) (W : Nat → Nat) (hW : apU W 14) (wd : Nat → Int64) (od : Nat → Int32) (a : RA) (n : RN) (i : RI) (h : gH) (hI : isRF cB cL cI N K D W wd od a n i h) (hN : 1 ≤ N ∧ N ≤ 5) (hK : K ≤ 3) (hn : n.1 ≤ 30) (hok : ∀ rule k, k < n.1 → isOfB (nI rule) (a.1 (6 * k)) (a.1 (6 * k + 5)) = true → rule = 3 ∨ rule = 5 → okR a.1 k) : gC l g mRF_rating (gr 8) [.ref (W 0)] h (fun r h' => r = some (.int (ratF N K (wkF N K n.1 a.1 76 (wk0 N (a.2.2.2.2.2.1, a.2.2.2.1, n.2.1))))) ∧ isRF cB cL cI N K D W wd od (a.1, a.2.1, a.2.2.1, (wkF N K n.1 a.1 76 (wk0 N (a.2.2.2.2.2.1, a.2.2.2.1, n.2.1))).2.1, a.2.2.2.2.1, (wkF N K n.1 a.1 76 (wk0 N (a.2.2.2.2.2.1, a.2.2.2.1, n.2.1))).1, a.2.2.2.2.2.2) (n.1, (wkF N K n.1 a.1 76 (wk0 N (a.2.2.2.2.2.1, a.2.2.2.1, n.2.1))).2.2, n.2.2) (0, i.2) h' ∧ ∀ q, (∀ j, j < 14 → q ≠ W j) → h' q = h q) := by
  have ne : ∀ {i j : Nat}, i < 14 → j < 14 → i ≠ j → W i ≠ W j := fun hi hj n => apU_ne hW hi hj n
  have hI9 := hI
  obtain ⟨k0, ⟨k1, k2⟩, k3, k4, k5, k6, k7, k8, k9, k10, k11, k12, k13⟩ := hI
  have e0 : h = hWK cI (W 0) (W 8) (W 6) (fRF W N K D n i) (a.2.2.2.2.2.1, a.2.2.2.1, n.2.1) h := (gh3_id k0 k8 k6).symm
  have a3 : ap3 (W 0) (W 8) (W 6) := by
    refine ⟨?_, ?_, ?_⟩ <;> exact ne (by decide) (by decide) (by decide)
  refine gC_mono (c_RF_rating l g cI hcI (W 0) (W 3) (W 8) (W 6) N K n.1 hN hK hn _ rfl a.1 hok _ h h e0 rfl rfl rfl rfl rfl rfl k3 a3 (ne (by decide) (by decide) (by decide)) (ne (by decide) (by decide) (by decide)) (ne (by decide) (by decide) (by decide))) ?_
  intro r h' hq
  obtain ⟨hr, hh⟩ := hq
  generalize wkF N K n.1 a.1 76 (wk0 N (a.2.2.2.2.2.1, a.2.2.2.1, n.2.1)) = w at hr hh ⊢
  have F : ∀ j, j < 14 → j ≠ 0 → j ≠ 8 → j ≠ 6 → ∀ {x : Option va_E}, h (W j) = x → h' (W j) = x := fun j hj c0 c1 c2 x hx => by
    rw [hh]
    exact (gh3_x (ne hj (by decide) c0) (ne hj (by decide) c1) (ne hj (by decide) c2)).trans hx
  have g0 : h' (W 0) = some (.inr (6, fRF W N K D (n.1, w.2.2, n.2.2) (0, i.2))) := by rw [hh]; exact gh3_g0 a3
  have g8 : h' (W 8) = some (.inl (cI, 15, .inl w.1)) := by rw [hh]; exact gh3_g1 a3
  have g6 : h' (W 6) = some (.inl (cI, 400, .inl w.2.1)) := by rw [hh]; exact gh3_g2 a3
  refine ⟨hr, ⟨g0, ⟨F 1 (by decide) (by decide) (by decide) (by decide) k1, F 2 (by decide) (by decide) (by decide) (by decide) k2⟩, F 3 (by decide) (by decide) (by decide) (by decide) k3, F 4 (by decide) (by decide) (by decide) (by decide) k4, F 5 (by decide) (by decide) (by decide) (by decide) k5, g6, F 7 (by decide) (by decide) (by decide) (by decide) k7, g8, F 9 (by decide) (by decide) (by decide) (by decide) k9, F 10 (by decide) (by decide) (by decide) (by decide) k10, F 11 (by decide) (by decide) (by decide) (by decide) k11, F 12 (by decide) (by decide) (by decide) (by decide) k12, F 13 (by decide) (by decide) (by decide) (by decide) k13⟩, fun q hq => ?_⟩
  rw [hh]
  exact gh3_x (hq 0 (by decide)) (hq 8 (by decide)) (hq 6 (by decide))
def vW (W : Nat → Nat) : Nat → Nat := fun j => W (match j with | 0 => 0 | 1 => 5 | 2 => 13 | 3 => 3 | 4 => 4 | 5 => 8 | _ => 6)
theorem vW_ap {W : Nat → Nat} (hW : apU W 14) : apU (vW W) 7 := fun i j hi hj e => by
  have hi' : i = 0 ∨ i = 1 ∨ i = 2 ∨ i = 3 ∨ i = 4 ∨ i = 5 ∨ i = 6 := by omega
  have hj' : j = 0 ∨ j = 1 ∨ j = 2 ∨ j = 3 ∨ j = 4 ∨ j = 5 ∨ j = 6 := by omega
  rcases hi' with rfl | rfl | rfl | rfl | rfl | rfl | rfl <;> rcases hj' with rfl | rfl | rfl | rfl | rfl | rfl | rfl <;> first | rfl | exact absurd (hW _ _ (by decide) (by decide) e) (by decide)
theorem mrF_eq {W : Nat → Nat} {N K D : Nat} {n : RN} {i : RI} {F : List Value} {kn stp cnt v c : Nat} (h : mrF (fRF W N K D n i) F kn stp cnt v c) : F = fRF W N K D (c, stp, n.2.2.1, n.2.2.2.1, n.2.2.2.2.1, cnt, v) (0, nI kn, i.2.2) := by
  obtain ⟨h0, hx, h1, h6, h7, h11, h24, h26⟩ := h
  apply List.ext_getElem?
  intro j
  match j with
  | 0 => exact (hx 0 (by decide) (by decide) (by decide) (by decide) (by decide) (by decide)).trans rfl
  | 1 => exact h1.trans rfl
  | 2 => exact (hx 2 (by decide) (by decide) (by decide) (by decide) (by decide) (by decide)).trans rfl
  | 3 => exact (hx 3 (by decide) (by decide) (by decide) (by decide) (by decide) (by decide)).trans rfl
  | 4 => exact (hx 4 (by decide) (by decide) (by decide) (by decide) (by decide) (by decide)).trans rfl
  | 5 => exact (hx 5 (by decide) (by decide) (by decide) (by decide) (by decide) (by decide)).trans rfl
  | 6 => exact h6.trans rfl
  | 7 => exact h7.trans rfl
  | 8 => exact (hx 8 (by decide) (by decide) (by decide) (by decide) (by decide) (by decide)).trans rfl
  | 9 => exact (hx 9 (by decide) (by decide) (by decide) (by decide) (by decide) (by decide)).trans rfl
  | 10 => exact (hx 10 (by decide) (by decide) (by decide) (by decide) (by decide) (by decide)).trans rfl
  | 11 => exact h11.trans rfl
  | 12 => exact (hx 12 (by decide) (by decide) (by decide) (by decide) (by decide) (by decide)).trans rfl
  | 13 => exact (hx 13 (by decide) (by decide) (by decide) (by decide) (by decide) (by decide)).trans rfl
  | 14 => exact (hx 14 (by decide) (by decide) (by decide) (by decide) (by decide) (by decide)).trans rfl
  | 15 => exact (hx 15 (by decide) (by decide) (by decide) (by decide) (by decide) (by decide)).trans rfl
  | 16 => exact (hx 16 (by decide) (by decide) (by decide) (by decide) (by decide) (by decide)).trans rfl
  | 17 => exact (hx 17 (by decide) (by decide) (by decide) (by decide) (by decide) (by decide)).trans rfl
  | 18 => exact (hx 18 (by decide) (by decide) (by decide) (by decide) (by decide) (by decide)).trans rfl
  | 19 => exact (hx 19 (by decide) (by decide) (by decide) (by decide) (by decide) (by decide)).trans rfl
  | 20 => exact (hx 20 (by decide) (by decide) (by decide) (by decide) (by decide) (by decide)).trans rfl
  | 21 => exact (hx 21 (by decide) (by decide) (by decide) (by decide) (by decide) (by decide)).trans rfl
  | 22 => exact (hx 22 (by decide) (by decide) (by decide) (by decide) (by decide) (by decide)).trans rfl
  | 23 => exact (hx 23 (by decide) (by decide) (by decide) (by decide) (by decide) (by decide)).trans rfl
  | 24 => exact h24.trans rfl
  | 25 => exact (hx 25 (by decide) (by decide) (by decide) (by decide) (by decide) (by decide)).trans rfl
  | 26 => exact h26.trans rfl
  | 27 => exact (hx 27 (by decide) (by decide) (by decide) (by decide) (by decide) (by decide)).trans rfl
  | 28 => exact (hx 28 (by decide) (by decide) (by decide) (by decide) (by decide) (by decide)).trans rfl
  | 29 => exact (hx 29 (by decide) (by decide) (by decide) (by decide) (by decide) (by decide)).trans rfl
  | 30 => exact (hx 30 (by decide) (by decide) (by decide) (by decide) (by decide) (by decide)).trans rfl
  | 31 => exact (hx 31 (by decide) (by decide) (by decide) (by decide) (by decide) (by decide)).trans rfl
  | 32 => exact (hx 32 (by decide) (by decide) (by decide) (by decide) (by decide) (by decide)).trans rfl
  | j + 33 => exact (hx (j + 33) (by omega) (by omega) (by omega) (by omega) (by omega) (by omega)).trans rfl
set_option maxRecDepth 100000 in
theorem r_make (l : Launch) (g : gG) (cB cL cI : ClassId) (hcB : (cB, FieldType.byte) ∈ g.2.1) (hcL : (cL, FieldType.long) ∈ g.2.1) (hcI : (cI, FieldType.int) ∈ g.2.1) (N K D : Nat) (W : Nat → Nat) (hW : apU W 14) (wd : Nat → Int64) (od : Nat → Int32) (a : RA) (n : RN) (i : RI) (h : gH) (hI : isRF cB cL cI N K D W wd od a n i h) (hNK : okNK N K) (hD : D ≤ 120) (ho : ordsQ N K D od) (v : Nat) (hv : 1 ≤ v ∧ v ≤ 2147483646) (rt : Int32) (hr1 : ¬ rt < 1) (hr5 : rt ≤ 5) : gC l g mRF_make (gr 8) [.ref (W 0), .int (nI v), .int rt] h (fun r h' => r = some (.int (nI (mkC N K rt 4 1 v).1)) ∧ ∃ (a' : RA) (n' : RN) (i' : RI), (isRF cB cL cI N K D W wd od a' n' i' h' ∧ ∀ q, (∀ j, j < 14 → q ≠ W j) → h' q = h q) ∧ (a'.2.2.2.2.1 = a.2.2.2.2.1 ∧ a'.2.2.2.2.2.2 = (a.2.2.2.2.2.2.1, a.2.2.2.2.2.2.2.1, a.2.2.2.2.2.2.2.2.1, a.2.2.2.2.2.2.2.2.2.1, a'.2.2.2.2.2.2.2.2.2.2)) ∧ (n'.2.2.1 = n.2.2.1 ∧ n'.2.2.2.1 = n.2.2.2.1 ∧ n'.2.2.2.2.1 = n.2.2.2.2.1) ∧ (i'.1 = 0 ∧ i'.2.2 = i.2.2) ∧ (¬ (mkC N K rt 4 1 v).1 = 0 → n'.1 = (ocN N K (mkC N K rt 4 1 v).2).2.1 ∧ ∃ Q, bothQ N K D n'.1 Q (ocN N K (mkC N K rt 4 1 v).2).2.2 a'.1 od) ∧ ((mkC N K rt 4 1 v).1 = 0 → n'.1 = n.1 ∧ ∀ j, j < 180 → a'.1 j = a.1 j)) := by
  have ne : ∀ {i j : Nat}, i < 14 → j < 14 → i ≠ j → W i ≠ W j := fun hi hj n => apU_ne hW hi hj n
  have hI9 := hI
  obtain ⟨k0, ⟨k1, k2⟩, k3, k4, k5, k6, k7, k8, k9, k10, k11, k12, k13⟩ := hI
  have yo : ∀ j, j < 7 → W 2 ≠ vW W j := fun j hj => by
    have hj' : j = 0 ∨ j = 1 ∨ j = 2 ∨ j = 3 ∨ j = 4 ∨ j = 5 ∨ j = 6 := by omega
    rcases hj' with rfl | rfl | rfl | rfl | rfl | rfl | rfl <;> exact ne (by decide) (by decide) (by decide)
  refine gC_mono (c_RF_make l g cI hcI (vW W) (vW_ap hW) (W 2) N K D hNK hD (fRF W N K D n i) rfl rfl rfl rfl rfl rfl rfl rfl rfl rfl rfl h od a.1 ho k2 yo n.1 n.2.2.2.2.2.1 n.2.2.2.2.2.2 a.2.2.1 a.2.2.2.2.2.2.2.2.2.2 a.2.1 (a.2.2.2.2.2.1, a.2.2.2.1, n.2.1) rfl rfl rfl rfl k0 k5 k13 k3 k4 k8 k6 v hv rt hr1 hr5) ?_
  intro r h' hq
  obtain ⟨hr, s, kp, w, ⟨⟨F, g0, hF⟩, g5, g13, g3, g4, g8, g6, fr⟩, hy, hz⟩ := hq
  rw [mrF_eq hF] at g0
  have fw : ∀ j, j < 14 → j ≠ 0 → j ≠ 5 → j ≠ 13 → j ≠ 3 → j ≠ 4 → j ≠ 8 → j ≠ 6 → h' (W j) = h (W j) := fun j hj c0 c1 c2 c3 c4 c5 c6 => fr _ (fun q hq => by
    have hq' : q = 0 ∨ q = 1 ∨ q = 2 ∨ q = 3 ∨ q = 4 ∨ q = 5 ∨ q = 6 := by omega
    rcases hq' with rfl | rfl | rfl | rfl | rfl | rfl | rfl
    · exact ne hj (by decide) c0
    · exact ne hj (by decide) c1
    · exact ne hj (by decide) c2
    · exact ne hj (by decide) c3
    · exact ne hj (by decide) c4
    · exact ne hj (by decide) c5
    · exact ne hj (by decide) c6)
  have F9 : ∀ j, j < 14 → j ≠ 0 → j ≠ 5 → j ≠ 13 → j ≠ 3 → j ≠ 4 → j ≠ 8 → j ≠ 6 → ∀ {x : Option va_E}, h (W j) = x → h' (W j) = x := fun j hj c0 c1 c2 c3 c4 c5 c6 x hx => (fw j hj c0 c1 c2 c3 c4 c5 c6).trans hx
  refine ⟨hr, (s.2.2.1, kp, s.1, w.2.1, a.2.2.2.2.1, w.1, a.2.2.2.2.2.2.1, a.2.2.2.2.2.2.2.1, a.2.2.2.2.2.2.2.2.1, a.2.2.2.2.2.2.2.2.2.1, s.2.1), (s.2.2.2.2.2, w.2.2, n.2.2.1, n.2.2.2.1, n.2.2.2.2.1, s.2.2.2.1, s.2.2.2.2.1), (0, nI n.1, i.2.2), ⟨⟨g0, ⟨F9 1 (by decide) (by decide) (by decide) (by decide) (by decide) (by decide) (by decide) (by decide) k1, F9 2 (by decide) (by decide) (by decide) (by decide) (by decide) (by decide) (by decide) (by decide) k2⟩, g3, g4, g5, g6, F9 7 (by decide) (by decide) (by decide) (by decide) (by decide) (by decide) (by decide) (by decide) k7, g8, F9 9 (by decide) (by decide) (by decide) (by decide) (by decide) (by decide) (by decide) (by decide) k9, F9 10 (by decide) (by decide) (by decide) (by decide) (by decide) (by decide) (by decide) (by decide) k10, F9 11 (by decide) (by decide) (by decide) (by decide) (by decide) (by decide) (by decide) (by decide) k11, F9 12 (by decide) (by decide) (by decide) (by decide) (by decide) (by decide) (by decide) (by decide) k12, g13⟩, fun q hq => fr q (fun j hj => ?_)⟩, ⟨rfl, rfl⟩, ⟨rfl, rfl, rfl⟩, ⟨rfl, rfl⟩, hy, hz⟩
  have hj' : j = 0 ∨ j = 1 ∨ j = 2 ∨ j = 3 ∨ j = 4 ∨ j = 5 ∨ j = 6 := by omega
  rcases hj' with rfl | rfl | rfl | rfl | rfl | rfl | rfl
  · exact hq 0 (by decide)
  · exact hq 5 (by decide)
  · exact hq 13 (by decide)
  · exact hq 3 (by decide)
  · exact hq 4 (by decide)
  · exact hq 8 (by decide)
  · exact hq 6 (by decide)
set_option maxRecDepth 100000 in
theorem r_makeN (l : Launch) (g : gG) (cB cL cI : ClassId) (hcB : (cB, FieldType.byte) ∈ g.2.1) (hcL : (cL, FieldType.long) ∈ g.2.1) (hcI : (cI, FieldType.int) ∈ g.2.1) (N K D : Nat) (W : Nat → Nat) (hW : apU W 14) (wd : Nat → Int64) (od : Nat → Int32) (a : RA) (n : RN) (i : RI) (h : gH) (hI : isRF cB cL cI N K D W wd od a n i h) (x rt : Int32) (hbad : x < 1 ∨ (2147483646 : Int32) < x ∨ rt < 1 ∨ ¬ rt ≤ 5) : gC l g mRF_make (gr 8) [.ref (W 0), .int x, .int rt] h (fun r h' => r = some (.int 0) ∧ isRF cB cL cI N K D W wd od a n (1, i.2) h' ∧ ∀ q, (∀ j, j < 14 → q ≠ W j) → h' q = h q) := gC_mono (c_RF_makeN l g (W 0) (fRF W N K D n i) rfl h hI.1 x rt hbad) (fun r h' hq => ⟨hq.1, rfu0 hW hI hq.2⟩)
theorem nI_all (x : Int32) : ∃ k : Nat, x = nI k := ⟨x.toBitVec.toNat, Int32.toBitVec_inj.mp (by simp [nI])⟩
def rsi (i : RI) (s : RS) : RI := (0, i.2.1, s.2.1, nI s.1, s.2.2)
set_option maxRecDepth 100000 in
theorem r_read (l : Launch) (g : gG) (cB cL cI : ClassId) (hcB : (cB, FieldType.byte) ∈ g.2.1) (hcL : (cL, FieldType.long) ∈ g.2.1) (hcI : (cI, FieldType.int) ∈ g.2.1) (N K D : Nat) (W : Nat → Nat) (hW : apU W 14) (wd : Nat → Int64) (od : Nat → Int32) (a : RA) (n : RN) (i : RI) (h : gH) (hI : isRF cB cL cI N K D W wd od a n i h) (hn : n.1 ≤ 30) (hL : n.2.2.2.2.1 ≤ 60) : ∃ z : Nat, gC l g mRF_read (gr 4) [.ref (W 0)] h (fun r h' => (goodR (nI N) (nI K) (rdF a.2.2.2.2.2.2.2.2.2.1 n.2.2.2.2.1 a.2.2.2.2.2.2.2.1 (z, i.2.2.1, i.2.2.2.2)) = true → thrR (nI N) (nI K) n.1 a.1 (rdF a.2.2.2.2.2.2.2.2.2.1 n.2.2.2.2.1 a.2.2.2.2.2.2.2.1 (z, i.2.2.1, i.2.2.2.2)) = 0 → r = some (.int (nI n.1)) ∧ isRF cB cL cI N K D W wd od (rowR a.1 n.1 (rdF a.2.2.2.2.2.2.2.2.2.1 n.2.2.2.2.1 a.2.2.2.2.2.2.2.1 (z, i.2.2.1, i.2.2.2.2)), a.2) (n.1 + 1, n.2.1, n.2.2.1, n.2.2.2.1, 0, n.2.2.2.2.2) (rsi i (rdF a.2.2.2.2.2.2.2.2.2.1 n.2.2.2.2.1 a.2.2.2.2.2.2.2.1 (z, i.2.2.1, i.2.2.2.2))) h' ∧ ∀ q, (∀ j, j < 14 → q ≠ W j) → h' q = h q) ∧ (goodR (nI N) (nI K) (rdF a.2.2.2.2.2.2.2.2.2.1 n.2.2.2.2.1 a.2.2.2.2.2.2.2.1 (z, i.2.2.1, i.2.2.2.2)) = true → ¬ thrR (nI N) (nI K) n.1 a.1 (rdF a.2.2.2.2.2.2.2.2.2.1 n.2.2.2.2.1 a.2.2.2.2.2.2.2.1 (z, i.2.2.1, i.2.2.2.2)) = 0 → r = some (.int 0) ∧ isRF cB cL cI N K D W wd od a (n.1, n.2.1, n.2.2.1, n.2.2.2.1, 0, n.2.2.2.2.2) (nI (thrR (nI N) (nI K) n.1 a.1 (rdF a.2.2.2.2.2.2.2.2.2.1 n.2.2.2.2.1 a.2.2.2.2.2.2.2.1 (z, i.2.2.1, i.2.2.2.2))), (rsi i (rdF a.2.2.2.2.2.2.2.2.2.1 n.2.2.2.2.1 a.2.2.2.2.2.2.2.1 (z, i.2.2.1, i.2.2.2.2))).2) h' ∧ ∀ q, (∀ j, j < 14 → q ≠ W j) → h' q = h q) ∧ (goodR (nI N) (nI K) (rdF a.2.2.2.2.2.2.2.2.2.1 n.2.2.2.2.1 a.2.2.2.2.2.2.2.1 (z, i.2.2.1, i.2.2.2.2)) = false → r = some (.int 0) ∧ isRF cB cL cI N K D W wd od a (n.1, n.2.1, n.2.2.1, n.2.2.2.1, 0, n.2.2.2.2.2) (1, (rsi i (rdN (rdF a.2.2.2.2.2.2.2.2.2.1 n.2.2.2.2.1 a.2.2.2.2.2.2.2.1 (z, i.2.2.1, i.2.2.2.2)))).2) h' ∧ ∀ q, (∀ j, j < 14 → q ≠ W j) → h' q = h q)) := by
  have ne : ∀ {i j : Nat}, i < 14 → j < 14 → i ≠ j → W i ≠ W j := fun hi hj n => apU_ne hW hi hj n
  have hI9 := hI
  obtain ⟨k0, ⟨k1, k2⟩, k3, k4, k5, k6, k7, k8, k9, k10, k11, k12, k13⟩ := hI
  obtain ⟨z, hz⟩ := nI_all i.2.2.2.1
  have e0 : fRF W N K D n i = fR (fRF W N K D n i) (z, i.2.2.1, i.2.2.2.2) := by
    unfold fR
    rw [← hz]
    rfl
  refine ⟨z, gC_mono (c_RF_read l g cB hcB (W 0) (W 12) n.2.2.2.2.1 hL a.2.2.2.2.2.2.2.2.2.1 (fRF W N K D n i) rfl rfl rfl cL hcL (W 10) a.2.2.2.2.2.2.2.1 rfl h k12 k10 (ne (by decide) (by decide) (by decide)) (ne (by decide) (by decide) (by decide)) cI hcI (W 3) n.1 hn (nI N) (nI K) rfl rfl rfl rfl a.1 k3 (ne (by decide) (by decide) (by decide)) (z, i.2.2.1, i.2.2.2.2) (k0.trans (by rw [← e0]))) ?_⟩
  intro r h' hq
  generalize rdF a.2.2.2.2.2.2.2.2.2.1 n.2.2.2.2.1 a.2.2.2.2.2.2.2.1 (z, i.2.2.1, i.2.2.2.2) = S at hq ⊢
  obtain ⟨q1, q2, q3⟩ := hq
  refine ⟨fun c1 c2 => ?_, fun c1 c2 => ?_, fun c1 => ?_⟩
  · obtain ⟨p1, p2⟩ := q1 c1 c2
    exact ⟨p1, rfu3 (n' := (n.1 + 1, n.2.1, n.2.2.1, n.2.2.2.1, 0, n.2.2.2.2.2)) (i' := rsi i S) hW hI9 p2⟩
  · obtain ⟨p1, p2⟩ := q2 c1 c2
    exact ⟨p1, rfu0 (n' := (n.1, n.2.1, n.2.2.1, n.2.2.2.1, 0, n.2.2.2.2.2)) (i' := (_, (rsi i S).2)) hW hI9 p2⟩
  · obtain ⟨p1, p2⟩ := q3 c1
    exact ⟨p1, rfu0 (n' := (n.1, n.2.1, n.2.2.1, n.2.2.2.1, 0, n.2.2.2.2.2)) (i' := (1, (rsi i (rdN S)).2)) hW hI9 p2⟩
