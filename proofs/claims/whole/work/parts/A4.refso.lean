-- the reference's worlds as rows of places
theorem dgL_len (N : Nat) : ∀ m v, (dgL N m v).length = m
  | 0, _ => rfl
  | m + 1, v => by
    show (dgL N m (v / N)).length + 1 = m + 1
    rw [dgL_len N m]
theorem odL_row {N q : Nat} (h : q < (odL N).length) : ((odL N).getD q []).length = N := by
  rw [List.getD_eq_getElem?_getD, List.getElem?_eq_getElem h]
  have hm : (odL N)[q] ∈ odL N := List.getElem_mem h
  obtain ⟨v, _, e⟩ := List.mem_map.mp (List.mem_filter.mp hm).1
  show ((odL N)[q]).length = N
  rw [← e, dgL_len]
theorem fwL_len {N D : Nat} (hD : D = (odL N).length) (hD0 : 0 < D) : ∀ K w, (fwL N D K w).length = N * K
  | 0, _ => rfl
  | K + 1, w => by
    show ((odL N).getD (w % D) [] ++ fwL N D K (w / D)).length = _
    rw [List.length_append, fwL_len hD hD0 K, odL_row (by rw [← hD]; exact Nat.mod_lt _ hD0), Nat.mul_succ, Nat.add_comm]
theorem fw_get {N D : Nat} (hD : D = (odL N).length) (hD0 : 0 < D) : ∀ (K w s i : Nat), s < K → i < N → (fwL N D K w).getD (N * s + i) 0 = ((odL N).getD (w / D ^ s % D) []).getD i 0
  | 0, _, s, _, h, _ => absurd h (Nat.not_lt_zero _)
  | K + 1, w, s, i, hs, hi => by
    have hl : ((odL N).getD (w % D) []).length = N := odL_row (by rw [← hD]; exact Nat.mod_lt _ hD0)
    show ((odL N).getD (w % D) [] ++ fwL N D K (w / D)).getD (N * s + i) 0 = _
    cases s with
    | zero =>
      rw [Nat.mul_zero, Nat.zero_add, Nat.pow_zero, Nat.div_one, getD_app (by rw [hl]; exact hi)]
    | succ s =>
      have e : N * (s + 1) + i = N + (N * s + i) := by rw [Nat.mul_succ]; omega
      rw [List.getD_eq_getElem?_getD, List.getElem?_append_right (by rw [hl, e]; omega), hl, e, Nat.add_sub_cancel_left, ← List.getD_eq_getElem?_getD, fw_get hD hD0 K (w / D) s i (by omega) hi, Nat.div_div_eq_div_mul, Nat.pow_succ, Nat.mul_comm D]
def odOK (N D : Nat) (od : Nat → Int32) : Prop := D = (odL N).length ∧ ∀ q i, q < D → i < N → od (5 * q + i) = nI (((odL N).getD q []).getD i 0)
theorem la_fw {N K D : Nat} {od : Nat → Int32} (hN : N ≤ 5) (hD0 : 0 < D) (ho : odOK N D od) (w : Nat) (pl : Nat → Int32) {s i : Nat} (hs : s < K) (hi : i < N) : laF N K D od w pl (5 * s + i) = nI ((fwL N D K w).getD (N * s + i) 0) := by
  have e1 : (5 * s + i) / 5 = s := by omega
  have e2 : (5 * s + i) % 5 = i := by omega
  rw [laF_eq hN, e1, e2, if_pos ⟨hs, hi⟩, ho.2 _ _ (Nat.mod_lt _ hD0) hi, fw_get ho.1 hD0 K w s i hs hi]
theorem plc_ok {N : Nat} (hN : 0 < N) : ∀ (m : Nat) (f F : List Nat), okL N f → F ∈ plc N m f → okL N F
  | 0, f, F, h, hF => by
    rw [List.mem_singleton.mp (show F ∈ [f] from hF)]
    exact h
  | m + 1, f, F, h, hF => by
    obtain ⟨p, hp, hr⟩ := List.mem_flatMap.mp (show F ∈ (List.range N).flatMap _ from hF)
    by_cases hc : (f.drop (f.length / N * N)).contains p = true
    · rw [if_pos hc] at hr
      exact absurd hr List.not_mem_nil
    · rw [if_neg hc] at hr
      refine plc_ok hN m (f ++ [p]) F (okL_snoc h (List.mem_range.mp hp) (fun j hj hd e => hc ((used_iff hN).mpr ⟨j, hj, hd, e⟩))) hr
theorem fw_ok {N D : Nat} (hN : 3 ≤ N ∧ N ≤ 5) (hD : D = (odL N).length) (hD0 : 0 < D) {K w : Nat} (hw : w < D ^ K) : okL N (fwL N D K w) := by
  have h1 : fwL N D K w ∈ (List.range (D ^ K)).map (fwL N D K) := List.mem_map.mpr ⟨w, List.mem_range.mpr hw, rfl⟩
  have h2 := (fw_plK hN hD hD0 K).mem_iff.mp h1
  have h3 := plc_K N (by omega) K [] rfl
  have h4 : fwL N D K w ∈ plc N (N * K) [] := by
    rw [h3]
    exact List.mem_map.mpr ⟨_, h2, rfl⟩
  exact plc_ok (by omega) _ _ _ okL_nil h4
/-- row k of the reference's clues is clue q -/
def rowOK (cl : Nat → Int32) (k : Nat) (q : Clue) : Prop := cl (6 * k) = nI q.1 ∧ cl (6 * k + 1) = nI q.2.1 ∧ cl (6 * k + 2) = nI q.2.2.1 ∧ cl (6 * k + 3) = nI q.2.2.2.1 ∧ cl (6 * k + 4) = nI q.2.2.2.2.1 ∧ cl (6 * k + 5) = q.2.2.2.2.2
theorem idx_t {N K i : Nat} (hN : 0 < N ∧ N ≤ 5) (hK : K ≤ 3) (hi : i < N * K) : idxF (nI (tAt N i)) = nI (5 * (i / N) + i % N) := by
  have hl := tAt_lt hN hK hi
  have hg := tAt_ge (N := N) i
  unfold idxF
  have e1 : nI (tAt N i) / 10 = nI (tAt N i / 10) := pk_div (d := 10) (by omega) (by omega) (by omega)
  have e2 : nI (tAt N i) - nI (tAt N i / 10) * 10 = nI (tAt N i % 10) := by
    rw [← e1]
    exact pk_rem (a := tAt N i) (d := 10) (by omega) (by omega) (by omega)
  have e3 : nI (tAt N i / 10) - 1 = nI (tAt N i / 10 - 1) := pk_sub (b := 1) (by omega)
  rw [e1, e2, e3, show (5 : Int32) = nI 5 from rfl, pk_mul, nI_add, (tAt_q hN i).1, (tAt_q hN i).2, Nat.add_sub_cancel]
theorem idx_lt {N K i : Nat} (hN : 0 < N ∧ N ≤ 5) (hK : K ≤ 3) (hi : i < N * K) : 5 * (i / N) + i % N < 15 := by
  have h1 := div_lt_K hN.1 hi
  have h2 := Nat.mod_lt i hN.1
  omega
theorem idx_in {N K x : Nat} (hN : 0 < N ∧ N ≤ 5) (hK : K ≤ 3) (hx : isT N K x) : vp_in (idxF (nI x)) 15 := by
  obtain ⟨i, hi, rfl⟩ := hx
  rw [idx_t hN hK hi]
  exact vp_in_nI (idx_lt hN hK hi) (by omega)
section WORLD
variable {N K D : Nat} {od pl : Nat → Int32} {w : Nat}
theorem pl_at (hN : 0 < N ∧ N ≤ 5) (hK : K ≤ 3) (hD0 : 0 < D) (ho : odOK N D od) {x : Nat} (hx : isT N K x) : laF N K D od w pl (idxF (nI x)).toNatClampNeg = nI (atL N (fwL N D K w) x) := by
  obtain ⟨i, hi, rfl⟩ := hx
  have hb := idx_lt hN hK hi
  rw [idx_t hN hK hi, nI_clamp (by omega), la_fw hN.2 hD0 ho w pl (div_lt_K hN.1 hi) (Nat.mod_lt _ hN.1), atL_t hN, Nat.div_add_mod]
theorem atF_at (hN : 0 < N ∧ N ≤ 5) (hK : K ≤ 3) (hD0 : 0 < D) (ho : odOK N D od) {x : Nat} (hx : isT N K x ∨ x = 0) : atF (laF N K D od w pl) (nI x) = nI (atL N (fwL N D K w) x) := by
  unfold atF
  rcases hx with hx | hx
  · rw [if_neg, pl_at hN hK hD0 ho hx]
    obtain ⟨i, hi, rfl⟩ := hx
    have hl := tAt_lt hN hK hi
    have hg := tAt_ge (N := N) i
    exact nI_ne0 (by omega) (by omega)
  · rw [hx, if_pos nI_0]
    rfl
theorem stG_at (pl : Nat → Int32) (b : Nat) (p : Int32) : ∀ (m i j : Nat), i ≤ j → j < i + m → pl (b + j) = p → (∀ t, i ≤ t → t < j → ¬ pl (b + t) = p) → stG pl b p m i = j
  | 0, i, j, h1, h2, _, _ => by omega
  | m + 1, i, j, h1, h2, h3, h4 => by
    unfold stG
    by_cases e : i = j
    · rw [e, if_pos h3]
    · rw [if_neg (h4 i (Nat.le_refl _) (by omega))]
      exact stG_at pl b p m (i + 1) j (by omega) (by omega) h3 (fun t a c => h4 t (by omega) c)
theorem st_idx (hN : 3 ≤ N ∧ N ≤ 5) (hD0 : 0 < D) (ho : odOK N D od) (hw : w < D ^ K) {q p : Nat} (hq : q < K) (hp : p < N) : stN (laF N K D od w pl) q (nI p) = (sgL N (fwL N D K w) (q + 1)).idxOf p ∧ (∃ i, i < 5 ∧ laF N K D od w pl (5 * q + i) = nI p) := by
  have hok := fw_ok hN ho.1 hD0 hw
  have hlen := fwL_len ho.1 hD0 K w
  have hfull : N * (q + 1) ≤ (fwL N D K w).length := by
    rw [hlen]
    exact Nat.mul_le_mul_left N hq
  obtain ⟨i, hi, e⟩ := okL_all (by omega) hok hfull hp
  have h1 := sg_idx (by omega) hok hfull hi
  rw [e] at h1
  rw [h1]
  have e2 : laF N K D od w pl (5 * q + i) = nI p := by rw [la_fw hN.2 hD0 ho w pl hq hi, e]
  refine ⟨?_, i, by omega, e2⟩
  refine stG_at _ _ _ 5 0 i (by omega) (by omega) e2 (fun t _ ht => ?_)
  rw [la_fw hN.2 hD0 ho w pl hq (by omega)]
  intro e3
  have hb := hok.1 (N * q + t) (by rw [Nat.mul_succ] at hfull; omega)
  have e4 := (nI_eq (by omega) (by omega)).mp e3
  have hdv : ∀ i, i < N → (N * q + i) / N = q := fun i hi => by rw [Nat.mul_add_div (by omega), Nat.div_eq_of_lt hi, Nat.add_zero]
  exact hok.2 (N * q + t) (N * q + i) (by omega) (by rw [Nat.mul_succ] at hfull; omega) (by rw [hdv t (by omega), hdv i hi]) (by rw [e4, e])
theorem at_lt (hN : 3 ≤ N ∧ N ≤ 5) (hK : K ≤ 3) (hD0 : 0 < D) (ho : odOK N D od) (hw : w < D ^ K) {x : Nat} (hx : isT N K x) : atL N (fwL N D K w) x < N := by
  obtain ⟨i, hi, rfl⟩ := hx
  rw [atL_t ⟨by omega, hN.2⟩]
  exact (fw_ok hN ho.1 hD0 hw).1 i (by rw [fwL_len ho.1 hD0]; exact hi)
/-- what a clue says in a world of the reference -/
theorem iso_so (hN : 3 ≤ N ∧ N ≤ 5) (hK : K ≤ 3) (hD0 : 0 < D) (ho : odOK N D od) (hw : w < D ^ K) {cl : Nat → Int32} {k : Nat} {q : Clue} (hr : rowOK cl k q) (hq : okQ N K q) : isoF cl (laF N K D od w pl) k = soN N (fwL N D K w) q ∧ okC cl (laF N K D od w pl) k := by
  have hN0 : 0 < N ∧ N ≤ 5 := ⟨by omega, hN.2⟩
  have rg := okQ_rng hN0 hK hq
  obtain ⟨r1, r2, r3, r4, r5, r6⟩ := hr
  obtain ⟨h1, hx, h3, h4, h5, h6⟩ := hq
  obtain ⟨g1, g2, g3, g4, g5, g6⟩ := rg
  have ty : isT N K q.2.2.1 ∨ q.2.2.1 = 0 := by
    split at h3
    · exact Or.inr h3
    · exact Or.inl h3.1
  have tz : isT N K q.2.2.2.1 ∨ q.2.2.2.1 = 0 := by
    split at h4
    · exact Or.inl h4.1
    · exact Or.inr h4
  have kn : q.1 = 9 ↔ nI q.1 = (9 : Int32) := ⟨fun e => by rw [e]; rfl, fun e => (nI_eq (a := q.1) (b := 9) (by omega) (by omega)).mp e⟩
  have v15 : ∀ x, (isT N K x ∨ x = 0) → ¬ nI x = 0 → vp_in (idxF (nI x)) 15 := by
    intro x hx h0
    rcases hx with hx | hx
    · exact idx_in hN0 hK hx
    · rw [hx] at h0
      exact absurd rfl h0
  have d9 : q.1 = 9 → ∃ d, q.2.2.2.2.1 = d + 1 ∧ d < K := by
    intro k9
    unfold dOK at h5
    rw [if_neg (by omega), if_neg (by omega), if_pos k9] at h5
    exact ⟨q.2.2.2.2.1 - 1, by omega, by omega⟩
  constructor
  · unfold isoF
    rw [r1, r2, r3, r4, r5, pl_at hN0 hK hD0 ho hx, atF_at hN0 hK hD0 ho ty, atF_at hN0 hK hD0 ho tz]
    unfold sayF soN
    by_cases k9 : q.1 = 9
    · rw [if_pos (kn.mp k9), if_pos k9]
      obtain ⟨d, hd, hdK⟩ := d9 k9
      rw [if_neg (by omega)] at h3
      rw [hd, nI_clamp (by omega), Nat.add_sub_cancel, (st_idx hN hD0 ho hw hdK (at_lt hN hK hD0 ho hw hx)).1, (st_idx hN hD0 ho hw hdK (at_lt hN hK hD0 ho hw h3.1)).1]
    · rw [if_neg (fun e => k9 (kn.mpr e)), if_neg k9]
  · refine ⟨?_, ?_, ?_, ?_, ?_⟩
    · rw [r1]
      exact ⟨nI_pos (by omega), (nI_leI (b := 9) (by omega) (by omega)).mpr (by omega)⟩
    · rw [r2]
      exact idx_in hN0 hK hx
    · rw [r3]
      exact v15 _ ty
    · rw [r4]
      exact v15 _ tz
    · rw [r1, r5, r2, r3, pl_at hN0 hK hD0 ho hx, atF_at hN0 hK hD0 ho ty]
      intro k9
      have k9 := kn.mpr k9
      obtain ⟨d, hd, hdK⟩ := d9 k9
      rw [if_neg (by omega)] at h3
      exact ⟨d, by omega, by rw [hd], (st_idx hN hD0 ho hw hdK (at_lt hN hK hD0 ho hw hx)).2, (st_idx hN hD0 ho hw hdK (at_lt hN hK hD0 ho hw h3.1)).2⟩
end WORLD
section BOTH
variable {N K D n : Nat} {Q : Nat → Clue} {cs cl od pl : Nat → Int32} {sk : Int32}
/-- the clues that are heard: all but the one that is skipped -/
theorem due_mem (hN : 0 < N ∧ N ≤ 5) (hK : K ≤ 3) (hcs : ∀ k, k < n → cs k = cdC (Q k)) (hQ : ∀ k, k < n → okQ N K (Q k)) {k : Nat} : k ∈ (List.range' 0 (N * K)).flatMap (dueI (dueS (nI N) cs sk) n) ↔ k < n ∧ ¬ nI k = sk := by
  have hb : N * K ≤ 15 := Nat.mul_le_mul hN.2 hK
  rw [List.mem_flatMap]
  constructor
  · rintro ⟨i, hi, hk⟩
    obtain ⟨h1, h2⟩ := dueI_mem.mp hk
    refine ⟨h1, fun e => ?_⟩
    unfold dueS at h2
    rw [if_pos e] at h2
    have hi2 : i < N * K := by
      have := List.mem_range'_1.mp hi
      omega
    have h3 : (nI i).toInt = -1 := by rw [← h2]; rfl
    rw [nI_toInt (by omega)] at h3
    omega
  · rintro ⟨h1, h2⟩
    obtain ⟨j, hj, hd, _⟩ := due_ok hN hK (hQ k h1)
    refine ⟨j, List.mem_range'_1.mpr ⟨Nat.zero_le _, by omega⟩, dueI_mem.mpr ⟨h1, ?_⟩⟩
    unfold dueS
    rw [if_neg h2, hcs k h1]
    exact hd
theorem due_dl (hN : 0 < N ∧ N ≤ 5) (hK : K ≤ 3) (hcs : ∀ k, k < n → cs k = cdC (Q k)) (hQ : ∀ k, k < n → okQ N K (Q k)) (i k : Nat) (hk : k ∈ dueI (dueS (nI N) cs sk) n i) (hi : i < 2 ^ 31) : k < n ∧ dueN N (i + 1) (Q k) := by
  have hb : N * K ≤ 15 := Nat.mul_le_mul hN.2 hK
  obtain ⟨h1, h2⟩ := dueI_mem.mp hk
  obtain ⟨j, hj, hd, hdn⟩ := due_ok hN hK (hQ k h1)
  refine ⟨h1, ?_⟩
  unfold dueS at h2
  by_cases e : nI k = sk
  · rw [if_pos e] at h2
    have : (nI i).toInt = -1 := by rw [← h2]; rfl
    rw [nI_toInt hi] at this
    omega
  · rw [if_neg e, hcs k h1] at h2
    have e : j = i := (nI_eq (by omega) hi).mp (by rw [← hd, h2])
    rw [e] at hdn
    exact hdn
/-- what the speakers may be in a world: the reference hears what the seeker hears -/
def hcF (N K n : Nat) (Q : Nat → Clue) (cs : Nat → Int32) (sk : Int32) (F : List Nat) : Int32 := hearB (hqL N Q F ((List.range' 0 (N * K)).flatMap (dueI (dueS (nI N) cs sk) n))) 15
theorem sp_hc (hN : 3 ≤ N ∧ N ≤ 5) (hK : K ≤ 3) (hD0 : 0 < D) (ho : odOK N D od) (hcs : ∀ k, k < n → cs k = cdC (Q k)) (hQ : ∀ k, k < n → okQ N K (Q k)) (hcl : ∀ k, k < n → rowOK cl k (Q k)) {w : Nat} (hw : w < D ^ K) : spW N K D n od cl pl sk w = hcF N K n Q cs sk (fwL N D K w) := by
  have hN0 : 0 < N ∧ N ≤ 5 := ⟨by omega, hN.2⟩
  unfold spW hcF
  have s1 : ∀ c ∈ refL cl (laF N K D od w pl) sk n 0, spOK c := by
    intro c hc
    obtain ⟨j, _, h2, _, h4⟩ := (refL_mem _ _ _ _ _ _).mp hc
    rw [h4]
    show cl (6 * j + 5) = -1 ∨ _
    rw [(hcl j (by omega)).2.2.2.2.2]
    exact (hQ j (by omega)).2.2.2.2.2
  have s2 : ∀ c ∈ hqL N Q (fwL N D K w) ((List.range' 0 (N * K)).flatMap (dueI (dueS (nI N) cs sk) n)), spOK c := by
    intro c hc
    obtain ⟨k, h1, h2⟩ := List.mem_map.mp hc
    rw [← h2]
    exact (hQ k ((due_mem hN0 hK hcs hQ).mp h1).1).2.2.2.2.2
  rw [spk_15 cl _ sk n s1, hear_15 _ s2]
  refine resL_eq fun c => ?_
  rw [refL_mem]
  constructor
  · rintro ⟨j, _, h2, h3, h4⟩
    refine List.mem_map.mpr ⟨j, (due_mem hN0 hK hcs hQ).mpr ⟨by omega, h3⟩, ?_⟩
    rw [h4, (iso_so hN hK hD0 ho hw (hcl j (by omega)) (hQ j (by omega))).1, (hcl j (by omega)).2.2.2.2.2]
  · intro hc
    obtain ⟨k, h1, h2⟩ := List.mem_map.mp hc
    obtain ⟨h3, h4⟩ := (due_mem hN0 hK hcs hQ).mp h1
    refine ⟨k, by omega, by omega, h4, ?_⟩
    rw [← h2, (iso_so hN hK hD0 ho hw (hcl k h3) (hQ k h3)).1, (hcl k h3).2.2.2.2.2]
/-- the worlds of the reference that are answers -/
def rwL2 (N K D : Nat) (f : Nat → Int32) : List (List Nat × Int32) := (List.range (D ^ K)).filterMap (fun w => if f w = 0 then none else some (fwL N D K w, f w))
theorem fmap_congr {α β : Type} {l : List α} {f g : α → Option β} (h : ∀ a ∈ l, f a = g a) : l.filterMap f = l.filterMap g := by
  induction l with
  | nil => rfl
  | cons a l ih => rw [List.filterMap_cons, List.filterMap_cons, h a List.mem_cons_self, ih (fun b hb => h b (List.mem_cons_of_mem _ hb))]
/-- the leaves of the search are the reference's answers, in another order -/
theorem leaves_perm (hN : 3 ≤ N ∧ N ≤ 5) (hK : K ≤ 3) (hD0 : 0 < D) (ho : odOK N D od) (hcs : ∀ k, k < n → cs k = cdC (Q k)) (hQ : ∀ k, k < n → okQ N K (Q k)) (hcl : ∀ k, k < n → rowOK cl k (Q k)) : (lvL N Q (dueI (dueS (nI N) cs sk) n) (N * K) [] 15).Perm (rwL2 N K D (spW N K D n od cl pl sk)) := by
  have hN0 : 0 < N ∧ N ≤ 5 := ⟨by omega, hN.2⟩
  have hb : N * K ≤ 15 := Nat.mul_le_mul hN.2 hK
  -- beyond the last thing nothing is due
  have hdl : ∀ i k, k ∈ (fun i => if i < N * K then dueI (dueS (nI N) cs sk) n i else []) i → k < n ∧ dueN N (i + 1) (Q k) := by
    intro i k hk
    by_cases hi : i < N * K
    · have hk : k ∈ (if i < N * K then dueI (dueS (nI N) cs sk) n i else []) := hk
      rw [if_pos hi] at hk
      exact due_dl hN0 hK hcs hQ i k hk (by omega)
    · have hk : k ∈ (if i < N * K then dueI (dueS (nI N) cs sk) n i else []) := hk
      rw [if_neg hi] at hk
      exact absurd hk List.not_mem_nil
  have lcong : ∀ (m : Nat) (f : List Nat) (left : Int32), f.length + m = N * K → lvL N Q (dueI (dueS (nI N) cs sk) n) m f left = lvL N Q (fun i => if i < N * K then dueI (dueS (nI N) cs sk) n i else []) m f left := by
    intro m
    induction m with
    | zero => intro f left _; rfl
    | succ m ih =>
      intro f left hm
      show (List.range N).flatMap _ = (List.range N).flatMap _
      refine fm_congr fun p _ => ?_
      have e : (if f.length < N * K then dueI (dueS (nI N) cs sk) n f.length else []) = dueI (dueS (nI N) cs sk) n f.length := if_pos (by omega)
      show (if _ then [] else if _ then [] else _) = (if _ then [] else if hearB (hqL N Q (f ++ [p]) (if f.length < N * K then dueI (dueS (nI N) cs sk) n f.length else [])) left = 0 then [] else lvL N Q _ m (f ++ [p]) (hearB (hqL N Q (f ++ [p]) (if f.length < N * K then dueI (dueS (nI N) cs sk) n f.length else [])) left))
      rw [e, ih (f ++ [p]) _ (by rw [List.length_append, List.length_singleton]; omega)]
  rw [lcong (N * K) [] 15 (by rw [List.length_nil, Nat.zero_add]), lv_plc hN0 hK hQ _ hdl (N * K) [] 15 (by decide)]
  have e0 : (List.range' ([] : List Nat).length (N * K)).flatMap (fun i => if i < N * K then dueI (dueS (nI N) cs sk) n i else []) = (List.range' 0 (N * K)).flatMap (dueI (dueS (nI N) cs sk) n) := by
    refine fm_congr fun i hi => ?_
    have := List.mem_range'_1.mp hi
    exact if_pos (by have := this.2; rw [List.length_nil] at this; omega)
  rw [e0, plc_K N hN0.1 K [] rfl]
  have e1 : (plK N K).map (fun b => ([] : List Nat) ++ b) = plK N K := by
    conv => rhs; rw [← List.map_id (plK N K)]
    rfl
  rw [e1]
  refine (List.Perm.filterMap _ (fw_plK hN ho.1 hD0 K).symm).trans ?_
  rw [List.filterMap_map]
  unfold rwL2
  rw [fmap_congr (l := List.range (D ^ K)) (g := fun w => if spW N K D n od cl pl sk w = 0 then none else some (fwL N D K w, spW N K D n od cl pl sk w))]
  intro w hw
  rw [sp_hc hN hK hD0 ho hcs hQ hcl (List.mem_range.mp hw)]
  rfl
end BOTH
