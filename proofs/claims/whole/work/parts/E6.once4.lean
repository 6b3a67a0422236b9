-- the reference's once, whole
theorem oo_lt {N K : Nat} {st : (Nat → Int32) × Nat} (h : st.2 < 2147483647) : (ooF N K st).2 < 2147483647 := fold_rel (fun (s : (Nat → Int32) × Nat) (_ : Nat) => s.2 < 2147483647) (ooS N) (fun b _ => b) (segF id K 0) st 0 h (fun s b q _ h => fold_rel (fun (s : (Nat → Int32) × Nat) (_ : Nat) => s.2 < 2147483647) (osF q) (fun b _ => b) (dnL (N - 1)) ((segF id N 0).foldl (oiI q) s.1, s.2) b h (fun s b k _ _ => drN_lt _))
theorem rmx_lt {n : Nat} {st : (Nat → Int32) × Nat} (h : st.2 < 2147483647) : (rmxF n st).2 < 2147483647 := fold_rel (fun (s : (Nat → Int32) × Nat) (_ : Nat) => s.2 < 2147483647) rmS (fun b _ => b) (dnL (n - 1)) st 0 h (fun s b k _ _ => drN_lt _)
/-- what the reference's pool is, on its side alone -/
theorem pool_r {N K : Nat} (hNK : okNK N K) (pl po : Nat → Int32) (v : Nat) : ∃ (Q : Nat → Clue) (m : Nat), m ≤ 303 ∧ (poolR N K pl po v).2.2.1 = m ∧ ∀ k, k < m → cel5 (poolR N K pl po v).2.1 k (Q k) ∧ okQ N K (Q k) ∧ (Q k).2.2.2.2.2 = -1 := by
  obtain ⟨Q, m, hm, p1, p2, p3, p4⟩ := pool_both hNK (zeR, zeR, 0, v) pl po
  exact ⟨Q, m, hm, p2, fun k hk => (p4 k hk).2⟩
/-- a time of the reference leaves clues as told -/
theorem once_rows {N K D : Nat} {od : Nat → Int32} (hNK : okNK N K) (ho : ordsQ N K D od) (pl po cl : Nat → Int32) (v : Nat) : ∃ (Q : Nat → Clue) (n : Nat), n ≤ 24 ∧ (onceR N K D od pl po cl v).2.1 = n ∧ rowsQ N K n Q (onceR N K D od pl po cl v).2.2 := by
  obtain ⟨Q, n, hn, q1, q2, q3, hB⟩ := once_both (D := D) (od := od) hNK ho (zeR, zeR, 0, v) zeR pl po cl
  exact ⟨Q, n, hn, q2, (both_un hB).2.2⟩
set_option maxRecDepth 100000 in
set_option maxHeartbeats 4000000 in
theorem c_RF_once (l : Launch) (g : gG) (cI : ClassId) (hcI : (cI, FieldType.int) ∈ g.2.1) (o pA qA cA oA N K D : Nat) (hNK : okNK N K) (hD : D ≤ 120) (fs : List Value) (f2 : fs[2]? = some (.int (nI N))) (f3 : fs[3]? = some (.int (nI K))) (f4 : fs[4]? = some (.int (nI D))) (f5 : fs[5]? = some (.ref oA)) (f8 : fs[8]? = some (.ref cA)) (f10 : fs[10]? = some (.ref pA)) (f25 : fs[25]? = some (.ref qA)) (hap : ap4 o pA qA cA) (h0 : gH) (od : Nat → Int32) (ho : ordsQ N K D od) (hod : h0 oA = some (.inl (cI, 600, .inl od))) (y1 : oA ≠ o) (y2 : oA ≠ pA) (y3 : oA ≠ qA) (y4 : oA ≠ cA) (pl po cl : Nat → Int32) (cnt v n : Nat) (hv : v < 2147483647) (h : gH) (hI : onI cI o pA qA cA fs h0 (pl, po, cl, cnt, v, n) h) : gC l g mRF_once (gr 6) [.ref o] h (fun r h' => r = none ∧ ∃ pl', onI cI o pA qA cA fs h0 (pl', (onceR N K D od pl po cl v).1.2.1, (onceR N K D od pl po cl v).2.2, (onceR N K D od pl po cl v).1.2.2.1, (onceR N K D od pl po cl v).1.2.2.2, (onceR N K D od pl po cl v).2.1) h') := by
  have hN : 1 ≤ N ∧ N ≤ 5 := ⟨by have := hNK.1; omega, hNK.2.1⟩
  have hK : 1 ≤ K ∧ K ≤ 3 := ⟨hNK.2.2.1, hNK.2.2.2.1⟩
  obtain ⟨Q, m, hm, p2, p4⟩ := pool_r hNK pl po v
  have hg : (gathF N K (ooF N K (pl, v)).1 po).2 = m := p2
  have hv1 : (ooF N K (pl, v)).2 < 2147483647 := oo_lt hv
  have hr : rowsQ N K (min m 24) Q (takR (poolR N K pl po v) cl).2 := by
    refine ⟨fun k hk => ?_, fun k hk => (p4 k (by omega)).2.1⟩
    show rowOK ((List.range (min (poolR N K pl po v).2.2.1 24)).foldl (putP (poolR N K pl po v).2.1) cl) k (Q k)
    rw [p2]
    exact put_rows _ _ (fun k hk => ⟨(p4 k (by omega)).1, (p4 k (by omega)).2.2⟩) k hk
  refine gC_of (lv0 := [some (.ref o), none, none, none, none]) (by decide +kernel) (Nat.le_of_ble_eq_true rfl) (fun q hq => hq) ⟨rfl, rfl⟩ ?_
  refine on_world l g cI hcI o pA qA cA N K hN hK.2 fs f2 f3 f10 hap h h0 _ po cl cnt n pl v hv (fun h1 hI1 => ?_) h hI
  refine on_gath l g cI hcI o pA qA cA N K hN hK fs f2 f3 f10 f25 hap h h0 _ _ po cl cnt _ n (by rw [hg]; omega) (fun h2 hI2 => ?_) h1 hI1
  refine on_mix l g cI hcI o pA qA cA fs f25 hap h h0 _ _ _ cl _ _ n (by rw [hg]; omega) hv1 (fun h3 hI3 => ?_) h2 hI2
  refine on_take l g cI hcI o pA qA cA fs f8 f25 hap h h0 _ _ _ cl _ _ n (by rw [hg]; omega) (fun h4 hI4 => ?_) h3 hI3
  have e1 : min (gathF N K (ooF N K (pl, v)).1 po).2 24 = min m 24 := by rw [hg]
  have key := on_thin l g cI hcI o pA qA cA oA N K D hD fs f2 f3 f4 f5 f8 f10 hap h h0 od (poolR N K pl po v).2.1 ho hod y1 y2 y3 y4 (poolR N K pl po v).2.2.1 (poolR N K pl po v).2.2.2 (poolR N K pl po v).1 (takR (poolR N K pl po v) cl).2 (min m 24) (by omega) Q hr h4 (by rw [← e1]; exact hI4)
  have e2 : takR (poolR N K pl po v) cl = (min m 24, (takR (poolR N K pl po v) cl).2) := by
    rw [← e1]
    rfl
  have e3 : (onceR N K D od pl po cl v).2 = thinR N K D od (min m 24, (takR (poolR N K pl po v) cl).2) := by
    rw [← e2]
    rfl
  rw [← e3] at key
  exact key
