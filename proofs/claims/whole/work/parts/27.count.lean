-- needs 10 11 12 13 14 15 16 17 18 18b 18c 19 20 21 22 23 24 25 26
theorem plF_cong (N : Nat) (lim mp wat : Int32) (l1 l2 : Nat → List Int32) : ∀ (m i : Nat) (sp : Int32) (s : WS), (∀ j, j < i + m → l1 j = l2 j) → plF N lim mp wat l1 m i sp s = plF N lim mp wat l2 m i sp s
  | 0, _, _, _, _ => rfl
  | m + 1, i, sp, s, h => by
    show (segF id N 0).foldl (plStep N (l1 i) (plF N lim mp wat l1 m (i + 1)) i sp) s = (segF id N 0).foldl (plStep N (l2 i) (plF N lim mp wat l2 m (i + 1)) i sp) s
    rw [h i (by omega)]
    congr 2
    funext sp2 s2
    exact plF_cong N lim mp wat l1 l2 m (i + 1) sp2 s2 (fun j hj => h j (by omega))
def plRun (N K n : Nat) (cs : Nat → Int32) (sk lim mp wat : Int32) (pa pw pt : Nat → Int32) : WS := plF N lim mp wat (fun i => (dueI (dueS (nI N) cs sk) n i).map cs) (N * K) 0 15 (pa, pw, pt, 0, 0, 0, 0)
/-- what holds of the seeker between its calls, at the addresses A 0 .. A 6 -/
def isWO (cI : ClassId) (N K : Nat) (A : Nat → Nat) (h : gH) : Prop := ∃ (lim mp wat : Int32) (c : WC) (pa pw pt qv dv sv : Nat → Int32), h (A 0) = some (.inr (4, fWO (nI N) (nI (N * K)) (A 1) (A 2) (A 3) (A 4) (A 5) (A 6) lim mp wat c)) ∧ h (A 1) = some (.inl (cI, 40, .inl pa)) ∧ h (A 2) = some (.inl (cI, 40, .inl pw)) ∧ h (A 3) = some (.inl (cI, 4, .inl pt)) ∧ h (A 4) = some (.inl (cI, 30, .inl qv)) ∧ h (A 5) = some (.inl (cI, 30, .inl dv)) ∧ h (A 6) = some (.inl (cI, 40, .inl sv)) ∧ InvA pa ∧ (∀ j, pt j = 0) ∧ ∀ j, okc (qv j)
def apW (A : Nat → Nat) : Prop := ∀ i j : Nat, i < 7 → j < 7 → A i = A j → i = j
/-- a list of clues -/
def isCL (cI : ClassId) (cl cc n : Nat) (cs : Nat → Int32) (h : gH) : Prop := h cl = some (.inr (0, [.ref cc, .int (nI n)])) ∧ h cc = some (.inl (cI, 30, .inl cs)) ∧ n ≤ 30 ∧ ∀ j, okc (cs j)
/-- the search keeps the row of taken places -/
theorem plF_pt (N : Nat) (lim mp wat : Int32) (ls : Nat → List Int32) (hN : N ≤ 5) : ∀ (m i : Nat) (sp : Int32) (s : WS), (plF N lim mp wat ls m i sp s).2.2.1 = s.2.2.1 := by
  intro m
  induction m with
  | zero => exact fun i sp s => rfl
  | succ m ih =>
    intro i sp s
    have key : ∀ (k p : Nat) (s : WS), p + k = N → ((segF id k p).foldl (plStep N (ls i) (plF N lim mp wat ls m (i + 1)) i sp) s).2.2.1 = s.2.2.1 := by
      intro k
      induction k with
      | zero => exact fun p s _ => rfl
      | succ k ih2 =>
        intro p s hp
        refine (ih2 (p + 1) _ (by omega)).trans ?_
        show (plStep N (ls i) (plF N lim mp wat ls m (i + 1)) i sp s p).2.2.1 = s.2.2.1
        unfold plStep
        split
        · rfl
        · split
          · rfl
          · rename_i h1 h2
            split
            · rfl
            · have h3 := ih (i + 1) (hearF (plSet N i p s).1 (plSet N i p s).2.1 (ls i) sp) (plTk N i (fun x => x ||| bitF p) (plSet N i p s))
              show upd _ _ _ = _
              rw [h3]
              funext j
              unfold upd
              split
              · rename_i hj
                subst hj
                show (upd s.2.2.1 (i / N + 1) _ (i / N + 1)) &&& _ = _
                rw [show upd s.2.2.1 (i / N + 1) ((plSet N i p s).2.2.1 (i / N + 1) ||| bitF p) (i / N + 1) = s.2.2.1 (i / N + 1) ||| bitF p from if_pos rfl]
                exact bit_off (by omega) (Classical.not_not.mp h2)
              · rename_i hj
                show upd s.2.2.1 (i / N + 1) _ j = _
                exact if_neg hj
    exact key N 0 s (by omega)
theorem ap_ne {A : Nat → Nat} (hA : apW A) {i j : Nat} (hi : i < 7) (hj : j < 7) (hn : i ≠ j) : A i ≠ A j := fun e => hn (hA i j hi hj e)
set_option maxRecDepth 100000 in
set_option maxHeartbeats 4000000 in
/-- what the three questions have in common: behind the making ready, the search from the first thing on -/
theorem wo_search (l : Launch) (g : gG) (cI : ClassId) (hcI : (cI, FieldType.int) ∈ g.2.1) (A : Nat → Nat) (hA : apW A) (N K n : Nat) (hN : 0 < N ∧ N ≤ 5) (hK : K ≤ 3) (hn : n ≤ 30) (cs qv dv sv pa pw pt : Nat → Int32) (sk lim mp wat : Int32) (hw : ¬ wat < 10 → vp_in wat 40) (h : gH) (O : va_E)
    (x1 : h (A 1) = some (.inl (cI, 40, .inl pa))) (x2 : h (A 2) = some (.inl (cI, 40, .inl pw))) (x3 : h (A 3) = some (.inl (cI, 4, .inl pt))) (hp : InvA pa) (hqd : queued n (N * K) (dueS (nI N) cs sk) cs qv sv) (hok : ∀ j, okc (qv j)) (hO : O = .inr (4, fWO (nI N) (nI (N * K)) (A 1) (A 2) (A 3) (A 4) (A 5) (A 6) lim mp wat (0, 0, 0, 0))) :
    gC l g mWO_placeFrom (gr (N * K + 2)) [.ref (A 0), .int 0, .int 15] (gh4 (A 5) (A 4) (A 6) (A 0) (.inl (cI, 30, .inl dv)) (.inl (cI, 30, .inl qv)) (.inl (cI, 40, .inl sv)) O h) (fun r h' => r = none ∧ h' = hWO cI (A 0) (A 1) (A 2) (A 3) (fWO (nI N) (nI (N * K)) (A 1) (A 2) (A 3) (A 4) (A 5) (A 6) lim mp wat) (plRun N K n cs sk lim mp wat pa pw pt) (gh4 (A 5) (A 4) (A 6) (A 0) (.inl (cI, 30, .inl dv)) (.inl (cI, 30, .inl qv)) (.inl (cI, 40, .inl sv)) O h)) := by
  have ne := @ap_ne A hA
  have d4 : ap4 (A 5) (A 4) (A 6) (A 0) := ⟨ne (by omega) (by omega) (by omega), ne (by omega) (by omega) (by omega), ne (by omega) (by omega) (by omega), ne (by omega) (by omega) (by omega), ne (by omega) (by omega) (by omega), ne (by omega) (by omega) (by omega)⟩
  have da : apart4 (A 0) (A 1) (A 2) (A 3) := ⟨ne (by omega) (by omega) (by omega), ne (by omega) (by omega) (by omega), ne (by omega) (by omega) (by omega), ne (by omega) (by omega) (by omega), ne (by omega) (by omega) (by omega), ne (by omega) (by omega) (by omega)⟩
  have gx : ∀ i, i < 7 → i ≠ 0 → i ≠ 4 → i ≠ 5 → i ≠ 6 → gh4 (A 5) (A 4) (A 6) (A 0) (.inl (cI, 30, .inl dv)) (.inl (cI, 30, .inl qv)) (.inl (cI, 40, .inl sv)) O h (A i) = h (A i) := fun i hi i0 i4 i5 i6 => gh4_x (ne hi (by omega) i5) (ne hi (by omega) i4) (ne hi (by omega) i6) (ne hi (by omega) i0)
  have hid : gh4 (A 5) (A 4) (A 6) (A 0) (.inl (cI, 30, .inl dv)) (.inl (cI, 30, .inl qv)) (.inl (cI, 40, .inl sv)) O h = hWO cI (A 0) (A 1) (A 2) (A 3) (fWO (nI N) (nI (N * K)) (A 1) (A 2) (A 3) (A 4) (A 5) (A 6) lim mp wat) (pa, pw, pt, 0, 0, 0, 0) (gh4 (A 5) (A 4) (A 6) (A 0) (.inl (cI, 30, .inl dv)) (.inl (cI, 30, .inl qv)) (.inl (cI, 40, .inl sv)) O h) := by
    unfold hWO
    rw [gup_id ((gx 1 (by omega) (by omega) (by omega) (by omega) (by omega)).trans x1), gup_id ((gx 2 (by omega) (by omega) (by omega) (by omega) (by omega)).trans x2), gup_id ((gx 3 (by omega) (by omega) (by omega) (by omega) (by omega)).trans x3), gup_id]
    rw [gh4_g3 d4, hO]
  have hMb : N * K ≤ 15 := Nat.mul_le_mul hN.2 hK
  have hC := c_WO_placeFrom l g cI hcI (A 0) (A 1) (A 2) (A 3) (A 4) (A 5) (A 6) da N K (N * K) hN rfl hK lim mp wat hw qv sv (szF (dueS (nI N) cs sk) n) hqd.1 hqd.2.1 (fun i hi => Nat.le_trans (hqd.2.2.1 i hi) hn) hok (gh4 (A 5) (A 4) (A 6) (A 0) (.inl (cI, 30, .inl dv)) (.inl (cI, 30, .inl qv)) (.inl (cI, 40, .inl sv)) O h) (gh4_g1 d4) (gh4_g2 d4) (ne (by omega) (by omega) (by omega)) (ne (by omega) (by omega) (by omega)) (ne (by omega) (by omega) (by omega)) (ne (by omega) (by omega) (by omega)) (ne (by omega) (by omega) (by omega)) (ne (by omega) (by omega) (by omega)) (ne (by omega) (by omega) (by omega)) (ne (by omega) (by omega) (by omega)) (N * K) 0 15 (pa, pw, pt, 0, 0, 0, 0) (by omega) hp
  rw [← hid, nI_0] at hC
  rw [plF_cong N lim mp wat _ (fun i => (dueI (dueS (nI N) cs sk) n i).map cs) (N * K) 0 15 _ (fun j hj => hqd.2.2.2 j (by omega))] at hC
  exact hC
/-- behind a search the seeker is as before -/
theorem wo_after {cI : ClassId} {A : Nat → Nat} (hA : apW A) {N K n : Nat} (hN : N ≤ 5) {cs qv dv sv pa pw pt : Nat → Int32} {sk lim mp wat : Int32} {h : gH} {O : va_E} (hp : InvA pa) (hpt : ∀ j, pt j = 0) (hok : ∀ j, okc (qv j)) :
    isWO cI N K A (hWO cI (A 0) (A 1) (A 2) (A 3) (fWO (nI N) (nI (N * K)) (A 1) (A 2) (A 3) (A 4) (A 5) (A 6) lim mp wat) (plRun N K n cs sk lim mp wat pa pw pt) (gh4 (A 5) (A 4) (A 6) (A 0) (.inl (cI, 30, .inl dv)) (.inl (cI, 30, .inl qv)) (.inl (cI, 40, .inl sv)) O h)) ∧ ∀ q, (∀ i, i < 7 → q ≠ A i) → hWO cI (A 0) (A 1) (A 2) (A 3) (fWO (nI N) (nI (N * K)) (A 1) (A 2) (A 3) (A 4) (A 5) (A 6) lim mp wat) (plRun N K n cs sk lim mp wat pa pw pt) (gh4 (A 5) (A 4) (A 6) (A 0) (.inl (cI, 30, .inl dv)) (.inl (cI, 30, .inl qv)) (.inl (cI, 40, .inl sv)) O h) q = h q := by
  have ne := @ap_ne A hA
  have d4 : ap4 (A 5) (A 4) (A 6) (A 0) := ⟨ne (by omega) (by omega) (by omega), ne (by omega) (by omega) (by omega), ne (by omega) (by omega) (by omega), ne (by omega) (by omega) (by omega), ne (by omega) (by omega) (by omega), ne (by omega) (by omega) (by omega)⟩
  have da : apart4 (A 0) (A 1) (A 2) (A 3) := ⟨ne (by omega) (by omega) (by omega), ne (by omega) (by omega) (by omega), ne (by omega) (by omega) (by omega), ne (by omega) (by omega) (by omega), ne (by omega) (by omega) (by omega), ne (by omega) (by omega) (by omega)⟩
  refine ⟨⟨lim, mp, wat, _, _, _, _, qv, dv, sv, hWO_o, hWO_a da, hWO_w da, hWO_t da, ?_, ?_, ?_, plF_inv N hN lim mp wat _ _ _ _ _ hp, ?_, hok⟩, fun q hq => ?_⟩
  · rw [hWO_x (ne (by omega) (by omega) (by omega)) (ne (by omega) (by omega) (by omega)) (ne (by omega) (by omega) (by omega)) (ne (by omega) (by omega) (by omega))]
    exact gh4_g1 d4
  · rw [hWO_x (ne (by omega) (by omega) (by omega)) (ne (by omega) (by omega) (by omega)) (ne (by omega) (by omega) (by omega)) (ne (by omega) (by omega) (by omega))]
    exact gh4_g0 d4
  · rw [hWO_x (ne (by omega) (by omega) (by omega)) (ne (by omega) (by omega) (by omega)) (ne (by omega) (by omega) (by omega)) (ne (by omega) (by omega) (by omega))]
    exact gh4_g2 d4
  · intro j
    show (plRun N K n cs sk lim mp wat pa pw pt).2.2.1 j = 0
    unfold plRun
    rw [plF_pt N lim mp wat _ hN]
    exact hpt j
  · rw [hWO_x (hq 0 (by omega)) (hq 1 (by omega)) (hq 2 (by omega)) (hq 3 (by omega)), gh4_x (hq 5 (by omega)) (hq 4 (by omega)) (hq 6 (by omega)) (hq 0 (by omega))]
