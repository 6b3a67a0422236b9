-- the seeker's search as a fold over its leaves
def hqL (N : Nat) (Q : Nat → Clue) (f : List Nat) (l : List Nat) : List (Bool × Int32) := l.map (fun k => (soN N f (Q k), (Q k).2.2.2.2.2))
def lvL (N : Nat) (Q : Nat → Clue) (dl : Nat → List Nat) : Nat → List Nat → Int32 → List (List Nat × Int32)
  | 0, f, left => [(f, left)]
  | m + 1, f, left => (List.range N).flatMap (fun p => if (f.drop (f.length / N * N)).contains p = true then [] else if hearB (hqL N Q (f ++ [p]) (dl f.length)) left = 0 then [] else lvL N Q dl m (f ++ [p]) (hearB (hqL N Q (f ++ [p]) (dl f.length)) left))
def paN (N : Nat) (f : List Nat) : Nat → Int32 := fun x => nI (atL N f x)
def tkS (N : Nat) (lim mp wat : Int32) (c : WC) (q : List Nat × Int32) : WC := if ¬ c.2.2.2 = 0 then c else takeC lim mp wat (paN N q.1) q.2 c
def stF (N : Nat) (lim mp wat : Int32) (L : List (List Nat × Int32)) (c : WC) : WC := L.foldl (tkS N lim mp wat) c
theorem stF_app (N : Nat) (lim mp wat : Int32) (A B : List (List Nat × Int32)) (c : WC) : stF N lim mp wat (A ++ B) c = stF N lim mp wat B (stF N lim mp wat A c) := List.foldl_append
theorem stF_stop (N : Nat) (lim mp wat : Int32) : ∀ (L : List (List Nat × Int32)) (c : WC), ¬ c.2.2.2 = 0 → stF N lim mp wat L c = c
  | [], _, _ => rfl
  | q :: L, c, h => by
    show stF N lim mp wat L (tkS N lim mp wat c q) = c
    rw [show tkS N lim mp wat c q = c from if_pos h]
    exact stF_stop N lim mp wat L c h
theorem relW_less {N p : Nat} {f : List Nat} {s : WS} (h : relW N (f ++ [p]) s) : relW N f s := by
  intro j hj
  have := h j (by rw [List.length_append]; omega)
  rw [getD_app hj] at this
  exact this
theorem segF_range : ∀ (k p : Nat), segF id k p = List.range' p k
  | 0, _ => rfl
  | k + 1, p => by
    rw [List.range'_succ]
    show p :: segF id k (p + 1) = p :: List.range' (p + 1) k
    rw [segF_range k (p + 1)]
theorem used_iff {N : Nat} (hN : 0 < N) {f : List Nat} {p : Nat} : (f.drop (f.length / N * N)).contains p = true ↔ ∃ j, j < f.length ∧ j / N = f.length / N ∧ f.getD j 0 = p := by
  rw [List.contains_iff_mem, List.mem_iff_getElem?]
  have hle : f.length / N * N ≤ f.length := Nat.div_mul_le_self _ _
  constructor
  · rintro ⟨i, hi⟩
    rw [List.getElem?_drop] at hi
    have hb := (List.getElem?_eq_some_iff.mp hi).1
    refine ⟨f.length / N * N + i, hb, ?_, by rw [List.getD_eq_getElem?_getD, hi]; rfl⟩
    have a1 := Nat.div_add_mod f.length N
    have a2 := Nat.mod_lt f.length hN
    rw [Nat.mul_comm] at a1
    have a3 : i / N = 0 := Nat.div_eq_of_lt (by omega)
    rw [Nat.mul_comm, Nat.mul_add_div hN, a3, Nat.add_zero]
  · rintro ⟨j, hj, hd, hp⟩
    have a1 := Nat.div_add_mod j N
    rw [hd, Nat.mul_comm] at a1
    refine ⟨j % N, ?_⟩
    rw [List.getElem?_drop, a1, List.getElem?_eq_getElem hj]
    rw [List.getD_eq_getElem?_getD, List.getElem?_eq_getElem hj] at hp
    exact congrArg some hp
theorem relW_set {N p : Nat} (hN : 0 < N ∧ N ≤ 5) (hp : p < N) {f : List Nat} {s : WS} (h : relW N f s) (hL : okL N f) (hu : ∀ j, j < f.length → j / N = f.length / N → f.getD j 0 ≠ p) : relW N (f ++ [p]) (plSet N f.length p s) := by
  intro j hj
  rw [List.length_append, List.length_singleton] at hj
  by_cases e : j = f.length
  · rw [e, getD_end]
    exact ⟨if_pos rfl, if_pos rfl⟩
  · have hj' : j < f.length := by omega
    rw [getD_app hj']
    have h1 : (plSet N f.length p s).1 (tAt N j) = s.1 (tAt N j) := if_neg (fun q => e (tAt_inj hN q))
    have hv := hL.1 j hj'
    have h2 : (plSet N f.length p s).2.1 (10 * (j / N + 1) + f.getD j 0) = s.2.1 (10 * (j / N + 1) + f.getD j 0) := by
      refine if_neg (fun q => ?_)
      have e1 : j / N = f.length / N := by omega
      exact hu j hj' e1 (by omega)
    rw [h1, h2]
    exact h j hj'
theorem tkW_set {N p : Nat} (hN : 0 < N ∧ N ≤ 5) (hp : p < N) {f : List Nat} {pt : Nat → Int32} (h : tkW N f pt) : tkW N (f ++ [p]) (upd pt (f.length / N + 1) (pt (f.length / N + 1) ||| bitF p)) := by
  intro q r hr
  rw [List.length_append, List.length_singleton]
  by_cases e : q = f.length / N
  · rw [e, show upd pt (f.length / N + 1) (pt (f.length / N + 1) ||| bitF p) (f.length / N + 1) = pt (f.length / N + 1) ||| bitF p from if_pos rfl, b_or, bt_bitF p (by omega) r (by omega), Bool.or_eq_true, h _ r hr, decide_eq_true_iff]
    constructor
    · rintro (⟨j, h1, h2, h3⟩ | h1)
      · exact ⟨j, by omega, h2, by rw [getD_app h1]; exact h3⟩
      · exact ⟨f.length, by omega, rfl, by rw [getD_end, h1]⟩
    · rintro ⟨j, h1, h2, h3⟩
      by_cases e2 : j = f.length
      · right
        rw [e2, getD_end] at h3
        exact h3.symm
      · left
        rw [getD_app (by omega)] at h3
        exact ⟨j, by omega, h2, h3⟩
  · rw [show upd pt (f.length / N + 1) (pt (f.length / N + 1) ||| bitF p) (q + 1) = pt (q + 1) from if_neg (by omega), h q r hr]
    constructor
    · rintro ⟨j, h1, h2, h3⟩
      exact ⟨j, by omega, h2, by rw [getD_app h1]; exact h3⟩
    · rintro ⟨j, h1, h2, h3⟩
      by_cases e2 : j = f.length
      · rw [e2] at h2
        exact absurd h2.symm e
      · rw [getD_app (by omega)] at h3
        exact ⟨j, by omega, h2, h3⟩
section SEARCH
variable {N K n : Nat} {Q : Nat → Clue} {cs : Nat → Int32} {sk : Int32}
/-- what is heard at a state is what is heard of the row -/
theorem hear_state (hN : 0 < N ∧ N ≤ 5) (hK : K ≤ 3) (hcs : ∀ k, k < n → cs k = cdC (Q k)) (hQ : ∀ k, k < n → okQ N K (Q k)) {f : List Nat} {s : WS} (hr : relW N f s) (hL : okL N f) {i : Nat} (hi : f.length = i + 1) (hi2 : i < 2 ^ 31) (left : Int32) : hearF s.1 s.2.1 ((dueI (dueS (nI N) cs sk) n i).map cs) left = hearB (hqL N Q f (dueI (dueS (nI N) cs sk) n i)) left := by
  rw [hearF_B, List.map_map]
  unfold hqL
  congr 1
  refine List.map_congr_left fun k hk => ?_
  obtain ⟨h1, h2⟩ := dueI_mem.mp hk
  have hq := hQ k h1
  obtain ⟨j, hj, hd, hdn⟩ := due_ok hN hK hq
  have h3 : dueF (nI N) (cdC (Q k)) = nI i := by
    unfold dueS at h2
    by_cases e : nI k = sk
    · rw [if_pos e] at h2
      have : (nI i).toInt = -1 := by rw [← h2]; rfl
      rw [nI_toInt hi2] at this
      omega
    · rw [if_neg e, hcs k h1] at h2
      exact h2
  have hb : N * K ≤ 15 := Nat.mul_le_mul hN.2 hK
  have e : j = i := (nI_eq (by omega) hi2).mp (by rw [← hd, h3])
  rw [e] at hdn
  show (soW s.1 s.2.1 (cs k), spF (cs k)) = _
  rw [hcs k h1, so_state hN hK hr hL hq (by rw [hi]; exact hdn), (cd_dec (okQ_rng hN hK hq)).2.2.2.2.2]
theorem plF_lv (hN : 0 < N ∧ N ≤ 5) (hK : K ≤ 3) (hcs : ∀ k, k < n → cs k = cdC (Q k)) (hQ : ∀ k, k < n → okQ N K (Q k)) (lim mp wat : Int32) (hwat : wat < 10 ∨ ∃ j, j < N * K ∧ wat = nI (tAt N j)) : ∀ (m : Nat) (f : List Nat) (sp : Int32) (s : WS), f.length + m = N * K → okL N f → relW N f s → tkW N f s.2.2.1 → s.2.2.2.2.2.2 = 0 →
    relW N f (plF N lim mp wat (fun i => (dueI (dueS (nI N) cs sk) n i).map cs) m f.length sp s) ∧ (plF N lim mp wat (fun i => (dueI (dueS (nI N) cs sk) n i).map cs) m f.length sp s).2.2.2 = stF N lim mp wat (lvL N Q (dueI (dueS (nI N) cs sk) n) m f sp) s.2.2.2 := by
  intro m
  induction m with
  | zero =>
    intro f sp s hm hL hr ht he
    refine ⟨hr, ?_⟩
    show takeC lim mp wat s.1 sp s.2.2.2 = (if ¬ s.2.2.2.2.2.2 = 0 then s.2.2.2 else takeC lim mp wat (paN N f) sp s.2.2.2)
    rw [if_neg (fun q => q he)]
    have hs : seenF wat s.1 sp s.2.2.2.2.2.1 = seenF wat (paN N f) sp s.2.2.2.2.2.1 := by
      unfold seenF
      by_cases h10 : wat < 10
      · rw [if_pos h10, if_pos h10]
      · rw [if_neg h10, if_neg h10]
        rcases hwat with h | ⟨j, hj, e⟩
        · exact absurd h h10
        · have hb := tAt_lt hN hK hj
          rw [e, nI_clamp (by omega), (hr j (by omega)).1]
          show _ = _ ||| (1 <<< (nI (atL N f (tAt N j)) &&& 31))
          rw [atL_t hN]
    unfold takeC
    rw [hs]
  | succ m ih =>
    intro f sp s hm hL hr ht he
    have hb15 : N * K ≤ 15 := Nat.mul_le_mul hN.2 hK
    have key : ∀ (k p : Nat) (s : WS), p + k = N → relW N f s → tkW N f s.2.2.1 →
        relW N f ((segF id k p).foldl (plStep N ((dueI (dueS (nI N) cs sk) n f.length).map cs) (plF N lim mp wat (fun i => (dueI (dueS (nI N) cs sk) n i).map cs) m (f.length + 1)) f.length sp) s) ∧ ((segF id k p).foldl (plStep N ((dueI (dueS (nI N) cs sk) n f.length).map cs) (plF N lim mp wat (fun i => (dueI (dueS (nI N) cs sk) n i).map cs) m (f.length + 1)) f.length sp) s).2.2.2 = stF N lim mp wat ((List.range' p k).flatMap (fun p => if (f.drop (f.length / N * N)).contains p = true then [] else if hearB (hqL N Q (f ++ [p]) (dueI (dueS (nI N) cs sk) n f.length)) sp = 0 then [] else lvL N Q (dueI (dueS (nI N) cs sk) n) m (f ++ [p]) (hearB (hqL N Q (f ++ [p]) (dueI (dueS (nI N) cs sk) n f.length)) sp))) s.2.2.2 := by
      intro k
      induction k with
      | zero => exact fun p s _ hr _ => ⟨hr, rfl⟩
      | succ k ih2 =>
        intro p s hp hr ht
        rw [List.range'_succ, List.flatMap_cons, stF_app]
        show relW N f ((segF id k (p + 1)).foldl _ (plStep N _ _ f.length sp s p)) ∧ ((segF id k (p + 1)).foldl _ (plStep N _ _ f.length sp s p)).2.2.2 = _
        have step : relW N f (plStep N ((dueI (dueS (nI N) cs sk) n f.length).map cs) (plF N lim mp wat (fun i => (dueI (dueS (nI N) cs sk) n i).map cs) m (f.length + 1)) f.length sp s p) ∧ tkW N f (plStep N ((dueI (dueS (nI N) cs sk) n f.length).map cs) (plF N lim mp wat (fun i => (dueI (dueS (nI N) cs sk) n i).map cs) m (f.length + 1)) f.length sp s p).2.2.1 ∧ (plStep N ((dueI (dueS (nI N) cs sk) n f.length).map cs) (plF N lim mp wat (fun i => (dueI (dueS (nI N) cs sk) n i).map cs) m (f.length + 1)) f.length sp s p).2.2.2 = stF N lim mp wat (if (f.drop (f.length / N * N)).contains p = true then [] else if hearB (hqL N Q (f ++ [p]) (dueI (dueS (nI N) cs sk) n f.length)) sp = 0 then [] else lvL N Q (dueI (dueS (nI N) cs sk) n) m (f ++ [p]) (hearB (hqL N Q (f ++ [p]) (dueI (dueS (nI N) cs sk) n f.length)) sp)) s.2.2.2 := by
          unfold plStep
          by_cases h0 : s.2.2.2.2.2.2 = 0
          · rw [if_neg (fun q => q h0)]
            by_cases h1 : ((s.2.2.1 (f.length / N + 1)) >>> (nI p &&& 31)) &&& 1 = 0
            · rw [if_neg (fun q => q h1)]
              have h1' : bt (s.2.2.1 (f.length / N + 1)) p = false := (bit_is (by omega)).mp h1
              have hu : ∀ j, j < f.length → j / N = f.length / N → f.getD j 0 ≠ p := by
                intro j hj hd e
                have := (ht (f.length / N) p (by omega)).mpr ⟨j, hj, hd, e⟩
                rw [h1'] at this
                exact Bool.false_ne_true this
              have hnc : ¬ (f.drop (f.length / N * N)).contains p = true := fun q => by
                obtain ⟨j, a, b, c⟩ := (used_iff hN.1).mp q
                exact hu j a b c
              rw [if_neg hnc]
              have r1 := relW_set hN (by omega) hr hL hu
              have l1 := okL_snoc hL (by omega) hu
              have len1 : (f ++ [p]).length = f.length + 1 := by rw [List.length_append, List.length_singleton]
              have hh := hear_state (sk := sk) hN hK hcs hQ r1 l1 len1 (by omega) sp
              rw [hh]
              by_cases h2 : hearB (hqL N Q (f ++ [p]) (dueI (dueS (nI N) cs sk) n f.length)) sp = 0
              · rw [if_pos h2, if_pos h2]
                exact ⟨relW_less r1, ht, rfl⟩
              · rw [if_neg h2, if_neg h2]
                have r2 : relW N (f ++ [p]) (plTk N f.length (fun x => x ||| bitF p) (plSet N f.length p s)) := r1
                have t2 : tkW N (f ++ [p]) (plTk N f.length (fun x => x ||| bitF p) (plSet N f.length p s)).2.2.1 := tkW_set hN (by omega) ht
                have h9 := ih (f ++ [p]) (hearB (hqL N Q (f ++ [p]) (dueI (dueS (nI N) cs sk) n f.length)) sp) (plTk N f.length (fun x => x ||| bitF p) (plSet N f.length p s)) (by rw [len1]; omega) l1 r2 t2 h0
                rw [len1] at h9
                refine ⟨relW_less h9.1, ?_, h9.2⟩
                have hpt := plF_pt N lim mp wat (fun i => (dueI (dueS (nI N) cs sk) n i).map cs) hN.2 m (f.length + 1) (hearB (hqL N Q (f ++ [p]) (dueI (dueS (nI N) cs sk) n f.length)) sp) (plTk N f.length (fun x => x ||| bitF p) (plSet N f.length p s))
                have hback : (plTk N f.length (fun x => x &&& (bitF p ^^^ (-1))) (plF N lim mp wat (fun i => (dueI (dueS (nI N) cs sk) n i).map cs) m (f.length + 1) (hearB (hqL N Q (f ++ [p]) (dueI (dueS (nI N) cs sk) n f.length)) sp) (plTk N f.length (fun x => x ||| bitF p) (plSet N f.length p s)))).2.2.1 = s.2.2.1 := by
                  show upd _ _ _ = _
                  rw [hpt]
                  funext j
                  unfold upd
                  split
                  · rename_i hj
                    subst hj
                    show (upd s.2.2.1 (f.length / N + 1) _ (f.length / N + 1)) &&& _ = _
                    rw [show upd s.2.2.1 (f.length / N + 1) ((plSet N f.length p s).2.2.1 (f.length / N + 1) ||| bitF p) (f.length / N + 1) = s.2.2.1 (f.length / N + 1) ||| bitF p from if_pos rfl]
                    exact bit_off (by omega) h1
                  · rename_i hj
                    show upd s.2.2.1 (f.length / N + 1) _ j = _
                    exact if_neg hj
                rw [hback]
                exact ht
            · rw [if_pos h1]
              have h1' : bt (s.2.2.1 (f.length / N + 1)) p = true := by
                cases hb : bt (s.2.2.1 (f.length / N + 1)) p with
                | true => rfl
                | false => exact absurd ((bit_is (by omega)).mpr hb) h1
              rw [if_pos ((used_iff hN.1).mpr ((ht _ p (by omega)).mp h1'))]
              exact ⟨hr, ht, rfl⟩
          · rw [if_pos h0]
            exact ⟨hr, ht, (stF_stop N lim mp wat _ _ h0).symm⟩
        have h9 := ih2 (p + 1) _ (by omega) step.1 step.2.1
        rw [step.2.2] at h9
        exact h9
    have h9 := key N 0 s (by omega) hr ht
    rw [← List.range_eq_range'] at h9
    exact h9
/-- the search from the first thing on -/
theorem plRun_lv (hN : 0 < N ∧ N ≤ 5) (hK : K ≤ 3) (hcs : ∀ k, k < n → cs k = cdC (Q k)) (hQ : ∀ k, k < n → okQ N K (Q k)) (lim mp wat : Int32) (hwat : wat < 10 ∨ ∃ j, j < N * K ∧ wat = nI (tAt N j)) (pa pw pt : Nat → Int32) (hpt : ∀ j, pt j = 0) : (plRun N K n cs sk lim mp wat pa pw pt).2.2.2 = stF N lim mp wat (lvL N Q (dueI (dueS (nI N) cs sk) n) (N * K) [] 15) (0, 0, 0, 0) := by
  have h := plF_lv (sk := sk) hN hK hcs hQ lim mp wat hwat (N * K) [] 15 (pa, pw, pt, 0, 0, 0, 0) (by rw [List.length_nil, Nat.zero_add]) okL_nil (fun j hj => absurd hj (Nat.not_lt_zero _)) (fun q p hp => by
    show bt (pt (q + 1)) p = true ↔ _
    rw [hpt, b_0]
    constructor
    · intro h
      exact absurd h Bool.false_ne_true
    · rintro ⟨j, h1, _⟩
      exact absurd h1 (Nat.not_lt_zero _)) rfl
  exact h.2
/-- the leaves are the rows of places at which something is left -/
theorem lv_plc (hN : 0 < N ∧ N ≤ 5) (hK : K ≤ 3) (hQ : ∀ k, k < n → okQ N K (Q k)) (dl : Nat → List Nat) (hdl : ∀ i k, k ∈ dl i → k < n ∧ dueN N (i + 1) (Q k)) : ∀ (m : Nat) (f : List Nat) (left : Int32), ¬ left = 0 → lvL N Q dl m f left = (plc N m f).filterMap (fun F => if hearB (hqL N Q F ((List.range' f.length m).flatMap dl)) left = 0 then none else some (F, hearB (hqL N Q F ((List.range' f.length m).flatMap dl)) left))
  | 0, f, left, h => by
    show [(f, left)] = [f].filterMap _
    have e : hearB (hqL N Q f (List.flatMap dl (List.range' f.length 0))) left = left := rfl
    rw [List.filterMap_cons, e, if_neg h]
    rfl
  | m + 1, f, left, h => by
    have spk : ∀ (F : List Nat) (l : List Nat), (∀ k ∈ l, k < n) → ∀ c ∈ hqL N Q F l, spOK c := by
      intro F l hl c hc
      obtain ⟨k, h1, h2⟩ := List.mem_map.mp hc
      rw [← h2]
      exact (hQ k (hl k h1)).2.2.2.2.2
    show (List.range N).flatMap _ = ((List.range N).flatMap _).filterMap _
    rw [List.filterMap_flatMap]
    refine fm_congr fun p _ => ?_
    by_cases hc : (f.drop (f.length / N * N)).contains p = true
    · rw [if_pos hc, if_pos hc]
      rfl
    · rw [if_neg hc, if_neg hc]
      have len1 : (f ++ [p]).length = f.length + 1 := by rw [List.length_append, List.length_singleton]
      -- of a row that begins so the same is heard
      have ext : ∀ F ∈ plc N m (f ++ [p]), hqL N Q F (dl f.length) = hqL N Q (f ++ [p]) (dl f.length) := by
        intro F hF
        have pre : ∀ (m : Nat) (g : List Nat), F ∈ plc N m g → ∃ t, F = g ++ t := by
          intro m
          induction m with
          | zero =>
            intro g hg
            exact ⟨[], by rw [List.append_nil]; exact List.mem_singleton.mp hg⟩
          | succ m ih =>
            intro g hg
            obtain ⟨r, _, hr⟩ := List.mem_flatMap.mp (show F ∈ (List.range N).flatMap _ from hg)
            split at hr
            · exact absurd hr List.not_mem_nil
            · obtain ⟨t, ht⟩ := ih _ hr
              exact ⟨[r] ++ t, by rw [ht, List.append_assoc]⟩
        obtain ⟨t, rfl⟩ := pre m _ hF
        refine List.map_congr_left fun k hk => ?_
        obtain ⟨h1, h2⟩ := hdl _ k hk
        rw [so_app (hQ k h1) (by rw [len1]; exact h2) t]
      have split2 : ∀ F ∈ plc N m (f ++ [p]), hearB (hqL N Q F ((List.range' f.length (m + 1)).flatMap dl)) left = hearB (hqL N Q F ((List.range' (f.length + 1) m).flatMap dl)) (hearB (hqL N Q (f ++ [p]) (dl f.length)) left) := by
        intro F hF
        rw [List.range'_succ, List.flatMap_cons]
        unfold hqL
        rw [List.map_append, hear_app]
        · congr 1
          exact congrArg (fun l => hearB l left) (ext F hF)
        · refine spk F _ (fun k hk => ?_)
          obtain ⟨i, _, h2⟩ := List.mem_flatMap.mp hk
          exact (hdl i k h2).1
      have fmc : ∀ (l : List (List Nat)) (g1 g2 : List Nat → Option (List Nat × Int32)), (∀ F ∈ l, g1 F = g2 F) → l.filterMap g1 = l.filterMap g2 := by
        intro l g1 g2 hh
        induction l with
        | nil => rfl
        | cons F l ih =>
          rw [List.filterMap_cons, List.filterMap_cons, hh F List.mem_cons_self, ih (fun G hG => hh G (List.mem_cons_of_mem _ hG))]
      by_cases h2 : hearB (hqL N Q (f ++ [p]) (dl f.length)) left = 0
      · rw [if_pos h2]
        rw [fmc _ _ (fun _ => none) (fun F hF => by
          rw [split2 F hF, h2]
          refine if_pos (hear_0 _ (spk F _ (fun k hk => ?_)))
          obtain ⟨i, _, h3⟩ := List.mem_flatMap.mp hk
          exact (hdl i k h3).1)]
        induction plc N m (f ++ [p]) with
        | nil => rfl
        | cons F l ih => rw [List.filterMap_cons]; exact ih
      · rw [if_neg h2, lv_plc hN hK hQ dl hdl m (f ++ [p]) _ h2, len1]
        refine fmc _ _ _ (fun F hF => ?_)
        rw [split2 F hF]
end SEARCH
