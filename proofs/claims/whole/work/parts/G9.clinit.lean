-- constructors: what is new
def grN (d c n : Nat) : Room := { frames := d, cells := c, slots := n, locals := 60 * d }
theorem grN_ge {d e c n : Nat} (h : d ≤ e) : d ≤ (grN e c n).frames ∧ 60 * d ≤ (grN e c n).locals := ⟨h, Nat.mul_le_mul_left 60 h⟩
set_option maxRecDepth 20000 in
theorem wA_int : Cond.arrayClass .int ∈ gWS := gin 52 rfl rfl
set_option maxRecDepth 20000 in
theorem wA_long : Cond.arrayClass .long ∈ gWS := gin 225 rfl rfl
set_option maxRecDepth 20000 in
theorem wA_byte : Cond.arrayClass .byte ∈ gWS := gin 579 rfl rfl
/-- n new cells beside h, behind o, at a j, which hold e j -/
def grow (h : gH) (o z n : Nat) (a : Nat → Nat) (e : Nat → va_E) (H : gH) : Prop := (∀ j, j < n → H (a j) = some (e j) ∧ h (a j) = none ∧ z ≤ a j ∧ a j ≠ o) ∧ (∀ i j, i < n → j < n → a i = a j → i = j) ∧ ∀ q, q ≠ o → (∀ j, j < n → q ≠ a j) → H q = h q
theorem grow_0 {h : gH} {o z : Nat} {a : Nat → Nat} {e : Nat → va_E} : grow h o z 0 a e h := ⟨fun j hj => absurd hj (Nat.not_lt_zero j), fun i j hi => absurd hi (Nat.not_lt_zero i), fun _ _ _ => rfl⟩
theorem grow_s {h H : gH} {o z n q : Nat} {a : Nat → Nat} {e : Nat → va_E} {x y : va_E} (G : grow h o z n a e H) (hq : H q = none) (hz : z ≤ q) {w : va_E} (ho : H o = some w) : grow h o z (n + 1) (fun j => if j = n then q else a j) (fun j => if j = n then y else e j) (gup (gup H q y) o x) := by
  obtain ⟨G1, G2, G3⟩ := G
  have qo : q ≠ o := fun z => by rw [z, ho] at hq; cases hq
  have qa : ∀ j, j < n → q ≠ a j := fun j hj z => by rw [z, (G1 j hj).1] at hq; cases hq
  have hq0 : h q = none := (G3 q qo qa).symm.trans hq
  refine ⟨fun j hj => ?_, fun i j hi hj => ?_, fun p hp hpa => ?_⟩
  · by_cases c : j = n
    · simp only [c, if_true]
      exact ⟨by rw [gup_n _ _ qo, gup_s], hq0, hz, qo⟩
    · simp only [c, if_false]
      have hj2 : j < n := by omega
      obtain ⟨b1, b2, b3, b4⟩ := G1 j hj2
      exact ⟨by rw [gup_n _ _ b4, gup_n _ _ (Ne.symm (qa j hj2))]; exact b1, b2, b3, b4⟩
  · by_cases c : i = n <;> by_cases d : j = n <;> simp only [c, d, if_true, if_false]
    · intro _
      trivial
    · intro z
      exact absurd z (qa j (by omega))
    · intro z
      exact absurd z.symm (qa i (by omega))
    · exact G2 i j (by omega) (by omega)
  · have h1 := hpa n (Nat.lt_succ_self n)
    simp only [if_true] at h1
    rw [gup_n _ _ hp, gup_n _ _ h1]
    refine G3 p hp (fun j hj => ?_)
    have h2 := hpa j (by omega)
    have c : ¬ j = n := by omega
    simp only [c, if_false] at h2
    exact h2
section GIN
variable {l : Launch} {g : gG} {I J : gI} {R rm : Room} {h0 h : gH} {Z : gZ} {k n pc idx : Nat} {lv : gV} {st r as : List Value} {Q : Option Value → gH → Prop}
/-- a call of a constructor of a nest mate -/
theorem gw_callIN {b : Nat} {host : String} (hd : decode I.2.1 pc = .ok (.invokespecial idx, 3)) (hC : gC l g J rm (.ref b :: as) h Q)
    (hj : Cond.code J.1 J.2.1 J.2.2.1 J.2.2.2 ∈ gWS) (hret : J.2.2.2 = none) (hnm9 : J.1.name = "<init>") (hlk : Cond.methodLinkNest I.1.cls idx J.1 host ∈ gNW) (hst : Cond.instanceMethod J.1 ∈ gWS) (hini : Cond.initialized J.1.cls ∈ gWS)
    (hdd : J.1.cls ≠ "java/lang/invoke/MethodHandle" ∧ J.1.cls ≠ "java/lang/invoke/VarHandle" ∧ (parseMethodDescriptor J.1.desc).map (fun d => d.parameters.length) = some as.length)
    (hR : rm.frames + 1 ≤ R.frames ∧ 8 + (J.2.2.1 + 11) + rm.locals ≤ R.locals) (hrest : (r.map fun v => v.category).sum ≤ 8) (hroom : k + rm.cells ≤ R.cells ∧ n + rm.slots ≤ R.slots)
    (kk : ∀ (v : Option Value) (h' : gH), Q v h' → gw l g I R h0 Z (k + rm.cells) (n + rm.slots) (pc + 3) lv (v.toList ++ r) h') : gw l g I R h0 Z k n pc lv (as.reverse ++ .ref b :: r) h := by
  refine gw_run (rm := rm) (Q := Q) (as := .ref b :: as) (fun p e s m args below meth c C H locs hP hD hS ls hl => ?_) kk
  obtain ⟨hx, hb, hml, hown, hts, hK, hlocks, hr, hnm, hNw, hSt, hP0⟩ := id C
  have hG := gGood hj
  rw [hret] at hG
  have hM := hC H.size
  rw [hret] at hM
  exact va_runIN (bytes := J.2.1) (maxL := J.2.2.1) (n := as.length) (host := host) ⟨hx, hb, hml, hown, hts⟩ hM ⟨va_cnB as.length hts hG rfl rfl rfl (hNw _ hlk) (hts _ hini) hdd hR, hnm9, hts _ hst⟩ ⟨gBlind, gPre C hP hD hS⟩ rfl rfl hl.1 rfl (by show 2 * 0 + _ ≤ 8; omega) hd hroom
end GIN
set_option maxRecDepth 100000 in
set_option maxHeartbeats 4000000 in
theorem c_CL_init (l : Launch) (g : gG) (cI : ClassId) (hcI : (cI, FieldType.int) ∈ g.2.1) (o : Nat) (h : gH) (ho : h o = some (.inr (0, [.null, .int 0]))) : gC l g mCL_init (grN 1 1 30) [.ref o] h (fun r h' => r = none ∧ ∃ c, h c = none ∧ gsz g ≤ c ∧ h' = gup (gup h c (.inl (cI, 30, .inl (fun _ => 0)))) o (.inr (0, [.ref c, .int 0]))) := by
  refine gC_of (mc := 1) (ms := 30) (lv0 := [some (.ref o)]) (by decide +kernel) (Nat.le_of_ble_eq_true rfl) (fun q hq => hq) ⟨rfl, rfl⟩ ?_
  refine gw_ev (T := gT0) 60 [] gRt_f (gTO_0 _ _ _ ⟨Nat.le_of_ble_eq_true rfl, Nat.le_of_ble_eq_true rfl⟩) ?_
  simp only [vc_i, vc_l, vc_r, vc_n, Nat.succ_ne_self, gSd_s, gEd_s, gEd_0, gEd_B, gB_t, gB_f, gGo_c, gGo_n, gAll_n, gAll_c, gwK_s, gCT, gCF, gSet, gSet2, gKill, gTw, gTs, gLs, List.map_cons, List.map_nil, fv0, fv1, fv2, fv3, List.getElem?_cons_zero, List.getElem?_cons_succ, List.set_cons_zero, List.set_cons_succ, List.not_mem_nil, List.mem_cons, Option.toList_some, Option.toList_none, List.cons_append, List.nil_append, if_false, if_true, true_and, and_true, forall_const, true_implies, false_implies, or_false, false_or, not_true_eq_false, not_false_eq_true, and_false, false_and, implies_true, Nat.reduceAdd, Nat.reduceEqDiff, Nat.reduceLT, ↓reduceIte, cls_CL_init, st_aload_n, st_invokespecial, st_bipush, st_newarray, st_putfield, st_return_, (show mCL_init.2.2.1 = 1 from rfl), fp_CL_init_9, dCL_init_0, dCL_init_1, dCL_init_4, dCL_init_5, bi_30, dCL_init_7, dCL_init_9, dCL_init_12]
  refine gw_obj dCL_init_1 wl_CL_3 wi_JO_init wc_JO_init ⟨by decide, Nat.le_of_ble_eq_true rfl⟩ ?_
  refine gw_ev (T := gT0) 60 [] gRt_f (gTO_0 _ _ _ ⟨Nat.le_of_ble_eq_true rfl, Nat.le_of_ble_eq_true rfl⟩) ?_
  simp only [vc_i, vc_l, vc_r, vc_n, Nat.succ_ne_self, gSd_s, gEd_s, gEd_0, gEd_B, gB_t, gB_f, gGo_c, gGo_n, gAll_n, gAll_c, gwK_s, gCT, gCF, gSet, gSet2, gKill, gTw, gTs, gLs, List.map_cons, List.map_nil, fv0, fv1, fv2, fv3, List.getElem?_cons_zero, List.getElem?_cons_succ, List.set_cons_zero, List.set_cons_succ, List.not_mem_nil, List.mem_cons, Option.toList_some, Option.toList_none, List.cons_append, List.nil_append, if_false, if_true, true_and, and_true, forall_const, true_implies, false_implies, or_false, false_or, not_true_eq_false, not_false_eq_true, and_false, false_and, implies_true, Nat.reduceAdd, Nat.reduceEqDiff, Nat.reduceLT, ↓reduceIte, cls_CL_init, st_aload_n, st_invokespecial, st_bipush, st_newarray, st_putfield, st_return_, (show mCL_init.2.2.1 = 1 from rfl), fp_CL_init_9, dCL_init_0, dCL_init_1, dCL_init_4, dCL_init_5, bi_30, dCL_init_7, dCL_init_9, dCL_init_12]
  refine gw_newa (N := 30) (a0 := (30, .inl (fun _ => 0))) dCL_init_7 rfl (fun C z => by cases z) hcI wA_int (fun cA => rfl) (by decide) (by decide) (by decide) (Nat.le_of_ble_eq_true rfl) (Nat.le_of_ble_eq_true rfl) fun c hc hz => ?_
  have n : o ≠ c := fun e => by rw [← e, ho] at hc; cases hc
  refine gw_ev (T := gT0) 60 [] gRt_m (gTO_0 _ _ _ ⟨Nat.le_of_ble_eq_true rfl, Nat.le_of_ble_eq_true rfl⟩) ?_
  simp only [vc_i, vc_l, vc_r, vc_n, Nat.succ_ne_self, gSd_s, gEd_s, gEd_0, gEd_B, gB_t, gB_f, gGo_c, gGo_n, gAll_n, gAll_c, gwK_s, gCT, gCF, gSet, gSet2, gKill, gTw, gTs, gLs, List.map_cons, List.map_nil, fv0, fv1, fv2, fv3, List.getElem?_cons_zero, List.getElem?_cons_succ, List.set_cons_zero, List.set_cons_succ, List.not_mem_nil, List.mem_cons, Option.toList_some, Option.toList_none, List.cons_append, List.nil_append, if_false, if_true, true_and, and_true, forall_const, true_implies, false_implies, or_false, false_or, not_true_eq_false, not_false_eq_true, and_false, false_and, implies_true, Nat.reduceAdd, Nat.reduceEqDiff, Nat.reduceLT, ↓reduceIte, cls_CL_init, st_aload_n, st_invokespecial, st_bipush, st_newarray, st_putfield, st_return_, (show mCL_init.2.2.1 = 1 from rfl), fp_CL_init_9, dCL_init_0, dCL_init_1, dCL_init_4, dCL_init_5, bi_30, dCL_init_7, dCL_init_9, dCL_init_12, gup_n _ _ n, ho]
  exact ⟨⟨by show 0 < 2; decide, rfl, rfl⟩, rfl, c, hc, hz, rfl⟩
theorem grow_o {h H : gH} {o z n : Nat} {a : Nat → Nat} {e : Nat → va_E} (x : va_E) (G : grow h o z n a e H) : grow h o z n a e (gup H o x) := ⟨fun j hj => ⟨by rw [gup_n _ _ (G.1 j hj).2.2.2]; exact (G.1 j hj).1, (G.1 j hj).2⟩, G.2.1, fun q hq hqa => by rw [gup_n _ _ hq]; exact G.2.2 q hq hqa⟩
def anO (o : Nat) (a : Nat → Nat) : Nat → Nat
  | 0 => o
  | j + 1 => a j
/-- an object and its own cells, which are new but for the object itself -/
def newA (g : gG) (h : gH) (A : Nat → Nat) (m : Nat) (H : gH) : Prop := apU A m ∧ (∀ i, 1 ≤ i → i < m → h (A i) = none ∧ gsz g ≤ A i) ∧ ∀ q, (∀ i, i < m → q ≠ A i) → H q = h q
theorem grow_A {g : gG} {h H : gH} {o n : Nat} {a : Nat → Nat} {e : Nat → va_E} (G : grow h o (gsz g) n a e H) : newA g h (anO o a) (n + 1) H := by
  refine ⟨fun i j hi hj => ?_, fun i h1 h2 => ?_, fun q hq => G.2.2 q (hq 0 (by omega)) (fun j hj => hq (j + 1) (by omega))⟩
  · cases i with
    | zero =>
      cases j with
      | zero => intro _; rfl
      | succ j => intro z; exact absurd z.symm (G.1 j (by omega)).2.2.2
    | succ i =>
      cases j with
      | zero => intro z; exact absurd z (G.1 i (by omega)).2.2.2
      | succ j => intro z; rw [G.2.1 i j (by omega) (by omega) z]
  · cases i with
    | zero => omega
    | succ i => exact ⟨(G.1 i (by omega)).2.1, (G.1 i (by omega)).2.2.1⟩
