section GF
variable {l : Launch} {g : gG} {I : gI} {R : Room} {h0 h : gH} {Z : gZ} {k n pc pc' : Nat} {lv lv' : gV} {st st' r : List Value}
theorem gP.one {D : va_G} {H : Heap} {a : Nat} {e : va_E} (hP : gP D h H) (he : h a = some e) : va_P D gCL [(a, e)] H := by
  intro k q hq
  cases k with
  | zero =>
    cases hq
    exact hP a e he
  | succ k => simp at hq
theorem gw_get {a ci j idx : Nat} {fs : List Value} {v : Value} (hd : decode I.2.1 pc = .ok (.getfield idx, 3)) (hf : gF I.1.cls idx = some (ci, j)) (he : h a = some (.inr (ci, fs))) (hv : fs[j]? = some v) (K : gw l g I R h0 Z k n (pc + 3) lv (v :: r) h) : gw l g I R h0 Z k n pc lv (.ref a :: r) h := by
  intro p e s m args below meth c C H locs hP hD hS ls hl
  obtain ⟨hx, hb, hml, hown, hts, hK, hlocks, hr, hnm, hNw, hSt⟩ := id C
  obtain ⟨q, hc, hj, hin, hlink⟩ := gF_ok hf
  have kk := K p e s m args below meth c C H locs hP hD hS ls hl
  rcases hlink with hlink | ⟨host, hlink⟩
  · exact va_get hx hb hts hin hown hK (hP.one he) 0 rfl hc j hj (hts _ hlink) (fun _ z => z) hv hd kk
  · exact va_getN hx hb hts hin hown hK (hP.one he) 0 rfl hc j hj (va_Nw.use rfl (hNw _ hlink)) (fun _ z => z) hv hd kk
theorem gw_put {a ci j idx : Nat} {fs : List Value} {v : Value} (hd : decode I.2.1 pc = .ok (.putfield idx, 3)) (hf : gFp I.1 idx = some (ci, j)) (he : h a = some (.inr (ci, fs))) (hl9 : j < fs.length) (hfit : gFit (gTY ci j) v) (K : gw l g I R h0 Z k n (pc + 3) lv r (gup h a (.inr (ci, fs.set j v)))) : gw l g I R h0 Z k n pc lv (v :: .ref a :: r) h := by
  intro p e s m args below meth c C H locs hP hD hS ls hl
  obtain ⟨hx, hb, hml, hown, hts, hK, hlocks, hr, hnm, hNw, hSt⟩ := id C
  obtain ⟨⟨CN, T, N⟩, hc, hj, hin, hty, hap0, hlink⟩ := gFp_ok hf
  dsimp only at hj hin hty hap0 hlink
  have hap := va_apart (own := I.1.cls) hts hin (gTY ci) hty hap0 hK hc
  obtain ⟨w, h1, cell, q1, q2, q3, q4⟩ := hP a _ he
  have hw : w = (CN, T, N) := Option.some.inj (h1.symm.trans hc)
  subst hw
  obtain ⟨hSl, hfc, kC, hkC, hkind⟩ := hK.1 ci _ hc
  obtain ⟨cf, kf, fi, f, hi, hsl⟩ := hSl j hj
  have hlay := hts _ (hin _ (u_in_lay hj))
  unfold u_lay at hlay
  have hst := (u_facts hfc hkC (u_lays hts hin hj) hi).1
  have fin : ∀ H' : Heap, H'[a]? = some (cell.setSlot (g.1.2 ci j) v) → H'.size = H.size → (∀ q, q ≠ a → H'[q]? = H[q]?) → W p l e R s m args below meth c H' (locs ++ [⟨a, g.1.2 ci j⟩]) k n (Z below args s) (F0 m (pc + 3) ls r) := by
    intro H' e1 e2 e3
    exact K p e s m args below meth c C H' _ (hP.up ⟨_, hc, t_OB.to (V := updV (vp_V fs) j v) ⟨_, e1, q2, q3, t_set q4 hap hj v⟩ (fun i _ => vp_updV_set hl9 v i)⟩ e3) (hD.up (hD a _ he)) (hS.put e2 e3 (hD a _ he)) ls hl
  rcases hlink with ⟨hfin, hlink⟩ | ⟨hfin, hini, hdecl, hlink⟩
  · rw [if_neg (by rw [hfin]; decide)] at hlay
    have h6 := u_store hfc hkC hkind hlay hi (hty j hj) hfit.1 hfit.2
    refine W.putK hx hb (f := f) ⟨hown, hts _ hlink, ⟨_, _, _, hi⟩, hst⟩ (by rw [q2]; exact h6) q1 q3 (by rw [hsl]; exact k2_hasslot (q4 j hj)) rfl rfl hd fun H' e1 e2 e3 => ?_
    rw [hsl] at e1 ⊢
    exact fin H' e1 e2 e3
  · rw [if_pos hfin] at hlay
    have hcf : m.cls = cf := by
      obtain ⟨_, _, c', _, _, _, -, -, hf', -, -, -, hown2, -⟩ := Cond.laysFinal_spec hlay
      have e1 : c' = cf := by have := hi.symm.trans hf'; simp at this; exact this.1.symm
      rw [hdecl] at hown2
      rw [← e1]; exact Option.some.inj (hown.symm.trans hown2)
    have h6 := u_fits hfc hkC hkind (Or.inr hlay) hi (hty j hj) hfit.1 hfit.2
    refine W.putFinK hx hb hown (hts _ hlink) hi hst hcf (by rw [hnm]; exact hini) (by rw [q2]; exact h6) q1 q3 (by rw [hsl]; exact k2_hasslot (q4 j hj)) rfl rfl hd fun H' e1 e2 e3 => ?_
    rw [hsl] at e1 ⊢
    exact fin H' e1 e2 e3
theorem gw_iald {a nn : Nat} {cA : ClassId} {z : Nat → Int32} {i : Int32} (hd : decode I.2.1 pc = .ok (.iaload, 1)) (he : h a = some (.inl (cA, nn, .inl z))) (ht : (cA, FieldType.int) ∈ g.2.1) (hin : vp_in i nn) (K : gw l g I R h0 Z k n (pc + 1) lv (.int (z i.toNatClampNeg) :: r) h) : gw l g I R h0 Z k n pc lv (.int i :: .ref a :: r) h := by
  intro p e s m args below meth c C H locs hP hD hS ls hl
  obtain ⟨t0, ht0⟩ := List.getElem?_of_mem ht
  exact va_iald C.1 C.2.1 C.2.2.2.2.2.1 (hP.one he) 0 t0 rfl ht0 hin hd (K p e s m args below meth c C H locs hP hD hS ls hl)
theorem gw_lald {a nn : Nat} {cA : ClassId} {z : Nat → Int64} {i : Int32} (hd : decode I.2.1 pc = .ok (.laload, 1)) (he : h a = some (.inl (cA, nn, .inr (.inl z)))) (ht : (cA, FieldType.long) ∈ g.2.1) (hin : vp_in i nn) (K : gw l g I R h0 Z k n (pc + 1) lv (.long (z i.toNatClampNeg) :: r) h) : gw l g I R h0 Z k n pc lv (.int i :: .ref a :: r) h := by
  intro p e s m args below meth c C H locs hP hD hS ls hl
  obtain ⟨t0, ht0⟩ := List.getElem?_of_mem ht
  exact va_lald C.1 C.2.1 C.2.2.2.2.2.1 (hP.one he) 0 t0 rfl ht0 hin hd (K p e s m args below meth c C H locs hP hD hS ls hl)
theorem gw_alen {a : Nat} {cA : ClassId} {x : vp_A} {ty : FieldType} (hd : decode I.2.1 pc = .ok (.arraylength, 1)) (he : h a = some (.inl (cA, x))) (ht : (cA, ty) ∈ g.2.1) (K : gw l g I R h0 Z k n (pc + 1) lv (.int (Int32.ofNat x.1) :: r) h) : gw l g I R h0 Z k n pc lv (.ref a :: r) h := by
  intro p e s m args below meth c C H locs hP hD hS ls hl
  obtain ⟨t0, ht0⟩ := List.getElem?_of_mem ht
  exact va_alen C.1 C.2.1 C.2.2.2.2.2.1 (hP.one he) 0 t0 rfl ht0 rfl hd (K p e s m args below meth c C H locs hP hD hS ls hl)
theorem gw_iast {a nn : Nat} {cA : ClassId} {z : Nat → Int32} {i x : Int32} (hd : decode I.2.1 pc = .ok (.iastore, 1)) (he : h a = some (.inl (cA, nn, .inl z))) (ht : (cA, FieldType.int) ∈ g.2.1) (hin : vp_in i nn) (K : gw l g I R h0 Z k n (pc + 1) lv r (gup h a (.inl (cA, nn, .inl (upd z i.toNatClampNeg x))))) : gw l g I R h0 Z k n pc lv (.int x :: .int i :: .ref a :: r) h := by
  intro p e s m args below meth c C H locs hP hD hS ls hl
  obtain ⟨t0, ht0⟩ := List.getElem?_of_mem ht
  refine W.iast C.1 C.2.1 (hP a _ he) ((C.2.2.2.2.2.1.2 t0 _ ht0).1 nn (fun j => .int (z j))) (fun q => by cases q) (by show ¬ (i < 0 ∨ (arrV _ _ _).slots.size ≤ _); rw [arrV_size]; exact hin) rfl rfl hd fun H1 e1 z1 oq => ?_
  refine K p e s m args below meth c C H1 _ (hP.up ?_ oq) (hD.up (hD a _ he)) (hS.put z1 oq (hD a _ he)) ls hl
  show H1[a]? = some (vp_cell _ _)
  rw [e1]
  rw [vp_cell_i, vp_cell_i, arrV_store]
  congr 2
  funext q
  by_cases hq : q = i.toNatClampNeg
  · subst hq
    simp [updV, upd]
  · simp [updV, upd, hq]
theorem gw_last {a nn : Nat} {cA : ClassId} {z : Nat → Int64} {i : Int32} {x : Int64} (hd : decode I.2.1 pc = .ok (.lastore, 1)) (he : h a = some (.inl (cA, nn, .inr (.inl z)))) (ht : (cA, FieldType.long) ∈ g.2.1) (hin : vp_in i nn) (K : gw l g I R h0 Z k n (pc + 1) lv r (gup h a (.inl (cA, nn, .inr (.inl (vp_updL z i.toNatClampNeg x)))))) : gw l g I R h0 Z k n pc lv (.long x :: .int i :: .ref a :: r) h := by
  intro p e s m args below meth c C H locs hP hD hS ls hl
  obtain ⟨t0, ht0⟩ := List.getElem?_of_mem ht
  refine W.last C.1 C.2.1 (hP a _ he) ((C.2.2.2.2.2.1.2 t0 _ ht0).1 nn (fun j => .long (z j))) (fun q => by cases q) (by show ¬ (i < 0 ∨ (arrV _ _ _).slots.size ≤ _); rw [arrV_size]; exact hin) rfl rfl hd fun H1 e1 z1 oq => ?_
  refine K p e s m args below meth c C H1 _ (hP.up ?_ oq) (hD.up (hD a _ he)) (hS.put z1 oq (hD a _ he)) ls hl
  show H1[a]? = some (vp_cell _ _)
  rw [e1]
  rw [vp_cell_l, vp_cell_l, arrV_store]
  congr 2
  funext q
  by_cases hq : q = i.toNatClampNeg
  · subst hq
    simp [updV, vp_updL]
  · simp [updV, vp_updL, hq]
theorem gw_iinc {j : Nat} {z : Int} {x : Int32} (hd : decode I.2.1 pc = .ok (.iinc j z, 3)) (hv : lv[j]? = some (some (.int x))) (hn : j < I.2.2.1) (K : gw l g I R h0 Z k n (pc + 3) (gSet lv j (.int (x + Int32.ofInt z))) st h) : gw l g I R h0 Z k n pc lv st h := by
  intro p e s m args below meth c C H locs hP hD hS ls hl
  obtain ⟨t0, ht0⟩ := List.getElem?_of_mem (gL_mem.mpr hv)
  exact lv_iinc C.1 C.2.1 hd hl ht0 rfl hn rfl (fun ls' hl' => K p e s m args below meth c C H locs hP hD hS ls' (gL_set1 hl'))
/-- the ends of a method that returns -/
def gRt (l : Launch) (g : gG) (I : gI) (R : Room) (h0 : gH) (Z : gZ) (k n : Nat) (q : Option Value → gH → Prop) : Prop := ∀ (pc : Nat) (lv : gV) (h : gH),
  (∀ v : Int32, decode I.2.1 pc = .ok (.ireturn, 1) → gRetN I.2.2.2 v → q (some (.int v)) h → gw l g I R h0 Z k n pc lv [.int v] h) ∧
  (∀ v : Int64, decode I.2.1 pc = .ok (.lreturn, 1) → I.2.2.2 = some .long → q (some (.long v)) h → gw l g I R h0 Z k n pc lv [.long v] h) ∧
  (decode I.2.1 pc = .ok (.return_, 1) → I.2.2.2 = none → q none h → gw l g I R h0 Z k n pc lv [] h)
theorem gRt_m {q : Option Value → gH → Prop} : gRt l g I R h0 (gZm g h0 k n q) k n q := by
  intro pc lv h
  refine ⟨fun v hd hn hq => ?_, fun v hd hn hq => ?_, fun hd hn hq => ?_⟩
  · intro p e s m args below meth c C H locs hP hD hS ls hl
    obtain ⟨hx, hb, hml, hown, hts, hK, hlocks, hr, hnm, hNw, hSt⟩ := id C
    unfold gRetN at hn
    split at hn
    · rename_i ty hty
      exact W.zret (ty := ty) hx hb (by rw [hr, hty]) hn (fun t ht hW => ⟨⟨_, h, rfl, hq, by rw [ht]; exact hP, hD, va_K.moved hW.alike hK⟩, hS.F ht⟩) hS.2.2 hd hlocks
    · exact hn.elim
  · intro p e s m args below meth c C H locs hP hD hS ls hl
    obtain ⟨hx, hb, hml, hown, hts, hK, hlocks, hr, hnm, hNw, hSt⟩ := id C
    exact W.lret hx hb (by rw [hr, hn]) (fun t ht hW => ⟨⟨_, h, rfl, hq, by rw [ht]; exact hP, hD, va_K.moved hW.alike hK⟩, hS.F ht⟩) hS.2.2 hd hlocks
  · intro p e s m args below meth c C H locs hP hD hS ls hl
    obtain ⟨hx, hb, hml, hown, hts, hK, hlocks, hr, hnm, hNw, hSt⟩ := id C
    exact W.vret hx hb (by rw [hr, hn]) (fun t ht hW => ⟨⟨_, h, rfl, hq, by rw [ht]; exact hP, hD, va_K.moved hW.alike hK⟩, hS.F ht⟩) hS.2.2 hd hlocks
theorem gw_bald {a nn : Nat} {cA : ClassId} {z : Nat → Int32} {i : Int32} (hd : decode I.2.1 pc = .ok (.baload, 1)) (he : h a = some (.inl (cA, nn, .inl z))) (ht : (cA, FieldType.byte) ∈ g.2.1) (hin : vp_in i nn) (K : gw l g I R h0 Z k n (pc + 1) lv (.int (z i.toNatClampNeg) :: r) h) : gw l g I R h0 Z k n pc lv (.int i :: .ref a :: r) h := by
  intro p e s m args below meth c C H locs hP hD hS ls hl
  obtain ⟨t0, ht0⟩ := List.getElem?_of_mem ht
  exact va_bald C.1 C.2.1 C.2.2.2.2.2.1 (hP.one he) 0 t0 rfl ht0 hin hd (K p e s m args below meth c C H locs hP hD hS ls hl)
theorem gw_bast {a nn : Nat} {cA : ClassId} {z : Nat → Int32} {i x : Int32} (hd : decode I.2.1 pc = .ok (.bastore, 1)) (he : h a = some (.inl (cA, nn, .inl z))) (ht : (cA, FieldType.byte) ∈ g.2.1) (hin : vp_in i nn) (K : gw l g I R h0 Z k n (pc + 1) lv r (gup h a (.inl (cA, nn, .inl (upd z i.toNatClampNeg (vp_nar .byte x)))))) : gw l g I R h0 Z k n pc lv (.int x :: .int i :: .ref a :: r) h := by
  intro p e s m args below meth c C H locs hP hD hS ls hl
  obtain ⟨t0, ht0⟩ := List.getElem?_of_mem ht
  refine W.bast C.1 C.2.1 (hP a _ he) ((C.2.2.2.2.2.1.2 t0 _ ht0).1 nn (fun j => .int (z j))) (fun q => by cases q) (by show ¬ (i < 0 ∨ (arrV _ _ _).slots.size ≤ _); rw [arrV_size]; exact hin) rfl rfl hd fun H1 e1 z1 oq => ?_
  refine K p e s m args below meth c C H1 _ (hP.up ?_ oq) (hD.up (hD a _ he)) (hS.put z1 oq (hD a _ he)) ls hl
  show H1[a]? = some (vp_cell _ _)
  rw [e1]
  rw [vp_cell_i, vp_cell_i, arrV_store]
  congr 2
  funext q
  by_cases hq : q = i.toNatClampNeg
  · subst hq
    simp [updV, upd, vp_nar]
    try rfl
  · simp [updV, upd, hq]
theorem gw_tabS {i : Int32} (hd : decode I.2.1 pc = .ok (.iaload, 1)) (hin : vp_in i (gsL g)) (K : gw l g I R h0 Z k n (pc + 1) lv (.int (gsx g i.toNatClampNeg) :: r) h) : gw l g I R h0 Z k n pc lv (.int i :: .ref (gsb g) :: r) h := by
  intro p e s m args below meth c C H locs hP hD hS ls hl
  exact va_ti C.1 C.2.1 C.2.2.2.2.2.2.2.2.2.2.1.2.2.2.1 hS hin rfl hd (K p e s m args below meth c C H locs hP hD hS ls hl)
theorem gw_tabW {i : Int32} (hd : decode I.2.1 pc = .ok (.laload, 1)) (hin : vp_in i 15) (K : gw l g I R h0 Z k n (pc + 1) lv (.long (wdF i.toNatClampNeg) :: r) h) : gw l g I R h0 Z k n pc lv (.int i :: .ref (gtW g) :: r) h := by
  intro p e s m args below meth c C H locs hP hD hS ls hl
  exact va_tl C.1 C.2.1 C.2.2.2.2.2.2.2.2.2.2.1.2.1.2 hS hin rfl hd (K p e s m args below meth c C H locs hP hD hS ls hl)
theorem gw_tabF {i : Int32} (hd : decode I.2.1 pc = .ok (.laload, 1)) (hin : vp_in i 70) (K : gw l g I R h0 Z k n (pc + 1) lv (.long (fmF i.toNatClampNeg) :: r) h) : gw l g I R h0 Z k n pc lv (.int i :: .ref (gtF g) :: r) h := by
  intro p e s m args below meth c C H locs hP hD hS ls hl
  exact va_tl C.1 C.2.1 C.2.2.2.2.2.2.2.2.2.2.1.2.2.1.2 hS hin rfl hd (K p e s m args below meth c C H locs hP hD hS ls hl)
theorem gw_lenW (hd : decode I.2.1 pc = .ok (.arraylength, 1)) (K : gw l g I R h0 Z k n (pc + 1) lv (.int 15 :: r) h) : gw l g I R h0 Z k n pc lv (.ref (gtW g) :: r) h := by
  intro p e s m args below meth c C H locs hP hD hS ls hl
  exact va_tlen C.1 C.2.1 C.2.2.2.2.2.2.2.2.2.2.1.2.1.2 hS rfl hd (K p e s m args below meth c C H locs hP hD hS ls hl)
theorem gw_lenS (hd : decode I.2.1 pc = .ok (.arraylength, 1)) (K : gw l g I R h0 Z k n (pc + 1) lv (.int (Int32.ofNat (gsL g)) :: r) h) : gw l g I R h0 Z k n pc lv (.ref (gsb g) :: r) h := by
  intro p e s m args below meth c C H locs hP hD hS ls hl
  exact va_tlen C.1 C.2.1 C.2.2.2.2.2.2.2.2.2.2.1.2.2.2.1 hS rfl hd (K p e s m args below meth c C H locs hP hD hS ls hl)
theorem gSf_w {own : String} {j : Nat} (h : gSf own j = some false) : own = "RiddleMill$Speech" ∧ j = 45 := by
  unfold gSf at h
  split at h
  · rename_i ho
    refine ⟨ho, ?_⟩
    split at h
    · assumption
    · split at h <;> cases h
  · cases h
theorem gSf_f {own : String} {j : Nat} (h : gSf own j = some true) : own = "RiddleMill$Speech" ∧ j = 83 := by
  unfold gSf at h
  split at h
  · rename_i ho
    refine ⟨ho, ?_⟩
    split at h
    · cases h
    · split at h
      · assumption
      · cases h
  · cases h
theorem gw_gsW {j : Nat} (hd : decode I.2.1 pc = .ok (.getstatic j, 3)) (hf : gSf I.1.cls j = some false) (K : gw l g I R h0 Z k n (pc + 3) lv (.ref (gtW g) :: st) h) : gw l g I R h0 Z k n pc lv st h := by
  intro p e s m args below meth c C H locs hP hD hS ls hl
  obtain ⟨ho, rfl⟩ := gSf_w hf
  exact va_gets C.1 C.2.1 C.2.2.2.2.2.2.2.2.2.2.1.2.1.1 hS C.2.2.2.1 (C.2.2.2.2.1 _ (by rw [ho]; exact wg_W)) (fun _ z => z) hd (K p e s m args below meth c C H locs hP hD hS ls hl)
theorem gw_gsF {j : Nat} (hd : decode I.2.1 pc = .ok (.getstatic j, 3)) (hf : gSf I.1.cls j = some true) (K : gw l g I R h0 Z k n (pc + 3) lv (.ref (gtF g) :: st) h) : gw l g I R h0 Z k n pc lv st h := by
  intro p e s m args below meth c C H locs hP hD hS ls hl
  obtain ⟨ho, rfl⟩ := gSf_f hf
  exact va_gets C.1 C.2.1 C.2.2.2.2.2.2.2.2.2.2.1.2.2.1.1 hS C.2.2.2.1 (C.2.2.2.2.1 _ (by rw [ho]; exact wg_F)) (fun _ z => z) hd (K p e s m args below meth c C H locs hP hD hS ls hl)
theorem gLs_at {K : gT4 → Prop} {x : Int32} : ∀ (L : List (Int × Int)) (dflt : Int), 0 ≤ (pc : Int) + dflt → gTw pc (L.map (fun q => q.2)) → gAll K (gLs x pc lv st h dflt L) → ∃ o : Int, Op.lookupswitch.offset L dflt x.toInt = o ∧ 0 ≤ (pc : Int) + o ∧ K (gTg pc o, lv, st, h)
  | [], dflt, h0, _, hA => ⟨dflt, rfl, h0, hA.1 trivial⟩
  | (v, o) :: L, dflt, h0, hw, hA => by
    by_cases hv : x.toInt = v
    · exact ⟨o, by simp [Op.lookupswitch.offset, hv], hw.1, hA.1 hv⟩
    · have hA2 : gAll K (gLs x pc lv st h dflt L) := by
        have hm : ∀ M : List (Prop × gT4), gAll K (M.map (fun q => (¬ x.toInt = v ∧ q.1, q.2))) → gAll K M := by
          intro M
          induction M with
          | nil => exact fun z => z
          | cons q M ih => exact fun z => ⟨fun w => z.1 ⟨hv, w⟩, ih z.2⟩
        exact hm _ hA.2
      obtain ⟨o2, e1, e2, e3⟩ := gLs_at L dflt h0 hw.2 hA2
      refine ⟨o2, ?_, e2, e3⟩
      rw [← e1]
      simp [Op.lookupswitch.offset, Ne.symm hv]
end GF
set_option maxHeartbeats 4000000 in
set_option maxRecDepth 100000 in
theorem gStepD_ok {T : gTB} {l : Launch} {g : gG} {I : gI} {R : Room} {h0 h : gH} {Z : gZ} {k n pc len : Nat} {lv : gV} {st : List Value} {i : ClassFile.Instr} {q : Option Value → gH → Prop} {K kk : gT4 → Prop} (hd : decode I.2.1 pc = .ok (i, len)) (hK : ∀ s : gT4, K s → gw l g I R h0 Z k n s.1 s.2.1 s.2.2.1 s.2.2.2) (hk : ∀ s : gT4, kk s → gw l g I R h0 Z k n s.1 s.2.1 s.2.2.1 s.2.2.2) (hq : gRt l g I R h0 Z k n q) (hT9 : gTO T R k n) (H : gGo K kk (pc, lv, st, h) (gStepD T g I q i len pc lv st h)) : gw l g I R h0 Z k n pc lv st h := by
  obtain ⟨d9, hT⟩ := hT9
  cases i
  case iconst z => 
    dsimp only [gStepD] at H
    obtain ⟨rfl, hL, -⟩ := H
    exact gw_pure (fun _ _ _ _ _ _ _ _ _ _ _ _ hx hb w => lv_iconst hx hb hd rfl w) (hk _ (hL trivial))
  case bipush z => 
    dsimp only [gStepD] at H
    obtain ⟨rfl, hL, -⟩ := H
    exact gw_pure (fun _ _ _ _ _ _ _ _ _ _ _ _ hx hb w => lv_bipush hx hb hd rfl w) (hk _ (hL trivial))
  case sipush z => 
    dsimp only [gStepD] at H
    obtain ⟨rfl, hL, -⟩ := H
    exact gw_pure (fun _ _ _ _ _ _ _ _ _ _ _ _ hx hb w => lv_sipush hx hb hd rfl w) (hk _ (hL trivial))
  case lconst z => 
    dsimp only [gStepD] at H
    obtain ⟨rfl, hL, -⟩ := H
    exact gw_pure (fun _ _ _ _ _ _ _ _ _ _ _ _ hx hb w => lv_lconst hx hb hd rfl w) (hk _ (hL trivial))
  case iadd => 
    dsimp only [gStepD] at H
    split at H
    · obtain ⟨rfl, hL, -⟩ := H
      exact gw_pure (fun _ _ _ _ _ _ _ _ _ _ _ _ hx hb w => lv_iadd hx hb hd w) (hk _ (hL trivial))
    · exact H.1.elim
  case isub => 
    dsimp only [gStepD] at H
    split at H
    · obtain ⟨rfl, hL, -⟩ := H
      exact gw_pure (fun _ _ _ _ _ _ _ _ _ _ _ _ hx hb w => lv_isub hx hb hd w) (hk _ (hL trivial))
    · exact H.1.elim
  case imul => 
    dsimp only [gStepD] at H
    split at H
    · obtain ⟨rfl, hL, -⟩ := H
      exact gw_pure (fun _ _ _ _ _ _ _ _ _ _ _ _ hx hb w => lv_imul hx hb hd w) (hk _ (hL trivial))
    · exact H.1.elim
  case iand => 
    dsimp only [gStepD] at H
    split at H
    · obtain ⟨rfl, hL, -⟩ := H
      exact gw_pure (fun _ _ _ _ _ _ _ _ _ _ _ _ hx hb w => lv_iand hx hb hd w) (hk _ (hL trivial))
    · exact H.1.elim
  case ior => 
    dsimp only [gStepD] at H
    split at H
    · obtain ⟨rfl, hL, -⟩ := H
      exact gw_pure (fun _ _ _ _ _ _ _ _ _ _ _ _ hx hb w => lv_ior hx hb hd w) (hk _ (hL trivial))
    · exact H.1.elim
  case ixor => 
    dsimp only [gStepD] at H
    split at H
    · obtain ⟨rfl, hL, -⟩ := H
      exact gw_pure (fun _ _ _ _ _ _ _ _ _ _ _ _ hx hb w => lv_ixor hx hb hd w) (hk _ (hL trivial))
    · exact H.1.elim
  case ishl => 
    dsimp only [gStepD] at H
    split at H
    · obtain ⟨rfl, hL, -⟩ := H
      exact gw_pure (fun _ _ _ _ _ _ _ _ _ _ _ _ hx hb w => lv_ishl hx hb hd w) (hk _ (hL trivial))
    · exact H.1.elim
  case ishr => 
    dsimp only [gStepD] at H
    split at H
    · obtain ⟨rfl, hL, -⟩ := H
      exact gw_pure (fun _ _ _ _ _ _ _ _ _ _ _ _ hx hb w => lv_ishr hx hb hd w) (hk _ (hL trivial))
    · exact H.1.elim
  case iushr => 
    dsimp only [gStepD] at H
    split at H
    · obtain ⟨rfl, hL, -⟩ := H
      exact gw_pure (fun _ _ _ _ _ _ _ _ _ _ _ _ hx hb w => lv_iushr hx hb hd rfl w) (hk _ (hL trivial))
    · exact H.1.elim
  case ineg => 
    dsimp only [gStepD] at H
    split at H
    · obtain ⟨rfl, hL, -⟩ := H
      exact gw_pure (fun _ _ _ _ _ _ _ _ _ _ _ _ hx hb w => lv_ineg hx hb hd w) (hk _ (hL trivial))
    · exact H.1.elim
  case ladd => 
    dsimp only [gStepD] at H
    split at H
    · obtain ⟨rfl, hL, -⟩ := H
      exact gw_pure (fun _ _ _ _ _ _ _ _ _ _ _ _ hx hb w => lv_ladd hx hb hd w) (hk _ (hL trivial))
    · exact H.1.elim
  case lsub => 
    dsimp only [gStepD] at H
    split at H
    · obtain ⟨rfl, hL, -⟩ := H
      exact gw_pure (fun _ _ _ _ _ _ _ _ _ _ _ _ hx hb w => lv_lsub hx hb hd w) (hk _ (hL trivial))
    · exact H.1.elim
  case lmul => 
    dsimp only [gStepD] at H
    split at H
    · obtain ⟨rfl, hL, -⟩ := H
      exact gw_pure (fun _ _ _ _ _ _ _ _ _ _ _ _ hx hb w => lv_lmul hx hb hd w) (hk _ (hL trivial))
    · exact H.1.elim
  case land => 
    dsimp only [gStepD] at H
    split at H
    · obtain ⟨rfl, hL, -⟩ := H
      exact gw_pure (fun _ _ _ _ _ _ _ _ _ _ _ _ hx hb w => lv_land hx hb hd w) (hk _ (hL trivial))
    · exact H.1.elim
  case lor => 
    dsimp only [gStepD] at H
    split at H
    · obtain ⟨rfl, hL, -⟩ := H
      exact gw_pure (fun _ _ _ _ _ _ _ _ _ _ _ _ hx hb w => lv_lor hx hb hd w) (hk _ (hL trivial))
    · exact H.1.elim
  case lshl => 
    dsimp only [gStepD] at H
    split at H
    · obtain ⟨rfl, hL, -⟩ := H
      exact gw_pure (fun _ _ _ _ _ _ _ _ _ _ _ _ hx hb w => lv_lshl hx hb hd rfl w) (hk _ (hL trivial))
    · exact H.1.elim
  case lshr => 
    dsimp only [gStepD] at H
    split at H
    · obtain ⟨rfl, hL, -⟩ := H
      exact gw_pure (fun _ _ _ _ _ _ _ _ _ _ _ _ hx hb w => lv_lshr hx hb hd rfl w) (hk _ (hL trivial))
    · exact H.1.elim
  case lushr => 
    dsimp only [gStepD] at H
    split at H
    · obtain ⟨rfl, hL, -⟩ := H
      exact gw_pure (fun _ _ _ _ _ _ _ _ _ _ _ _ hx hb w => lv_lushr hx hb hd rfl w) (hk _ (hL trivial))
    · exact H.1.elim
  case lcmp => 
    dsimp only [gStepD] at H
    split at H
    · obtain ⟨rfl, hL, -⟩ := H
      exact gw_pure (fun _ _ _ _ _ _ _ _ _ _ _ _ hx hb w => W.lcmp hx hb hd w) (hk _ (hL trivial))
    · exact H.1.elim
  case i2l => 
    dsimp only [gStepD] at H
    split at H
    · obtain ⟨rfl, hL, -⟩ := H
      exact gw_pure (fun _ _ _ _ _ _ _ _ _ _ _ _ hx hb w => lv_i2l hx hb hd rfl w) (hk _ (hL trivial))
    · exact H.1.elim
  case i2b => 
    dsimp only [gStepD] at H
    split at H
    · obtain ⟨rfl, hL, -⟩ := H
      exact gw_pure (fun _ _ _ _ _ _ _ _ _ _ _ _ hx hb w => lv_i2b hx hb hd rfl w) (hk _ (hL trivial))
    · exact H.1.elim
  case l2i => 
    dsimp only [gStepD] at H
    split at H
    · obtain ⟨rfl, hL, -⟩ := H
      exact gw_pure (fun _ _ _ _ _ _ _ _ _ _ _ _ hx hb w => lv_l2i hx hb hd rfl w) (hk _ (hL trivial))
    · exact H.1.elim
  case idiv => 
    dsimp only [gStepD] at H
    split at H
    · obtain ⟨⟨rfl, hx9⟩, hL, -⟩ := H
      exact gw_pure (fun _ _ _ _ _ _ _ _ _ _ _ _ hx hb w => lv_idiv hx hb hd hx9 w) (hk _ (hL trivial))
    · exact H.1.elim
  case irem => 
    dsimp only [gStepD] at H
    split at H
    · obtain ⟨⟨rfl, hx9⟩, hL, -⟩ := H
      exact gw_pure (fun _ _ _ _ _ _ _ _ _ _ _ _ hx hb w => lv_irem hx hb hd hx9 w) (hk _ (hL trivial))
    · exact H.1.elim
  case ldiv => 
    dsimp only [gStepD] at H
    split at H
    · obtain ⟨⟨rfl, hx9⟩, hL, -⟩ := H
      exact gw_pure (fun _ _ _ _ _ _ _ _ _ _ _ _ hx hb w => lv_ldiv hx hb hd hx9 w) (hk _ (hL trivial))
    · exact H.1.elim
  case lrem => 
    dsimp only [gStepD] at H
    split at H
    · obtain ⟨⟨rfl, hx9⟩, hL, -⟩ := H
      exact gw_pure (fun _ _ _ _ _ _ _ _ _ _ _ _ hx hb w => lv_lrem hx hb hd hx9 w) (hk _ (hL trivial))
    · exact H.1.elim
  case iload j => 
    dsimp only [gStepD] at H
    split at H
    · rename_i x heq
      obtain ⟨rfl, hL, -⟩ := H
      exact gw_load (w := 2) heq (fun _ _ _ _ _ _ _ _ _ _ _ _ hx hb hl w => lv_iload hx hb hd hl w) (hk _ (hL trivial))
    · exact H.1.elim
  case iload_n j => 
    dsimp only [gStepD] at H
    split at H
    · rename_i x heq
      obtain ⟨rfl, hL, -⟩ := H
      exact gw_load (w := 1) heq (fun _ _ _ _ _ _ _ _ _ _ _ _ hx hb hl w => lv_iload_n hx hb hd rfl hl w) (hk _ (hL trivial))
    · exact H.1.elim
  case lload j => 
    dsimp only [gStepD] at H
    split at H
    · rename_i x heq
      obtain ⟨rfl, hL, -⟩ := H
      exact gw_load (w := 2) heq (fun _ _ _ _ _ _ _ _ _ _ _ _ hx hb hl w => lv_lload hx hb hd hl w) (hk _ (hL trivial))
    · exact H.1.elim
  case lload_n j => 
    dsimp only [gStepD] at H
    split at H
    · rename_i x heq
      obtain ⟨rfl, hL, -⟩ := H
      exact gw_load (w := 1) heq (fun _ _ _ _ _ _ _ _ _ _ _ _ hx hb hl w => lv_lload_n hx hb hd rfl hl w) (hk _ (hL trivial))
    · exact H.1.elim
  case aload j => 
    dsimp only [gStepD] at H
    split at H
    · rename_i x heq
      obtain ⟨rfl, hL, -⟩ := H
      exact gw_load (w := 2) heq (fun _ _ _ _ _ _ _ _ _ _ _ _ hx hb hl w => lv_aload hx hb hd hl w) (hk _ (hL trivial))
    · exact H.1.elim
  case aload_n j => 
    dsimp only [gStepD] at H
    split at H
    · rename_i x heq
      obtain ⟨rfl, hL, -⟩ := H
      exact gw_load (w := 1) heq (fun _ _ _ _ _ _ _ _ _ _ _ _ hx hb hl w => lv_aload_n hx hb hd rfl hl w) (hk _ (hL trivial))
    · exact H.1.elim
  case istore j => 
    dsimp only [gStepD] at H
    split at H
    · obtain ⟨⟨rfl, hn⟩, hL, -⟩ := H
      exact gw_st1 (w := 2) (fun _ _ _ _ _ _ _ _ _ _ _ _ hx hb hl w => lv_istore hx hb hd hl hn rfl w) (hk _ (hL trivial))
    · exact H.1.elim
  case istore_n j => 
    dsimp only [gStepD] at H
    split at H
    · obtain ⟨⟨rfl, hn⟩, hL, -⟩ := H
      exact gw_st1 (w := 1) (fun _ _ _ _ _ _ _ _ _ _ _ _ hx hb hl w => lv_istore_n hx hb hd rfl hl hn rfl w) (hk _ (hL trivial))
    · exact H.1.elim
  case lstore j => 
    dsimp only [gStepD] at H
    split at H
    · obtain ⟨⟨rfl, hn⟩, hL, -⟩ := H
      exact gw_st2 (w := 2) (fun _ _ _ _ _ _ _ _ _ _ _ _ hx hb hl w => lv_lstore hx hb hd hl hn rfl w) (hk _ (hL trivial))
    · exact H.1.elim
  case lstore_n j => 
    dsimp only [gStepD] at H
    split at H
    · obtain ⟨⟨rfl, hn⟩, hL, -⟩ := H
      exact gw_st2 (w := 1) (fun _ _ _ _ _ _ _ _ _ _ _ _ hx hb hl w => lv_lstore_n hx hb hd rfl hl hn rfl w) (hk _ (hL trivial))
    · exact H.1.elim
  case astore j => 
    dsimp only [gStepD] at H
    split at H
    · obtain ⟨⟨rfl, hn⟩, hL, -⟩ := H
      exact gw_st1 (w := 2) (fun _ _ _ _ _ _ _ _ _ _ _ _ hx hb hl w => lv_astore hx hb hd hl hn rfl w) (hk _ (hL trivial))
    · exact H.1.elim
  case astore_n j => 
    dsimp only [gStepD] at H
    split at H
    · obtain ⟨⟨rfl, hn⟩, hL, -⟩ := H
      exact gw_st1 (w := 1) (fun _ _ _ _ _ _ _ _ _ _ _ _ hx hb hl w => lv_astore_n hx hb hd rfl hl hn rfl w) (hk _ (hL trivial))
    · exact H.1.elim
  case iinc j z => 
    dsimp only [gStepD] at H
    split at H
    · rename_i x heq
      obtain ⟨⟨rfl, hn⟩, hL, -⟩ := H
      exact gw_iinc hd heq hn (hk _ (hL trivial))
    · exact H.1.elim
  case dup => 
    dsimp only [gStepD] at H
    split at H
    · obtain ⟨⟨rfl, hn⟩, hL, -⟩ := H
      exact gw_pure (fun _ _ _ _ _ _ _ _ _ _ _ _ hx hb w => lv_dup hx hb hd hn w) (hk _ (hL trivial))
    · exact H.1.elim
  case pop => 
    dsimp only [gStepD] at H
    split at H
    · obtain ⟨⟨rfl, hn⟩, hL, -⟩ := H
      exact gw_pure (fun _ _ _ _ _ _ _ _ _ _ _ _ hx hb w => lv_pop hx hb hd hn w) (hk _ (hL trivial))
    · exact H.1.elim
  case dup_x1 => 
    dsimp only [gStepD] at H
    split at H
    · obtain ⟨⟨rfl, hn⟩, hL, -⟩ := H
      exact gw_pure (fun _ _ _ _ _ _ _ _ _ _ _ _ hx hb w => lv_dup_x1 hx hb hd hn.1 hn.2 w) (hk _ (hL trivial))
    · exact H.1.elim
  case dup2 => 
    dsimp only [gStepD] at H
    split at H
    · obtain ⟨⟨rfl, hn⟩, hL, -⟩ := H
      exact gw_pure (fun _ _ _ _ _ _ _ _ _ _ _ _ hx hb w => lv_dup2_11 hx hb hd hn.1 hn.2 w) (hk _ (hL trivial))
    · exact H.1.elim
  case goto off => 
    dsimp only [gStepD] at H
    obtain ⟨⟨rfl, hz⟩, hL, -⟩ := H
    exact gw_pure (fun _ _ _ _ _ _ _ _ _ _ _ _ hx hb w => lv_goto hx hb hd (gTg_ok hz) w) (hk _ (hL trivial))
  case ifCond cnd off => 
    dsimp only [gStepD] at H
    split at H
    · obtain ⟨⟨rfl, hz⟩, h1, -⟩ := H
      have h2 := hk _ (h1 trivial)
      cases cnd
      · exact gw_br (fun _ _ _ _ _ _ _ _ _ _ _ _ hx hb a b => lv_if_eq hx hb hd (gTg_ok hz) a b) (fun z => by rw [gB_t (cnd := .eq) z] at h2; exact h2) (fun z => by rw [gB_f (cnd := .eq) z] at h2; exact h2)
      · exact gw_br (fun _ _ _ _ _ _ _ _ _ _ _ _ hx hb a b => lv_if_ne hx hb hd (gTg_ok hz) a b) (fun z => by rw [gB_t (cnd := .ne) z] at h2; exact h2) (fun z => by rw [gB_f (cnd := .ne) z] at h2; exact h2)
      · exact gw_br (fun _ _ _ _ _ _ _ _ _ _ _ _ hx hb a b => lv_if_lt hx hb hd (gTg_ok hz) a b) (fun z => by rw [gB_t (cnd := .lt) z] at h2; exact h2) (fun z => by rw [gB_f (cnd := .lt) z] at h2; exact h2)
      · exact gw_br (fun _ _ _ _ _ _ _ _ _ _ _ _ hx hb a b => lv_if_ge hx hb hd (gTg_ok hz) a b) (fun z => by rw [gB_t (cnd := .ge) z] at h2; exact h2) (fun z => by rw [gB_f (cnd := .ge) z] at h2; exact h2)
      · exact gw_br (fun _ _ _ _ _ _ _ _ _ _ _ _ hx hb a b => lv_if_gt hx hb hd (gTg_ok hz) a b) (fun z => by rw [gB_t (cnd := .gt) z] at h2; exact h2) (fun z => by rw [gB_f (cnd := .gt) z] at h2; exact h2)
      · exact gw_br (fun _ _ _ _ _ _ _ _ _ _ _ _ hx hb a b => lv_if_le hx hb hd (gTg_ok hz) a b) (fun z => by rw [gB_t (cnd := .le) z] at h2; exact h2) (fun z => by rw [gB_f (cnd := .le) z] at h2; exact h2)
    · exact H.1.elim
  case if_icmp cnd off => 
    dsimp only [gStepD] at H
    split at H
    · obtain ⟨⟨rfl, hz⟩, h1, -⟩ := H
      have h2 := hk _ (h1 trivial)
      cases cnd
      · exact gw_br (fun _ _ _ _ _ _ _ _ _ _ _ _ hx hb a b => lv_icmp_eq hx hb hd (gTg_ok hz) a b) (fun z => by rw [gB_t (cnd := .eq) z] at h2; exact h2) (fun z => by rw [gB_f (cnd := .eq) z] at h2; exact h2)
      · exact gw_br (fun _ _ _ _ _ _ _ _ _ _ _ _ hx hb a b => lv_icmp_ne hx hb hd (gTg_ok hz) a b) (fun z => by rw [gB_t (cnd := .ne) z] at h2; exact h2) (fun z => by rw [gB_f (cnd := .ne) z] at h2; exact h2)
      · exact gw_br (fun _ _ _ _ _ _ _ _ _ _ _ _ hx hb a b => lv_icmp_lt hx hb hd (gTg_ok hz) a b) (fun z => by rw [gB_t (cnd := .lt) z] at h2; exact h2) (fun z => by rw [gB_f (cnd := .lt) z] at h2; exact h2)
      · exact gw_br (fun _ _ _ _ _ _ _ _ _ _ _ _ hx hb a b => lv_icmp_ge hx hb hd (gTg_ok hz) a b) (fun z => by rw [gB_t (cnd := .ge) z] at h2; exact h2) (fun z => by rw [gB_f (cnd := .ge) z] at h2; exact h2)
      · exact gw_br (fun _ _ _ _ _ _ _ _ _ _ _ _ hx hb a b => lv_icmp_gt hx hb hd (gTg_ok hz) a b) (fun z => by rw [gB_t (cnd := .gt) z] at h2; exact h2) (fun z => by rw [gB_f (cnd := .gt) z] at h2; exact h2)
      · exact gw_br (fun _ _ _ _ _ _ _ _ _ _ _ _ hx hb a b => lv_icmp_le hx hb hd (gTg_ok hz) a b) (fun z => by rw [gB_t (cnd := .le) z] at h2; exact h2) (fun z => by rw [gB_f (cnd := .le) z] at h2; exact h2)
    · exact H.1.elim
  case tableswitch dflt lo hi offs => 
    dsimp only [gStepD] at H
    split at H
    · rename_i x r
      obtain ⟨⟨hz, hh, hw⟩, h1, h2⟩ := H
      by_cases ho : x.toInt < lo ∨ hi < x.toInt
      · exact gw_pure (fun _ _ _ _ _ _ _ _ _ _ _ _ hx hb w => lv_tableOut hx hb hd ho (gTg_ok hz) w) (hk _ (h1 ho))
      · have q1 : ¬ x.toInt < lo := fun z => ho (Or.inl z)
        have q2 : ¬ hi < x.toInt := fun z => ho (Or.inr z)
        have hj : (x.toInt - lo).toNat < offs.toList.length := by omega
        have he : offs.toList[(x.toInt - lo).toNat]? = some offs.toList[(x.toInt - lo).toNat] := List.getElem?_eq_getElem hj
        have a1 := gTw_at _ _ _ hw he
        have a2 := gTs_at _ _ _ _ h2 (show x.toInt = lo + (((x.toInt - lo).toNat : Nat) : Int) by omega) he
        exact gw_pure (fun _ _ _ _ _ _ _ _ _ _ _ _ hx hb w => lv_tableIn hx hb hd q1 q2 (by rw [← Array.getElem?_toList]; exact he) (gTg_ok a1) w) (hk _ a2)
    · exact H.1.elim
  case getfield j => 
    dsimp only [gStepD] at H
    split at H
    · rename_i hf
      split at H
      · rename_i he
        split at H
        · rename_i hv
          obtain ⟨⟨rfl, rfl⟩, hL, -⟩ := H
          exact gw_get hd hf he hv (hk _ (hL trivial))
        · exact H.1.elim
      · exact H.1.elim
    · exact H.1.elim
  case putfield j => 
    dsimp only [gStepD] at H
    split at H
    · rename_i hf
      split at H
      · rename_i he
        obtain ⟨⟨rfl, rfl, h1, h2⟩, hL, -⟩ := H
        exact gw_put hd hf he h1 h2 (hk _ (hL trivial))
      · exact H.1.elim
    · exact H.1.elim
  case iaload => 
    dsimp only [gStepD] at H
    split at H
    · split at H
      · rename_i he
        obtain ⟨⟨rfl, h1, h2⟩, hL, -⟩ := H
        exact gw_iald hd he h1 h2 (hk _ (hL trivial))
      · split at H
        · rename_i he
          subst he
          obtain ⟨⟨rfl, h2⟩, hL, -⟩ := H
          exact gw_tabS hd h2 (hk _ (hL trivial))
        · exact H.1.elim
      · exact H.1.elim
    · exact H.1.elim
  case laload => 
    dsimp only [gStepD] at H
    split at H
    · split at H
      · rename_i he
        obtain ⟨⟨rfl, h1, h2⟩, hL, -⟩ := H
        exact gw_lald hd he h1 h2 (hk _ (hL trivial))
      · split at H
        · rename_i he
          subst he
          obtain ⟨⟨rfl, h2⟩, hL, -⟩ := H
          exact gw_tabW hd h2 (hk _ (hL trivial))
        · split at H
          · rename_i he
            subst he
            obtain ⟨⟨rfl, h2⟩, hL, -⟩ := H
            exact gw_tabF hd h2 (hk _ (hL trivial))
          · exact H.1.elim
      · exact H.1.elim
    · exact H.1.elim
  case baload => 
    dsimp only [gStepD] at H
    split at H
    · split at H
      · rename_i he
        obtain ⟨⟨rfl, h1, h2⟩, hL, -⟩ := H
        exact gw_bald hd he h1 h2 (hk _ (hL trivial))
      · exact H.1.elim
    · exact H.1.elim
  case iastore => 
    dsimp only [gStepD] at H
    split at H
    · split at H
      · rename_i he
        obtain ⟨⟨rfl, h1, h2⟩, hL, -⟩ := H
        exact gw_iast hd he h1 h2 (hk _ (hL trivial))
      · exact H.1.elim
    · exact H.1.elim
  case lastore => 
    dsimp only [gStepD] at H
    split at H
    · split at H
      · rename_i he
        obtain ⟨⟨rfl, h1, h2⟩, hL, -⟩ := H
        exact gw_last hd he h1 h2 (hk _ (hL trivial))
      · exact H.1.elim
    · exact H.1.elim
  case bastore => 
    dsimp only [gStepD] at H
    split at H
    · split at H
      · rename_i he
        obtain ⟨⟨rfl, h1, h2⟩, hL, -⟩ := H
        exact gw_bast hd he h1 h2 (hk _ (hL trivial))
      · exact H.1.elim
    · exact H.1.elim
  case arraylength => 
    dsimp only [gStepD] at H
    split at H
    · split at H
      · rename_i he
        obtain ⟨⟨rfl, ty, ht⟩, hL, -⟩ := H
        exact gw_alen hd he ht (hk _ (hL trivial))
      · split at H
        · rename_i he
          subst he
          obtain ⟨rfl, hL, -⟩ := H
          exact gw_lenW hd (hk _ (hL trivial))
        · split at H
          · rename_i he
            subst he
            obtain ⟨rfl, hL, -⟩ := H
            exact gw_lenS hd (hk _ (hL trivial))
          · exact H.1.elim
      · exact H.1.elim
    · exact H.1.elim
  case getstatic j => 
    dsimp only [gStepD] at H
    split at H
    · rename_i b hf
      obtain ⟨rfl, hL, -⟩ := H
      cases b
      · exact gw_gsW hd hf (hk _ (hL trivial))
      · exact gw_gsF hd hf (hk _ (hL trivial))
    · exact hK _ H
  case invokestatic j => 
    dsimp only [gStepD] at H
    split at H
    · rename_i m hm
      split at H
      · rename_i f hf
        split at H
        · rename_i P st2 h2 he
          obtain ⟨⟨rfl, hs9, hP⟩, hL, -⟩ := H
          exact hT.1 m f hf l g I R h0 Z k n pc lv st h j P st2 h2 hT.2.1 hT.2.2 (Or.inl ⟨hd, hs9⟩) hm he hP (hk _ (hL trivial))
        · exact H.1.elim
      · exact hK _ H
    · exact hK _ H
  case invokevirtual j => 
    dsimp only [gStepD] at H
    split at H
    · rename_i m hm
      split at H
      · rename_i f hf
        split at H
        · rename_i P st2 h2 he
          obtain ⟨⟨rfl, hs9, hP⟩, hL, -⟩ := H
          exact hT.1 m f hf l g I R h0 Z k n pc lv st h j P st2 h2 hT.2.1 hT.2.2 (Or.inr ⟨hd, hs9⟩) hm he hP (hk _ (hL trivial))
        · exact H.1.elim
      · exact hK _ H
    · exact hK _ H
  case lookupswitch dflt ps => 
    dsimp only [gStepD] at H
    split at H
    · rename_i x r
      obtain ⟨⟨hz, h0, hw⟩, h1⟩ := H
      obtain ⟨o, ho1, ho2, ho3⟩ := gLs_at ps.toList dflt h0 hw h1
      exact gw_pure (fun _ _ _ _ _ _ _ _ _ _ _ _ hx hb w => lv_lookup hx hb hd hz ho1 (gTg_ok ho2) w) (hk _ ho3)
    · exact H.1.elim
  case ireturn => 
    dsimp only [gStepD] at H
    split at H
    · obtain ⟨⟨rfl, h1, h2⟩, -⟩ := H
      exact (hq pc lv h).1 _ hd h1 h2
    · exact H.1.elim
  case lreturn => 
    dsimp only [gStepD] at H
    split at H
    · obtain ⟨⟨rfl, h1, h2⟩, -⟩ := H
      exact (hq pc lv h).2.1 _ hd h1 h2
    · exact H.1.elim
  case return_ => 
    dsimp only [gStepD] at H
    split at H
    · obtain ⟨⟨rfl, h1, h2⟩, -⟩ := H
      exact (hq pc lv h).2.2 hd h1 h2
    · exact H.1.elim
  case ldc j => 
    dsimp only [gStepD] at H
    split at H
    · rename_i hf
      obtain ⟨rfl, hL, -⟩ := H
      exact gw_ldc hd hf (hk _ (hL trivial))
    · exact hK _ H
  case ldc_w j => 
    dsimp only [gStepD] at H
    split at H
    · rename_i hf
      obtain ⟨rfl, hL, -⟩ := H
      exact gw_ldcw hd hf (hk _ (hL trivial))
    · exact hK _ H
  case ldc2_w j => 
    dsimp only [gStepD] at H
    split at H
    · rename_i hf
      obtain ⟨rfl, hL, -⟩ := H
      exact gw_ldc2 hd hf (hk _ (hL trivial))
    · exact hK _ H
  all_goals exact hK _ H
theorem gSd_ok {T : gTB} {l : Launch} {g : gG} {I : gI} {R : Room} {h0 : gH} {Z : gZ} {k n : Nat} {q : Option Value → gH → Prop} {K kk : gT4 → Prop} (hK : ∀ s : gT4, K s → gw l g I R h0 Z k n s.1 s.2.1 s.2.2.1 s.2.2.2) (hk : ∀ s : gT4, kk s → gw l g I R h0 Z k n s.1 s.2.1 s.2.2.1 s.2.2.2) (hq : gRt l g I R h0 Z k n q) (hT9 : gTO T R k n) (s : gT4) (H : gGo K kk s (gSd T g I q s)) : gw l g I R h0 Z k n s.1 s.2.1 s.2.2.1 s.2.2.2 := by
  unfold gSd at H
  split at H
  · rename_i hd
    exact gStepD_ok hd hK hk hq hT9 H
  · exact H.1.elim
theorem gEd_ok {T : gTB} {l : Launch} {g : gG} {I : gI} {R : Room} {h0 : gH} {Z : gZ} {k n : Nat} {q : Option Value → gH → Prop} {sp : List Nat} {K : gT4 → Prop} (hK : ∀ s : gT4, K s → gw l g I R h0 Z k n s.1 s.2.1 s.2.2.1 s.2.2.2) (hq : gRt l g I R h0 Z k n q) (hT9 : gTO T R k n) : ∀ (f : Nat) (s : gT4), gEd T g I q sp K f s → gw l g I R h0 Z k n s.1 s.2.1 s.2.2.1 s.2.2.2 := by
  intro f
  induction f with
  | zero => exact hK
  | succ f ih =>
    intro s H
    unfold gEd at H
    split at H
    · exact hK _ H
    · exact gSd_ok hK ih hq hT9 s H
def gwK (l : Launch) (g : gG) (I : gI) (R : Room) (h0 : gH) (Z : gZ) (k n : Nat) (s : gT4) : Prop := gw l g I R h0 Z k n s.1 s.2.1 s.2.2.1 s.2.2.2
theorem gwK_s (l : Launch) (g : gG) (I : gI) (R : Room) (h0 : gH) (Z : gZ) (k n pc : Nat) (lv : gV) (st : List Value) (h : gH) : gwK l g I R h0 Z k n (pc, lv, st, h) = gw l g I R h0 Z k n pc lv st h := rfl
/-- from a place to the next stops; the first step is taken even where it is a stop -/
theorem gw_ev {T : gTB} {l : Launch} {g : gG} {I : gI} {R : Room} {h0 h : gH} {Z : gZ} {k n pc : Nat} {lv : gV} {st : List Value} {Q : Option Value → gH → Prop} (f : Nat) (sp : List Nat) (hq : gRt l g I R h0 Z k n Q) (hT9 : gTO T R k n) (H : gGo (gwK l g I R h0 Z k n) (gEd T g I Q sp (gwK l g I R h0 Z k n) f) (pc, lv, st, h) (gSd T g I Q (pc, lv, st, h))) : gw l g I R h0 Z k n pc lv st h :=
  gSd_ok (fun _ z => z) (gEd_ok (fun _ z => z) hq hT9 f) hq hT9 (pc, lv, st, h) H
theorem gEd_s (T : gTB) (g : gG) (I : gI) (q : Option Value → gH → Prop) (sp : List Nat) (K : gT4 → Prop) (n pc : Nat) (lv : gV) (st : List Value) (h : gH) : gEd T g I q sp K (n + 1) (pc, lv, st, h) = if pc ∈ sp then K (pc, lv, st, h) else gGo K (gEd T g I q sp K n) (pc, lv, st, h) (gSd T g I q (pc, lv, st, h)) := Eq.trans rfl rfl
theorem gEd_0 (T : gTB) (g : gG) (I : gI) (q : Option Value → gH → Prop) (sp : List Nat) (K : gT4 → Prop) (pc : Nat) (lv : gV) (st : List Value) (h : gH) : gEd T g I q sp K 0 (pc, lv, st, h) = K (pc, lv, st, h) := Eq.trans rfl rfl
theorem gSd_s (T : gTB) (g : gG) (I : gI) (q : Option Value → gH → Prop) (pc : Nat) (lv : gV) (st : List Value) (h : gH) : gSd T g I q (pc, lv, st, h) = match decode I.2.1 pc with
  | .ok (i, len) => gStepD T g I q i len pc lv st h
  | .error _ => some (False, []) := Eq.trans rfl rfl
theorem gGo_n (K R : gT4 → Prop) (s : gT4) : gGo K R s none = K s := rfl
theorem gGo_c (K R : gT4 → Prop) (s : gT4) (c : Prop) (L : List (Prop × gT4)) : gGo K R s (some (c, L)) = (c ∧ gAll R L) := rfl
theorem gAll_n (R : gT4 → Prop) : gAll R [] = True := rfl
theorem gAll_c (R : gT4 → Prop) (p : Prop) (s : gT4) (L : List (Prop × gT4)) : gAll R ((p, s) :: L) = ((p → R s) ∧ gAll R L) := rfl
theorem gEd_B (T : gTB) (g : gG) (I : gI) (q : Option Value → gH → Prop) (sp : List Nat) (K : gT4 → Prop) (n : Nat) (cnd : ClassFile.Cond) (x y : Int32) (a b : gT4) : gEd T g I q sp K n (gB cnd x y a b) = ((gCT cnd x y → gEd T g I q sp K n a) ∧ (gCF cnd x y → gEd T g I q sp K n b)) := gB_or cnd x y a b _
theorem fv0 : (0 : Fin 4).val = 0 := rfl
theorem fv1 : (1 : Fin 4).val = 1 := rfl
theorem fv2 : (2 : Fin 4).val = 2 := rfl
theorem fv3 : (3 : Fin 4).val = 3 := rfl
def gr0 : Room := { frames := 0, cells := 0, slots := 0, locals := 0 }
