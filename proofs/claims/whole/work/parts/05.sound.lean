section GF
variable {l : Launch} {g : gG} {I : gI} {R : Room} {h0 h : gH} {Z : gZ} {k n pc pc' : Nat} {lv lv' : gV} {st st' r : List Value}
theorem gP.one {D : va_G} {H : Heap} {a : Nat} {e : va_E} (hP : gP D h H) (he : h a = some e) : va_P D gCL [(a, e)] H := by
  intro k q hq
  cases k with
  | zero =>
    cases hq
    exact hP a e he
  | succ k => simp at hq
theorem gw_get {a ci j idx : Nat} {fs : List Value} {v : Value} (hd : decode I.2.1 pc = .ok (.getfield idx, 3)) (hf : gF I.1.cls idx = some (ci, j)) (he : h a = some (.inr (ci, fs))) (hv : fs[j]? = some v) (K : gw l g I R h0 Z k n (pc + 3) lv (v :: r) h) : gw l g I R h0 Z k n pc lv (.ref a :: r) h := by
  intro p e s m args below meth c C H locs hP hD hS ls hl
  obtain ⟨hx, hb, hml, hown, hts, hK, hlocks, hr, hnm, hNw, hSt⟩ := id C
  obtain ⟨q, hc, hj, hin, hlink⟩ := gF_ok hf
  have kk := K p e s m args below meth c C H locs hP hD hS ls hl
  rcases hlink with hlink | ⟨host, hlink⟩
  · exact va_get hx hb hts hin hown hK (hP.one he) 0 rfl hc j hj (hts _ hlink) (fun _ z => z) hv hd kk
  · exact va_getN hx hb hts hin hown hK (hP.one he) 0 rfl hc j hj (va_Nw.use rfl (hNw _ hlink)) (fun _ z => z) hv hd kk
theorem gw_put {a ci j idx : Nat} {fs : List Value} {v : Value} (hd : decode I.2.1 pc = .ok (.putfield idx, 3)) (hf : gFp I.1 idx = some (ci, j)) (he : h a = some (.inr (ci, fs))) (hl9 : j < fs.length) (hfit : gFit (gTY ci j) v) (K : gw l g I R h0 Z k n (pc + 3) lv r (gup h a (.inr (ci, fs.set j v)))) : gw l g I R h0 Z k n pc lv (v :: .ref a :: r) h := by
  intro p e s m args below meth c C H locs hP hD hS ls hl
  obtain ⟨hx, hb, hml, hown, hts, hK, hlocks, hr, hnm, hNw, hSt⟩ := id C
  obtain ⟨⟨CN, T, N⟩, hc, hj, hin, hty, hap0, hlink⟩ := gFp_ok hf
  dsimp only at hj hin hty hap0 hlink
  have hap := va_apart (own := I.1.cls) hts hin (gTY ci) hty hap0 hK hc
  obtain ⟨w, h1, cell, q1, q2, q3, q4⟩ := hP a _ he
  have hw : w = (CN, T, N) := Option.some.inj (h1.symm.trans hc)
  subst hw
  obtain ⟨hSl, hfc, kC, hkC, hkind⟩ := hK.1 ci _ hc
  obtain ⟨cf, kf, fi, f, hi, hsl⟩ := hSl j hj
  have hlay := hts _ (hin _ (u_in_lay hj))
  unfold u_lay at hlay
  have hst := (u_facts hfc hkC (u_lays hts hin hj) hi).1
  have fin : ∀ H' : Heap, H'[a]? = some (cell.setSlot (g.1.2 ci j) v) → H'.size = H.size → (∀ q, q ≠ a → H'[q]? = H[q]?) → W p l e R s m args below meth c H' (locs ++ [⟨a, g.1.2 ci j⟩]) k n (Z below args s) (F0 m (pc + 3) ls r) := by
    intro H' e1 e2 e3
    exact K p e s m args below meth c C H' _ (hP.up ⟨_, hc, t_OB.to (V := updV (vp_V fs) j v) ⟨_, e1, q2, q3, t_set q4 hap hj v⟩ (fun i _ => vp_updV_set hl9 v i)⟩ e3) (hD.up (hD a _ he)) (hS.put e2 e3 (hD a _ he)) ls hl
  rcases hlink with ⟨hfin, hlink⟩ | ⟨hfin, hini, hdecl, hlink⟩
  · rw [if_neg (by rw [hfin]; decide)] at hlay
    have h6 := u_store hfc hkC hkind hlay hi (hty j hj) hfit.1 hfit.2
    refine W.putK hx hb (f := f) ⟨hown, hts _ hlink, ⟨_, _, _, hi⟩, hst⟩ (by rw [q2]; exact h6) q1 q3 (by rw [hsl]; exact k2_hasslot (q4 j hj)) rfl rfl hd fun H' e1 e2 e3 => ?_
    rw [hsl] at e1 ⊢
    exact fin H' e1 e2 e3
  · rw [if_pos hfin] at hlay
    have hcf : m.cls = cf := by
      obtain ⟨_, _, c', _, _, _, -, -, hf', -, -, -, hown2, -⟩ := Cond.laysFinal_spec hlay
      have e1 : c' = cf := by have := hi.symm.trans hf'; simp at this; exact this.1.symm
      rw [hdecl] at hown2
      rw [← e1]; exact Option.some.inj (hown.symm.trans hown2)
    have h6 := u_fits hfc hkC hkind (Or.inr hlay) hi (hty j hj) hfit.1 hfit.2
    refine W.putFinK hx hb hown (hts _ hlink) hi hst hcf (by rw [hnm]; exact hini) (by rw [q2]; exact h6) q1 q3 (by rw [hsl]; exact k2_hasslot (q4 j hj)) rfl rfl hd fun H' e1 e2 e3 => ?_
    rw [hsl] at e1 ⊢
    exact fin H' e1 e2 e3
theorem gw_iald {a nn : Nat} {cA : ClassId} {z : Nat → Int32} {i : Int32} (hd : decode I.2.1 pc = .ok (.iaload, 1)) (he : h a = some (.inl (cA, nn, .inl z))) (ht : (cA, FieldType.int) ∈ g.2.1) (hin : vp_in i nn) (K : gw l g I R h0 Z k n (pc + 1) lv (.int (z i.toNatClampNeg) :: r) h) : gw l g I R h0 Z k n pc lv (.int i :: .ref a :: r) h := by
  intro p e s m args below meth c C H locs hP hD hS ls hl
  obtain ⟨t0, ht0⟩ := List.getElem?_of_mem ht
  exact va_iald C.1 C.2.1 C.2.2.2.2.2.1 (hP.one he) 0 t0 rfl ht0 hin hd (K p e s m args below meth c C H locs hP hD hS ls hl)
theorem gw_lald {a nn : Nat} {cA : ClassId} {z : Nat → Int64} {i : Int32} (hd : decode I.2.1 pc = .ok (.laload, 1)) (he : h a = some (.inl (cA, nn, .inr (.inl z)))) (ht : (cA, FieldType.long) ∈ g.2.1) (hin : vp_in i nn) (K : gw l g I R h0 Z k n (pc + 1) lv (.long (z i.toNatClampNeg) :: r) h) : gw l g I R h0 Z k n pc lv (.int i :: .ref a :: r) h := by
  intro p e s m args below meth c C H locs hP hD hS ls hl
  obtain ⟨t0, ht0⟩ := List.getElem?_of_mem ht
  exact va_lald C.1 C.2.1 C.2.2.2.2.2.1 (hP.one he) 0 t0 rfl ht0 hin hd (K p e s m args below meth c C H locs hP hD hS ls hl)
theorem gw_alen {a : Nat} {cA : ClassId} {x : vp_A} {ty : FieldType} (hd : decode I.2.1 pc = .ok (.arraylength, 1)) (he : h a = some (.inl (cA, x))) (ht : (cA, ty) ∈ g.2.1) (K : gw l g I R h0 Z k n (pc + 1) lv (.int (Int32.ofNat x.1) :: r) h) : gw l g I R h0 Z k n pc lv (.ref a :: r) h := by
  intro p e s m args below meth c C H locs hP hD hS ls hl
  obtain ⟨t0, ht0⟩ := List.getElem?_of_mem ht
  exact va_alen C.1 C.2.1 C.2.2.2.2.2.1 (hP.one he) 0 t0 rfl ht0 rfl hd (K p e s m args below meth c C H locs hP hD hS ls hl)
theorem gw_iast {a nn : Nat} {cA : ClassId} {z : Nat → Int32} {i x : Int32} (hd : decode I.2.1 pc = .ok (.iastore, 1)) (he : h a = some (.inl (cA, nn, .inl z))) (ht : (cA, FieldType.int) ∈ g.2.1) (hin : vp_in i nn) (K : gw l g I R h0 Z k n (pc + 1) lv r (gup h a (.inl (cA, nn, .inl (upd z i.toNatClampNeg x))))) : gw l g I R h0 Z k n pc lv (.int x :: .int i :: .ref a :: r) h := by
  intro p e s m args below meth c C H locs hP hD hS ls hl
  obtain ⟨t0, ht0⟩ := List.getElem?_of_mem ht
  refine W.iast C.1 C.2.1 (hP a _ he) ((C.2.2.2.2.2.1.2 t0 _ ht0).1 nn (fun j => .int (z j))) (fun q => by cases q) (by show ¬ (i < 0 ∨ (arrV _ _ _).slots.size ≤ _); rw [arrV_size]; exact hin) rfl rfl hd fun H1 e1 z1 oq => ?_
  refine K p e s m args below meth c C H1 _ (hP.up ?_ oq) (hD.up (hD a _ he)) (hS.put z1 oq (hD a _ he)) ls hl
  show H1[a]? = some (vp_cell _ _)
  rw [e1]
  rw [vp_cell_i, vp_cell_i, arrV_store]
  congr 2
  funext q
  by_cases hq : q = i.toNatClampNeg
  · subst hq
    simp [updV, upd]
  · simp [updV, upd, hq]
theorem gw_last {a nn : Nat} {cA : ClassId} {z : Nat → Int64} {i : Int32} {x : Int64} (hd : decode I.2.1 pc = .ok (.lastore, 1)) (he : h a = some (.inl (cA, nn, .inr (.inl z)))) (ht : (cA, FieldType.long) ∈ g.2.1) (hin : vp_in i nn) (K : gw l g I R h0 Z k n (pc + 1) lv r (gup h a (.inl (cA, nn, .inr (.inl (vp_updL z i.toNatClampNeg x)))))) : gw l g I R h0 Z k n pc lv (.long x :: .int i :: .ref a :: r) h := by
  intro p e s m args below meth c C H locs hP hD hS ls hl
  obtain ⟨t0, ht0⟩ := List.getElem?_of_mem ht
  refine W.last C.1 C.2.1 (hP a _ he) ((C.2.2.2.2.2.1.2 t0 _ ht0).1 nn (fun j => .long (z j))) (fun q => by cases q) (by show ¬ (i < 0 ∨ (arrV _ _ _).slots.size ≤ _); rw [arrV_size]; exact hin) rfl rfl hd fun H1 e1 z1 oq => ?_
  refine K p e s m args below meth c C H1 _ (hP.up ?_ oq) (hD.up (hD a _ he)) (hS.put z1 oq (hD a _ he)) ls hl
  show H1[a]? = some (vp_cell _ _)
  rw [e1]
  rw [vp_cell_l, vp_cell_l, arrV_store]
  congr 2
  funext q
  by_cases hq : q = i.toNatClampNeg
  · subst hq
    simp [updV, vp_updL]
  · simp [updV, vp_updL, hq]
theorem gw_iinc {j : Nat} {z : Int} {x : Int32} (hd : decode I.2.1 pc = .ok (.iinc j z, 3)) (hv : lv[j]? = some (some (.int x))) (hn : j < I.2.2.1) (K : gw l g I R h0 Z k n (pc + 3) (gSet lv j (.int (x + Int32.ofInt z))) st h) : gw l g I R h0 Z k n pc lv st h := by
  intro p e s m args below meth c C H locs hP hD hS ls hl
  obtain ⟨t0, ht0⟩ := List.getElem?_of_mem (gL_mem.mpr hv)
  exact lv_iinc C.1 C.2.1 hd hl ht0 rfl hn rfl (fun ls' hl' => K p e s m args below meth c C H locs hP hD hS ls' (gL_set1 hl'))
/-- the ends of a method that returns -/
def gRt (l : Launch) (g : gG) (I : gI) (R : Room) (h0 : gH) (Z : gZ) (k n : Nat) (q : Option Value → gH → Prop) : Prop := ∀ (pc : Nat) (lv : gV) (h : gH),
  (∀ v : Int32, decode I.2.1 pc = .ok (.ireturn, 1) → gRetN I.2.2.2 v → q (some (.int v)) h → gw l g I R h0 Z k n pc lv [.int v] h) ∧
  (∀ v : Int64, decode I.2.1 pc = .ok (.lreturn, 1) → I.2.2.2 = some .long → q (some (.long v)) h → gw l g I R h0 Z k n pc lv [.long v] h) ∧
  (decode I.2.1 pc = .ok (.return_, 1) → I.2.2.2 = none → q none h → gw l g I R h0 Z k n pc lv [] h)
theorem gRt_m {q : Option Value → gH → Prop} : gRt l g I R h0 (gZm g h0 k n q) k n q := by
  intro pc lv h
  refine ⟨fun v hd hn hq => ?_, fun v hd hn hq => ?_, fun hd hn hq => ?_⟩
  · intro p e s m args below meth c C H locs hP hD hS ls hl
    obtain ⟨hx, hb, hml, hown, hts, hK, hlocks, hr, hnm, hNw, hSt⟩ := id C
    unfold gRetN at hn
    split at hn
    · rename_i ty hty
      exact W.zret (ty := ty) hx hb (by rw [hr, hty]) hn (fun t ht hW => ⟨⟨_, h, rfl, hq, by rw [ht]; exact hP, hD, va_K.moved hW.alike hK⟩, hS.F ht⟩) hS.2.2 hd hlocks
    · exact hn.elim
  · intro p e s m args below meth c C H locs hP hD hS ls hl
    obtain ⟨hx, hb, hml, hown, hts, hK, hlocks, hr, hnm, hNw, hSt⟩ := id C
    exact W.lret hx hb (by rw [hr, hn]) (fun t ht hW => ⟨⟨_, h, rfl, hq, by rw [ht]; exact hP, hD, va_K.moved hW.alike hK⟩, hS.F ht⟩) hS.2.2 hd hlocks
  · intro p e s m args below meth c C H locs hP hD hS ls hl
    obtain ⟨hx, hb, hml, hown, hts, hK, hlocks, hr, hnm, hNw, hSt⟩ := id C
    exact W.vret hx hb (by rw [hr, hn]) (fun t ht hW => ⟨⟨_, h, rfl, hq, by rw [ht]; exact hP, hD, va_K.moved hW.alike hK⟩, hS.F ht⟩) hS.2.2 hd hlocks
theorem gSw_at {f : Nat → Prop} {x : Int32} {pc : Nat} : ∀ (L : List Int) (lo : Int) (j : Nat) (o : Int), gSw f x pc lo L → x.toInt = lo + (j : Int) → L[j]? = some o → 0 ≤ (pc : Int) + o ∧ f (gTg pc o)
  | [], _, j, o, _, _, h => by simp at h
  | o1 :: L, lo, 0, o, hs, hx, h => by
    simp at h
    subst h
    exact hs.1 (by simpa using hx)
  | o1 :: L, lo, j + 1, o, hs, hx, h => gSw_at L (lo + 1) j o hs.2 (by rw [hx]; omega) (by simpa using h)
end GF
set_option maxHeartbeats 4000000 in
set_option maxRecDepth 100000 in
theorem gStep_ok {l : Launch} {g : gG} {I : gI} {R : Room} {h0 h : gH} {Z : gZ} {k n pc len : Nat} {lv : gV} {st : List Value} {i : ClassFile.Instr} {q : Option Value → gH → Prop} {K kk : gK} (hd : decode I.2.1 pc = .ok (i, len)) (hK : ∀ pc lv st h, K pc lv st h → gw l g I R h0 Z k n pc lv st h) (hk : ∀ pc lv st h, kk pc lv st h → gw l g I R h0 Z k n pc lv st h) (hq : gRt l g I R h0 Z k n q) (H : gStep g I q K kk i len pc lv st h) : gw l g I R h0 Z k n pc lv st h := by
  cases i
  case iconst z => 
    obtain ⟨rfl, H⟩ := H
    exact gw_pure (fun _ _ _ _ _ _ _ _ _ _ _ _ hx hb w => lv_iconst hx hb hd rfl w) (hk _ _ _ _ H)
  case bipush z => 
    obtain ⟨rfl, H⟩ := H
    exact gw_pure (fun _ _ _ _ _ _ _ _ _ _ _ _ hx hb w => lv_bipush hx hb hd rfl w) (hk _ _ _ _ H)
  case sipush z => 
    obtain ⟨rfl, H⟩ := H
    exact gw_pure (fun _ _ _ _ _ _ _ _ _ _ _ _ hx hb w => lv_sipush hx hb hd rfl w) (hk _ _ _ _ H)
  case lconst z => 
    obtain ⟨rfl, H⟩ := H
    exact gw_pure (fun _ _ _ _ _ _ _ _ _ _ _ _ hx hb w => lv_lconst hx hb hd rfl w) (hk _ _ _ _ H)
  case iadd => 
    obtain ⟨rfl, H⟩ := H
    unfold gPII at H
    split at H
    · exact gw_pure (fun _ _ _ _ _ _ _ _ _ _ _ _ hx hb w => lv_iadd hx hb hd w) (hk _ _ _ _ H)
    · exact H.elim
  case isub => 
    obtain ⟨rfl, H⟩ := H
    unfold gPII at H
    split at H
    · exact gw_pure (fun _ _ _ _ _ _ _ _ _ _ _ _ hx hb w => lv_isub hx hb hd w) (hk _ _ _ _ H)
    · exact H.elim
  case imul => 
    obtain ⟨rfl, H⟩ := H
    unfold gPII at H
    split at H
    · exact gw_pure (fun _ _ _ _ _ _ _ _ _ _ _ _ hx hb w => lv_imul hx hb hd w) (hk _ _ _ _ H)
    · exact H.elim
  case iand => 
    obtain ⟨rfl, H⟩ := H
    unfold gPII at H
    split at H
    · exact gw_pure (fun _ _ _ _ _ _ _ _ _ _ _ _ hx hb w => lv_iand hx hb hd w) (hk _ _ _ _ H)
    · exact H.elim
  case ior => 
    obtain ⟨rfl, H⟩ := H
    unfold gPII at H
    split at H
    · exact gw_pure (fun _ _ _ _ _ _ _ _ _ _ _ _ hx hb w => lv_ior hx hb hd w) (hk _ _ _ _ H)
    · exact H.elim
  case ixor => 
    obtain ⟨rfl, H⟩ := H
    unfold gPII at H
    split at H
    · exact gw_pure (fun _ _ _ _ _ _ _ _ _ _ _ _ hx hb w => lv_ixor hx hb hd w) (hk _ _ _ _ H)
    · exact H.elim
  case ishl => 
    obtain ⟨rfl, H⟩ := H
    unfold gPII at H
    split at H
    · exact gw_pure (fun _ _ _ _ _ _ _ _ _ _ _ _ hx hb w => lv_ishl hx hb hd w) (hk _ _ _ _ H)
    · exact H.elim
  case ishr => 
    obtain ⟨rfl, H⟩ := H
    unfold gPII at H
    split at H
    · exact gw_pure (fun _ _ _ _ _ _ _ _ _ _ _ _ hx hb w => lv_ishr hx hb hd w) (hk _ _ _ _ H)
    · exact H.elim
  case iushr => 
    obtain ⟨rfl, H⟩ := H
    unfold gPII at H
    split at H
    · exact gw_pure (fun _ _ _ _ _ _ _ _ _ _ _ _ hx hb w => lv_iushr hx hb hd rfl w) (hk _ _ _ _ H)
    · exact H.elim
  case ineg => 
    obtain ⟨rfl, H⟩ := H
    unfold gPI at H
    split at H
    · exact gw_pure (fun _ _ _ _ _ _ _ _ _ _ _ _ hx hb w => lv_ineg hx hb hd w) (hk _ _ _ _ H)
    · exact H.elim
  case ladd => 
    obtain ⟨rfl, H⟩ := H
    unfold gPLL at H
    split at H
    · exact gw_pure (fun _ _ _ _ _ _ _ _ _ _ _ _ hx hb w => lv_ladd hx hb hd w) (hk _ _ _ _ H)
    · exact H.elim
  case lsub => 
    obtain ⟨rfl, H⟩ := H
    unfold gPLL at H
    split at H
    · exact gw_pure (fun _ _ _ _ _ _ _ _ _ _ _ _ hx hb w => lv_lsub hx hb hd w) (hk _ _ _ _ H)
    · exact H.elim
  case lmul => 
    obtain ⟨rfl, H⟩ := H
    unfold gPLL at H
    split at H
    · exact gw_pure (fun _ _ _ _ _ _ _ _ _ _ _ _ hx hb w => lv_lmul hx hb hd w) (hk _ _ _ _ H)
    · exact H.elim
  case land => 
    obtain ⟨rfl, H⟩ := H
    unfold gPLL at H
    split at H
    · exact gw_pure (fun _ _ _ _ _ _ _ _ _ _ _ _ hx hb w => lv_land hx hb hd w) (hk _ _ _ _ H)
    · exact H.elim
  case lor => 
    obtain ⟨rfl, H⟩ := H
    unfold gPLL at H
    split at H
    · exact gw_pure (fun _ _ _ _ _ _ _ _ _ _ _ _ hx hb w => lv_lor hx hb hd w) (hk _ _ _ _ H)
    · exact H.elim
  case lshl => 
    obtain ⟨rfl, H⟩ := H
    unfold gPLI at H
    split at H
    · exact gw_pure (fun _ _ _ _ _ _ _ _ _ _ _ _ hx hb w => lv_lshl hx hb hd rfl w) (hk _ _ _ _ H)
    · exact H.elim
  case lshr => 
    obtain ⟨rfl, H⟩ := H
    unfold gPLI at H
    split at H
    · exact gw_pure (fun _ _ _ _ _ _ _ _ _ _ _ _ hx hb w => lv_lshr hx hb hd rfl w) (hk _ _ _ _ H)
    · exact H.elim
  case lushr => 
    obtain ⟨rfl, H⟩ := H
    unfold gPLI at H
    split at H
    · exact gw_pure (fun _ _ _ _ _ _ _ _ _ _ _ _ hx hb w => lv_lushr hx hb hd rfl w) (hk _ _ _ _ H)
    · exact H.elim
  case lcmp => 
    obtain ⟨rfl, H⟩ := H
    unfold gPLL at H
    split at H
    · exact gw_pure (fun _ _ _ _ _ _ _ _ _ _ _ _ hx hb w => W.lcmp hx hb hd w) (hk _ _ _ _ H)
    · exact H.elim
  case i2l => 
    obtain ⟨rfl, H⟩ := H
    unfold gPI at H
    split at H
    · exact gw_pure (fun _ _ _ _ _ _ _ _ _ _ _ _ hx hb w => lv_i2l hx hb hd rfl w) (hk _ _ _ _ H)
    · exact H.elim
  case l2i => 
    obtain ⟨rfl, H⟩ := H
    unfold gPL at H
    split at H
    · exact gw_pure (fun _ _ _ _ _ _ _ _ _ _ _ _ hx hb w => lv_l2i hx hb hd rfl w) (hk _ _ _ _ H)
    · exact H.elim
  case idiv => 
    obtain ⟨rfl, H⟩ := H
    unfold gPII at H
    split at H
    · exact gw_pure (fun _ _ _ _ _ _ _ _ _ _ _ _ hx hb w => lv_idiv hx hb hd H.1 w) (hk _ _ _ _ H.2)
    · exact H.elim
  case irem => 
    obtain ⟨rfl, H⟩ := H
    unfold gPII at H
    split at H
    · exact gw_pure (fun _ _ _ _ _ _ _ _ _ _ _ _ hx hb w => lv_irem hx hb hd H.1 w) (hk _ _ _ _ H.2)
    · exact H.elim
  case ldiv => 
    obtain ⟨rfl, H⟩ := H
    unfold gPLL at H
    split at H
    · exact gw_pure (fun _ _ _ _ _ _ _ _ _ _ _ _ hx hb w => lv_ldiv hx hb hd H.1 w) (hk _ _ _ _ H.2)
    · exact H.elim
  case lrem => 
    obtain ⟨rfl, H⟩ := H
    unfold gPLL at H
    split at H
    · exact gw_pure (fun _ _ _ _ _ _ _ _ _ _ _ _ hx hb w => lv_lrem hx hb hd H.1 w) (hk _ _ _ _ H.2)
    · exact H.elim
  case iload j => 
    obtain ⟨rfl, H⟩ := H
    unfold gLdI at H
    split at H
    · rename_i x heq
      exact gw_load (w := 2) heq (fun _ _ _ _ _ _ _ _ _ _ _ _ hx hb hl w => lv_iload hx hb hd hl w) (hk _ _ _ _ H)
    · exact H.elim
  case iload_n j => 
    obtain ⟨rfl, H⟩ := H
    unfold gLdI at H
    split at H
    · rename_i x heq
      exact gw_load (w := 1) heq (fun _ _ _ _ _ _ _ _ _ _ _ _ hx hb hl w => lv_iload_n hx hb hd rfl hl w) (hk _ _ _ _ H)
    · exact H.elim
  case lload j => 
    obtain ⟨rfl, H⟩ := H
    unfold gLdL at H
    split at H
    · rename_i x heq
      exact gw_load (w := 2) heq (fun _ _ _ _ _ _ _ _ _ _ _ _ hx hb hl w => lv_lload hx hb hd hl w) (hk _ _ _ _ H)
    · exact H.elim
  case lload_n j => 
    obtain ⟨rfl, H⟩ := H
    unfold gLdL at H
    split at H
    · rename_i x heq
      exact gw_load (w := 1) heq (fun _ _ _ _ _ _ _ _ _ _ _ _ hx hb hl w => lv_lload_n hx hb hd rfl hl w) (hk _ _ _ _ H)
    · exact H.elim
  case aload j => 
    obtain ⟨rfl, H⟩ := H
    unfold gLdA at H
    split at H
    · rename_i x heq
      exact gw_load (w := 2) heq (fun _ _ _ _ _ _ _ _ _ _ _ _ hx hb hl w => lv_aload hx hb hd hl w) (hk _ _ _ _ H)
    · exact H.elim
  case aload_n j => 
    obtain ⟨rfl, H⟩ := H
    unfold gLdA at H
    split at H
    · rename_i x heq
      exact gw_load (w := 1) heq (fun _ _ _ _ _ _ _ _ _ _ _ _ hx hb hl w => lv_aload_n hx hb hd rfl hl w) (hk _ _ _ _ H)
    · exact H.elim
  case istore j => 
    obtain ⟨rfl, hn, H⟩ := H
    unfold gPI at H
    split at H
    · exact gw_st1 (w := 2) (fun _ _ _ _ _ _ _ _ _ _ _ _ hx hb hl w => lv_istore hx hb hd hl hn rfl w) (hk _ _ _ _ H)
    · exact H.elim
  case istore_n j => 
    obtain ⟨rfl, hn, H⟩ := H
    unfold gPI at H
    split at H
    · exact gw_st1 (w := 1) (fun _ _ _ _ _ _ _ _ _ _ _ _ hx hb hl w => lv_istore_n hx hb hd rfl hl hn rfl w) (hk _ _ _ _ H)
    · exact H.elim
  case lstore j => 
    obtain ⟨rfl, hn, H⟩ := H
    unfold gPL at H
    split at H
    · exact gw_st2 (w := 2) (fun _ _ _ _ _ _ _ _ _ _ _ _ hx hb hl w => lv_lstore hx hb hd hl hn rfl w) (hk _ _ _ _ H)
    · exact H.elim
  case lstore_n j => 
    obtain ⟨rfl, hn, H⟩ := H
    unfold gPL at H
    split at H
    · exact gw_st2 (w := 1) (fun _ _ _ _ _ _ _ _ _ _ _ _ hx hb hl w => lv_lstore_n hx hb hd rfl hl hn rfl w) (hk _ _ _ _ H)
    · exact H.elim
  case astore j => 
    obtain ⟨rfl, hn, H⟩ := H
    unfold gPA at H
    split at H
    · exact gw_st1 (w := 2) (fun _ _ _ _ _ _ _ _ _ _ _ _ hx hb hl w => lv_astore hx hb hd hl hn rfl w) (hk _ _ _ _ H)
    · exact H.elim
  case astore_n j => 
    obtain ⟨rfl, hn, H⟩ := H
    unfold gPA at H
    split at H
    · exact gw_st1 (w := 1) (fun _ _ _ _ _ _ _ _ _ _ _ _ hx hb hl w => lv_astore_n hx hb hd rfl hl hn rfl w) (hk _ _ _ _ H)
    · exact H.elim
  case iinc j z => 
    obtain ⟨rfl, hn, H⟩ := H
    unfold gLdI at H
    split at H
    · rename_i x heq
      exact gw_iinc hd heq hn (hk _ _ _ _ H)
    · exact H.elim
  case dup => 
    obtain ⟨rfl, H⟩ := H
    unfold gP1 at H
    split at H
    · exact gw_pure (fun _ _ _ _ _ _ _ _ _ _ _ _ hx hb w => lv_dup hx hb hd H.1 w) (hk _ _ _ _ H.2)
    · exact H.elim
  case pop => 
    obtain ⟨rfl, H⟩ := H
    unfold gP1 at H
    split at H
    · exact gw_pure (fun _ _ _ _ _ _ _ _ _ _ _ _ hx hb w => lv_pop hx hb hd H.1 w) (hk _ _ _ _ H.2)
    · exact H.elim
  case dup_x1 => 
    obtain ⟨rfl, H⟩ := H
    unfold gP2 at H
    split at H
    · exact gw_pure (fun _ _ _ _ _ _ _ _ _ _ _ _ hx hb w => lv_dup_x1 hx hb hd H.1 H.2.1 w) (hk _ _ _ _ H.2.2)
    · exact H.elim
  case dup2 => 
    obtain ⟨rfl, H⟩ := H
    unfold gP2 at H
    split at H
    · exact gw_pure (fun _ _ _ _ _ _ _ _ _ _ _ _ hx hb w => lv_dup2_11 hx hb hd H.1 H.2.1 w) (hk _ _ _ _ H.2.2)
    · exact H.elim
  case goto off => 
    obtain ⟨rfl, hz, H⟩ := H
    exact gw_pure (fun _ _ _ _ _ _ _ _ _ _ _ _ hx hb w => lv_goto hx hb hd (gTg_ok hz) w) (hk _ _ _ _ H)
  case ifCond cnd off => 
    obtain ⟨rfl, hz, H⟩ := H
    unfold gPI at H
    split at H
    · cases cnd
      · exact gw_br (fun _ _ _ _ _ _ _ _ _ _ _ _ hx hb a b => lv_if_eq hx hb hd (gTg_ok hz) a b) (fun z => hk _ _ _ _ (H.1 z)) (fun z => hk _ _ _ _ (H.2 z))
      · exact gw_br (fun _ _ _ _ _ _ _ _ _ _ _ _ hx hb a b => lv_if_ne hx hb hd (gTg_ok hz) a b) (fun z => hk _ _ _ _ (H.1 z)) (fun z => hk _ _ _ _ (H.2 z))
      · exact gw_br (fun _ _ _ _ _ _ _ _ _ _ _ _ hx hb a b => lv_if_lt hx hb hd (gTg_ok hz) a b) (fun z => hk _ _ _ _ (H.1 z)) (fun z => hk _ _ _ _ (H.2 z))
      · exact gw_br (fun _ _ _ _ _ _ _ _ _ _ _ _ hx hb a b => lv_if_ge hx hb hd (gTg_ok hz) a b) (fun z => hk _ _ _ _ (H.1 z)) (fun z => hk _ _ _ _ (H.2 z))
      · exact gw_br (fun _ _ _ _ _ _ _ _ _ _ _ _ hx hb a b => lv_if_gt hx hb hd (gTg_ok hz) a b) (fun z => hk _ _ _ _ (H.1 z)) (fun z => hk _ _ _ _ (H.2 z))
      · exact gw_br (fun _ _ _ _ _ _ _ _ _ _ _ _ hx hb a b => lv_if_le hx hb hd (gTg_ok hz) a b) (fun z => hk _ _ _ _ (H.1 z)) (fun z => hk _ _ _ _ (H.2 z))
    · exact H.elim
  case if_icmp cnd off => 
    obtain ⟨rfl, hz, H⟩ := H
    unfold gPII at H
    split at H
    · cases cnd
      · exact gw_br (fun _ _ _ _ _ _ _ _ _ _ _ _ hx hb a b => lv_icmp_eq hx hb hd (gTg_ok hz) a b) (fun z => hk _ _ _ _ (H.1 z)) (fun z => hk _ _ _ _ (H.2 z))
      · exact gw_br (fun _ _ _ _ _ _ _ _ _ _ _ _ hx hb a b => lv_icmp_ne hx hb hd (gTg_ok hz) a b) (fun z => hk _ _ _ _ (H.1 z)) (fun z => hk _ _ _ _ (H.2 z))
      · exact gw_br (fun _ _ _ _ _ _ _ _ _ _ _ _ hx hb a b => lv_icmp_lt hx hb hd (gTg_ok hz) a b) (fun z => hk _ _ _ _ (H.1 z)) (fun z => hk _ _ _ _ (H.2 z))
      · exact gw_br (fun _ _ _ _ _ _ _ _ _ _ _ _ hx hb a b => lv_icmp_ge hx hb hd (gTg_ok hz) a b) (fun z => hk _ _ _ _ (H.1 z)) (fun z => hk _ _ _ _ (H.2 z))
      · exact gw_br (fun _ _ _ _ _ _ _ _ _ _ _ _ hx hb a b => lv_icmp_gt hx hb hd (gTg_ok hz) a b) (fun z => hk _ _ _ _ (H.1 z)) (fun z => hk _ _ _ _ (H.2 z))
      · exact gw_br (fun _ _ _ _ _ _ _ _ _ _ _ _ hx hb a b => lv_icmp_le hx hb hd (gTg_ok hz) a b) (fun z => hk _ _ _ _ (H.1 z)) (fun z => hk _ _ _ _ (H.2 z))
    · exact H.elim
  case tableswitch dflt lo hi offs => 
    obtain ⟨hz, hh, H⟩ := H
    unfold gPI at H
    split at H
    · rename_i x r
      by_cases ho : x.toInt < lo ∨ hi < x.toInt
      · exact gw_pure (fun _ _ _ _ _ _ _ _ _ _ _ _ hx hb w => lv_tableOut hx hb hd ho (gTg_ok hz) w) (hk _ _ _ _ (H.2 ho))
      · have h1 : ¬ x.toInt < lo := fun z => ho (Or.inl z)
        have h2 : ¬ hi < x.toInt := fun z => ho (Or.inr z)
        have hj : (x.toInt - lo).toNat < offs.toList.length := by omega
        have he : offs.toList[(x.toInt - lo).toNat]? = some offs.toList[(x.toInt - lo).toNat] := List.getElem?_eq_getElem hj
        obtain ⟨a1, a2⟩ := gSw_at _ _ _ _ H.1 (show x.toInt = lo + (((x.toInt - lo).toNat : Nat) : Int) by omega) he
        exact gw_pure (fun _ _ _ _ _ _ _ _ _ _ _ _ hx hb w => lv_tableIn hx hb hd h1 h2 (by rw [← Array.getElem?_toList]; exact he) (gTg_ok a1) w) (hk _ _ _ _ a2)
    · exact H.elim
  case getfield j => 
    obtain ⟨rfl, H⟩ := H
    unfold gPA at H
    split at H
    · unfold gGet at H
      split at H
      · rename_i hf he
        obtain ⟨rfl, H⟩ := H
        split at H
        · rename_i v hv
          exact gw_get hd hf he hv (hk _ _ _ _ H)
        · exact H.elim
      · exact H.elim
    · exact H.elim
  case putfield j => 
    obtain ⟨rfl, H⟩ := H
    unfold gPV at H
    split at H
    · unfold gPut at H
      split at H
      · rename_i hf he
        obtain ⟨rfl, h1, h2, H⟩ := H
        exact gw_put hd hf he h1 h2 (hk _ _ _ _ H)
      · exact H.elim
    · exact H.elim
  case iaload => 
    obtain ⟨rfl, H⟩ := H
    unfold gPI at H
    split at H
    · unfold gPA at H
      split at H
      · unfold gArI at H
        split at H
        · rename_i he
          exact gw_iald hd he H.1 H.2.1 (hk _ _ _ _ H.2.2)
        · exact H.elim
      · exact H.elim
    · exact H.elim
  case laload => 
    obtain ⟨rfl, H⟩ := H
    unfold gPI at H
    split at H
    · unfold gPA at H
      split at H
      · unfold gArL at H
        split at H
        · rename_i he
          exact gw_lald hd he H.1 H.2.1 (hk _ _ _ _ H.2.2)
        · exact H.elim
      · exact H.elim
    · exact H.elim
  case iastore => 
    obtain ⟨rfl, H⟩ := H
    unfold gPII at H
    split at H
    · unfold gPA at H
      split at H
      · unfold gArI at H
        split at H
        · rename_i he
          exact gw_iast hd he H.1 H.2.1 (hk _ _ _ _ H.2.2)
        · exact H.elim
      · exact H.elim
    · exact H.elim
  case lastore => 
    obtain ⟨rfl, H⟩ := H
    unfold gPL at H
    split at H
    · unfold gPI at H
      split at H
      · unfold gPA at H
        split at H
        · unfold gArL at H
          split at H
          · rename_i he
            exact gw_last hd he H.1 H.2.1 (hk _ _ _ _ H.2.2)
          · exact H.elim
        · exact H.elim
      · exact H.elim
    · exact H.elim
  case arraylength => 
    obtain ⟨rfl, H⟩ := H
    unfold gPA at H
    split at H
    · unfold gLen at H
      split at H
      · rename_i he
        obtain ⟨⟨ty, ht⟩, H⟩ := H
        exact gw_alen hd he ht (hk _ _ _ _ H)
      · exact H.elim
    · exact H.elim
  case ireturn => 
    obtain ⟨rfl, H⟩ := H
    unfold gPI at H
    split at H
    · unfold gEnd at H
      split at H
      · exact (hq pc lv h).1 _ hd H.1 H.2
      · exact H.elim
    · exact H.elim
  case lreturn => 
    obtain ⟨rfl, H⟩ := H
    unfold gPL at H
    split at H
    · unfold gEnd at H
      split at H
      · exact (hq pc lv h).2.1 _ hd H.1 H.2
      · exact H.elim
    · exact H.elim
  case return_ => 
    obtain ⟨rfl, H⟩ := H
    unfold gEnd at H
    split at H
    · exact (hq pc lv h).2.2 hd H.1 H.2
    · exact H.elim
  case ldc j => 
    unfold gStep at H
    dsimp only at H
    split at H
    · rename_i x heq
      obtain ⟨rfl, H⟩ := H
      exact gw_ldc hd heq (hk _ _ _ _ H)
    · exact hK _ _ _ _ H
  case ldc2_w j => 
    unfold gStep at H
    dsimp only at H
    split at H
    · rename_i x heq
      obtain ⟨rfl, H⟩ := H
      exact gw_ldc2 hd heq (hk _ _ _ _ H)
    · exact hK _ _ _ _ H
  all_goals exact hK _ _ _ _ H
theorem gS_ok {l : Launch} {g : gG} {I : gI} {R : Room} {h0 h : gH} {Z : gZ} {k n pc : Nat} {lv : gV} {st : List Value} {q : Option Value → gH → Prop} {K kk : gK} (hK : ∀ pc lv st h, K pc lv st h → gw l g I R h0 Z k n pc lv st h) (hk : ∀ pc lv st h, kk pc lv st h → gw l g I R h0 Z k n pc lv st h) (hq : gRt l g I R h0 Z k n q) (H : gS g I q K kk pc lv st h) : gw l g I R h0 Z k n pc lv st h := by
  unfold gS at H
  split at H
  · rename_i hd
    exact gStep_ok hd hK hk hq H
  · exact H.elim
theorem gE_ok {l : Launch} {g : gG} {I : gI} {R : Room} {h0 : gH} {Z : gZ} {k n : Nat} {q : Option Value → gH → Prop} {sp : List Nat} {K : gK} (hK : ∀ pc lv st h, K pc lv st h → gw l g I R h0 Z k n pc lv st h) (hq : gRt l g I R h0 Z k n q) : ∀ (f pc : Nat) (lv : gV) (st : List Value) (h : gH), gE g I q sp K f pc lv st h → gw l g I R h0 Z k n pc lv st h := by
  intro f
  induction f with
  | zero => exact hK
  | succ f ih =>
    intro pc lv st h H
    unfold gE at H
    split at H
    · exact hK _ _ _ _ H
    · exact gS_ok hK ih hq H
/-- from a place to the next stops; the first step is taken even where it is a stop -/
theorem gw_ev {l : Launch} {g : gG} {I : gI} {R : Room} {h0 h : gH} {k n pc : Nat} {lv : gV} {st : List Value} {Q : Option Value → gH → Prop} (f : Nat) (sp : List Nat) (H : gS g I Q (gw l g I R h0 (gZm g h0 k n Q) k n) (gE g I Q sp (gw l g I R h0 (gZm g h0 k n Q) k n) f) pc lv st h) : gw l g I R h0 (gZm g h0 k n Q) k n pc lv st h :=
  gS_ok (fun _ _ _ _ z => z) (gE_ok (fun _ _ _ _ z => z) gRt_m f) gRt_m H
