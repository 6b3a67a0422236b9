/-- where a jump goes -/
def gTg (pc : Nat) (off : Int) : Nat := ((pc : Int) + off).toNat
theorem gTg_ok {pc : Nat} {off : Int} (h : 0 ≤ (pc : Int) + off) : (pc : Int) + off = (gTg pc off : Int) := (Int.toNat_of_nonneg h).symm
def gCT (cnd : ClassFile.Cond) (x y : Int32) : Prop := match cnd with
  | .eq => x = y
  | .ne => ¬ x = y
  | .lt => x < y
  | .ge => y ≤ x
  | .gt => y < x
  | .le => x ≤ y
def gCF (cnd : ClassFile.Cond) (x y : Int32) : Prop := match cnd with
  | .eq => ¬ x = y
  | .ne => x = y
  | .lt => ¬ x < y
  | .ge => ¬ y ≤ x
  | .gt => ¬ y < x
  | .le => ¬ x ≤ y
def gFit (ty : FieldType) (v : Value) : Prop := narrow ty v = v ∧ fits ty v = true
def gRetN (rt : Option FieldType) (v : Int32) : Prop := match rt with
  | some ty => narrow ty (.int v) = .int v
  | none => False
abbrev gT4 : Type := Nat × gV × List Value × gH
abbrev gR : Type := Option (Prop × List (Prop × gT4))
def gAll (R : gT4 → Prop) : List (Prop × gT4) → Prop
  | [] => True
  | (p, s) :: L => (p → R s) ∧ gAll R L
def gGo (K R : gT4 → Prop) (s : gT4) (o : gR) : Prop := match o with
  | none => K s
  | some (c, L) => c ∧ gAll R L
def gB (cnd : ClassFile.Cond) (x y : Int32) (a b : gT4) : gT4 := match cnd with
  | .eq => if x = y then a else b
  | .ne => if x = y then b else a
  | .lt => if x < y then a else b
  | .ge => if y ≤ x then a else b
  | .gt => if y < x then a else b
  | .le => if x ≤ y then a else b
theorem gB_t {cnd : ClassFile.Cond} {x y : Int32} {a b : gT4} (h : gCT cnd x y) : gB cnd x y a b = a := by
  cases cnd
  · exact if_pos h
  · exact if_neg h
  · exact if_pos h
  · exact if_pos h
  · exact if_pos h
  · exact if_pos h
theorem gB_f {cnd : ClassFile.Cond} {x y : Int32} {a b : gT4} (h : gCF cnd x y) : gB cnd x y a b = b := by
  cases cnd
  · exact if_neg h
  · exact if_pos h
  · exact if_neg h
  · exact if_neg h
  · exact if_neg h
  · exact if_neg h
theorem gB_or (cnd : ClassFile.Cond) (x y : Int32) (a b : gT4) (R : gT4 → Prop) : R (gB cnd x y a b) = ((gCT cnd x y → R a) ∧ (gCF cnd x y → R b)) := by
  have hx : gCT cnd x y ∨ gCF cnd x y := by cases cnd <;> first | exact Classical.em _ | exact (Classical.em _).symm
  have hn : ¬ (gCT cnd x y ∧ gCF cnd x y) := by
    cases cnd
    all_goals exact fun z => by first | exact z.2 z.1 | exact z.1 z.2
  refine propext ⟨fun w => ⟨fun z => by rw [gB_t z] at w; exact w, fun z => by rw [gB_f z] at w; exact w⟩, fun w => ?_⟩
  rcases hx with z | z
  · rw [gB_t z]
    exact w.1 z
  · rw [gB_f z]
    exact w.2 z
def gTw (pc : Nat) : List Int → Prop
  | [] => True
  | o :: r => 0 ≤ (pc : Int) + o ∧ gTw pc r
def gTs (x : Int32) (pc : Nat) (lv : gV) (st : List Value) (h : gH) : Int → List Int → List (Prop × gT4)
  | _, [] => []
  | lo, o :: r => (x.toInt = lo, (gTg pc o, lv, st, h)) :: gTs x pc lv st h (lo + 1) r
theorem gTw_at {pc : Nat} : ∀ (L : List Int) (j : Nat) (o : Int), gTw pc L → L[j]? = some o → 0 ≤ (pc : Int) + o
  | [], j, o, _, h => by simp at h
  | o1 :: L, 0, o, hs, h => by
    simp at h
    subst h
    exact hs.1
  | o1 :: L, j + 1, o, hs, h => gTw_at L j o hs.2 (by simpa using h)
theorem gTs_at {x : Int32} {pc : Nat} {lv : gV} {st : List Value} {h : gH} {R : gT4 → Prop} : ∀ (L : List Int) (lo : Int) (j : Nat) (o : Int), gAll R (gTs x pc lv st h lo L) → x.toInt = lo + (j : Int) → L[j]? = some o → R (gTg pc o, lv, st, h)
  | [], _, j, o, _, _, h => by simp at h
  | o1 :: L, lo, 0, o, hs, hx, h => by
    simp at h
    subst h
    exact hs.1 (by simpa using hx)
  | o1 :: L, lo, j + 1, o, hs, hx, h => gTs_at L (lo + 1) j o hs.2 (by rw [hx]; omega) (by simpa using h)
def gLs (x : Int32) (pc : Nat) (lv : gV) (st : List Value) (h : gH) (dflt : Int) : List (Int × Int) → List (Prop × gT4)
  | [] => [(True, (gTg pc dflt, lv, st, h))]
  | (v, o) :: r => (x.toInt = v, (gTg pc o, lv, st, h)) :: (gLs x pc lv st h dflt r).map (fun q => (¬ x.toInt = v ∧ q.1, q.2))
def gSf (own : String) (j : Nat) : Option Bool := if own = "RiddleMill$Speech" then (if j = 45 then some false else if j = 83 then some true else none) else none
abbrev gPF : Type := gG → List Value → gH → Option (Prop × List Value × gH)
abbrev gTB : Type := Nat → Option gPF
def gT0 : gTB := fun _ => none
def gTu (T : gTB) (m : Nat) (f : gPF) : gTB := fun q => if q = m then some f else T q
/-- what a table's entry says of a call is so, with d frames above -/
def gEK (d m : Nat) (f : gPF) : Prop := ∀ (l : Launch) (g : gG) (I : gI) (R : Room) (h0 : gH) (Z : gZ) (k n pc : Nat) (lv : gV) (st : List Value) (h : gH) (j : Nat) (P : Prop) (st2 : List Value) (h2 : gH), (d ≤ R.frames ∧ 60 * d ≤ R.locals) → (k ≤ R.cells ∧ n ≤ R.slots) → ((decode I.2.1 pc = .ok (.invokestatic j, 3) ∧ gMs m = true) ∨ (decode I.2.1 pc = .ok (.invokevirtual j, 3) ∧ gMs m = false)) → gTn I.1.cls j = some m → f g st h = some (P, st2, h2) → P → gw l g I R h0 Z k n (pc + 3) lv st2 h2 → gw l g I R h0 Z k n pc lv st h
def gTK (d : Nat) (T : gTB) : Prop := ∀ (m : Nat) (f : gPF), T m = some f → gEK d m f
theorem gTK_0 (d : Nat) : gTK d gT0 := fun _ _ h => by cases h
theorem gTK_u {d : Nat} {T : gTB} {m : Nat} {f : gPF} (h : gTK d T) (he : gEK d m f) : gTK d (gTu T m f) := by
  intro q w hq
  unfold gTu at hq
  split at hq
  · rename_i hm
    subst hm
    cases hq
    exact he
  · exact h q w hq
theorem gEK_mono {d e m : Nat} {f : gPF} (hd : d ≤ e) (h : gEK d m f) : gEK e m f := fun l g I R h0 Z k n pc lv st h9 j P st2 h2 hr => h l g I R h0 Z k n pc lv st h9 j P st2 h2 ⟨Nat.le_trans hd hr.1, Nat.le_trans (Nat.mul_le_mul_left _ hd) hr.2⟩
theorem gTK_mono {d e : Nat} {T : gTB} (hd : d ≤ e) (h : gTK d T) : gTK e T := fun m f hf => gEK_mono hd (h m f hf)
/-- a table fits a room -/
def gTO (T : gTB) (R : Room) (k n : Nat) : Prop := ∃ d : Nat, gTK d T ∧ (d ≤ R.frames ∧ 60 * d ≤ R.locals) ∧ (k ≤ R.cells ∧ n ≤ R.slots)
theorem gTO_0 (R : Room) (k n : Nat) (h : k ≤ R.cells ∧ n ≤ R.slots) : gTO gT0 R k n := ⟨0, gTK_0 0, ⟨Nat.zero_le _, Nat.zero_le _⟩, h⟩
def gStepD (T : gTB) (g : gG) (I : gI) (q : Option Value → gH → Prop) (i : ClassFile.Instr) (len pc : Nat) (lv : gV) (st : List Value) (h : gH) : gR := match i with
  | .iconst z => some (len = 1, [(True, (pc + 1, lv, .int (Int32.ofInt z) :: st, h))])
  | .bipush z => some (len = 2, [(True, (pc + 2, lv, .int (Int8.ofInt z).toInt32 :: st, h))])
  | .sipush z => some (len = 3, [(True, (pc + 3, lv, .int (Int16.ofInt z).toInt32 :: st, h))])
  | .lconst z => some (len = 1, [(True, (pc + 1, lv, .long (Int64.ofNat z.val) :: st, h))])
  | .iadd => match st with
    | .int y :: .int x :: r => some (len = 1, [(True, (pc + 1, lv, .int (x + y) :: r, h))])
    | _ => some (False, [])
  | .isub => match st with
    | .int y :: .int x :: r => some (len = 1, [(True, (pc + 1, lv, .int (x - y) :: r, h))])
    | _ => some (False, [])
  | .imul => match st with
    | .int y :: .int x :: r => some (len = 1, [(True, (pc + 1, lv, .int (x * y) :: r, h))])
    | _ => some (False, [])
  | .iand => match st with
    | .int y :: .int x :: r => some (len = 1, [(True, (pc + 1, lv, .int (x &&& y) :: r, h))])
    | _ => some (False, [])
  | .ior => match st with
    | .int y :: .int x :: r => some (len = 1, [(True, (pc + 1, lv, .int (x ||| y) :: r, h))])
    | _ => some (False, [])
  | .ixor => match st with
    | .int y :: .int x :: r => some (len = 1, [(True, (pc + 1, lv, .int (x ^^^ y) :: r, h))])
    | _ => some (False, [])
  | .ishl => match st with
    | .int y :: .int x :: r => some (len = 1, [(True, (pc + 1, lv, .int (x <<< (y &&& 31)) :: r, h))])
    | _ => some (False, [])
  | .ishr => match st with
    | .int y :: .int x :: r => some (len = 1, [(True, (pc + 1, lv, .int (x >>> (y &&& 31)) :: r, h))])
    | _ => some (False, [])
  | .iushr => match st with
    | .int y :: .int x :: r => some (len = 1, [(True, (pc + 1, lv, .int (x.toUInt32 >>> (y.toUInt32 &&& Int32.toUInt32 31)).toInt32 :: r, h))])
    | _ => some (False, [])
  | .ineg => match st with
    | .int x :: r => some (len = 1, [(True, (pc + 1, lv, .int (-x) :: r, h))])
    | _ => some (False, [])
  | .ladd => match st with
    | .long y :: .long x :: r => some (len = 1, [(True, (pc + 1, lv, .long (x + y) :: r, h))])
    | _ => some (False, [])
  | .lsub => match st with
    | .long y :: .long x :: r => some (len = 1, [(True, (pc + 1, lv, .long (x - y) :: r, h))])
    | _ => some (False, [])
  | .lmul => match st with
    | .long y :: .long x :: r => some (len = 1, [(True, (pc + 1, lv, .long (x * y) :: r, h))])
    | _ => some (False, [])
  | .land => match st with
    | .long y :: .long x :: r => some (len = 1, [(True, (pc + 1, lv, .long (x &&& y) :: r, h))])
    | _ => some (False, [])
  | .lor => match st with
    | .long y :: .long x :: r => some (len = 1, [(True, (pc + 1, lv, .long (x ||| y) :: r, h))])
    | _ => some (False, [])
  | .lshl => match st with
    | .int y :: .long x :: r => some (len = 1, [(True, (pc + 1, lv, .long (x <<< (y.toInt64 &&& 63)) :: r, h))])
    | _ => some (False, [])
  | .lshr => match st with
    | .int y :: .long x :: r => some (len = 1, [(True, (pc + 1, lv, .long (x >>> (y.toInt64 &&& 63)) :: r, h))])
    | _ => some (False, [])
  | .lushr => match st with
    | .int y :: .long x :: r => some (len = 1, [(True, (pc + 1, lv, .long ((x.toUInt64 >>> (y.toInt64.toUInt64 &&& Int64.toUInt64 63)).toInt64) :: r, h))])
    | _ => some (False, [])
  | .lcmp => match st with
    | .long y :: .long x :: r => some (len = 1, [(True, (pc + 1, lv, .int (lg_cmp x y) :: r, h))])
    | _ => some (False, [])
  | .i2l => match st with
    | .int x :: r => some (len = 1, [(True, (pc + 1, lv, .long x.toInt64 :: r, h))])
    | _ => some (False, [])
  | .i2b => match st with
    | .int x :: r => some (len = 1, [(True, (pc + 1, lv, .int x.toInt8.toInt32 :: r, h))])
    | _ => some (False, [])
  | .l2i => match st with
    | .long x :: r => some (len = 1, [(True, (pc + 1, lv, .int x.toInt32 :: r, h))])
    | _ => some (False, [])
  | .idiv => match st with
    | .int y :: .int x :: r => some (len = 1 ∧ ¬ y = 0, [(True, (pc + 1, lv, .int (x / y) :: r, h))])
    | _ => some (False, [])
  | .irem => match st with
    | .int y :: .int x :: r => some (len = 1 ∧ ¬ y = 0, [(True, (pc + 1, lv, .int (x - x / y * y) :: r, h))])
    | _ => some (False, [])
  | .ldiv => match st with
    | .long y :: .long x :: r => some (len = 1 ∧ ¬ y = 0, [(True, (pc + 1, lv, .long (x / y) :: r, h))])
    | _ => some (False, [])
  | .lrem => match st with
    | .long y :: .long x :: r => some (len = 1 ∧ ¬ y = 0, [(True, (pc + 1, lv, .long (x - x / y * y) :: r, h))])
    | _ => some (False, [])
  | .iload j => match lv[j]? with
    | some (some (.int x)) => some (len = 2, [(True, (pc + 2, lv, .int x :: st, h))])
    | _ => some (False, [])
  | .iload_n j => match lv[j.val]? with
    | some (some (.int x)) => some (len = 1, [(True, (pc + 1, lv, .int x :: st, h))])
    | _ => some (False, [])
  | .lload j => match lv[j]? with
    | some (some (.long x)) => some (len = 2, [(True, (pc + 2, lv, .long x :: st, h))])
    | _ => some (False, [])
  | .lload_n j => match lv[j.val]? with
    | some (some (.long x)) => some (len = 1, [(True, (pc + 1, lv, .long x :: st, h))])
    | _ => some (False, [])
  | .aload j => match lv[j]? with
    | some (some (.ref x)) => some (len = 2, [(True, (pc + 2, lv, .ref x :: st, h))])
    | _ => some (False, [])
  | .aload_n j => match lv[j.val]? with
    | some (some (.ref x)) => some (len = 1, [(True, (pc + 1, lv, .ref x :: st, h))])
    | _ => some (False, [])
  | .istore j => match st with
    | .int x :: r => some (len = 2 ∧ j < I.2.2.1, [(True, (pc + 2, gSet lv j (.int x), r, h))])
    | _ => some (False, [])
  | .istore_n j => match st with
    | .int x :: r => some (len = 1 ∧ j.val < I.2.2.1, [(True, (pc + 1, gSet lv j.val (.int x), r, h))])
    | _ => some (False, [])
  | .lstore j => match st with
    | .long x :: r => some (len = 2 ∧ j + 1 < I.2.2.1, [(True, (pc + 2, gSet2 lv j (.long x), r, h))])
    | _ => some (False, [])
  | .lstore_n j => match st with
    | .long x :: r => some (len = 1 ∧ j.val + 1 < I.2.2.1, [(True, (pc + 1, gSet2 lv j.val (.long x), r, h))])
    | _ => some (False, [])
  | .astore j => match st with
    | .ref x :: r => some (len = 2 ∧ j < I.2.2.1, [(True, (pc + 2, gSet lv j (.ref x), r, h))])
    | _ => some (False, [])
  | .astore_n j => match st with
    | .ref x :: r => some (len = 1 ∧ j.val < I.2.2.1, [(True, (pc + 1, gSet lv j.val (.ref x), r, h))])
    | _ => some (False, [])
  | .iinc j z => match lv[j]? with
    | some (some (.int x)) => some (len = 3 ∧ j < I.2.2.1, [(True, (pc + 3, gSet lv j (.int (x + Int32.ofInt z)), st, h))])
    | _ => some (False, [])
  | .dup => match st with
    | v :: r => some (len = 1 ∧ v.category = 1, [(True, (pc + 1, lv, v :: v :: r, h))])
    | _ => some (False, [])
  | .pop => match st with
    | v :: r => some (len = 1 ∧ v.category = 1, [(True, (pc + 1, lv, r, h))])
    | _ => some (False, [])
  | .dup_x1 => match st with
    | v :: w :: r => some (len = 1 ∧ v.category = 1 ∧ w.category = 1, [(True, (pc + 1, lv, v :: w :: v :: r, h))])
    | _ => some (False, [])
  | .dup2 => match st with
    | v :: w :: r => some (len = 1 ∧ v.category = 1 ∧ w.category = 1, [(True, (pc + 1, lv, v :: w :: v :: w :: r, h))])
    | _ => some (False, [])
  | .goto off => some (len = 3 ∧ 0 ≤ (pc : Int) + off, [(True, (gTg pc off, lv, st, h))])
  | .ifCond cnd off => match st with
    | .int x :: r => some (len = 3 ∧ 0 ≤ (pc : Int) + off, [(True, gB cnd x 0 (gTg pc off, lv, r, h) (pc + 3, lv, r, h))])
    | _ => some (False, [])
  | .if_icmp cnd off => match st with
    | .int y :: .int x :: r => some (len = 3 ∧ 0 ≤ (pc : Int) + off, [(True, gB cnd x y (gTg pc off, lv, r, h) (pc + 3, lv, r, h))])
    | _ => some (False, [])
  | .tableswitch dflt lo hi offs => match st with
    | .int x :: r => some (0 ≤ (pc : Int) + dflt ∧ hi = lo + (offs.toList.length : Int) - 1 ∧ gTw pc offs.toList, (x.toInt < lo ∨ hi < x.toInt, (gTg pc dflt, lv, r, h)) :: gTs x pc lv r h lo offs.toList)
    | _ => some (False, [])
  | .getfield j => match st, gF I.1.cls j with
    | .ref a :: r, some (ci, f) => match h a with
      | some (.inr (cj, fs)) => match fs[f]? with
        | some v => some (len = 3 ∧ ci = cj, [(True, (pc + 3, lv, v :: r, h))])
        | none => some (False, [])
      | _ => some (False, [])
    | _, _ => some (False, [])
  | .putfield j => match st, gFp I.1 j with
    | v :: .ref a :: r, some (ci, f) => match h a with
      | some (.inr (cj, fs)) => some (len = 3 ∧ ci = cj ∧ f < fs.length ∧ gFit (gTY ci f) v, [(True, (pc + 3, lv, r, gup h a (.inr (cj, fs.set f v))))])
      | _ => some (False, [])
    | _, _ => some (False, [])
  | .iaload => match st with
    | .int i :: .ref a :: r => match h a with
      | some (.inl (cA, n, .inl z)) => some (len = 1 ∧ (cA, FieldType.int) ∈ g.2.1 ∧ vp_in i n, [(True, (pc + 1, lv, .int (z i.toNatClampNeg) :: r, h))])
      | none => if a = gsb g then some (len = 1 ∧ vp_in i (gsL g), [(True, (pc + 1, lv, .int (gsx g i.toNatClampNeg) :: r, h))]) else some (False, [])
      | _ => some (False, [])
    | _ => some (False, [])
  | .laload => match st with
    | .int i :: .ref a :: r => match h a with
      | some (.inl (cA, n, .inr (.inl z))) => some (len = 1 ∧ (cA, FieldType.long) ∈ g.2.1 ∧ vp_in i n, [(True, (pc + 1, lv, .long (z i.toNatClampNeg) :: r, h))])
      | none => if a = gtW g then some (len = 1 ∧ vp_in i 15, [(True, (pc + 1, lv, .long (wdF i.toNatClampNeg) :: r, h))]) else if a = gtF g then some (len = 1 ∧ vp_in i 70, [(True, (pc + 1, lv, .long (fmF i.toNatClampNeg) :: r, h))]) else some (False, [])
      | _ => some (False, [])
    | _ => some (False, [])
  | .baload => match st with
    | .int i :: .ref a :: r => match h a with
      | some (.inl (cA, n, .inl z)) => some (len = 1 ∧ (cA, FieldType.byte) ∈ g.2.1 ∧ vp_in i n, [(True, (pc + 1, lv, .int (z i.toNatClampNeg) :: r, h))])
      | _ => some (False, [])
    | _ => some (False, [])
  | .iastore => match st with
    | .int x :: .int i :: .ref a :: r => match h a with
      | some (.inl (cA, n, .inl z)) => some (len = 1 ∧ (cA, FieldType.int) ∈ g.2.1 ∧ vp_in i n, [(True, (pc + 1, lv, r, gup h a (.inl (cA, n, .inl (upd z i.toNatClampNeg x)))))])
      | _ => some (False, [])
    | _ => some (False, [])
  | .lastore => match st with
    | .long x :: .int i :: .ref a :: r => match h a with
      | some (.inl (cA, n, .inr (.inl z))) => some (len = 1 ∧ (cA, FieldType.long) ∈ g.2.1 ∧ vp_in i n, [(True, (pc + 1, lv, r, gup h a (.inl (cA, n, .inr (.inl (vp_updL z i.toNatClampNeg x))))))])
      | _ => some (False, [])
    | _ => some (False, [])
  | .bastore => match st with
    | .int x :: .int i :: .ref a :: r => match h a with
      | some (.inl (cA, n, .inl z)) => some (len = 1 ∧ (cA, FieldType.byte) ∈ g.2.1 ∧ vp_in i n, [(True, (pc + 1, lv, r, gup h a (.inl (cA, n, .inl (upd z i.toNatClampNeg (vp_nar .byte x))))))])
      | _ => some (False, [])
    | _ => some (False, [])
  | .arraylength => match st with
    | .ref a :: r => match h a with
      | some (.inl (cA, x)) => some (len = 1 ∧ (∃ ty, (cA, ty) ∈ g.2.1), [(True, (pc + 1, lv, .int (Int32.ofNat x.1) :: r, h))])
      | none => if a = gtW g then some (len = 1, [(True, (pc + 1, lv, .int 15 :: r, h))]) else if a = gsb g then some (len = 1, [(True, (pc + 1, lv, .int (Int32.ofNat (gsL g)) :: r, h))]) else some (False, [])
      | _ => some (False, [])
    | _ => some (False, [])
  | .getstatic j => match gSf I.1.cls j with
    | some b => some (len = 3, [(True, (pc + 3, lv, .ref (if b then gtF g else gtW g) :: st, h))])
    | none => none
  | .invokestatic j => match gTn I.1.cls j with
    | some m => match T m with
      | some f => match f g st h with
        | some (P, st2, h2) => some (len = 3 ∧ gMs m = true ∧ P, [(True, (pc + 3, lv, st2, h2))])
        | none => some (False, [])
      | none => none
    | none => none
  | .invokevirtual j => match gTn I.1.cls j with
    | some m => match T m with
      | some f => match f g st h with
        | some (P, st2, h2) => some (len = 3 ∧ gMs m = false ∧ P, [(True, (pc + 3, lv, st2, h2))])
        | none => some (False, [])
      | none => none
    | none => none
  | .lookupswitch dflt ps => match st with
    | .int x :: r => some ((ps.toList.zip (ps.toList.drop 1)).all (fun (a, next) => a.1 < next.1) = true ∧ 0 ≤ (pc : Int) + dflt ∧ gTw pc (ps.toList.map (fun q => q.2)), gLs x pc lv r h dflt ps.toList)
    | _ => some (False, [])
  | .ireturn => match st with
    | [.int v] => some (len = 1 ∧ gRetN I.2.2.2 v ∧ q (some (.int v)) h, [])
    | _ => some (False, [])
  | .lreturn => match st with
    | [.long v] => some (len = 1 ∧ I.2.2.2 = some .long ∧ q (some (.long v)) h, [])
    | _ => some (False, [])
  | .return_ => match st with
    | [] => some (len = 1 ∧ I.2.2.2 = none ∧ q none h, [])
    | _ => some (False, [])
  | .ldc j => match gKi I.1.cls j with
    | some x => some (len = 2, [(True, (pc + 2, lv, .int x :: st, h))])
    | none => none
  | .ldc_w j => match gKi I.1.cls j with
    | some x => some (len = 3, [(True, (pc + 3, lv, .int x :: st, h))])
    | none => none
  | .ldc2_w j => match gKl I.1.cls j with
    | some x => some (len = 3, [(True, (pc + 3, lv, .long x :: st, h))])
    | none => none
  | _ => none
def gSd (T : gTB) (g : gG) (I : gI) (q : Option Value → gH → Prop) (s : gT4) : gR := match decode I.2.1 s.1 with
  | .ok (i, len) => gStepD T g I q i len s.1 s.2.1 s.2.2.1 s.2.2.2
  | .error _ => some (False, [])
def gEd (T : gTB) (g : gG) (I : gI) (q : Option Value → gH → Prop) (sp : List Nat) (K : gT4 → Prop) : Nat → gT4 → Prop
  | 0, s => K s
  | n + 1, s => if s.1 ∈ sp then K s else gGo K (gEd T g I q sp K n) s (gSd T g I q s)
