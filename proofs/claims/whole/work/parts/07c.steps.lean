-- printed by wip/whole/gen_step2.py: one row for each instruction
theorem st_iconst (T : gTB) (g : gG) (I : gI) (q : Option Value → gH → Prop) (len pc : Nat) (lv : gV) (st : List Value) (h : gH) (z : Int) : gStepD T g I q (.iconst z) len pc lv st h = some (len = 1, [(True, (pc + 1, lv, .int (Int32.ofInt z) :: st, h))]) := rfl
theorem st_bipush (T : gTB) (g : gG) (I : gI) (q : Option Value → gH → Prop) (len pc : Nat) (lv : gV) (st : List Value) (h : gH) (z : Int) : gStepD T g I q (.bipush z) len pc lv st h = some (len = 2, [(True, (pc + 2, lv, .int (Int8.ofInt z).toInt32 :: st, h))]) := rfl
theorem st_sipush (T : gTB) (g : gG) (I : gI) (q : Option Value → gH → Prop) (len pc : Nat) (lv : gV) (st : List Value) (h : gH) (z : Int) : gStepD T g I q (.sipush z) len pc lv st h = some (len = 3, [(True, (pc + 3, lv, .int (Int16.ofInt z).toInt32 :: st, h))]) := rfl
theorem st_lconst (T : gTB) (g : gG) (I : gI) (q : Option Value → gH → Prop) (len pc : Nat) (lv : gV) (st : List Value) (h : gH) (z : Fin 2) : gStepD T g I q (.lconst z) len pc lv st h = some (len = 1, [(True, (pc + 1, lv, .long (Int64.ofNat z.val) :: st, h))]) := rfl
theorem st_iadd (T : gTB) (g : gG) (I : gI) (q : Option Value → gH → Prop) (len pc : Nat) (lv : gV) (y : Int32) (x : Int32) (r : List Value) (h : gH)  : gStepD T g I q (.iadd) len pc lv (.int y :: .int x :: r) h = some (len = 1, [(True, (pc + 1, lv, .int (x + y) :: r, h))]) := rfl
theorem st_isub (T : gTB) (g : gG) (I : gI) (q : Option Value → gH → Prop) (len pc : Nat) (lv : gV) (y : Int32) (x : Int32) (r : List Value) (h : gH)  : gStepD T g I q (.isub) len pc lv (.int y :: .int x :: r) h = some (len = 1, [(True, (pc + 1, lv, .int (x - y) :: r, h))]) := rfl
theorem st_imul (T : gTB) (g : gG) (I : gI) (q : Option Value → gH → Prop) (len pc : Nat) (lv : gV) (y : Int32) (x : Int32) (r : List Value) (h : gH)  : gStepD T g I q (.imul) len pc lv (.int y :: .int x :: r) h = some (len = 1, [(True, (pc + 1, lv, .int (x * y) :: r, h))]) := rfl
theorem st_iand (T : gTB) (g : gG) (I : gI) (q : Option Value → gH → Prop) (len pc : Nat) (lv : gV) (y : Int32) (x : Int32) (r : List Value) (h : gH)  : gStepD T g I q (.iand) len pc lv (.int y :: .int x :: r) h = some (len = 1, [(True, (pc + 1, lv, .int (x &&& y) :: r, h))]) := rfl
theorem st_ior (T : gTB) (g : gG) (I : gI) (q : Option Value → gH → Prop) (len pc : Nat) (lv : gV) (y : Int32) (x : Int32) (r : List Value) (h : gH)  : gStepD T g I q (.ior) len pc lv (.int y :: .int x :: r) h = some (len = 1, [(True, (pc + 1, lv, .int (x ||| y) :: r, h))]) := rfl
theorem st_ixor (T : gTB) (g : gG) (I : gI) (q : Option Value → gH → Prop) (len pc : Nat) (lv : gV) (y : Int32) (x : Int32) (r : List Value) (h : gH)  : gStepD T g I q (.ixor) len pc lv (.int y :: .int x :: r) h = some (len = 1, [(True, (pc + 1, lv, .int (x ^^^ y) :: r, h))]) := rfl
theorem st_ishl (T : gTB) (g : gG) (I : gI) (q : Option Value → gH → Prop) (len pc : Nat) (lv : gV) (y : Int32) (x : Int32) (r : List Value) (h : gH)  : gStepD T g I q (.ishl) len pc lv (.int y :: .int x :: r) h = some (len = 1, [(True, (pc + 1, lv, .int (x <<< (y &&& 31)) :: r, h))]) := rfl
theorem st_ishr (T : gTB) (g : gG) (I : gI) (q : Option Value → gH → Prop) (len pc : Nat) (lv : gV) (y : Int32) (x : Int32) (r : List Value) (h : gH)  : gStepD T g I q (.ishr) len pc lv (.int y :: .int x :: r) h = some (len = 1, [(True, (pc + 1, lv, .int (x >>> (y &&& 31)) :: r, h))]) := rfl
theorem st_iushr (T : gTB) (g : gG) (I : gI) (q : Option Value → gH → Prop) (len pc : Nat) (lv : gV) (y : Int32) (x : Int32) (r : List Value) (h : gH)  : gStepD T g I q (.iushr) len pc lv (.int y :: .int x :: r) h = some (len = 1, [(True, (pc + 1, lv, .int (x.toUInt32 >>> (y.toUInt32 &&& Int32.toUInt32 31)).toInt32 :: r, h))]) := rfl
theorem st_ineg (T : gTB) (g : gG) (I : gI) (q : Option Value → gH → Prop) (len pc : Nat) (lv : gV) (x : Int32) (r : List Value) (h : gH)  : gStepD T g I q (.ineg) len pc lv (.int x :: r) h = some (len = 1, [(True, (pc + 1, lv, .int (-x) :: r, h))]) := rfl
theorem st_ladd (T : gTB) (g : gG) (I : gI) (q : Option Value → gH → Prop) (len pc : Nat) (lv : gV) (y : Int64) (x : Int64) (r : List Value) (h : gH)  : gStepD T g I q (.ladd) len pc lv (.long y :: .long x :: r) h = some (len = 1, [(True, (pc + 1, lv, .long (x + y) :: r, h))]) := rfl
theorem st_lsub (T : gTB) (g : gG) (I : gI) (q : Option Value → gH → Prop) (len pc : Nat) (lv : gV) (y : Int64) (x : Int64) (r : List Value) (h : gH)  : gStepD T g I q (.lsub) len pc lv (.long y :: .long x :: r) h = some (len = 1, [(True, (pc + 1, lv, .long (x - y) :: r, h))]) := rfl
theorem st_lmul (T : gTB) (g : gG) (I : gI) (q : Option Value → gH → Prop) (len pc : Nat) (lv : gV) (y : Int64) (x : Int64) (r : List Value) (h : gH)  : gStepD T g I q (.lmul) len pc lv (.long y :: .long x :: r) h = some (len = 1, [(True, (pc + 1, lv, .long (x * y) :: r, h))]) := rfl
theorem st_land (T : gTB) (g : gG) (I : gI) (q : Option Value → gH → Prop) (len pc : Nat) (lv : gV) (y : Int64) (x : Int64) (r : List Value) (h : gH)  : gStepD T g I q (.land) len pc lv (.long y :: .long x :: r) h = some (len = 1, [(True, (pc + 1, lv, .long (x &&& y) :: r, h))]) := rfl
theorem st_lor (T : gTB) (g : gG) (I : gI) (q : Option Value → gH → Prop) (len pc : Nat) (lv : gV) (y : Int64) (x : Int64) (r : List Value) (h : gH)  : gStepD T g I q (.lor) len pc lv (.long y :: .long x :: r) h = some (len = 1, [(True, (pc + 1, lv, .long (x ||| y) :: r, h))]) := rfl
theorem st_lshl (T : gTB) (g : gG) (I : gI) (q : Option Value → gH → Prop) (len pc : Nat) (lv : gV) (y : Int32) (x : Int64) (r : List Value) (h : gH)  : gStepD T g I q (.lshl) len pc lv (.int y :: .long x :: r) h = some (len = 1, [(True, (pc + 1, lv, .long (x <<< (y.toInt64 &&& 63)) :: r, h))]) := rfl
theorem st_lshr (T : gTB) (g : gG) (I : gI) (q : Option Value → gH → Prop) (len pc : Nat) (lv : gV) (y : Int32) (x : Int64) (r : List Value) (h : gH)  : gStepD T g I q (.lshr) len pc lv (.int y :: .long x :: r) h = some (len = 1, [(True, (pc + 1, lv, .long (x >>> (y.toInt64 &&& 63)) :: r, h))]) := rfl
theorem st_lushr (T : gTB) (g : gG) (I : gI) (q : Option Value → gH → Prop) (len pc : Nat) (lv : gV) (y : Int32) (x : Int64) (r : List Value) (h : gH)  : gStepD T g I q (.lushr) len pc lv (.int y :: .long x :: r) h = some (len = 1, [(True, (pc + 1, lv, .long ((x.toUInt64 >>> (y.toInt64.toUInt64 &&& Int64.toUInt64 63)).toInt64) :: r, h))]) := rfl
theorem st_lcmp (T : gTB) (g : gG) (I : gI) (q : Option Value → gH → Prop) (len pc : Nat) (lv : gV) (y : Int64) (x : Int64) (r : List Value) (h : gH)  : gStepD T g I q (.lcmp) len pc lv (.long y :: .long x :: r) h = some (len = 1, [(True, (pc + 1, lv, .int (lg_cmp x y) :: r, h))]) := rfl
theorem st_i2l (T : gTB) (g : gG) (I : gI) (q : Option Value → gH → Prop) (len pc : Nat) (lv : gV) (x : Int32) (r : List Value) (h : gH)  : gStepD T g I q (.i2l) len pc lv (.int x :: r) h = some (len = 1, [(True, (pc + 1, lv, .long x.toInt64 :: r, h))]) := rfl
theorem st_i2b (T : gTB) (g : gG) (I : gI) (q : Option Value → gH → Prop) (len pc : Nat) (lv : gV) (x : Int32) (r : List Value) (h : gH)  : gStepD T g I q (.i2b) len pc lv (.int x :: r) h = some (len = 1, [(True, (pc + 1, lv, .int x.toInt8.toInt32 :: r, h))]) := rfl
theorem st_l2i (T : gTB) (g : gG) (I : gI) (q : Option Value → gH → Prop) (len pc : Nat) (lv : gV) (x : Int64) (r : List Value) (h : gH)  : gStepD T g I q (.l2i) len pc lv (.long x :: r) h = some (len = 1, [(True, (pc + 1, lv, .int x.toInt32 :: r, h))]) := rfl
theorem st_idiv (T : gTB) (g : gG) (I : gI) (q : Option Value → gH → Prop) (len pc : Nat) (lv : gV) (y : Int32) (x : Int32) (r : List Value) (h : gH)  : gStepD T g I q (.idiv) len pc lv (.int y :: .int x :: r) h = some (len = 1 ∧ ¬ y = 0, [(True, (pc + 1, lv, .int (x / y) :: r, h))]) := rfl
theorem st_irem (T : gTB) (g : gG) (I : gI) (q : Option Value → gH → Prop) (len pc : Nat) (lv : gV) (y : Int32) (x : Int32) (r : List Value) (h : gH)  : gStepD T g I q (.irem) len pc lv (.int y :: .int x :: r) h = some (len = 1 ∧ ¬ y = 0, [(True, (pc + 1, lv, .int (x - x / y * y) :: r, h))]) := rfl
theorem st_ldiv (T : gTB) (g : gG) (I : gI) (q : Option Value → gH → Prop) (len pc : Nat) (lv : gV) (y : Int64) (x : Int64) (r : List Value) (h : gH)  : gStepD T g I q (.ldiv) len pc lv (.long y :: .long x :: r) h = some (len = 1 ∧ ¬ y = 0, [(True, (pc + 1, lv, .long (x / y) :: r, h))]) := rfl
theorem st_lrem (T : gTB) (g : gG) (I : gI) (q : Option Value → gH → Prop) (len pc : Nat) (lv : gV) (y : Int64) (x : Int64) (r : List Value) (h : gH)  : gStepD T g I q (.lrem) len pc lv (.long y :: .long x :: r) h = some (len = 1 ∧ ¬ y = 0, [(True, (pc + 1, lv, .long (x - x / y * y) :: r, h))]) := rfl
theorem st_iload (T : gTB) (g : gG) (I : gI) (q : Option Value → gH → Prop) (len pc : Nat) (lv : gV) (st : List Value) (h : gH) (j : Nat) : gStepD T g I q (.iload j) len pc lv st h = match lv[j]? with
    | some (some (.int x)) => some (len = 2, [(True, (pc + 2, lv, .int x :: st, h))])
    | _ => some (False, []) := rfl
theorem st_iload_n (T : gTB) (g : gG) (I : gI) (q : Option Value → gH → Prop) (len pc : Nat) (lv : gV) (st : List Value) (h : gH) (j : Fin 4) : gStepD T g I q (.iload_n j) len pc lv st h = match lv[j.val]? with
    | some (some (.int x)) => some (len = 1, [(True, (pc + 1, lv, .int x :: st, h))])
    | _ => some (False, []) := rfl
theorem st_lload (T : gTB) (g : gG) (I : gI) (q : Option Value → gH → Prop) (len pc : Nat) (lv : gV) (st : List Value) (h : gH) (j : Nat) : gStepD T g I q (.lload j) len pc lv st h = match lv[j]? with
    | some (some (.long x)) => some (len = 2, [(True, (pc + 2, lv, .long x :: st, h))])
    | _ => some (False, []) := rfl
theorem st_lload_n (T : gTB) (g : gG) (I : gI) (q : Option Value → gH → Prop) (len pc : Nat) (lv : gV) (st : List Value) (h : gH) (j : Fin 4) : gStepD T g I q (.lload_n j) len pc lv st h = match lv[j.val]? with
    | some (some (.long x)) => some (len = 1, [(True, (pc + 1, lv, .long x :: st, h))])
    | _ => some (False, []) := rfl
theorem st_aload (T : gTB) (g : gG) (I : gI) (q : Option Value → gH → Prop) (len pc : Nat) (lv : gV) (st : List Value) (h : gH) (j : Nat) : gStepD T g I q (.aload j) len pc lv st h = match lv[j]? with
    | some (some (.ref x)) => some (len = 2, [(True, (pc + 2, lv, .ref x :: st, h))])
    | _ => some (False, []) := rfl
theorem st_aload_n (T : gTB) (g : gG) (I : gI) (q : Option Value → gH → Prop) (len pc : Nat) (lv : gV) (st : List Value) (h : gH) (j : Fin 4) : gStepD T g I q (.aload_n j) len pc lv st h = match lv[j.val]? with
    | some (some (.ref x)) => some (len = 1, [(True, (pc + 1, lv, .ref x :: st, h))])
    | _ => some (False, []) := rfl
theorem st_istore (T : gTB) (g : gG) (I : gI) (q : Option Value → gH → Prop) (len pc : Nat) (lv : gV) (x : Int32) (r : List Value) (h : gH) (j : Nat) : gStepD T g I q (.istore j) len pc lv (.int x :: r) h = some (len = 2 ∧ j < I.2.2.1, [(True, (pc + 2, gSet lv j (.int x), r, h))]) := rfl
theorem st_istore_n (T : gTB) (g : gG) (I : gI) (q : Option Value → gH → Prop) (len pc : Nat) (lv : gV) (x : Int32) (r : List Value) (h : gH) (j : Fin 4) : gStepD T g I q (.istore_n j) len pc lv (.int x :: r) h = some (len = 1 ∧ j.val < I.2.2.1, [(True, (pc + 1, gSet lv j.val (.int x), r, h))]) := rfl
theorem st_lstore (T : gTB) (g : gG) (I : gI) (q : Option Value → gH → Prop) (len pc : Nat) (lv : gV) (x : Int64) (r : List Value) (h : gH) (j : Nat) : gStepD T g I q (.lstore j) len pc lv (.long x :: r) h = some (len = 2 ∧ j + 1 < I.2.2.1, [(True, (pc + 2, gSet2 lv j (.long x), r, h))]) := rfl
theorem st_lstore_n (T : gTB) (g : gG) (I : gI) (q : Option Value → gH → Prop) (len pc : Nat) (lv : gV) (x : Int64) (r : List Value) (h : gH) (j : Fin 4) : gStepD T g I q (.lstore_n j) len pc lv (.long x :: r) h = some (len = 1 ∧ j.val + 1 < I.2.2.1, [(True, (pc + 1, gSet2 lv j.val (.long x), r, h))]) := rfl
theorem st_astore (T : gTB) (g : gG) (I : gI) (q : Option Value → gH → Prop) (len pc : Nat) (lv : gV) (x : Nat) (r : List Value) (h : gH) (j : Nat) : gStepD T g I q (.astore j) len pc lv (.ref x :: r) h = some (len = 2 ∧ j < I.2.2.1, [(True, (pc + 2, gSet lv j (.ref x), r, h))]) := rfl
theorem st_astore_n (T : gTB) (g : gG) (I : gI) (q : Option Value → gH → Prop) (len pc : Nat) (lv : gV) (x : Nat) (r : List Value) (h : gH) (j : Fin 4) : gStepD T g I q (.astore_n j) len pc lv (.ref x :: r) h = some (len = 1 ∧ j.val < I.2.2.1, [(True, (pc + 1, gSet lv j.val (.ref x), r, h))]) := rfl
theorem st_iinc (T : gTB) (g : gG) (I : gI) (q : Option Value → gH → Prop) (len pc : Nat) (lv : gV) (st : List Value) (h : gH) (j : Nat) (z : Int) : gStepD T g I q (.iinc j z) len pc lv st h = match lv[j]? with
    | some (some (.int x)) => some (len = 3 ∧ j < I.2.2.1, [(True, (pc + 3, gSet lv j (.int (x + Int32.ofInt z)), st, h))])
    | _ => some (False, []) := rfl
theorem st_dup (T : gTB) (g : gG) (I : gI) (q : Option Value → gH → Prop) (len pc : Nat) (lv : gV) (v : Value) (r : List Value) (h : gH)  : gStepD T g I q (.dup) len pc lv (v :: r) h = some (len = 1 ∧ v.category = 1, [(True, (pc + 1, lv, v :: v :: r, h))]) := rfl
theorem st_pop (T : gTB) (g : gG) (I : gI) (q : Option Value → gH → Prop) (len pc : Nat) (lv : gV) (v : Value) (r : List Value) (h : gH)  : gStepD T g I q (.pop) len pc lv (v :: r) h = some (len = 1 ∧ v.category = 1, [(True, (pc + 1, lv, r, h))]) := rfl
theorem st_dup_x1 (T : gTB) (g : gG) (I : gI) (q : Option Value → gH → Prop) (len pc : Nat) (lv : gV) (v : Value) (w : Value) (r : List Value) (h : gH)  : gStepD T g I q (.dup_x1) len pc lv (v :: w :: r) h = some (len = 1 ∧ v.category = 1 ∧ w.category = 1, [(True, (pc + 1, lv, v :: w :: v :: r, h))]) := rfl
theorem st_dup2 (T : gTB) (g : gG) (I : gI) (q : Option Value → gH → Prop) (len pc : Nat) (lv : gV) (v : Value) (w : Value) (r : List Value) (h : gH)  : gStepD T g I q (.dup2) len pc lv (v :: w :: r) h = some (len = 1 ∧ v.category = 1 ∧ w.category = 1, [(True, (pc + 1, lv, v :: w :: v :: w :: r, h))]) := rfl
theorem st_goto (T : gTB) (g : gG) (I : gI) (q : Option Value → gH → Prop) (len pc : Nat) (lv : gV) (st : List Value) (h : gH) (off : Int) : gStepD T g I q (.goto off) len pc lv st h = some (len = 3 ∧ 0 ≤ (pc : Int) + off, [(True, (gTg pc off, lv, st, h))]) := rfl
theorem st_ifCond (T : gTB) (g : gG) (I : gI) (q : Option Value → gH → Prop) (len pc : Nat) (lv : gV) (x : Int32) (r : List Value) (h : gH) (cnd : ClassFile.Cond) (off : Int) : gStepD T g I q (.ifCond cnd off) len pc lv (.int x :: r) h = some (len = 3 ∧ 0 ≤ (pc : Int) + off, [(True, gB cnd x 0 (gTg pc off, lv, r, h) (pc + 3, lv, r, h))]) := rfl
theorem st_if_icmp (T : gTB) (g : gG) (I : gI) (q : Option Value → gH → Prop) (len pc : Nat) (lv : gV) (y : Int32) (x : Int32) (r : List Value) (h : gH) (cnd : ClassFile.Cond) (off : Int) : gStepD T g I q (.if_icmp cnd off) len pc lv (.int y :: .int x :: r) h = some (len = 3 ∧ 0 ≤ (pc : Int) + off, [(True, gB cnd x y (gTg pc off, lv, r, h) (pc + 3, lv, r, h))]) := rfl
theorem st_tableswitch (T : gTB) (g : gG) (I : gI) (q : Option Value → gH → Prop) (len pc : Nat) (lv : gV) (st : List Value) (h : gH) (dflt lo hi : Int) (offs : Array Int) : gStepD T g I q (.tableswitch dflt lo hi offs) len pc lv st h = match st with
    | .int x :: r => some (0 ≤ (pc : Int) + dflt ∧ hi = lo + (offs.toList.length : Int) - 1 ∧ gTw pc offs.toList, (x.toInt < lo ∨ hi < x.toInt, (gTg pc dflt, lv, r, h)) :: gTs x pc lv r h lo offs.toList)
    | _ => some (False, []) := rfl
theorem st_getfield (T : gTB) (g : gG) (I : gI) (q : Option Value → gH → Prop) (len pc : Nat) (lv : gV) (st : List Value) (h : gH) (j : Nat) : gStepD T g I q (.getfield j) len pc lv st h = match st, gF I.1.cls j with
    | .ref a :: r, some (ci, f) => match h a with
      | some (.inr (cj, fs)) => match fs[f]? with
        | some v => some (len = 3 ∧ ci = cj, [(True, (pc + 3, lv, v :: r, h))])
        | none => some (False, [])
      | _ => some (False, [])
    | _, _ => some (False, []) := rfl
theorem st_putfield (T : gTB) (g : gG) (I : gI) (q : Option Value → gH → Prop) (len pc : Nat) (lv : gV) (st : List Value) (h : gH) (j : Nat) : gStepD T g I q (.putfield j) len pc lv st h = match st, gFp I.1 j with
    | v :: .ref a :: r, some (ci, f) => match h a with
      | some (.inr (cj, fs)) => some (len = 3 ∧ ci = cj ∧ f < fs.length ∧ gFit (gTY ci f) v, [(True, (pc + 3, lv, r, gup h a (.inr (cj, fs.set f v))))])
      | _ => some (False, [])
    | _, _ => some (False, []) := rfl
theorem st_iaload (T : gTB) (g : gG) (I : gI) (q : Option Value → gH → Prop) (len pc : Nat) (lv : gV) (st : List Value) (h : gH)  : gStepD T g I q (.iaload) len pc lv st h = match st with
    | .int i :: .ref a :: r => match h a with
      | some (.inl (cA, n, .inl z)) => some (len = 1 ∧ (cA, FieldType.int) ∈ g.2.1 ∧ vp_in i n, [(True, (pc + 1, lv, .int (z i.toNatClampNeg) :: r, h))])
      | none => if a = gsb g then some (len = 1 ∧ vp_in i (gsL g), [(True, (pc + 1, lv, .int (gsx g i.toNatClampNeg) :: r, h))]) else some (False, [])
      | _ => some (False, [])
    | _ => some (False, []) := rfl
theorem st_laload (T : gTB) (g : gG) (I : gI) (q : Option Value → gH → Prop) (len pc : Nat) (lv : gV) (st : List Value) (h : gH)  : gStepD T g I q (.laload) len pc lv st h = match st with
    | .int i :: .ref a :: r => match h a with
      | some (.inl (cA, n, .inr (.inl z))) => some (len = 1 ∧ (cA, FieldType.long) ∈ g.2.1 ∧ vp_in i n, [(True, (pc + 1, lv, .long (z i.toNatClampNeg) :: r, h))])
      | none => if a = gtW g then some (len = 1 ∧ vp_in i 15, [(True, (pc + 1, lv, .long (wdF i.toNatClampNeg) :: r, h))]) else if a = gtF g then some (len = 1 ∧ vp_in i 70, [(True, (pc + 1, lv, .long (fmF i.toNatClampNeg) :: r, h))]) else some (False, [])
      | _ => some (False, [])
    | _ => some (False, []) := rfl
theorem st_baload (T : gTB) (g : gG) (I : gI) (q : Option Value → gH → Prop) (len pc : Nat) (lv : gV) (st : List Value) (h : gH)  : gStepD T g I q (.baload) len pc lv st h = match st with
    | .int i :: .ref a :: r => match h a with
      | some (.inl (cA, n, .inl z)) => some (len = 1 ∧ (cA, FieldType.byte) ∈ g.2.1 ∧ vp_in i n, [(True, (pc + 1, lv, .int (z i.toNatClampNeg) :: r, h))])
      | _ => some (False, [])
    | _ => some (False, []) := rfl
theorem st_iastore (T : gTB) (g : gG) (I : gI) (q : Option Value → gH → Prop) (len pc : Nat) (lv : gV) (st : List Value) (h : gH)  : gStepD T g I q (.iastore) len pc lv st h = match st with
    | .int x :: .int i :: .ref a :: r => match h a with
      | some (.inl (cA, n, .inl z)) => some (len = 1 ∧ (cA, FieldType.int) ∈ g.2.1 ∧ vp_in i n, [(True, (pc + 1, lv, r, gup h a (.inl (cA, n, .inl (upd z i.toNatClampNeg x)))))])
      | _ => some (False, [])
    | _ => some (False, []) := rfl
theorem st_lastore (T : gTB) (g : gG) (I : gI) (q : Option Value → gH → Prop) (len pc : Nat) (lv : gV) (st : List Value) (h : gH)  : gStepD T g I q (.lastore) len pc lv st h = match st with
    | .long x :: .int i :: .ref a :: r => match h a with
      | some (.inl (cA, n, .inr (.inl z))) => some (len = 1 ∧ (cA, FieldType.long) ∈ g.2.1 ∧ vp_in i n, [(True, (pc + 1, lv, r, gup h a (.inl (cA, n, .inr (.inl (vp_updL z i.toNatClampNeg x))))))])
      | _ => some (False, [])
    | _ => some (False, []) := rfl
theorem st_bastore (T : gTB) (g : gG) (I : gI) (q : Option Value → gH → Prop) (len pc : Nat) (lv : gV) (st : List Value) (h : gH)  : gStepD T g I q (.bastore) len pc lv st h = match st with
    | .int x :: .int i :: .ref a :: r => match h a with
      | some (.inl (cA, n, .inl z)) => some (len = 1 ∧ (cA, FieldType.byte) ∈ g.2.1 ∧ vp_in i n, [(True, (pc + 1, lv, r, gup h a (.inl (cA, n, .inl (upd z i.toNatClampNeg (vp_nar .byte x))))))])
      | _ => some (False, [])
    | _ => some (False, []) := rfl
theorem st_arraylength (T : gTB) (g : gG) (I : gI) (q : Option Value → gH → Prop) (len pc : Nat) (lv : gV) (st : List Value) (h : gH)  : gStepD T g I q (.arraylength) len pc lv st h = match st with
    | .ref a :: r => match h a with
      | some (.inl (cA, x)) => some (len = 1 ∧ (∃ ty, (cA, ty) ∈ g.2.1), [(True, (pc + 1, lv, .int (Int32.ofNat x.1) :: r, h))])
      | none => if a = gtW g then some (len = 1, [(True, (pc + 1, lv, .int 15 :: r, h))]) else if a = gsb g then some (len = 1, [(True, (pc + 1, lv, .int (Int32.ofNat (gsL g)) :: r, h))]) else some (False, [])
      | _ => some (False, [])
    | _ => some (False, []) := rfl
theorem st_getstatic (T : gTB) (g : gG) (I : gI) (q : Option Value → gH → Prop) (len pc : Nat) (lv : gV) (st : List Value) (h : gH) (j : Nat) : gStepD T g I q (.getstatic j) len pc lv st h = match gSf I.1.cls j with
    | some b => some (len = 3, [(True, (pc + 3, lv, .ref (if b then gtF g else gtW g) :: st, h))])
    | none => none := rfl
theorem st_invokestatic (T : gTB) (g : gG) (I : gI) (q : Option Value → gH → Prop) (len pc : Nat) (lv : gV) (st : List Value) (h : gH) (j : Nat) : gStepD T g I q (.invokestatic j) len pc lv st h = match gTn I.1.cls j with
    | some m => match T m with
      | some f => match f g st h with
        | some (P, st2, h2) => some (len = 3 ∧ gMs m = true ∧ P, [(True, (pc + 3, lv, st2, h2))])
        | none => some (False, [])
      | none => none
    | none => none := rfl
theorem st_invokevirtual (T : gTB) (g : gG) (I : gI) (q : Option Value → gH → Prop) (len pc : Nat) (lv : gV) (st : List Value) (h : gH) (j : Nat) : gStepD T g I q (.invokevirtual j) len pc lv st h = match gTn I.1.cls j with
    | some m => match T m with
      | some f => match f g st h with
        | some (P, st2, h2) => some (len = 3 ∧ gMs m = false ∧ P, [(True, (pc + 3, lv, st2, h2))])
        | none => some (False, [])
      | none => none
    | none => none := rfl
theorem st_lookupswitch (T : gTB) (g : gG) (I : gI) (q : Option Value → gH → Prop) (len pc : Nat) (lv : gV) (st : List Value) (h : gH) (dflt : Int) (ps : Array (Int × Int)) : gStepD T g I q (.lookupswitch dflt ps) len pc lv st h = match st with
    | .int x :: r => some ((ps.toList.zip (ps.toList.drop 1)).all (fun (a, next) => a.1 < next.1) = true ∧ 0 ≤ (pc : Int) + dflt ∧ gTw pc (ps.toList.map (fun q => q.2)), gLs x pc lv r h dflt ps.toList)
    | _ => some (False, []) := rfl
theorem st_ireturn (T : gTB) (g : gG) (I : gI) (q : Option Value → gH → Prop) (len pc : Nat) (lv : gV) (v : Int32) (h : gH)  : gStepD T g I q (.ireturn) len pc lv ([.int v]) h = some (len = 1 ∧ gRetN I.2.2.2 v ∧ q (some (.int v)) h, []) := rfl
theorem st_lreturn (T : gTB) (g : gG) (I : gI) (q : Option Value → gH → Prop) (len pc : Nat) (lv : gV) (v : Int64) (h : gH)  : gStepD T g I q (.lreturn) len pc lv ([.long v]) h = some (len = 1 ∧ I.2.2.2 = some .long ∧ q (some (.long v)) h, []) := rfl
theorem st_return_ (T : gTB) (g : gG) (I : gI) (q : Option Value → gH → Prop) (len pc : Nat) (lv : gV)  (h : gH)  : gStepD T g I q (.return_) len pc lv ([]) h = some (len = 1 ∧ I.2.2.2 = none ∧ q none h, []) := rfl
theorem st_ldc (T : gTB) (g : gG) (I : gI) (q : Option Value → gH → Prop) (len pc : Nat) (lv : gV) (st : List Value) (h : gH) (j : Nat) : gStepD T g I q (.ldc j) len pc lv st h = match gKi I.1.cls j with
    | some x => some (len = 2, [(True, (pc + 2, lv, .int x :: st, h))])
    | none => none := rfl
theorem st_ldc_w (T : gTB) (g : gG) (I : gI) (q : Option Value → gH → Prop) (len pc : Nat) (lv : gV) (st : List Value) (h : gH) (j : Nat) : gStepD T g I q (.ldc_w j) len pc lv st h = match gKi I.1.cls j with
    | some x => some (len = 3, [(True, (pc + 3, lv, .int x :: st, h))])
    | none => none := rfl
theorem st_ldc2_w (T : gTB) (g : gG) (I : gI) (q : Option Value → gH → Prop) (len pc : Nat) (lv : gV) (st : List Value) (h : gH) (j : Nat) : gStepD T g I q (.ldc2_w j) len pc lv st h = match gKl I.1.cls j with
    | some x => some (len = 3, [(True, (pc + 3, lv, .long x :: st, h))])
    | none => none := rfl
theorem st_new (T : gTB) (g : gG) (I : gI) (q : Option Value → gH → Prop) (len pc : Nat) (lv : gV) (st : List Value) (h : gH) (j : Nat) : gStepD T g I q (.new j) len pc lv st h = none := rfl
theorem st_newarray (T : gTB) (g : gG) (I : gI) (q : Option Value → gH → Prop) (len pc : Nat) (lv : gV) (st : List Value) (h : gH) (a : ArrayType) : gStepD T g I q (.newarray a) len pc lv st h = none := rfl
theorem st_athrow (T : gTB) (g : gG) (I : gI) (q : Option Value → gH → Prop) (len pc : Nat) (lv : gV) (st : List Value) (h : gH) : gStepD T g I q .athrow len pc lv st h = none := rfl
theorem st_invokespecial (T : gTB) (g : gG) (I : gI) (q : Option Value → gH → Prop) (len pc : Nat) (lv : gV) (st : List Value) (h : gH) (j : Nat) : gStepD T g I q (.invokespecial j) len pc lv st h = none := rfl
