-- THE EVALUATOR: from a place in the code to the next stop, as a statement about values alone
abbrev gK : Type := Nat → gV → List Value → gH → Prop
def gLdI (o : Option (Option Value)) (f : Int32 → Prop) : Prop := match o with
  | some (some (.int x)) => f x
  | _ => False
def gLdL (o : Option (Option Value)) (f : Int64 → Prop) : Prop := match o with
  | some (some (.long x)) => f x
  | _ => False
def gLdA (o : Option (Option Value)) (f : Nat → Prop) : Prop := match o with
  | some (some (.ref x)) => f x
  | _ => False
def gPI (st : List Value) (f : Int32 → List Value → Prop) : Prop := match st with
  | .int x :: r => f x r
  | _ => False
def gPL (st : List Value) (f : Int64 → List Value → Prop) : Prop := match st with
  | .long x :: r => f x r
  | _ => False
def gPA (st : List Value) (f : Nat → List Value → Prop) : Prop := match st with
  | .ref x :: r => f x r
  | _ => False
def gPII (st : List Value) (f : Int32 → Int32 → List Value → Prop) : Prop := match st with
  | .int y :: .int x :: r => f x y r
  | _ => False
def gPLL (st : List Value) (f : Int64 → Int64 → List Value → Prop) : Prop := match st with
  | .long y :: .long x :: r => f x y r
  | _ => False
def gPLI (st : List Value) (f : Int64 → Int32 → List Value → Prop) : Prop := match st with
  | .int y :: .long x :: r => f x y r
  | _ => False
def gP1 (st : List Value) (f : Value → List Value → Prop) : Prop := match st with
  | v :: r => v.category = 1 ∧ f v r
  | _ => False
def gP2 (st : List Value) (f : Value → Value → List Value → Prop) : Prop := match st with
  | v :: w :: r => v.category = 1 ∧ w.category = 1 ∧ f v w r
  | _ => False
def gPV (st : List Value) (f : Value → Nat → List Value → Prop) : Prop := match st with
  | v :: .ref a :: r => f v a r
  | _ => False
def gEnd (st : List Value) (P : Prop) : Prop := match st with
  | [] => P
  | _ => False
/-- where a jump goes -/
def gTg (pc : Nat) (off : Int) : Nat := ((pc : Int) + off).toNat
theorem gTg_ok {pc : Nat} {off : Int} (h : 0 ≤ (pc : Int) + off) : (pc : Int) + off = (gTg pc off : Int) := (Int.toNat_of_nonneg h).symm
def gCT (cnd : ClassFile.Cond) (x y : Int32) : Prop := match cnd with
  | .eq => x = y
  | .ne => ¬ x = y
  | .lt => x < y
  | .ge => y ≤ x
  | .gt => y < x
  | .le => x ≤ y
def gCF (cnd : ClassFile.Cond) (x y : Int32) : Prop := match cnd with
  | .eq => ¬ x = y
  | .ne => x = y
  | .lt => ¬ x < y
  | .ge => ¬ y ≤ x
  | .gt => ¬ y < x
  | .le => ¬ x ≤ y
/-- the cases of a table -/
def gSw (k : Nat → Prop) (x : Int32) (pc : Nat) : Int → List Int → Prop
  | _, [] => True
  | lo, o :: r => (x.toInt = lo → 0 ≤ (pc : Int) + o ∧ k (gTg pc o)) ∧ gSw k x pc (lo + 1) r
def gGet (fl : Option (Nat × Nat)) (e : Option va_E) (f : Value → Prop) : Prop := match fl, e with
  | some (ci, j), some (.inr (cj, fs)) => ci = cj ∧ (match fs[j]? with
    | some v => f v
    | none => False)
  | _, _ => False
def gFit (ty : FieldType) (v : Value) : Prop := narrow ty v = v ∧ fits ty v = true
def gPut (fl : Option (Nat × Nat)) (v : Value) (e : Option va_E) (f : va_E → Prop) : Prop := match fl, e with
  | some (ci, j), some (.inr (cj, fs)) => ci = cj ∧ j < fs.length ∧ gFit (gTY ci j) v ∧ f (.inr (cj, fs.set j v))
  | _, _ => False
def gArI (tys : List (ClassId × FieldType)) (e : Option va_E) (i : Int32) (f : ClassId → Nat → (Nat → Int32) → Prop) : Prop := match e with
  | some (.inl (cA, n, .inl z)) => (cA, .int) ∈ tys ∧ vp_in i n ∧ f cA n z
  | _ => False
def gArL (tys : List (ClassId × FieldType)) (e : Option va_E) (i : Int32) (f : ClassId → Nat → (Nat → Int64) → Prop) : Prop := match e with
  | some (.inl (cA, n, .inr (.inl z))) => (cA, .long) ∈ tys ∧ vp_in i n ∧ f cA n z
  | _ => False
def gLen (tys : List (ClassId × FieldType)) (e : Option va_E) (f : Nat → Prop) : Prop := match e with
  | some (.inl (cA, x)) => (∃ ty, (cA, ty) ∈ tys) ∧ f x.1
  | _ => False
def gRetN (rt : Option FieldType) (v : Int32) : Prop := match rt with
  | some ty => narrow ty (.int v) = .int v
  | none => False
def gStep (g : gG) (I : gI) (q : Option Value → gH → Prop) (K k : gK) (i : ClassFile.Instr) (len pc : Nat) (lv : gV) (st : List Value) (h : gH) : Prop := match i with
  | .iconst n => len = 1 ∧ k (pc + 1) lv (.int (Int32.ofInt n) :: st) h
  | .bipush n => len = 2 ∧ k (pc + 2) lv (.int (Int8.ofInt n).toInt32 :: st) h
  | .sipush n => len = 3 ∧ k (pc + 3) lv (.int (Int16.ofInt n).toInt32 :: st) h
  | .lconst n => len = 1 ∧ k (pc + 1) lv (.long (Int64.ofNat n.val) :: st) h
  | .iload j => len = 2 ∧ gLdI lv[j]? fun x => k (pc + 2) lv (.int x :: st) h
  | .iload_n j => len = 1 ∧ gLdI lv[j.val]? fun x => k (pc + 1) lv (.int x :: st) h
  | .lload j => len = 2 ∧ gLdL lv[j]? fun x => k (pc + 2) lv (.long x :: st) h
  | .lload_n j => len = 1 ∧ gLdL lv[j.val]? fun x => k (pc + 1) lv (.long x :: st) h
  | .aload j => len = 2 ∧ gLdA lv[j]? fun x => k (pc + 2) lv (.ref x :: st) h
  | .aload_n j => len = 1 ∧ gLdA lv[j.val]? fun x => k (pc + 1) lv (.ref x :: st) h
  | .istore j => len = 2 ∧ j < I.2.2.1 ∧ gPI st fun x r => k (pc + 2) (gSet lv j (.int x)) r h
  | .istore_n j => len = 1 ∧ j.val < I.2.2.1 ∧ gPI st fun x r => k (pc + 1) (gSet lv j.val (.int x)) r h
  | .lstore j => len = 2 ∧ j + 1 < I.2.2.1 ∧ gPL st fun x r => k (pc + 2) (gSet2 lv j (.long x)) r h
  | .lstore_n j => len = 1 ∧ j.val + 1 < I.2.2.1 ∧ gPL st fun x r => k (pc + 1) (gSet2 lv j.val (.long x)) r h
  | .astore j => len = 2 ∧ j < I.2.2.1 ∧ gPA st fun x r => k (pc + 2) (gSet lv j (.ref x)) r h
  | .astore_n j => len = 1 ∧ j.val < I.2.2.1 ∧ gPA st fun x r => k (pc + 1) (gSet lv j.val (.ref x)) r h
  | .iinc j n => len = 3 ∧ j < I.2.2.1 ∧ gLdI lv[j]? fun x => k (pc + 3) (gSet lv j (.int (x + Int32.ofInt n))) st h
  | .iadd => len = 1 ∧ gPII st fun x y r => k (pc + 1) lv (.int (x + y) :: r) h
  | .isub => len = 1 ∧ gPII st fun x y r => k (pc + 1) lv (.int (x - y) :: r) h
  | .imul => len = 1 ∧ gPII st fun x y r => k (pc + 1) lv (.int (x * y) :: r) h
  | .iand => len = 1 ∧ gPII st fun x y r => k (pc + 1) lv (.int (x &&& y) :: r) h
  | .ior => len = 1 ∧ gPII st fun x y r => k (pc + 1) lv (.int (x ||| y) :: r) h
  | .ixor => len = 1 ∧ gPII st fun x y r => k (pc + 1) lv (.int (x ^^^ y) :: r) h
  | .idiv => len = 1 ∧ gPII st fun x y r => ¬ y = 0 ∧ k (pc + 1) lv (.int (x / y) :: r) h
  | .irem => len = 1 ∧ gPII st fun x y r => ¬ y = 0 ∧ k (pc + 1) lv (.int (x - x / y * y) :: r) h
  | .ineg => len = 1 ∧ gPI st fun x r => k (pc + 1) lv (.int (-x) :: r) h
  | .ishl => len = 1 ∧ gPII st fun x y r => k (pc + 1) lv (.int (x <<< (y &&& 31)) :: r) h
  | .ishr => len = 1 ∧ gPII st fun x y r => k (pc + 1) lv (.int (x >>> (y &&& 31)) :: r) h
  | .iushr => len = 1 ∧ gPII st fun x y r => k (pc + 1) lv (.int (x.toUInt32 >>> (y.toUInt32 &&& Int32.toUInt32 31)).toInt32 :: r) h
  | .ladd => len = 1 ∧ gPLL st fun x y r => k (pc + 1) lv (.long (x + y) :: r) h
  | .lsub => len = 1 ∧ gPLL st fun x y r => k (pc + 1) lv (.long (x - y) :: r) h
  | .lmul => len = 1 ∧ gPLL st fun x y r => k (pc + 1) lv (.long (x * y) :: r) h
  | .land => len = 1 ∧ gPLL st fun x y r => k (pc + 1) lv (.long (x &&& y) :: r) h
  | .lor => len = 1 ∧ gPLL st fun x y r => k (pc + 1) lv (.long (x ||| y) :: r) h
  | .lrem => len = 1 ∧ gPLL st fun x y r => ¬ y = 0 ∧ k (pc + 1) lv (.long (x - x / y * y) :: r) h
  | .ldiv => len = 1 ∧ gPLL st fun x y r => ¬ y = 0 ∧ k (pc + 1) lv (.long (x / y) :: r) h
  | .lshl => len = 1 ∧ gPLI st fun x y r => k (pc + 1) lv (.long (x <<< (y.toInt64 &&& 63)) :: r) h
  | .lshr => len = 1 ∧ gPLI st fun x y r => k (pc + 1) lv (.long (x >>> (y.toInt64 &&& 63)) :: r) h
  | .lushr => len = 1 ∧ gPLI st fun x y r => k (pc + 1) lv (.long (x.toUInt64 >>> (y.toInt64.toUInt64 &&& Int64.toUInt64 63)).toInt64 :: r) h
  | .lcmp => len = 1 ∧ gPLL st fun x y r => k (pc + 1) lv (.int (lg_cmp x y) :: r) h
  | .i2l => len = 1 ∧ gPI st fun x r => k (pc + 1) lv (.long x.toInt64 :: r) h
  | .l2i => len = 1 ∧ gPL st fun x r => k (pc + 1) lv (.int x.toInt32 :: r) h
  | .dup => len = 1 ∧ gP1 st fun v r => k (pc + 1) lv (v :: v :: r) h
  | .pop => len = 1 ∧ gP1 st fun _ r => k (pc + 1) lv r h
  | .dup_x1 => len = 1 ∧ gP2 st fun v w r => k (pc + 1) lv (v :: w :: v :: r) h
  | .dup2 => len = 1 ∧ gP2 st fun v w r => k (pc + 1) lv (v :: w :: v :: w :: r) h
  | .goto off => len = 3 ∧ 0 ≤ (pc : Int) + off ∧ k (gTg pc off) lv st h
  | .ifCond cnd off => len = 3 ∧ 0 ≤ (pc : Int) + off ∧ gPI st fun x r => (gCT cnd x 0 → k (gTg pc off) lv r h) ∧ (gCF cnd x 0 → k (pc + 3) lv r h)
  | .if_icmp cnd off => len = 3 ∧ 0 ≤ (pc : Int) + off ∧ gPII st fun x y r => (gCT cnd x y → k (gTg pc off) lv r h) ∧ (gCF cnd x y → k (pc + 3) lv r h)
  | .tableswitch dflt lo hi offs => 0 ≤ (pc : Int) + dflt ∧ hi = lo + (offs.toList.length : Int) - 1 ∧ gPI st fun x r => gSw (fun t => k t lv r h) x pc lo offs.toList ∧ (x.toInt < lo ∨ hi < x.toInt → k (gTg pc dflt) lv r h)
  | .getfield j => len = 3 ∧ gPA st fun a r => gGet (gF I.1.cls j) (h a) fun v => k (pc + 3) lv (v :: r) h
  | .putfield j => len = 3 ∧ gPV st fun v a r => gPut (gFp I.1 j) v (h a) fun e => k (pc + 3) lv r (gup h a e)
  | .ldc j => match gKi I.1.cls j with
    | some x => len = 2 ∧ k (pc + 2) lv (.int x :: st) h
    | none => K pc lv st h
  | .ldc2_w j => match gKl I.1.cls j with
    | some x => len = 3 ∧ k (pc + 3) lv (.long x :: st) h
    | none => K pc lv st h
  | .iaload => len = 1 ∧ gPI st fun i r1 => gPA r1 fun a r => gArI g.2.1 (h a) i fun _ _ z => k (pc + 1) lv (.int (z i.toNatClampNeg) :: r) h
  | .laload => len = 1 ∧ gPI st fun i r1 => gPA r1 fun a r => gArL g.2.1 (h a) i fun _ _ z => k (pc + 1) lv (.long (z i.toNatClampNeg) :: r) h
  | .iastore => len = 1 ∧ gPII st fun i x r1 => gPA r1 fun a r => gArI g.2.1 (h a) i fun cA n z => k (pc + 1) lv r (gup h a (.inl (cA, n, .inl (upd z i.toNatClampNeg x))))
  | .lastore => len = 1 ∧ gPL st fun x r2 => gPI r2 fun i r1 => gPA r1 fun a r => gArL g.2.1 (h a) i fun cA n z => k (pc + 1) lv r (gup h a (.inl (cA, n, .inr (.inl (vp_updL z i.toNatClampNeg x)))))
  | .arraylength => len = 1 ∧ gPA st fun a r => gLen g.2.1 (h a) fun n => k (pc + 1) lv (.int (Int32.ofNat n) :: r) h
  | .ireturn => len = 1 ∧ gPI st fun v r => gEnd r (gRetN I.2.2.2 v ∧ q (some (.int v)) h)
  | .lreturn => len = 1 ∧ gPL st fun v r => gEnd r (I.2.2.2 = some .long ∧ q (some (.long v)) h)
  | .return_ => len = 1 ∧ gEnd st (I.2.2.2 = none ∧ q none h)
  | _ => K pc lv st h
def gS (g : gG) (I : gI) (q : Option Value → gH → Prop) (K k : gK) : gK := fun pc lv st h => match decode I.2.1 pc with
  | .ok (i, len) => gStep g I q K k i len pc lv st h
  | .error _ => False
def gE (g : gG) (I : gI) (q : Option Value → gH → Prop) (sp : List Nat) (K : gK) : Nat → gK
  | 0 => K
  | n + 1 => fun pc lv st h => if pc ∈ sp then K pc lv st h else gS g I q K (gE g I q sp K n) pc lv st h
