theorem gE_s (g : gG) (I : gI) (q : Option Value → gH → Prop) (sp : List Nat) (K : gK) (n pc : Nat) (lv : gV) (st : List Value) (h : gH) : gE g I q sp K (n + 1) pc lv st h = if pc ∈ sp then K pc lv st h else gS g I q K (gE g I q sp K n) pc lv st h := rfl
theorem gE_0 (g : gG) (I : gI) (q : Option Value → gH → Prop) (sp : List Nat) (K : gK) (pc : Nat) (lv : gV) (st : List Value) (h : gH) : gE g I q sp K 0 pc lv st h = K pc lv st h := rfl
theorem gS_s (g : gG) (I : gI) (q : Option Value → gH → Prop) (K k : gK) (pc : Nat) (lv : gV) (st : List Value) (h : gH) : gS g I q K k pc lv st h = match decode I.2.1 pc with
  | .ok (i, len) => gStep g I q K k i len pc lv st h
  | .error _ => False := rfl
theorem fv0 : (0 : Fin 4).val = 0 := rfl
theorem fv1 : (1 : Fin 4).val = 1 := rfl
theorem fv2 : (2 : Fin 4).val = 2 := rfl
theorem fv3 : (3 : Fin 4).val = 3 := rfl
def gr0 : Room := { frames := 0, cells := 0, slots := 0, locals := 0 }
