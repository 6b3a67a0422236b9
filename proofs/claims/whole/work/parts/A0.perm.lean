-- lists: orders of the places, as the seeker tries them and as the reference counts them
theorem fm_congr {α β : Type} {l : List α} {f g : α → List β} (h : ∀ a ∈ l, f a = g a) : l.flatMap f = l.flatMap g := by
  induction l with
  | nil => rfl
  | cons a l ih =>
    rw [List.flatMap_cons, List.flatMap_cons, h a List.mem_cons_self, ih (fun b hb => h b (List.mem_cons_of_mem _ hb))]
theorem fm_cons_perm {α β : Type} (g : α → β) (h : α → List β) : ∀ l : List α, (l.flatMap (fun b => g b :: h b)).Perm (l.map g ++ l.flatMap h)
  | [] => List.Perm.refl _
  | b :: l => by
    rw [List.flatMap_cons, List.flatMap_cons, List.map_cons, List.cons_append, List.cons_append]
    refine List.Perm.cons _ ?_
    refine (List.Perm.append_left (h b) (fm_cons_perm g h l)).trans ?_
    exact List.perm_append_comm_assoc _ _ _
theorem fm_swap {α β γ : Type} (f : α → β → γ) (l2 : List β) : ∀ l1 : List α, (l1.flatMap (fun a => l2.map (f a))).Perm (l2.flatMap (fun b => l1.map (fun a => f a b)))
  | [] => by
    have : l2.flatMap (fun b => ([] : List α).map (fun a => f a b)) = [] := by
      induction l2 with
      | nil => rfl
      | cons b l ih => rw [List.flatMap_cons, ih]; rfl
    rw [this]
    exact List.Perm.refl _
  | a :: l1 => by
    rw [List.flatMap_cons]
    exact (List.Perm.append_left _ (fm_swap f l2 l1)).trans (fm_cons_perm (f a) (fun b => l1.map (fun a => f a b)) l2).symm
theorem fm_perm {α β : Type} {f g : α → List β} : ∀ {l : List α}, (∀ a ∈ l, (f a).Perm (g a)) → (l.flatMap f).Perm (l.flatMap g)
  | [], _ => List.Perm.refl _
  | a :: l, h => by
    rw [List.flatMap_cons, List.flatMap_cons]
    exact List.Perm.append (h a List.mem_cons_self) (fm_perm (fun b hb => h b (List.mem_cons_of_mem _ hb)))
/-- a row of D times E numbers, by quotient and remainder -/
theorem range_mul {β : Type} (D : Nat) (hD : 0 < D) (f : Nat → Nat → β) : ∀ E : Nat, (List.range (E * D)).map (fun w => f (w % D) (w / D)) = (List.range E).flatMap (fun e => (List.range D).map (fun d => f d e))
  | 0 => by rw [Nat.zero_mul]; rfl
  | E + 1 => by
    rw [Nat.succ_mul, List.range_add, List.map_append, range_mul D hD f E, List.range_succ, List.flatMap_append, List.flatMap_singleton, List.map_map]
    congr 1
    refine List.map_congr_left fun d hd => ?_
    have hd' : d < D := List.mem_range.mp hd
    show f ((E * D + d) % D) ((E * D + d) / D) = f d E
    rw [Nat.mul_comm E D, Nat.mul_add_mod, Nat.mod_eq_of_lt hd', Nat.mul_add_div hD, Nat.div_eq_of_lt hd', Nat.add_zero]
def prm (N : Nat) : Nat → List Nat → List (List Nat)
  | 0, f => [f]
  | m + 1, f => (List.range N).flatMap (fun p => if f.contains p = true then [] else prm N m (f ++ [p]))
def plc (N : Nat) : Nat → List Nat → List (List Nat)
  | 0, f => [f]
  | m + 1, f => (List.range N).flatMap (fun p => if (f.drop (f.length / N * N)).contains p = true then [] else plc N m (f ++ [p]))
theorem plc_prm (N : Nat) (hN : 0 < N) (m : Nat) (f : List Nat) (hf : f.length % N = 0) : ∀ (r : Nat) (a : List Nat), a.length + r = N → plc N (r + m) (f ++ a) = (prm N r a).flatMap (fun b => plc N m (f ++ b))
  | 0, a, _ => by
    rw [Nat.zero_add]
    show _ = [a].flatMap _
    rw [List.flatMap_singleton]
  | r + 1, a, ha => by
    have h1 : (f ++ a).length / N * N = f.length := by
      rw [List.length_append]
      obtain ⟨t, ht⟩ : ∃ t, f.length = N * t := ⟨f.length / N, by
        have := Nat.div_add_mod f.length N
        omega⟩
      rw [ht, Nat.mul_add_div hN, Nat.div_eq_of_lt (show a.length < N by omega), Nat.add_zero, Nat.mul_comm]
    rw [show r + 1 + m = (r + m) + 1 by omega]
    show (List.range N).flatMap _ = ((List.range N).flatMap _).flatMap _
    rw [List.flatMap_assoc, h1, List.drop_left]
    refine fm_congr fun p _ => ?_
    by_cases hp : a.contains p = true
    · rw [if_pos hp, if_pos hp]
      rfl
    · rw [if_neg hp, if_neg hp, List.append_assoc]
      exact plc_prm N hN m f hf r (a ++ [p]) (by rw [List.length_append, List.length_singleton]; omega)
theorem prm_len (N : Nat) : ∀ (m : Nat) (f a : List Nat), a ∈ prm N m f → a.length = f.length + m
  | 0, f, a, h => by
    rw [List.mem_singleton.mp (show a ∈ [f] from h)]
    rfl
  | m + 1, f, a, h => by
    obtain ⟨p, _, hp⟩ := List.mem_flatMap.mp (show a ∈ (List.range N).flatMap _ from h)
    split at hp
    · exact absurd hp List.not_mem_nil
    · have := prm_len N m (f ++ [p]) a hp
      rw [List.length_append, List.length_singleton] at this
      omega
def plK (N : Nat) : Nat → List (List Nat)
  | 0 => [[]]
  | K + 1 => (prm N N []).flatMap (fun a => (plK N K).map (fun b => a ++ b))
theorem plc_K (N : Nat) (hN : 0 < N) : ∀ (K : Nat) (f : List Nat), f.length % N = 0 → plc N (N * K) f = (plK N K).map (fun b => f ++ b)
  | 0, f, _ => by
    show [f] = [f ++ []]
    rw [List.append_nil]
  | K + 1, f, hf => by
    have h1 := plc_prm N hN (N * K) f hf N [] (by simp)
    rw [List.append_nil, show N + N * K = N * (K + 1) by rw [Nat.mul_succ, Nat.add_comm]] at h1
    rw [h1]
    show _ = List.map _ ((prm N N []).flatMap _)
    rw [List.map_flatMap]
    refine fm_congr fun a ha => ?_
    have hl := prm_len N N [] a ha
    rw [plc_K N hN K (f ++ a) (by rw [List.length_append, hl, List.length_nil, Nat.zero_add, Nat.add_mod_right]; exact hf), List.map_map]
    refine List.map_congr_left fun b _ => ?_
    show f ++ a ++ b = f ++ (a ++ b)
    exact List.append_assoc _ _ _
/-- the digits of a number, the lowest first -/
def dgL (N : Nat) : Nat → Nat → List Nat
  | 0, _ => []
  | m + 1, v => v % N :: dgL N m (v / N)
def ndB : List Nat → Bool
  | [] => true
  | x :: l => !l.contains x && ndB l
/-- the orders as the reference has them -/
def odL (N : Nat) : List (List Nat) := ((List.range (N ^ N)).map (dgL N N)).filter ndB
set_option maxRecDepth 100000 in
theorem od_prm3 : ((prm 3 3 []).Perm (odL 3)) := List.isPerm_iff.mp (by decide +kernel)
set_option maxRecDepth 100000 in
theorem od_prm4 : ((prm 4 4 []).Perm (odL 4)) := List.isPerm_iff.mp (by decide +kernel)
set_option maxRecDepth 100000 in
theorem od_prm5 : ((prm 5 5 []).Perm (odL 5)) := List.isPerm_iff.mp (by decide +kernel)
theorem od_prm {N : Nat} (h : 3 ≤ N ∧ N ≤ 5) : (prm N N []).Perm (odL N) := by
  have : N = 3 ∨ N = 4 ∨ N = 5 := by omega
  rcases this with rfl | rfl | rfl
  · exact od_prm3
  · exact od_prm4
  · exact od_prm5
/-- world w of the reference as a row of places -/
def fwL (N D : Nat) : Nat → Nat → List Nat
  | 0, _ => []
  | K + 1, w => (odL N).getD (w % D) [] ++ fwL N D K (w / D)
theorem map_getD {α : Type} (d : α) : ∀ l : List α, (List.range l.length).map (fun i => l.getD i d) = l
  | [] => rfl
  | x :: l => by
    rw [List.length_cons, List.range_succ_eq_map, List.map_cons, List.map_map]
    show _ :: _ = _
    congr 1
    exact map_getD d l
theorem fw_plK {N D : Nat} (hN : 3 ≤ N ∧ N ≤ 5) (hD : D = (odL N).length) (hD0 : 0 < D) : ∀ K : Nat, ((List.range (D ^ K)).map (fwL N D K)).Perm (plK N K)
  | 0 => List.Perm.refl _
  | K + 1 => by
    rw [Nat.pow_succ]
    have h1 := range_mul D hD0 (fun d e => (odL N).getD d [] ++ fwL N D K e) (D ^ K)
    show ((List.range (D ^ K * D)).map (fun w => (odL N).getD (w % D) [] ++ fwL N D K (w / D))).Perm _
    rw [h1]
    refine (fm_swap (fun e d => (odL N).getD d [] ++ fwL N D K e) (List.range D) (List.range (D ^ K))).trans ?_
    have h2 : (List.range D).flatMap (fun d => (List.range (D ^ K)).map (fun e => (odL N).getD d [] ++ fwL N D K e)) = (odL N).flatMap (fun a => ((List.range (D ^ K)).map (fwL N D K)).map (fun b => a ++ b)) := by
      conv => rhs; rw [← map_getD [] (odL N), ← hD]
      rw [List.flatMap_map]
      refine fm_congr fun d _ => ?_
      rw [List.map_map]
      rfl
    rw [h2]
    refine (List.Perm.flatMap_right _ (od_prm hN).symm).trans ?_
    exact fm_perm fun a _ => List.Perm.map _ (fw_plK hN hD hD0 K)
