-- needs 10 11 12 13 14 15 16
def kindF (x : Int32) : Int32 := x &&& 15
def xF (x : Int32) : Int32 := (x >>> (4 &&& 31)) &&& 63
def yF (x : Int32) : Int32 := (x >>> (10 &&& 31)) &&& 63
def zF (x : Int32) : Int32 := (x >>> (16 &&& 31)) &&& 63
def dF (x : Int32) : Int32 := (x >>> (22 &&& 31)) &&& 15
def spF (x : Int32) : Int32 := ((x >>> (26 &&& 31)) &&& 3) - 1
def ofF (k x y z d s : Int32) : Int32 := k ||| x <<< (4 &&& 31) ||| y <<< (10 &&& 31) ||| z <<< (16 &&& 31) ||| d <<< (22 &&& 31) ||| (s + 1) <<< (26 &&& 31)
def remF (i n : Int32) : Int32 := i - i / n * n
def thingAtF (i n : Int32) : Int32 := 10 * (i / n + 1) + remF i n
def maxF (x y : Int32) : Int32 := if x < y then y else x
def minF (x y : Int32) : Int32 := if y < x then y else x
def gp_CO_kind : gPF := fun _ st h => match st with
  | .int x :: r => some (gCs r ≤ 8, .int (kindF x) :: r, h)
  | _ => none
theorem e_CO_kind : gEK 1 11 gp_CO_kind := gE_S (d := 0) mCO_kind rfl rfl wc_CO_kind wt_CO_kind wn_CO (N := 1) (by decide +kernel) (by decide) (fun g st h P st2 h2 he hP => by
  unfold gp_CO_kind at he
  split at he
  · rename_i x r
    cases he
    exact ⟨[.int x], r, some (.int (kindF x)), rfl, rfl, hP, rfl, fun l => c_CO_kind l g x h⟩
  · cases he)
def gp_CO_x : gPF := fun _ st h => match st with
  | .int x :: r => some (gCs r ≤ 8, .int (xF x) :: r, h)
  | _ => none
theorem e_CO_x : gEK 1 12 gp_CO_x := gE_S (d := 0) mCO_x rfl rfl wc_CO_x wt_CO_x wn_CO (N := 1) (by decide +kernel) (by decide) (fun g st h P st2 h2 he hP => by
  unfold gp_CO_x at he
  split at he
  · rename_i x r
    cases he
    exact ⟨[.int x], r, some (.int (xF x)), rfl, rfl, hP, rfl, fun l => c_CO_x l g x h⟩
  · cases he)
def gp_CO_y : gPF := fun _ st h => match st with
  | .int x :: r => some (gCs r ≤ 8, .int (yF x) :: r, h)
  | _ => none
theorem e_CO_y : gEK 1 13 gp_CO_y := gE_S (d := 0) mCO_y rfl rfl wc_CO_y wt_CO_y wn_CO (N := 1) (by decide +kernel) (by decide) (fun g st h P st2 h2 he hP => by
  unfold gp_CO_y at he
  split at he
  · rename_i x r
    cases he
    exact ⟨[.int x], r, some (.int (yF x)), rfl, rfl, hP, rfl, fun l => c_CO_y l g x h⟩
  · cases he)
def gp_CO_z : gPF := fun _ st h => match st with
  | .int x :: r => some (gCs r ≤ 8, .int (zF x) :: r, h)
  | _ => none
theorem e_CO_z : gEK 1 14 gp_CO_z := gE_S (d := 0) mCO_z rfl rfl wc_CO_z wt_CO_z wn_CO (N := 1) (by decide +kernel) (by decide) (fun g st h P st2 h2 he hP => by
  unfold gp_CO_z at he
  split at he
  · rename_i x r
    cases he
    exact ⟨[.int x], r, some (.int (zF x)), rfl, rfl, hP, rfl, fun l => c_CO_z l g x h⟩
  · cases he)
def gp_CO_d : gPF := fun _ st h => match st with
  | .int x :: r => some (gCs r ≤ 8, .int (dF x) :: r, h)
  | _ => none
theorem e_CO_d : gEK 1 15 gp_CO_d := gE_S (d := 0) mCO_d rfl rfl wc_CO_d wt_CO_d wn_CO (N := 1) (by decide +kernel) (by decide) (fun g st h P st2 h2 he hP => by
  unfold gp_CO_d at he
  split at he
  · rename_i x r
    cases he
    exact ⟨[.int x], r, some (.int (dF x)), rfl, rfl, hP, rfl, fun l => c_CO_d l g x h⟩
  · cases he)
def gp_CO_speaker : gPF := fun _ st h => match st with
  | .int x :: r => some (gCs r ≤ 8, .int (spF x) :: r, h)
  | _ => none
theorem e_CO_speaker : gEK 1 16 gp_CO_speaker := gE_S (d := 0) mCO_speaker rfl rfl wc_CO_speaker wt_CO_speaker wn_CO (N := 1) (by decide +kernel) (by decide) (fun g st h P st2 h2 he hP => by
  unfold gp_CO_speaker at he
  split at he
  · rename_i x r
    cases he
    exact ⟨[.int x], r, some (.int (spF x)), rfl, rfl, hP, rfl, fun l => c_CO_speaker l g x h⟩
  · cases he)
def gp_CO_of : gPF := fun _ st h => match st with
  | .int s :: .int d :: .int z :: .int y :: .int x :: .int k :: r => some (gCs r ≤ 8, .int (ofF k x y z d s) :: r, h)
  | _ => none
theorem e_CO_of : gEK 1 73 gp_CO_of := gE_S (d := 0) mCO_of rfl rfl wc_CO_of wt_CO_of wn_CO (N := 6) (by decide +kernel) (by decide) (fun g st h P st2 h2 he hP => by
  unfold gp_CO_of at he
  split at he
  · rename_i s d z y x k r
    cases he
    exact ⟨[.int k, .int x, .int y, .int z, .int d, .int s], r, some (.int (ofF k x y z d s)), rfl, rfl, hP, rfl, fun l => c_CO_of l g k x y z d s h⟩
  · cases he)
def gp_CO_thingsOf : gPF := fun _ st h => match st with
  | .int k :: r => some (gCs r ≤ 8, .int (thingsF k) :: r, h)
  | _ => none
theorem e_CO_thingsOf : gEK 1 39 gp_CO_thingsOf := gE_S (d := 0) mCO_thingsOf rfl rfl wc_CO_thingsOf wt_CO_thingsOf wn_CO (N := 1) (by decide +kernel) (by decide) (fun g st h P st2 h2 he hP => by
  unfold gp_CO_thingsOf at he
  split at he
  · rename_i k r
    cases he
    exact ⟨[.int k], r, some (.int (thingsF k)), rfl, rfl, hP, rfl, fun l => c_CO_thingsOf l g k h⟩
  · cases he)
def gp_CO_leastD : gPF := fun _ st h => match st with
  | .int k :: r => some (gCs r ≤ 8, .int (leastF k) :: r, h)
  | _ => none
theorem e_CO_leastD : gEK 1 66 gp_CO_leastD := gE_S (d := 0) mCO_leastD rfl rfl wc_CO_leastD wt_CO_leastD wn_CO (N := 1) (by decide +kernel) (by decide) (fun g st h P st2 h2 he hP => by
  unfold gp_CO_leastD at he
  split at he
  · rename_i k r
    cases he
    exact ⟨[.int k], r, some (.int (leastF k)), rfl, rfl, hP, rfl, fun l => c_CO_leastD l g k h⟩
  · cases he)
def gp_CO_greatestD : gPF := fun _ st h => match st with
  | .int s :: .int n :: .int k :: r => some (gCs r ≤ 8, .int (greatF k n s) :: r, h)
  | _ => none
theorem e_CO_greatestD : gEK 1 67 gp_CO_greatestD := gE_S (d := 0) mCO_greatestD rfl rfl wc_CO_greatestD wt_CO_greatestD wn_CO (N := 3) (by decide +kernel) (by decide) (fun g st h P st2 h2 he hP => by
  unfold gp_CO_greatestD at he
  split at he
  · rename_i s n k r
    cases he
    exact ⟨[.int k, .int n, .int s], r, some (.int (greatF k n s)), rfl, rfl, hP, rfl, fun l => c_CO_greatestD l g k n s h⟩
  · cases he)
def gp_CO_isSo : gPF := fun _ st h => match st with
  | .int c :: .int b :: .int a :: .int d :: .int k :: r => some (gCs r ≤ 8, .int (bI (isSoF k d a b c)) :: r, h)
  | _ => none
theorem e_CO_isSo : gEK 1 27 gp_CO_isSo := gE_S (d := 0) mCO_isSo rfl rfl wc_CO_isSo wt_CO_isSo wn_CO (N := 5) (by decide +kernel) (by decide) (fun g st h P st2 h2 he hP => by
  unfold gp_CO_isSo at he
  split at he
  · rename_i c b a d k r
    cases he
    exact ⟨[.int k, .int d, .int a, .int b, .int c], r, some (.int (bI (isSoF k d a b c))), rfl, rfl, hP, rfl, fun l => c_CO_isSo l g k d a b c h⟩
  · cases he)
def gp_CO_thingAt : gPF := fun _ st h => match st with
  | .int n :: .int i :: r => some (gCs r ≤ 8 ∧ (¬ n = 0), .int (thingAtF i n) :: r, h)
  | _ => none
theorem e_CO_thingAt : gEK 1 30 gp_CO_thingAt := gE_S (d := 0) mCO_thingAt rfl rfl wc_CO_thingAt wt_CO_thingAt wn_CO (N := 2) (by decide +kernel) (by decide) (fun g st h P st2 h2 he hP => by
  unfold gp_CO_thingAt at he
  split at he
  · rename_i n i r
    cases he
    exact ⟨[.int i, .int n], r, some (.int (thingAtF i n)), rfl, rfl, hP.1, rfl, fun l => c_CO_thingAt l g i n h hP.2⟩
  · cases he)
def gp_CO_ruleOf : gPF := fun _ st h => match st with
  | .int k :: r => some (gCs r ≤ 8, .int (ruleF k) :: r, h)
  | _ => none
theorem e_CO_ruleOf : gEK 2 38 gp_CO_ruleOf := gE_S (d := 1) mCO_ruleOf rfl rfl wc_CO_ruleOf wt_CO_ruleOf wn_CO (N := 1) (by decide +kernel) (by decide) (fun g st h P st2 h2 he hP => by
  unfold gp_CO_ruleOf at he
  split at he
  · rename_i k r
    cases he
    exact ⟨[.int k], r, some (.int (ruleF k)), rfl, rfl, hP, rfl, fun l => c_CO_ruleOf l g k h⟩
  · cases he)
def gp_CO_thingAfter : gPF := fun _ st h => match st with
  | .int b :: .int k :: r => some (gCs r ≤ 8, .int (afterF (xF k) (yF k) (zF k) b) :: r, h)
  | _ => none
theorem e_CO_thingAfter : gEK 2 41 gp_CO_thingAfter := gE_S (d := 1) mCO_thingAfter rfl rfl wc_CO_thingAfter wt_CO_thingAfter wn_CO (N := 2) (by decide +kernel) (by decide) (fun g st h P st2 h2 he hP => by
  unfold gp_CO_thingAfter at he
  split at he
  · rename_i b k r
    cases he
    exact ⟨[.int k, .int b], r, some (.int (afterF (xF k) (yF k) (zF k) b)), rfl, rfl, hP, rfl, fun l => c_CO_thingAfter l g k b h⟩
  · cases he)
def gp_JI_bitCount : gPF := fun _ st h => match st with
  | .int x :: r => some (gCs r ≤ 8, .int (bcF x) :: r, h)
  | _ => none
theorem e_JI_bitCount : gEK 1 24 gp_JI_bitCount := gE_S (d := 0) mJI_bitCount rfl rfl wc_JI_bitCount wt_JI_bitCount wn_JI (N := 1) (by decide +kernel) (by decide) (fun g st h P st2 h2 he hP => by
  unfold gp_JI_bitCount at he
  split at he
  · rename_i x r
    cases he
    exact ⟨[.int x], r, some (.int (bcF x)), rfl, rfl, hP, rfl, fun l => c_JI_bitCount l g x h⟩
  · cases he)
def gp_WO_isMany : gPF := fun _ st h => match st with
  | .int x :: r => some (gCs r ≤ 8, .int (bI (manyF x)) :: r, h)
  | _ => none
theorem e_WO_isMany : gEK 1 25 gp_WO_isMany := gE_S (d := 0) mWO_isMany rfl rfl wc_WO_isMany wt_WO_isMany wn_WO (N := 1) (by decide +kernel) (by decide) (fun g st h P st2 h2 he hP => by
  unfold gp_WO_isMany at he
  split at he
  · rename_i x r
    cases he
    exact ⟨[.int x], r, some (.int (bI (manyF x))), rfl, rfl, hP, rfl, fun l => c_WO_isMany l g x h⟩
  · cases he)
def gp_JM_max : gPF := fun _ st h => match st with
  | .int y :: .int x :: r => some (gCs r ≤ 8, .int (maxF x y) :: r, h)
  | _ => none
theorem e_JM_max : gEK 1 3 gp_JM_max := by
  intro l g I R h0 Z k n pc lv st h j P st2 h2 hR hk hd hn he hP K
  unfold gp_JM_max at he
  split at he
  · rename_i y x r
    cases he
    rcases hd with ⟨hd, -⟩ | ⟨-, hs2⟩
    · exact gw_mmax hd (gTn_ok hn) wt_JM_max wn_JM wc_JM_max ⟨hR.1, by rw [gCs_ok]; omega⟩ hk K
    · cases hs2
  · cases he
def gp_JM_min : gPF := fun _ st h => match st with
  | .int y :: .int x :: r => some (gCs r ≤ 8, .int (minF x y) :: r, h)
  | _ => none
theorem e_JM_min : gEK 1 2 gp_JM_min := by
  intro l g I R h0 Z k n pc lv st h j P st2 h2 hR hk hd hn he hP K
  unfold gp_JM_min at he
  split at he
  · rename_i y x r
    cases he
    rcases hd with ⟨hd, -⟩ | ⟨-, hs2⟩
    · exact gw_mmin hd (gTn_ok hn) wt_JM_min wn_JM wc_JM_min ⟨hR.1, by rw [gCs_ok]; omega⟩ hk K
    · cases hs2
  · cases he
def gT1 : gTB := gTu (gTu (gTu (gTu (gTu (gTu (gTu (gTu (gTu (gTu (gTu (gTu (gTu (gTu (gTu (gTu (gT0) 11 gp_CO_kind) 12 gp_CO_x) 13 gp_CO_y) 14 gp_CO_z) 15 gp_CO_d) 16 gp_CO_speaker) 73 gp_CO_of) 39 gp_CO_thingsOf) 66 gp_CO_leastD) 67 gp_CO_greatestD) 27 gp_CO_isSo) 30 gp_CO_thingAt) 24 gp_JI_bitCount) 25 gp_WO_isMany) 3 gp_JM_max) 2 gp_JM_min
theorem kgT1 : gTK 1 gT1 := gTK_u (gTK_u (gTK_u (gTK_u (gTK_u (gTK_u (gTK_u (gTK_u (gTK_u (gTK_u (gTK_u (gTK_u (gTK_u (gTK_u (gTK_u (gTK_u (gTK_0 1) (gEK_mono (by decide) e_CO_kind)) (gEK_mono (by decide) e_CO_x)) (gEK_mono (by decide) e_CO_y)) (gEK_mono (by decide) e_CO_z)) (gEK_mono (by decide) e_CO_d)) (gEK_mono (by decide) e_CO_speaker)) (gEK_mono (by decide) e_CO_of)) (gEK_mono (by decide) e_CO_thingsOf)) (gEK_mono (by decide) e_CO_leastD)) (gEK_mono (by decide) e_CO_greatestD)) (gEK_mono (by decide) e_CO_isSo)) (gEK_mono (by decide) e_CO_thingAt)) (gEK_mono (by decide) e_JI_bitCount)) (gEK_mono (by decide) e_WO_isMany)) (gEK_mono (by decide) e_JM_max)) (gEK_mono (by decide) e_JM_min)
theorem gT1_11 : gT1 11 = some gp_CO_kind := rfl
theorem gT1_12 : gT1 12 = some gp_CO_x := rfl
theorem gT1_13 : gT1 13 = some gp_CO_y := rfl
theorem gT1_14 : gT1 14 = some gp_CO_z := rfl
theorem gT1_15 : gT1 15 = some gp_CO_d := rfl
theorem gT1_16 : gT1 16 = some gp_CO_speaker := rfl
theorem gT1_73 : gT1 73 = some gp_CO_of := rfl
theorem gT1_39 : gT1 39 = some gp_CO_thingsOf := rfl
theorem gT1_66 : gT1 66 = some gp_CO_leastD := rfl
theorem gT1_67 : gT1 67 = some gp_CO_greatestD := rfl
theorem gT1_27 : gT1 27 = some gp_CO_isSo := rfl
theorem gT1_30 : gT1 30 = some gp_CO_thingAt := rfl
theorem gT1_24 : gT1 24 = some gp_JI_bitCount := rfl
theorem gT1_25 : gT1 25 = some gp_WO_isMany := rfl
theorem gT1_3 : gT1 3 = some gp_JM_max := rfl
theorem gT1_2 : gT1 2 = some gp_JM_min := rfl
def gT2 : gTB := gTu (gTu (gT1) 38 gp_CO_ruleOf) 41 gp_CO_thingAfter
theorem kgT2 : gTK 2 gT2 := gTK_u (gTK_u (gTK_mono (by decide) kgT1) (gEK_mono (by decide) e_CO_ruleOf)) (gEK_mono (by decide) e_CO_thingAfter)
theorem gT2_11 : gT2 11 = some gp_CO_kind := rfl
theorem gT2_12 : gT2 12 = some gp_CO_x := rfl
theorem gT2_13 : gT2 13 = some gp_CO_y := rfl
theorem gT2_14 : gT2 14 = some gp_CO_z := rfl
theorem gT2_15 : gT2 15 = some gp_CO_d := rfl
theorem gT2_16 : gT2 16 = some gp_CO_speaker := rfl
theorem gT2_73 : gT2 73 = some gp_CO_of := rfl
theorem gT2_39 : gT2 39 = some gp_CO_thingsOf := rfl
theorem gT2_66 : gT2 66 = some gp_CO_leastD := rfl
theorem gT2_67 : gT2 67 = some gp_CO_greatestD := rfl
theorem gT2_27 : gT2 27 = some gp_CO_isSo := rfl
theorem gT2_30 : gT2 30 = some gp_CO_thingAt := rfl
theorem gT2_24 : gT2 24 = some gp_JI_bitCount := rfl
theorem gT2_25 : gT2 25 = some gp_WO_isMany := rfl
theorem gT2_3 : gT2 3 = some gp_JM_max := rfl
theorem gT2_2 : gT2 2 = some gp_JM_min := rfl
theorem gT2_38 : gT2 38 = some gp_CO_ruleOf := rfl
theorem gT2_41 : gT2 41 = some gp_CO_thingAfter := rfl
