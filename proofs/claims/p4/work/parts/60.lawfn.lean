def f_X7_cell (L : Nat) (xs : Nat → Int32) (p1 : Int32) : Option (Int32) :=
    (if Int32.ofNat L ≤ p1 then some 0 else if p1 < 0 ∨ L ≤ p1.toNatClampNeg then none else some (xs p1.toNatClampNeg))
def f_X7_law_L30 (L : Nat) (xs : Nat → Int32) : Nat → Int64 → Int32 → Int64 → Int64 → Int32 → Int32 → Int64 → Int32 → Int32 → Int32 → Int32 → Int64 → Int32 → Int32 → Int32 → Int32 → Int32 → Int32 → (Nat → Int32) → (Nat → Int32) → (Nat → Int32) → (Nat → Int32) → (Nat → Int32) → (Nat → Int32) → (Nat → Int32) → (Nat → Int32) → (Nat → Int32) → (Nat → Int32) → (Nat → Int64) → (Nat → Int64) → (Nat → Int64) → (Nat → Int32) → (Nat → Int32) → (Nat → Int32) → (Nat → Int32) → (Nat → Int32) → (Nat → Int32) → (Nat → Int32) → (Nat → Int32) → (Nat → Int32) → (Nat → Int32) → (Nat → Int32) → Int32 → Option (Int32)
  | 0, _, _, _, _, _, _, _, _, _, _, _, _, _, _, _, _, _, _, _, _, _, _, _, _, _, _, _, _, _, _, _, _, _, _, _, _, _, _, _, _, _, _, _ => none
  | n30 + 1, xo_seed, mo_code, mo_seed, mo_state, mo_lefts, mo_size, xo_draws_state, xo_drawing_count, xo_drawing_fault, xo_drawing_faultPart, xo_rest_count, xo_trialDraws_state, xo_mine_count, xo_mine_fault, xo_mine_faultPart, xo_theirs_count, xo_theirs_fault, xo_theirs_faultPart, xo_mine_sort_v, xo_mine_x_v, xo_mine_y_v, xo_mine_z_v, xo_theirs_sort_v, xo_theirs_x_v, xo_theirs_y_v, xo_theirs_z_v, mo_many_v, mo_sort_v, mo_x_v, mo_y_v, mo_z_v, mo_fault_v, mo_faultAt_v, mo_left_v, mo_stays_v, mo_text_v, xo_drawing_sort_v, xo_drawing_x_v, xo_drawing_y_v, xo_drawing_z_v, xo_rest_numbers_v, xo_saying_staying_v, v3 =>
    (if ((Int32.ofNat L) - 5) < v3 then
    some 1
    else
    if v3 < 0 ∨ L ≤ v3.toNatClampNeg then none else
    (if ((xs v3.toNatClampNeg) &&& 15) = 0 then
    if (v3 + 1) < 0 ∨ L ≤ (v3 + 1).toNatClampNeg then none else
    if (v3 + 2) < 0 ∨ L ≤ (v3 + 2).toNatClampNeg then none else
    (f_X4_draw xo_draws_state xo_drawing_count xo_drawing_fault xo_drawing_faultPart xo_rest_count xo_drawing_sort_v xo_drawing_x_v xo_drawing_y_v xo_drawing_z_v xo_rest_numbers_v (xs (v3 + 1).toNatClampNeg) (xs (v3 + 2).toNatClampNeg)).bind fun r31006 =>
    (f_X5_draw mo_code mo_state mo_lefts mo_many_v mo_sort_v mo_x_v mo_y_v mo_z_v mo_fault_v mo_faultAt_v mo_left_v (xs (v3 + 1).toNatClampNeg) (xs (v3 + 2).toNatClampNeg)).bind fun r31009 =>
    f_X7_law_L30 L xs n30 xo_seed r31009.2.1 mo_seed r31009.2.2.1 r31009.2.2.2.1 mo_size r31006.2.1 r31006.2.2.1 r31006.2.2.2.1 r31006.2.2.2.2.1 r31006.2.2.2.2.2.1 xo_trialDraws_state xo_mine_count xo_mine_fault xo_mine_faultPart xo_theirs_count xo_theirs_fault xo_theirs_faultPart xo_mine_sort_v xo_mine_x_v xo_mine_y_v xo_mine_z_v xo_theirs_sort_v xo_theirs_x_v xo_theirs_y_v xo_theirs_z_v r31009.2.2.2.2.1 r31009.2.2.2.2.2.1 r31009.2.2.2.2.2.2.1 r31009.2.2.2.2.2.2.2.1 r31009.2.2.2.2.2.2.2.2.1 r31009.2.2.2.2.2.2.2.2.2.1 r31009.2.2.2.2.2.2.2.2.2.2.1 r31009.2.2.2.2.2.2.2.2.2.2.2 mo_stays_v mo_text_v r31006.2.2.2.2.2.2.1 r31006.2.2.2.2.2.2.2.1 r31006.2.2.2.2.2.2.2.2.1 r31006.2.2.2.2.2.2.2.2.2.1 r31006.2.2.2.2.2.2.2.2.2.2 xo_saying_staying_v (v3 + 5)
    else
    (if ((xs v3.toNatClampNeg) &&& 15) = 1 then
    if (v3 + 1) < 0 ∨ L ≤ (v3 + 1).toNatClampNeg then none else
    if (v3 + 2) < 0 ∨ L ≤ (v3 + 2).toNatClampNeg then none else
    (f_X4_part xo_drawing_count xo_rest_count xo_drawing_sort_v xo_drawing_x_v xo_drawing_y_v xo_drawing_z_v xo_rest_numbers_v (xs (v3 + 1).toNatClampNeg) (xs (v3 + 2).toNatClampNeg)).bind fun r31013 =>
    (f_X5_part mo_code mo_lefts mo_many_v mo_sort_v mo_x_v mo_y_v mo_z_v mo_left_v (xs (v3 + 1).toNatClampNeg) (xs (v3 + 2).toNatClampNeg)).bind fun r31016 =>
    f_X7_law_L30 L xs n30 xo_seed r31016.2 mo_seed mo_state mo_lefts mo_size xo_draws_state xo_drawing_count xo_drawing_fault xo_drawing_faultPart xo_rest_count xo_trialDraws_state xo_mine_count xo_mine_fault xo_mine_faultPart xo_theirs_count xo_theirs_fault xo_theirs_faultPart xo_mine_sort_v xo_mine_x_v xo_mine_y_v xo_mine_z_v xo_theirs_sort_v xo_theirs_x_v xo_theirs_y_v xo_theirs_z_v mo_many_v mo_sort_v mo_x_v mo_y_v mo_z_v mo_fault_v mo_faultAt_v mo_left_v mo_stays_v mo_text_v xo_drawing_sort_v xo_drawing_x_v xo_drawing_y_v xo_drawing_z_v xo_rest_numbers_v xo_saying_staying_v (v3 + 5)
    else
    (if ((xs v3.toNatClampNeg) &&& 15) = 2 then
    if (v3 + 1) < 0 ∨ L ≤ (v3 + 1).toNatClampNeg then none else
    (f_X4_letter xo_rest_count xo_rest_numbers_v xo_drawing_sort_v xo_drawing_x_v xo_drawing_y_v xo_drawing_z_v (xs (v3 + 1).toNatClampNeg)).bind fun r31019 =>
    (f_X5_letter mo_code mo_lefts mo_size mo_sort_v mo_x_v mo_y_v mo_z_v mo_left_v mo_text_v (xs (v3 + 1).toNatClampNeg)).bind fun r31021 =>
    (if r31019 = r31021.1 then
    f_X7_law_L30 L xs n30 xo_seed r31021.2.1 mo_seed mo_state mo_lefts r31021.2.2.1 xo_draws_state xo_drawing_count xo_drawing_fault xo_drawing_faultPart xo_rest_count xo_trialDraws_state xo_mine_count xo_mine_fault xo_mine_faultPart xo_theirs_count xo_theirs_fault xo_theirs_faultPart xo_mine_sort_v xo_mine_x_v xo_mine_y_v xo_mine_z_v xo_theirs_sort_v xo_theirs_x_v xo_theirs_y_v xo_theirs_z_v mo_many_v mo_sort_v mo_x_v mo_y_v mo_z_v mo_fault_v mo_faultAt_v mo_left_v mo_stays_v r31021.2.2.2 xo_drawing_sort_v xo_drawing_x_v xo_drawing_y_v xo_drawing_z_v xo_rest_numbers_v xo_saying_staying_v (v3 + 5)
    else
    some 0)
    else
    (if ((xs v3.toNatClampNeg) &&& 15) = 3 then
    if (v3 + 1) < 0 ∨ L ≤ (v3 + 1).toNatClampNeg then none else
    (f_X4_planted xo_drawing_fault xo_drawing_faultPart xo_rest_count xo_rest_numbers_v xo_drawing_sort_v xo_drawing_z_v (xs (v3 + 1).toNatClampNeg)).bind fun r31025 =>
    (f_X5_planted mo_code mo_lefts mo_many_v mo_sort_v mo_z_v mo_fault_v mo_faultAt_v mo_left_v (xs (v3 + 1).toNatClampNeg)).bind fun r31027 =>
    f_X7_law_L30 L xs n30 xo_seed r31027.2 mo_seed mo_state mo_lefts mo_size xo_draws_state xo_drawing_count xo_drawing_fault xo_drawing_faultPart xo_rest_count xo_trialDraws_state xo_mine_count xo_mine_fault xo_mine_faultPart xo_theirs_count xo_theirs_fault xo_theirs_faultPart xo_mine_sort_v xo_mine_x_v xo_mine_y_v xo_mine_z_v xo_theirs_sort_v xo_theirs_x_v xo_theirs_y_v xo_theirs_z_v mo_many_v mo_sort_v mo_x_v mo_y_v mo_z_v mo_fault_v mo_faultAt_v mo_left_v mo_stays_v mo_text_v xo_drawing_sort_v xo_drawing_x_v xo_drawing_y_v xo_drawing_z_v xo_rest_numbers_v xo_saying_staying_v (v3 + 5)
    else
    (if ((xs v3.toNatClampNeg) &&& 15) = 4 then
    if (v3 + 1) < 0 ∨ L ≤ (v3 + 1).toNatClampNeg then none else
    if (v3 + 2) < 0 ∨ L ≤ (v3 + 2).toNatClampNeg then none else
    (if (xs (v3 + 2).toNatClampNeg) = 0 then
    (f_X4_verdict xo_saying_staying_v (xs (v3 + 1).toNatClampNeg) 0).bind fun r31032 =>
    (if (xs (v3 + 2).toNatClampNeg) = 0 then
    (f_X5_verdict mo_code mo_stays_v (xs (v3 + 1).toNatClampNeg) 0).bind fun r31036 =>
    f_X7_law_L30 L xs n30 xo_seed r31036.1 mo_seed mo_state mo_lefts mo_size xo_draws_state xo_drawing_count xo_drawing_fault xo_drawing_faultPart xo_rest_count xo_trialDraws_state xo_mine_count xo_mine_fault xo_mine_faultPart xo_theirs_count xo_theirs_fault xo_theirs_faultPart xo_mine_sort_v xo_mine_x_v xo_mine_y_v xo_mine_z_v xo_theirs_sort_v xo_theirs_x_v xo_theirs_y_v xo_theirs_z_v mo_many_v mo_sort_v mo_x_v mo_y_v mo_z_v mo_fault_v mo_faultAt_v mo_left_v r31036.2 mo_text_v xo_drawing_sort_v xo_drawing_x_v xo_drawing_y_v xo_drawing_z_v xo_rest_numbers_v r31032 (v3 + 5)
    else
    (f_X5_verdict mo_code mo_stays_v (xs (v3 + 1).toNatClampNeg) 1).bind fun r31037 =>
    f_X7_law_L30 L xs n30 xo_seed r31037.1 mo_seed mo_state mo_lefts mo_size xo_draws_state xo_drawing_count xo_drawing_fault xo_drawing_faultPart xo_rest_count xo_trialDraws_state xo_mine_count xo_mine_fault xo_mine_faultPart xo_theirs_count xo_theirs_fault xo_theirs_faultPart xo_mine_sort_v xo_mine_x_v xo_mine_y_v xo_mine_z_v xo_theirs_sort_v xo_theirs_x_v xo_theirs_y_v xo_theirs_z_v mo_many_v mo_sort_v mo_x_v mo_y_v mo_z_v mo_fault_v mo_faultAt_v mo_left_v r31037.2 mo_text_v xo_drawing_sort_v xo_drawing_x_v xo_drawing_y_v xo_drawing_z_v xo_rest_numbers_v r31032 (v3 + 5))
    else
    (f_X4_verdict xo_saying_staying_v (xs (v3 + 1).toNatClampNeg) 1).bind fun r31038 =>
    (if (xs (v3 + 2).toNatClampNeg) = 0 then
    (f_X5_verdict mo_code mo_stays_v (xs (v3 + 1).toNatClampNeg) 0).bind fun r31042 =>
    f_X7_law_L30 L xs n30 xo_seed r31042.1 mo_seed mo_state mo_lefts mo_size xo_draws_state xo_drawing_count xo_drawing_fault xo_drawing_faultPart xo_rest_count xo_trialDraws_state xo_mine_count xo_mine_fault xo_mine_faultPart xo_theirs_count xo_theirs_fault xo_theirs_faultPart xo_mine_sort_v xo_mine_x_v xo_mine_y_v xo_mine_z_v xo_theirs_sort_v xo_theirs_x_v xo_theirs_y_v xo_theirs_z_v mo_many_v mo_sort_v mo_x_v mo_y_v mo_z_v mo_fault_v mo_faultAt_v mo_left_v r31042.2 mo_text_v xo_drawing_sort_v xo_drawing_x_v xo_drawing_y_v xo_drawing_z_v xo_rest_numbers_v r31038 (v3 + 5)
    else
    (f_X5_verdict mo_code mo_stays_v (xs (v3 + 1).toNatClampNeg) 1).bind fun r31043 =>
    f_X7_law_L30 L xs n30 xo_seed r31043.1 mo_seed mo_state mo_lefts mo_size xo_draws_state xo_drawing_count xo_drawing_fault xo_drawing_faultPart xo_rest_count xo_trialDraws_state xo_mine_count xo_mine_fault xo_mine_faultPart xo_theirs_count xo_theirs_fault xo_theirs_faultPart xo_mine_sort_v xo_mine_x_v xo_mine_y_v xo_mine_z_v xo_theirs_sort_v xo_theirs_x_v xo_theirs_y_v xo_theirs_z_v mo_many_v mo_sort_v mo_x_v mo_y_v mo_z_v mo_fault_v mo_faultAt_v mo_left_v r31043.2 mo_text_v xo_drawing_sort_v xo_drawing_x_v xo_drawing_y_v xo_drawing_z_v xo_rest_numbers_v r31038 (v3 + 5)))
    else
    (if ((xs v3.toNatClampNeg) &&& 15) = 5 then
    (f_X4_shorter xo_drawing_count xo_drawing_faultPart xo_rest_count xo_drawing_sort_v xo_drawing_z_v xo_rest_numbers_v xo_saying_staying_v).bind fun r31045 =>
    (f_X5_shorter mo_code mo_lefts mo_many_v mo_sort_v mo_z_v mo_faultAt_v mo_left_v mo_stays_v).bind fun r31046 =>
    f_X7_law_L30 L xs n30 xo_seed r31046.2.1 mo_seed mo_state r31046.2.2.1 mo_size xo_draws_state xo_drawing_count xo_drawing_fault xo_drawing_faultPart r31045.2.1 xo_trialDraws_state xo_mine_count xo_mine_fault xo_mine_faultPart xo_theirs_count xo_theirs_fault xo_theirs_faultPart xo_mine_sort_v xo_mine_x_v xo_mine_y_v xo_mine_z_v xo_theirs_sort_v xo_theirs_x_v xo_theirs_y_v xo_theirs_z_v mo_many_v mo_sort_v mo_x_v mo_y_v mo_z_v mo_fault_v mo_faultAt_v r31046.2.2.2 mo_stays_v mo_text_v xo_drawing_sort_v xo_drawing_x_v xo_drawing_y_v xo_drawing_z_v r31045.2.2 xo_saying_staying_v (v3 + 5)
    else
    (if ((xs v3.toNatClampNeg) &&& 15) = 6 then
    if (v3 + 1) < 0 ∨ L ≤ (v3 + 1).toNatClampNeg then none else
    (f_X4_left xo_rest_count xo_rest_numbers_v (xs (v3 + 1).toNatClampNeg)).bind fun r31049 =>
    (f_X5_left mo_code mo_lefts mo_left_v (xs (v3 + 1).toNatClampNeg)).bind fun r31051 =>
    f_X7_law_L30 L xs n30 xo_seed r31051.2 mo_seed mo_state mo_lefts mo_size xo_draws_state xo_drawing_count xo_drawing_fault xo_drawing_faultPart xo_rest_count xo_trialDraws_state xo_mine_count xo_mine_fault xo_mine_faultPart xo_theirs_count xo_theirs_fault xo_theirs_faultPart xo_mine_sort_v xo_mine_x_v xo_mine_y_v xo_mine_z_v xo_theirs_sort_v xo_theirs_x_v xo_theirs_y_v xo_theirs_z_v mo_many_v mo_sort_v mo_x_v mo_y_v mo_z_v mo_fault_v mo_faultAt_v mo_left_v mo_stays_v mo_text_v xo_drawing_sort_v xo_drawing_x_v xo_drawing_y_v xo_drawing_z_v xo_rest_numbers_v xo_saying_staying_v (v3 + 5)
    else
    (if ((xs v3.toNatClampNeg) &&& 15) = 7 then
    (f_X4_minimal xo_drawing_count xo_drawing_faultPart xo_rest_count xo_drawing_sort_v xo_drawing_z_v xo_rest_numbers_v xo_saying_staying_v).bind fun r31053 =>
    (f_X5_minimal mo_code mo_lefts mo_many_v mo_sort_v mo_z_v mo_faultAt_v mo_left_v mo_stays_v).bind fun r31054 =>
    f_X7_law_L30 L xs n30 xo_seed r31054.2 mo_seed mo_state mo_lefts mo_size xo_draws_state xo_drawing_count xo_drawing_fault xo_drawing_faultPart xo_rest_count xo_trialDraws_state xo_mine_count xo_mine_fault xo_mine_faultPart xo_theirs_count xo_theirs_fault xo_theirs_faultPart xo_mine_sort_v xo_mine_x_v xo_mine_y_v xo_mine_z_v xo_theirs_sort_v xo_theirs_x_v xo_theirs_y_v xo_theirs_z_v mo_many_v mo_sort_v mo_x_v mo_y_v mo_z_v mo_fault_v mo_faultAt_v mo_left_v mo_stays_v mo_text_v xo_drawing_sort_v xo_drawing_x_v xo_drawing_y_v xo_drawing_z_v xo_rest_numbers_v xo_saying_staying_v (v3 + 5)
    else
    (if ((xs v3.toNatClampNeg) &&& 15) = 8 then
    (f_X4_answers xo_drawing_count xo_drawing_z_v).bind fun r31056 =>
    (f_X5_answers mo_code mo_many_v mo_z_v).bind fun r31057 =>
    f_X7_law_L30 L xs n30 xo_seed r31057.2 mo_seed mo_state mo_lefts mo_size xo_draws_state xo_drawing_count xo_drawing_fault xo_drawing_faultPart xo_rest_count xo_trialDraws_state xo_mine_count xo_mine_fault xo_mine_faultPart xo_theirs_count xo_theirs_fault xo_theirs_faultPart xo_mine_sort_v xo_mine_x_v xo_mine_y_v xo_mine_z_v xo_theirs_sort_v xo_theirs_x_v xo_theirs_y_v xo_theirs_z_v mo_many_v mo_sort_v mo_x_v mo_y_v mo_z_v mo_fault_v mo_faultAt_v mo_left_v mo_stays_v mo_text_v xo_drawing_sort_v xo_drawing_x_v xo_drawing_y_v xo_drawing_z_v xo_rest_numbers_v xo_saying_staying_v (v3 + 5)
    else
    (if ((xs v3.toNatClampNeg) &&& 15) = 9 then
    if (v3 + 1) < 0 ∨ L ≤ (v3 + 1).toNatClampNeg then none else
    if (v3 + 2) < 0 ∨ L ≤ (v3 + 2).toNatClampNeg then none else
    if (v3 + 3) < 0 ∨ L ≤ (v3 + 3).toNatClampNeg then none else
    if (v3 + 4) < 0 ∨ L ≤ (v3 + 4).toNatClampNeg then none else
    (f_X4_same xo_seed xo_trialDraws_state xo_mine_count xo_mine_fault xo_mine_faultPart xo_theirs_count xo_theirs_fault xo_theirs_faultPart xo_mine_sort_v xo_mine_x_v xo_mine_y_v xo_mine_z_v xo_theirs_sort_v xo_theirs_x_v xo_theirs_y_v xo_theirs_z_v ((((xs (v3 + 1).toNatClampNeg).toInt64) <<< ((32 : Int32).toInt64 &&& 63)) ||| (((xs (v3 + 2).toNatClampNeg).toInt64) &&& 4294967295)) (xs (v3 + 3).toNatClampNeg) (xs (v3 + 4).toNatClampNeg)).bind fun r31063 =>
    (f_X5_same mo_code mo_seed mo_state mo_many_v mo_sort_v mo_x_v mo_y_v mo_z_v mo_fault_v mo_faultAt_v ((((xs (v3 + 1).toNatClampNeg).toInt64) <<< ((32 : Int32).toInt64 &&& 63)) ||| (((xs (v3 + 2).toNatClampNeg).toInt64) &&& 4294967295)) (xs (v3 + 3).toNatClampNeg) (xs (v3 + 4).toNatClampNeg)).bind fun r31068 =>
    f_X7_law_L30 L xs n30 xo_seed r31068.2.1 mo_seed r31068.2.2.1 mo_lefts mo_size xo_draws_state xo_drawing_count xo_drawing_fault xo_drawing_faultPart xo_rest_count r31063.2.1 r31063.2.2.1 r31063.2.2.2.1 r31063.2.2.2.2.1 r31063.2.2.2.2.2.1 r31063.2.2.2.2.2.2.1 r31063.2.2.2.2.2.2.2.1 r31063.2.2.2.2.2.2.2.2.1 r31063.2.2.2.2.2.2.2.2.2.1 r31063.2.2.2.2.2.2.2.2.2.2.1 r31063.2.2.2.2.2.2.2.2.2.2.2.1 r31063.2.2.2.2.2.2.2.2.2.2.2.2.1 r31063.2.2.2.2.2.2.2.2.2.2.2.2.2.1 r31063.2.2.2.2.2.2.2.2.2.2.2.2.2.2.1 r31063.2.2.2.2.2.2.2.2.2.2.2.2.2.2.2 r31068.2.2.2.1 r31068.2.2.2.2.1 r31068.2.2.2.2.2.1 r31068.2.2.2.2.2.2.1 r31068.2.2.2.2.2.2.2.1 r31068.2.2.2.2.2.2.2.2.1 r31068.2.2.2.2.2.2.2.2.2 mo_left_v mo_stays_v mo_text_v xo_drawing_sort_v xo_drawing_x_v xo_drawing_y_v xo_drawing_z_v xo_rest_numbers_v xo_saying_staying_v (v3 + 5)
    else
    f_X7_law_L30 L xs n30 xo_seed mo_code mo_seed mo_state mo_lefts mo_size xo_draws_state xo_drawing_count xo_drawing_fault xo_drawing_faultPart xo_rest_count xo_trialDraws_state xo_mine_count xo_mine_fault xo_mine_faultPart xo_theirs_count xo_theirs_fault xo_theirs_faultPart xo_mine_sort_v xo_mine_x_v xo_mine_y_v xo_mine_z_v xo_theirs_sort_v xo_theirs_x_v xo_theirs_y_v xo_theirs_z_v mo_many_v mo_sort_v mo_x_v mo_y_v mo_z_v mo_fault_v mo_faultAt_v mo_left_v mo_stays_v mo_text_v xo_drawing_sort_v xo_drawing_x_v xo_drawing_y_v xo_drawing_z_v xo_rest_numbers_v xo_saying_staying_v (v3 + 5))))))))))))
theorem e_X7_law_L30 (L : Nat) (xs : Nat → Int32) (n30 : Nat) (xo_seed : Int64) (mo_code : Int32) (mo_seed : Int64) (mo_state : Int64) (mo_lefts : Int32) (mo_size : Int32) (xo_draws_state : Int64) (xo_drawing_count : Int32) (xo_drawing_fault : Int32) (xo_drawing_faultPart : Int32) (xo_rest_count : Int32) (xo_trialDraws_state : Int64) (xo_mine_count : Int32) (xo_mine_fault : Int32) (xo_mine_faultPart : Int32) (xo_theirs_count : Int32) (xo_theirs_fault : Int32) (xo_theirs_faultPart : Int32) (xo_mine_sort_v : Nat → Int32) (xo_mine_x_v : Nat → Int32) (xo_mine_y_v : Nat → Int32) (xo_mine_z_v : Nat → Int32) (xo_theirs_sort_v : Nat → Int32) (xo_theirs_x_v : Nat → Int32) (xo_theirs_y_v : Nat → Int32) (xo_theirs_z_v : Nat → Int32) (mo_many_v : Nat → Int32) (mo_sort_v : Nat → Int32) (mo_x_v : Nat → Int64) (mo_y_v : Nat → Int64) (mo_z_v : Nat → Int64) (mo_fault_v : Nat → Int32) (mo_faultAt_v : Nat → Int32) (mo_left_v : Nat → Int32) (mo_stays_v : Nat → Int32) (mo_text_v : Nat → Int32) (xo_drawing_sort_v : Nat → Int32) (xo_drawing_x_v : Nat → Int32) (xo_drawing_y_v : Nat → Int32) (xo_drawing_z_v : Nat → Int32) (xo_rest_numbers_v : Nat → Int32) (xo_saying_staying_v : Nat → Int32) (v3 : Int32) : f_X7_law_L30 L xs (n30 + 1) xo_seed mo_code mo_seed mo_state mo_lefts mo_size xo_draws_state xo_drawing_count xo_drawing_fault xo_drawing_faultPart xo_rest_count xo_trialDraws_state xo_mine_count xo_mine_fault xo_mine_faultPart xo_theirs_count xo_theirs_fault xo_theirs_faultPart xo_mine_sort_v xo_mine_x_v xo_mine_y_v xo_mine_z_v xo_theirs_sort_v xo_theirs_x_v xo_theirs_y_v xo_theirs_z_v mo_many_v mo_sort_v mo_x_v mo_y_v mo_z_v mo_fault_v mo_faultAt_v mo_left_v mo_stays_v mo_text_v xo_drawing_sort_v xo_drawing_x_v xo_drawing_y_v xo_drawing_z_v xo_rest_numbers_v xo_saying_staying_v v3 =
    ((if ((Int32.ofNat L) - 5) < v3 then
    some 1
    else
    if v3 < 0 ∨ L ≤ v3.toNatClampNeg then none else
    (if ((xs v3.toNatClampNeg) &&& 15) = 0 then
    if (v3 + 1) < 0 ∨ L ≤ (v3 + 1).toNatClampNeg then none else
    if (v3 + 2) < 0 ∨ L ≤ (v3 + 2).toNatClampNeg then none else
    (f_X4_draw xo_draws_state xo_drawing_count xo_drawing_fault xo_drawing_faultPart xo_rest_count xo_drawing_sort_v xo_drawing_x_v xo_drawing_y_v xo_drawing_z_v xo_rest_numbers_v (xs (v3 + 1).toNatClampNeg) (xs (v3 + 2).toNatClampNeg)).bind fun r31006 =>
    (f_X5_draw mo_code mo_state mo_lefts mo_many_v mo_sort_v mo_x_v mo_y_v mo_z_v mo_fault_v mo_faultAt_v mo_left_v (xs (v3 + 1).toNatClampNeg) (xs (v3 + 2).toNatClampNeg)).bind fun r31009 =>
    f_X7_law_L30 L xs n30 xo_seed r31009.2.1 mo_seed r31009.2.2.1 r31009.2.2.2.1 mo_size r31006.2.1 r31006.2.2.1 r31006.2.2.2.1 r31006.2.2.2.2.1 r31006.2.2.2.2.2.1 xo_trialDraws_state xo_mine_count xo_mine_fault xo_mine_faultPart xo_theirs_count xo_theirs_fault xo_theirs_faultPart xo_mine_sort_v xo_mine_x_v xo_mine_y_v xo_mine_z_v xo_theirs_sort_v xo_theirs_x_v xo_theirs_y_v xo_theirs_z_v r31009.2.2.2.2.1 r31009.2.2.2.2.2.1 r31009.2.2.2.2.2.2.1 r31009.2.2.2.2.2.2.2.1 r31009.2.2.2.2.2.2.2.2.1 r31009.2.2.2.2.2.2.2.2.2.1 r31009.2.2.2.2.2.2.2.2.2.2.1 r31009.2.2.2.2.2.2.2.2.2.2.2 mo_stays_v mo_text_v r31006.2.2.2.2.2.2.1 r31006.2.2.2.2.2.2.2.1 r31006.2.2.2.2.2.2.2.2.1 r31006.2.2.2.2.2.2.2.2.2.1 r31006.2.2.2.2.2.2.2.2.2.2 xo_saying_staying_v (v3 + 5)
    else
    (if ((xs v3.toNatClampNeg) &&& 15) = 1 then
    if (v3 + 1) < 0 ∨ L ≤ (v3 + 1).toNatClampNeg then none else
    if (v3 + 2) < 0 ∨ L ≤ (v3 + 2).toNatClampNeg then none else
    (f_X4_part xo_drawing_count xo_rest_count xo_drawing_sort_v xo_drawing_x_v xo_drawing_y_v xo_drawing_z_v xo_rest_numbers_v (xs (v3 + 1).toNatClampNeg) (xs (v3 + 2).toNatClampNeg)).bind fun r31013 =>
    (f_X5_part mo_code mo_lefts mo_many_v mo_sort_v mo_x_v mo_y_v mo_z_v mo_left_v (xs (v3 + 1).toNatClampNeg) (xs (v3 + 2).toNatClampNeg)).bind fun r31016 =>
    f_X7_law_L30 L xs n30 xo_seed r31016.2 mo_seed mo_state mo_lefts mo_size xo_draws_state xo_drawing_count xo_drawing_fault xo_drawing_faultPart xo_rest_count xo_trialDraws_state xo_mine_count xo_mine_fault xo_mine_faultPart xo_theirs_count xo_theirs_fault xo_theirs_faultPart xo_mine_sort_v xo_mine_x_v xo_mine_y_v xo_mine_z_v xo_theirs_sort_v xo_theirs_x_v xo_theirs_y_v xo_theirs_z_v mo_many_v mo_sort_v mo_x_v mo_y_v mo_z_v mo_fault_v mo_faultAt_v mo_left_v mo_stays_v mo_text_v xo_drawing_sort_v xo_drawing_x_v xo_drawing_y_v xo_drawing_z_v xo_rest_numbers_v xo_saying_staying_v (v3 + 5)
    else
    (if ((xs v3.toNatClampNeg) &&& 15) = 2 then
    if (v3 + 1) < 0 ∨ L ≤ (v3 + 1).toNatClampNeg then none else
    (f_X4_letter xo_rest_count xo_rest_numbers_v xo_drawing_sort_v xo_drawing_x_v xo_drawing_y_v xo_drawing_z_v (xs (v3 + 1).toNatClampNeg)).bind fun r31019 =>
    (f_X5_letter mo_code mo_lefts mo_size mo_sort_v mo_x_v mo_y_v mo_z_v mo_left_v mo_text_v (xs (v3 + 1).toNatClampNeg)).bind fun r31021 =>
    (if r31019 = r31021.1 then
    f_X7_law_L30 L xs n30 xo_seed r31021.2.1 mo_seed mo_state mo_lefts r31021.2.2.1 xo_draws_state xo_drawing_count xo_drawing_fault xo_drawing_faultPart xo_rest_count xo_trialDraws_state xo_mine_count xo_mine_fault xo_mine_faultPart xo_theirs_count xo_theirs_fault xo_theirs_faultPart xo_mine_sort_v xo_mine_x_v xo_mine_y_v xo_mine_z_v xo_theirs_sort_v xo_theirs_x_v xo_theirs_y_v xo_theirs_z_v mo_many_v mo_sort_v mo_x_v mo_y_v mo_z_v mo_fault_v mo_faultAt_v mo_left_v mo_stays_v r31021.2.2.2 xo_drawing_sort_v xo_drawing_x_v xo_drawing_y_v xo_drawing_z_v xo_rest_numbers_v xo_saying_staying_v (v3 + 5)
    else
    some 0)
    else
    (if ((xs v3.toNatClampNeg) &&& 15) = 3 then
    if (v3 + 1) < 0 ∨ L ≤ (v3 + 1).toNatClampNeg then none else
    (f_X4_planted xo_drawing_fault xo_drawing_faultPart xo_rest_count xo_rest_numbers_v xo_drawing_sort_v xo_drawing_z_v (xs (v3 + 1).toNatClampNeg)).bind fun r31025 =>
    (f_X5_planted mo_code mo_lefts mo_many_v mo_sort_v mo_z_v mo_fault_v mo_faultAt_v mo_left_v (xs (v3 + 1).toNatClampNeg)).bind fun r31027 =>
    f_X7_law_L30 L xs n30 xo_seed r31027.2 mo_seed mo_state mo_lefts mo_size xo_draws_state xo_drawing_count xo_drawing_fault xo_drawing_faultPart xo_rest_count xo_trialDraws_state xo_mine_count xo_mine_fault xo_mine_faultPart xo_theirs_count xo_theirs_fault xo_theirs_faultPart xo_mine_sort_v xo_mine_x_v xo_mine_y_v xo_mine_z_v xo_theirs_sort_v xo_theirs_x_v xo_theirs_y_v xo_theirs_z_v mo_many_v mo_sort_v mo_x_v mo_y_v mo_z_v mo_fault_v mo_faultAt_v mo_left_v mo_stays_v mo_text_v xo_drawing_sort_v xo_drawing_x_v xo_drawing_y_v xo_drawing_z_v xo_rest_numbers_v xo_saying_staying_v (v3 + 5)
    else
    (if ((xs v3.toNatClampNeg) &&& 15) = 4 then
    if (v3 + 1) < 0 ∨ L ≤ (v3 + 1).toNatClampNeg then none else
    if (v3 + 2) < 0 ∨ L ≤ (v3 + 2).toNatClampNeg then none else
    (if (xs (v3 + 2).toNatClampNeg) = 0 then
    (f_X4_verdict xo_saying_staying_v (xs (v3 + 1).toNatClampNeg) 0).bind fun r31032 =>
    (if (xs (v3 + 2).toNatClampNeg) = 0 then
    (f_X5_verdict mo_code mo_stays_v (xs (v3 + 1).toNatClampNeg) 0).bind fun r31036 =>
    f_X7_law_L30 L xs n30 xo_seed r31036.1 mo_seed mo_state mo_lefts mo_size xo_draws_state xo_drawing_count xo_drawing_fault xo_drawing_faultPart xo_rest_count xo_trialDraws_state xo_mine_count xo_mine_fault xo_mine_faultPart xo_theirs_count xo_theirs_fault xo_theirs_faultPart xo_mine_sort_v xo_mine_x_v xo_mine_y_v xo_mine_z_v xo_theirs_sort_v xo_theirs_x_v xo_theirs_y_v xo_theirs_z_v mo_many_v mo_sort_v mo_x_v mo_y_v mo_z_v mo_fault_v mo_faultAt_v mo_left_v r31036.2 mo_text_v xo_drawing_sort_v xo_drawing_x_v xo_drawing_y_v xo_drawing_z_v xo_rest_numbers_v r31032 (v3 + 5)
    else
    (f_X5_verdict mo_code mo_stays_v (xs (v3 + 1).toNatClampNeg) 1).bind fun r31037 =>
    f_X7_law_L30 L xs n30 xo_seed r31037.1 mo_seed mo_state mo_lefts mo_size xo_draws_state xo_drawing_count xo_drawing_fault xo_drawing_faultPart xo_rest_count xo_trialDraws_state xo_mine_count xo_mine_fault xo_mine_faultPart xo_theirs_count xo_theirs_fault xo_theirs_faultPart xo_mine_sort_v xo_mine_x_v xo_mine_y_v xo_mine_z_v xo_theirs_sort_v xo_theirs_x_v xo_theirs_y_v xo_theirs_z_v mo_many_v mo_sort_v mo_x_v mo_y_v mo_z_v mo_fault_v mo_faultAt_v mo_left_v r31037.2 mo_text_v xo_drawing_sort_v xo_drawing_x_v xo_drawing_y_v xo_drawing_z_v xo_rest_numbers_v r31032 (v3 + 5))
    else
    (f_X4_verdict xo_saying_staying_v (xs (v3 + 1).toNatClampNeg) 1).bind fun r31038 =>
    (if (xs (v3 + 2).toNatClampNeg) = 0 then
    (f_X5_verdict mo_code mo_stays_v (xs (v3 + 1).toNatClampNeg) 0).bind fun r31042 =>
    f_X7_law_L30 L xs n30 xo_seed r31042.1 mo_seed mo_state mo_lefts mo_size xo_draws_state xo_drawing_count xo_drawing_fault xo_drawing_faultPart xo_rest_count xo_trialDraws_state xo_mine_count xo_mine_fault xo_mine_faultPart xo_theirs_count xo_theirs_fault xo_theirs_faultPart xo_mine_sort_v xo_mine_x_v xo_mine_y_v xo_mine_z_v xo_theirs_sort_v xo_theirs_x_v xo_theirs_y_v xo_theirs_z_v mo_many_v mo_sort_v mo_x_v mo_y_v mo_z_v mo_fault_v mo_faultAt_v mo_left_v r31042.2 mo_text_v xo_drawing_sort_v xo_drawing_x_v xo_drawing_y_v xo_drawing_z_v xo_rest_numbers_v r31038 (v3 + 5)
    else
    (f_X5_verdict mo_code mo_stays_v (xs (v3 + 1).toNatClampNeg) 1).bind fun r31043 =>
    f_X7_law_L30 L xs n30 xo_seed r31043.1 mo_seed mo_state mo_lefts mo_size xo_draws_state xo_drawing_count xo_drawing_fault xo_drawing_faultPart xo_rest_count xo_trialDraws_state xo_mine_count xo_mine_fault xo_mine_faultPart xo_theirs_count xo_theirs_fault xo_theirs_faultPart xo_mine_sort_v xo_mine_x_v xo_mine_y_v xo_mine_z_v xo_theirs_sort_v xo_theirs_x_v xo_theirs_y_v xo_theirs_z_v mo_many_v mo_sort_v mo_x_v mo_y_v mo_z_v mo_fault_v mo_faultAt_v mo_left_v r31043.2 mo_text_v xo_drawing_sort_v xo_drawing_x_v xo_drawing_y_v xo_drawing_z_v xo_rest_numbers_v r31038 (v3 + 5)))
    else
    (if ((xs v3.toNatClampNeg) &&& 15) = 5 then
    (f_X4_shorter xo_drawing_count xo_drawing_faultPart xo_rest_count xo_drawing_sort_v xo_drawing_z_v xo_rest_numbers_v xo_saying_staying_v).bind fun r31045 =>
    (f_X5_shorter mo_code mo_lefts mo_many_v mo_sort_v mo_z_v mo_faultAt_v mo_left_v mo_stays_v).bind fun r31046 =>
    f_X7_law_L30 L xs n30 xo_seed r31046.2.1 mo_seed mo_state r31046.2.2.1 mo_size xo_draws_state xo_drawing_count xo_drawing_fault xo_drawing_faultPart r31045.2.1 xo_trialDraws_state xo_mine_count xo_mine_fault xo_mine_faultPart xo_theirs_count xo_theirs_fault xo_theirs_faultPart xo_mine_sort_v xo_mine_x_v xo_mine_y_v xo_mine_z_v xo_theirs_sort_v xo_theirs_x_v xo_theirs_y_v xo_theirs_z_v mo_many_v mo_sort_v mo_x_v mo_y_v mo_z_v mo_fault_v mo_faultAt_v r31046.2.2.2 mo_stays_v mo_text_v xo_drawing_sort_v xo_drawing_x_v xo_drawing_y_v xo_drawing_z_v r31045.2.2 xo_saying_staying_v (v3 + 5)
    else
    (if ((xs v3.toNatClampNeg) &&& 15) = 6 then
    if (v3 + 1) < 0 ∨ L ≤ (v3 + 1).toNatClampNeg then none else
    (f_X4_left xo_rest_count xo_rest_numbers_v (xs (v3 + 1).toNatClampNeg)).bind fun r31049 =>
    (f_X5_left mo_code mo_lefts mo_left_v (xs (v3 + 1).toNatClampNeg)).bind fun r31051 =>
    f_X7_law_L30 L xs n30 xo_seed r31051.2 mo_seed mo_state mo_lefts mo_size xo_draws_state xo_drawing_count xo_drawing_fault xo_drawing_faultPart xo_rest_count xo_trialDraws_state xo_mine_count xo_mine_fault xo_mine_faultPart xo_theirs_count xo_theirs_fault xo_theirs_faultPart xo_mine_sort_v xo_mine_x_v xo_mine_y_v xo_mine_z_v xo_theirs_sort_v xo_theirs_x_v xo_theirs_y_v xo_theirs_z_v mo_many_v mo_sort_v mo_x_v mo_y_v mo_z_v mo_fault_v mo_faultAt_v mo_left_v mo_stays_v mo_text_v xo_drawing_sort_v xo_drawing_x_v xo_drawing_y_v xo_drawing_z_v xo_rest_numbers_v xo_saying_staying_v (v3 + 5)
    else
    (if ((xs v3.toNatClampNeg) &&& 15) = 7 then
    (f_X4_minimal xo_drawing_count xo_drawing_faultPart xo_rest_count xo_drawing_sort_v xo_drawing_z_v xo_rest_numbers_v xo_saying_staying_v).bind fun r31053 =>
    (f_X5_minimal mo_code mo_lefts mo_many_v mo_sort_v mo_z_v mo_faultAt_v mo_left_v mo_stays_v).bind fun r31054 =>
    f_X7_law_L30 L xs n30 xo_seed r31054.2 mo_seed mo_state mo_lefts mo_size xo_draws_state xo_drawing_count xo_drawing_fault xo_drawing_faultPart xo_rest_count xo_trialDraws_state xo_mine_count xo_mine_fault xo_mine_faultPart xo_theirs_count xo_theirs_fault xo_theirs_faultPart xo_mine_sort_v xo_mine_x_v xo_mine_y_v xo_mine_z_v xo_theirs_sort_v xo_theirs_x_v xo_theirs_y_v xo_theirs_z_v mo_many_v mo_sort_v mo_x_v mo_y_v mo_z_v mo_fault_v mo_faultAt_v mo_left_v mo_stays_v mo_text_v xo_drawing_sort_v xo_drawing_x_v xo_drawing_y_v xo_drawing_z_v xo_rest_numbers_v xo_saying_staying_v (v3 + 5)
    else
    (if ((xs v3.toNatClampNeg) &&& 15) = 8 then
    (f_X4_answers xo_drawing_count xo_drawing_z_v).bind fun r31056 =>
    (f_X5_answers mo_code mo_many_v mo_z_v).bind fun r31057 =>
    f_X7_law_L30 L xs n30 xo_seed r31057.2 mo_seed mo_state mo_lefts mo_size xo_draws_state xo_drawing_count xo_drawing_fault xo_drawing_faultPart xo_rest_count xo_trialDraws_state xo_mine_count xo_mine_fault xo_mine_faultPart xo_theirs_count xo_theirs_fault xo_theirs_faultPart xo_mine_sort_v xo_mine_x_v xo_mine_y_v xo_mine_z_v xo_theirs_sort_v xo_theirs_x_v xo_theirs_y_v xo_theirs_z_v mo_many_v mo_sort_v mo_x_v mo_y_v mo_z_v mo_fault_v mo_faultAt_v mo_left_v mo_stays_v mo_text_v xo_drawing_sort_v xo_drawing_x_v xo_drawing_y_v xo_drawing_z_v xo_rest_numbers_v xo_saying_staying_v (v3 + 5)
    else
    (if ((xs v3.toNatClampNeg) &&& 15) = 9 then
    if (v3 + 1) < 0 ∨ L ≤ (v3 + 1).toNatClampNeg then none else
    if (v3 + 2) < 0 ∨ L ≤ (v3 + 2).toNatClampNeg then none else
    if (v3 + 3) < 0 ∨ L ≤ (v3 + 3).toNatClampNeg then none else
    if (v3 + 4) < 0 ∨ L ≤ (v3 + 4).toNatClampNeg then none else
    (f_X4_same xo_seed xo_trialDraws_state xo_mine_count xo_mine_fault xo_mine_faultPart xo_theirs_count xo_theirs_fault xo_theirs_faultPart xo_mine_sort_v xo_mine_x_v xo_mine_y_v xo_mine_z_v xo_theirs_sort_v xo_theirs_x_v xo_theirs_y_v xo_theirs_z_v ((((xs (v3 + 1).toNatClampNeg).toInt64) <<< ((32 : Int32).toInt64 &&& 63)) ||| (((xs (v3 + 2).toNatClampNeg).toInt64) &&& 4294967295)) (xs (v3 + 3).toNatClampNeg) (xs (v3 + 4).toNatClampNeg)).bind fun r31063 =>
    (f_X5_same mo_code mo_seed mo_state mo_many_v mo_sort_v mo_x_v mo_y_v mo_z_v mo_fault_v mo_faultAt_v ((((xs (v3 + 1).toNatClampNeg).toInt64) <<< ((32 : Int32).toInt64 &&& 63)) ||| (((xs (v3 + 2).toNatClampNeg).toInt64) &&& 4294967295)) (xs (v3 + 3).toNatClampNeg) (xs (v3 + 4).toNatClampNeg)).bind fun r31068 =>
    f_X7_law_L30 L xs n30 xo_seed r31068.2.1 mo_seed r31068.2.2.1 mo_lefts mo_size xo_draws_state xo_drawing_count xo_drawing_fault xo_drawing_faultPart xo_rest_count r31063.2.1 r31063.2.2.1 r31063.2.2.2.1 r31063.2.2.2.2.1 r31063.2.2.2.2.2.1 r31063.2.2.2.2.2.2.1 r31063.2.2.2.2.2.2.2.1 r31063.2.2.2.2.2.2.2.2.1 r31063.2.2.2.2.2.2.2.2.2.1 r31063.2.2.2.2.2.2.2.2.2.2.1 r31063.2.2.2.2.2.2.2.2.2.2.2.1 r31063.2.2.2.2.2.2.2.2.2.2.2.2.1 r31063.2.2.2.2.2.2.2.2.2.2.2.2.2.1 r31063.2.2.2.2.2.2.2.2.2.2.2.2.2.2.1 r31063.2.2.2.2.2.2.2.2.2.2.2.2.2.2.2 r31068.2.2.2.1 r31068.2.2.2.2.1 r31068.2.2.2.2.2.1 r31068.2.2.2.2.2.2.1 r31068.2.2.2.2.2.2.2.1 r31068.2.2.2.2.2.2.2.2.1 r31068.2.2.2.2.2.2.2.2.2 mo_left_v mo_stays_v mo_text_v xo_drawing_sort_v xo_drawing_x_v xo_drawing_y_v xo_drawing_z_v xo_rest_numbers_v xo_saying_staying_v (v3 + 5)
    else
    f_X7_law_L30 L xs n30 xo_seed mo_code mo_seed mo_state mo_lefts mo_size xo_draws_state xo_drawing_count xo_drawing_fault xo_drawing_faultPart xo_rest_count xo_trialDraws_state xo_mine_count xo_mine_fault xo_mine_faultPart xo_theirs_count xo_theirs_fault xo_theirs_faultPart xo_mine_sort_v xo_mine_x_v xo_mine_y_v xo_mine_z_v xo_theirs_sort_v xo_theirs_x_v xo_theirs_y_v xo_theirs_z_v mo_many_v mo_sort_v mo_x_v mo_y_v mo_z_v mo_fault_v mo_faultAt_v mo_left_v mo_stays_v mo_text_v xo_drawing_sort_v xo_drawing_x_v xo_drawing_y_v xo_drawing_z_v xo_rest_numbers_v xo_saying_staying_v (v3 + 5))))))))))))) := rfl
def f_X7_law (L : Nat) (xs : Nat → Int32) : Option (Int32) :=
    (f_X7_cell L xs 0).bind fun r1 =>
    (f_X7_cell L xs 0).bind fun r2 =>
    f_X7_law_L30 L xs 600 r1.toInt64 0 r2.toInt64 r2.toInt64 0 0 r1.toInt64 0 0 ((-1)) 0 r1.toInt64 0 0 ((-1)) 0 0 ((-1)) (fun _ => 0) (fun _ => 0) (fun _ => 0) (fun _ => 0) (fun _ => 0) (fun _ => 0) (fun _ => 0) (fun _ => 0) (fun _ => 0) (fun _ => 0) (fun _ => 0) (fun _ => 0) (fun _ => 0) (fun _ => 0) (fun _ => 0) (fun _ => 0) (fun _ => 0) (fun _ => 0) (fun _ => 0) (fun _ => 0) (fun _ => 0) (fun _ => 0) (fun _ => 0) (fun _ => 0) 1
