set_option maxHeartbeats 4000000 in
theorem law_pure {L : Nat} {xs : Nat → Int32} (hL : L ≤ 2561) : ∀ (m i F : Nat) (xo_seed : Int64) (mo_code : Int32) (mo_seed : Int64) (mo_state : Int64) (mo_lefts : Int32) (mo_size : Int32) (xo_draws_state : Int64) (xo_drawing_count : Int32) (xo_drawing_fault : Int32) (xo_drawing_faultPart : Int32) (xo_rest_count : Int32) (xo_trialDraws_state : Int64) (xo_mine_count : Int32) (xo_mine_fault : Int32) (xo_mine_faultPart : Int32) (xo_theirs_count : Int32) (xo_theirs_fault : Int32) (xo_theirs_faultPart : Int32) (xo_mine_sort_v : Nat → Int32) (xo_mine_x_v : Nat → Int32) (xo_mine_y_v : Nat → Int32) (xo_mine_z_v : Nat → Int32) (xo_theirs_sort_v : Nat → Int32) (xo_theirs_x_v : Nat → Int32) (xo_theirs_y_v : Nat → Int32) (xo_theirs_z_v : Nat → Int32) (mo_many_v : Nat → Int32) (mo_sort_v : Nat → Int32) (mo_x_v : Nat → Int64) (mo_y_v : Nat → Int64) (mo_z_v : Nat → Int64) (mo_fault_v : Nat → Int32) (mo_faultAt_v : Nat → Int32) (mo_left_v : Nat → Int32) (mo_stays_v : Nat → Int32) (mo_text_v : Nat → Int32) (xo_drawing_sort_v : Nat → Int32) (xo_drawing_x_v : Nat → Int32) (xo_drawing_y_v : Nat → Int32) (xo_drawing_z_v : Nat → Int32) (xo_rest_numbers_v : Nat → Int32) (xo_saying_staying_v : Nat → Int32) (n k : Nat), i ≤ 2570 → L < i + 5 * m + 5 → kz_J n k xo_draws_state mo_state xo_drawing_count xo_drawing_fault xo_drawing_faultPart xo_rest_count mo_lefts xo_drawing_sort_v xo_drawing_x_v xo_drawing_y_v xo_drawing_z_v xo_rest_numbers_v xo_saying_staying_v mo_many_v mo_sort_v mo_x_v mo_y_v mo_z_v mo_fault_v mo_faultAt_v mo_left_v mo_stays_v → xo_seed = mo_seed → f_X7_law_L30 L xs (m + F + 1) xo_seed mo_code mo_seed mo_state mo_lefts mo_size xo_draws_state xo_drawing_count xo_drawing_fault xo_drawing_faultPart xo_rest_count xo_trialDraws_state xo_mine_count xo_mine_fault xo_mine_faultPart xo_theirs_count xo_theirs_fault xo_theirs_faultPart xo_mine_sort_v xo_mine_x_v xo_mine_y_v xo_mine_z_v xo_theirs_sort_v xo_theirs_x_v xo_theirs_y_v xo_theirs_z_v mo_many_v mo_sort_v mo_x_v mo_y_v mo_z_v mo_fault_v mo_faultAt_v mo_left_v mo_stays_v mo_text_v xo_drawing_sort_v xo_drawing_x_v xo_drawing_y_v xo_drawing_z_v xo_rest_numbers_v xo_saying_staying_v (nI i) = some 1 := by
  have ex : ∀ i, i ≤ 2570 → (L < i + 5 ↔ Int32.ofNat L - 5 < nI i) := fun i hi => by
    have e : (nI L - nI 5).toInt = (L : Int) - 5 := pk_sub_toInt (by omega) (by decide)
    show _ ↔ nI L - nI 5 < nI i
    rw [Int32.lt_iff_toInt_lt, e, nI_toInt (by omega)]
    omega
  intro m
  induction m with
  | zero =>
    intro i F xo_seed mo_code mo_seed mo_state mo_lefts mo_size xo_draws_state xo_drawing_count xo_drawing_fault xo_drawing_faultPart xo_rest_count xo_trialDraws_state xo_mine_count xo_mine_fault xo_mine_faultPart xo_theirs_count xo_theirs_fault xo_theirs_faultPart xo_mine_sort_v xo_mine_x_v xo_mine_y_v xo_mine_z_v xo_theirs_sort_v xo_theirs_x_v xo_theirs_y_v xo_theirs_z_v mo_many_v mo_sort_v mo_x_v mo_y_v mo_z_v mo_fault_v mo_faultAt_v mo_left_v mo_stays_v mo_text_v xo_drawing_sort_v xo_drawing_x_v xo_drawing_y_v xo_drawing_z_v xo_rest_numbers_v xo_saying_staying_v n k hi hm hJ hseed
    rw [e_X7_law_L30, if_pos ((ex i hi).mp (by omega))]
  | succ m ih =>
    intro i F xo_seed mo_code mo_seed mo_state mo_lefts mo_size xo_draws_state xo_drawing_count xo_drawing_fault xo_drawing_faultPart xo_rest_count xo_trialDraws_state xo_mine_count xo_mine_fault xo_mine_faultPart xo_theirs_count xo_theirs_fault xo_theirs_faultPart xo_mine_sort_v xo_mine_x_v xo_mine_y_v xo_mine_z_v xo_theirs_sort_v xo_theirs_x_v xo_theirs_y_v xo_theirs_z_v mo_many_v mo_sort_v mo_x_v mo_y_v mo_z_v mo_fault_v mo_faultAt_v mo_left_v mo_stays_v mo_text_v xo_drawing_sort_v xo_drawing_x_v xo_drawing_y_v xo_drawing_z_v xo_rest_numbers_v xo_saying_staying_v n k hi hm hJ hseed
    rw [show m + 1 + F + 1 = (m + F + 1) + 1 by omega, e_X7_law_L30]
    by_cases hx : L < i + 5
    · rw [if_pos ((ex i hi).mp hx)]
    · have n5 : nI i + 5 = nI (i + 5) := nI_add i 5
      have a1 : nI i + 1 = nI (i + 1) := nI_add i 1
      have b1 : ¬ (nI (i + 1) < 0 ∨ L ≤ (nI (i + 1)).toNatClampNeg) := nI_in (show i + 1 < L by omega) (by omega)
      have t1 : (nI (i + 1)).toNatClampNeg = i + 1 := nI_clamp (by omega)
      have a2 : nI i + 2 = nI (i + 2) := nI_add i 2
      have b2 : ¬ (nI (i + 2) < 0 ∨ L ≤ (nI (i + 2)).toNatClampNeg) := nI_in (show i + 2 < L by omega) (by omega)
      have t2 : (nI (i + 2)).toNatClampNeg = i + 2 := nI_clamp (by omega)
      have a3 : nI i + 3 = nI (i + 3) := nI_add i 3
      have b3 : ¬ (nI (i + 3) < 0 ∨ L ≤ (nI (i + 3)).toNatClampNeg) := nI_in (show i + 3 < L by omega) (by omega)
      have t3 : (nI (i + 3)).toNatClampNeg = i + 3 := nI_clamp (by omega)
      have a4 : nI i + 4 = nI (i + 4) := nI_add i 4
      have b4 : ¬ (nI (i + 4) < 0 ∨ L ≤ (nI (i + 4)).toNatClampNeg) := nI_in (show i + 4 < L by omega) (by omega)
      have t4 : (nI (i + 4)).toNatClampNeg = i + 4 := nI_clamp (by omega)
      rw [if_neg (fun q => hx ((ex i hi).mpr q)), if_neg (nI_in (show i < L by omega) (by omega))]
      by_cases c0 : xs (nI i).toNatClampNeg &&& 15 = 0
      · rw [if_pos c0]
        rw [a1, if_neg b1, a2, if_neg b2, t1, t2]
        obtain ⟨r, n1, k1, cs1, ms1, cnt1, fl1, fp1, rc1, lefts1, S1, X1, Y1, Z1, N1, M1, S1', X1', Y1', Z1', FA1, FT1, LF1, hJ1, e1, e2⟩ := kz_draw hJ mo_code (xs (i + 1)) (xs (i + 2))
        rw [e1, Option.bind_some]; (try dsimp only); rw [e2, Option.bind_some]; (try dsimp only); (try rw [if_pos rfl]); (try rw [if_pos ((lg_cmp_eq _ _).mpr rfl)]); rw [n5]; exact ih (i + 5) F _ _ _ _ _ _ _ _ _ _ _ _ _ _ _ _ _ _ _ _ _ _ _ _ _ _ _ _ _ _ _ _ _ _ _ _ _ _ _ _ _ _ n1 k1 (by omega) (by omega) hJ1 hseed
      rw [if_neg c0]
      by_cases c1 : xs (nI i).toNatClampNeg &&& 15 = 1
      · rw [if_pos c1]
        rw [a1, if_neg b1, a2, if_neg b2, t1, t2]
        obtain ⟨⟨q1, q2, hn, hM, hP, hFA, hf0, hFT, q9, q10, hk, hN, hV⟩, hkk⟩ := id hJ
        obtain ⟨r, e1, e2⟩ := kz_part hn hk xo_drawing_sort_v xo_drawing_x_v xo_drawing_y_v xo_drawing_z_v xo_rest_numbers_v mo_many_v mo_sort_v mo_x_v mo_y_v mo_z_v mo_left_v hM hP hN mo_code (xs (i + 1)) (xs (i + 2))
        rw [← q2, ← q9] at e1
        rw [← q10] at e2
        rw [e1, Option.bind_some]; (try dsimp only); rw [e2, Option.bind_some]; (try dsimp only); (try rw [if_pos rfl]); (try rw [if_pos ((lg_cmp_eq _ _).mpr rfl)]); rw [n5]; exact ih (i + 5) F _ _ _ _ _ _ _ _ _ _ _ _ _ _ _ _ _ _ _ _ _ _ _ _ _ _ _ _ _ _ _ _ _ _ _ _ _ _ _ _ _ _ n k (by omega) (by omega) hJ hseed
      rw [if_neg c1]
      by_cases c2 : xs (nI i).toNatClampNeg &&& 15 = 2
      · rw [if_pos c2]
        rw [a1, if_neg b1, t1]
        obtain ⟨⟨q1, q2, hn, hM, hP, hFA, hf0, hFT, q9, q10, hk, hN, hV⟩, hkk⟩ := id hJ
        obtain ⟨r, z1, T1, e1, e2⟩ := kz_letter hn hk xo_drawing_sort_v xo_drawing_x_v xo_drawing_y_v xo_drawing_z_v xo_rest_numbers_v mo_sort_v mo_x_v mo_y_v mo_z_v mo_left_v hP hN mo_code mo_size mo_text_v (xs (i + 1))
        rw [← q9] at e1
        rw [← q10] at e2
        rw [e1, Option.bind_some]; (try dsimp only); rw [e2, Option.bind_some]; (try dsimp only); (try rw [if_pos rfl]); (try rw [if_pos ((lg_cmp_eq _ _).mpr rfl)]); rw [n5]; exact ih (i + 5) F _ _ _ _ _ _ _ _ _ _ _ _ _ _ _ _ _ _ _ _ _ _ _ _ _ _ _ _ _ _ _ _ _ _ _ _ _ _ _ _ _ _ n k (by omega) (by omega) hJ hseed
      rw [if_neg c2]
      by_cases c3 : xs (nI i).toNatClampNeg &&& 15 = 3
      · rw [if_pos c3]
        rw [a1, if_neg b1, t1]
        obtain ⟨⟨q1, q2, hn, hM, hP, hFA, hf0, hFT, q9, q10, hk, hN, hV⟩, hkk⟩ := id hJ
        have hQ : kz_Q n k xo_drawing_faultPart xo_rest_numbers_v mo_left_v xo_drawing_sort_v mo_sort_v xo_drawing_z_v mo_faultAt_v mo_z_v := ⟨hn, hk, hFT, fun j hj => kz_P_s (hP j hj), fun j hj => kz_P_z (hP j hj), hN⟩
        obtain ⟨r, e1, e2⟩ := kz_planted hQ mo_many_v mo_fault_v hM hFA hf0 mo_code (xs (i + 1))
        rw [← q9] at e1
        rw [← q10] at e2
        rw [e1, Option.bind_some]; (try dsimp only); rw [e2, Option.bind_some]; (try dsimp only); (try rw [if_pos rfl]); (try rw [if_pos ((lg_cmp_eq _ _).mpr rfl)]); rw [n5]; exact ih (i + 5) F _ _ _ _ _ _ _ _ _ _ _ _ _ _ _ _ _ _ _ _ _ _ _ _ _ _ _ _ _ _ _ _ _ _ _ _ _ _ _ _ _ _ n k (by omega) (by omega) hJ hseed
      rw [if_neg c3]
      by_cases c4 : xs (nI i).toNatClampNeg &&& 15 = 4
      · rw [if_pos c4]
        rw [a1, if_neg b1, a2, if_neg b2, t1, t2]
        obtain ⟨⟨q1, q2, hn, hM, hP, hFA, hf0, hFT, q9, q10, hk, hN, hV⟩, hkk⟩ := id hJ
        by_cases z0 : (xs (i + 2)) = 0
        · rw [if_pos z0]; obtain ⟨V1, SV1, e1, e2, hV1⟩ := kz_verdict xo_saying_staying_v mo_stays_v hV mo_code (xs (i + 1)) 0 (Or.inl rfl); rw [e1, Option.bind_some]; (try dsimp only); rw [if_pos z0, e2, Option.bind_some]; (try dsimp only); (try rw [if_pos rfl]); (try rw [if_pos ((lg_cmp_eq _ _).mpr rfl)]); rw [n5]; exact ih (i + 5) F _ _ _ _ _ _ _ _ _ _ _ _ _ _ _ _ _ _ _ _ _ _ _ _ _ _ _ _ _ _ _ _ _ _ _ _ _ _ _ _ _ _ n k (by omega) (by omega) ⟨⟨q1, q2, hn, hM, hP, hFA, hf0, hFT, q9, q10, hk, hN, hV1⟩, hkk⟩ hseed
        · rw [if_neg z0]; obtain ⟨V1, SV1, e1, e2, hV1⟩ := kz_verdict xo_saying_staying_v mo_stays_v hV mo_code (xs (i + 1)) 1 (Or.inr rfl); rw [e1, Option.bind_some]; (try dsimp only); rw [if_neg z0, e2, Option.bind_some]; (try dsimp only); (try rw [if_pos rfl]); (try rw [if_pos ((lg_cmp_eq _ _).mpr rfl)]); rw [n5]; exact ih (i + 5) F _ _ _ _ _ _ _ _ _ _ _ _ _ _ _ _ _ _ _ _ _ _ _ _ _ _ _ _ _ _ _ _ _ _ _ _ _ _ _ _ _ _ n k (by omega) (by omega) ⟨⟨q1, q2, hn, hM, hP, hFA, hf0, hFT, q9, q10, hk, hN, hV1⟩, hkk⟩ hseed
      rw [if_neg c4]
      by_cases c5 : xs (nI i).toNatClampNeg &&& 15 = 5
      · rw [if_pos c5]
        obtain ⟨⟨q1, q2, hn, hM, hP, hFA, hf0, hFT, q9, q10, hk, hN, hV⟩, hkk⟩ := id hJ
        have hQ : kz_Q n k xo_drawing_faultPart xo_rest_numbers_v mo_left_v xo_drawing_sort_v mo_sort_v xo_drawing_z_v mo_faultAt_v mo_z_v := ⟨hn, hk, hFT, fun j hj => kz_P_s (hP j hj), fun j hj => kz_P_z (hP j hj), hN⟩
        obtain ⟨r, k1, N1, LF1, g0, hQ1, e1, e2⟩ := kz_shorter hQ hkk xo_saying_staying_v mo_stays_v mo_many_v hM hV mo_code
        rw [← q2, ← q9] at e1
        rw [← q10] at e2
        rw [e1, Option.bind_some]; (try dsimp only); rw [e2, Option.bind_some]; (try dsimp only); (try rw [if_pos rfl]); (try rw [if_pos ((lg_cmp_eq _ _).mpr rfl)]); rw [n5]; exact ih (i + 5) F _ _ _ _ _ _ _ _ _ _ _ _ _ _ _ _ _ _ _ _ _ _ _ _ _ _ _ _ _ _ _ _ _ _ _ _ _ _ _ _ _ _ n k1 (by omega) (by omega) ⟨⟨q1, q2, hn, hM, hP, hFA, hf0, hFT, rfl, rfl, hQ1.2.1, hQ1.2.2.2.2.2, hV⟩, g0⟩ hseed
      rw [if_neg c5]
      by_cases c6 : xs (nI i).toNatClampNeg &&& 15 = 6
      · rw [if_pos c6]
        rw [a1, if_neg b1, t1]
        obtain ⟨⟨q1, q2, hn, hM, hP, hFA, hf0, hFT, q9, q10, hk, hN, hV⟩, hkk⟩ := id hJ
        obtain ⟨r, e1, e2⟩ := kz_left hn hk xo_rest_numbers_v mo_left_v hN mo_code (xs (i + 1))
        rw [← q9] at e1
        rw [← q10] at e2
        rw [e1, Option.bind_some]; (try dsimp only); rw [e2, Option.bind_some]; (try dsimp only); (try rw [if_pos rfl]); (try rw [if_pos ((lg_cmp_eq _ _).mpr rfl)]); rw [n5]; exact ih (i + 5) F _ _ _ _ _ _ _ _ _ _ _ _ _ _ _ _ _ _ _ _ _ _ _ _ _ _ _ _ _ _ _ _ _ _ _ _ _ _ _ _ _ _ n k (by omega) (by omega) hJ hseed
      rw [if_neg c6]
      by_cases c7 : xs (nI i).toNatClampNeg &&& 15 = 7
      · rw [if_pos c7]
        obtain ⟨⟨q1, q2, hn, hM, hP, hFA, hf0, hFT, q9, q10, hk, hN, hV⟩, hkk⟩ := id hJ
        have hQ : kz_Q n k xo_drawing_faultPart xo_rest_numbers_v mo_left_v xo_drawing_sort_v mo_sort_v xo_drawing_z_v mo_faultAt_v mo_z_v := ⟨hn, hk, hFT, fun j hj => kz_P_s (hP j hj), fun j hj => kz_P_z (hP j hj), hN⟩
        obtain ⟨r, r01, e1, e2⟩ := kz_minimal hQ xo_saying_staying_v mo_stays_v mo_many_v hM hV mo_code
        rw [← q2, ← q9] at e1
        rw [← q10] at e2
        rw [e1, Option.bind_some]; (try dsimp only); rw [e2, Option.bind_some]; (try dsimp only); (try rw [if_pos rfl]); (try rw [if_pos ((lg_cmp_eq _ _).mpr rfl)]); rw [n5]; exact ih (i + 5) F _ _ _ _ _ _ _ _ _ _ _ _ _ _ _ _ _ _ _ _ _ _ _ _ _ _ _ _ _ _ _ _ _ _ _ _ _ _ _ _ _ _ n k (by omega) (by omega) hJ hseed
      rw [if_neg c7]
      by_cases c8 : xs (nI i).toNatClampNeg &&& 15 = 8
      · rw [if_pos c8]
        obtain ⟨⟨q1, q2, hn, hM, hP, hFA, hf0, hFT, q9, q10, hk, hN, hV⟩, hkk⟩ := id hJ
        obtain ⟨r, r01, e1, e2⟩ := kz_answers hn mo_many_v xo_drawing_z_v mo_z_v hM (fun j hj => kz_P_z (hP j hj)) mo_code
        rw [← q2] at e1
        rw [e1, Option.bind_some]; (try dsimp only); rw [e2, Option.bind_some]; (try dsimp only); (try rw [if_pos rfl]); (try rw [if_pos ((lg_cmp_eq _ _).mpr rfl)]); rw [n5]; exact ih (i + 5) F _ _ _ _ _ _ _ _ _ _ _ _ _ _ _ _ _ _ _ _ _ _ _ _ _ _ _ _ _ _ _ _ _ _ _ _ _ _ _ _ _ _ n k (by omega) (by omega) hJ hseed
      rw [if_neg c8]
      by_cases c9 : xs (nI i).toNatClampNeg &&& 15 = 9
      · rw [if_pos c9]
        rw [a1, if_neg b1, a2, if_neg b2, a3, if_neg b3, a4, if_neg b4, t1, t2, t3, t4]
        obtain ⟨⟨o, e1⟩, r, M1, S1', X1', Y1', Z1', FA1, FT1, e2, hJ1⟩ := kz_same hJ mo_code xo_seed xo_trialDraws_state xo_mine_count xo_mine_fault xo_mine_faultPart xo_theirs_count xo_theirs_fault xo_theirs_faultPart xo_mine_sort_v xo_mine_x_v xo_mine_y_v xo_mine_z_v xo_theirs_sort_v xo_theirs_x_v xo_theirs_y_v xo_theirs_z_v ((xs (i + 1)).toInt64 <<< ((32 : Int32).toInt64 &&& 63) ||| (xs (i + 2)).toInt64 &&& 4294967295) (xs (i + 3)) (xs (i + 4))
        rw [hseed] at e2
        rw [e1, Option.bind_some]; (try dsimp only); rw [e2, Option.bind_some]; (try dsimp only); (try rw [if_pos rfl]); (try rw [if_pos ((lg_cmp_eq _ _).mpr rfl)]); rw [n5]; exact ih (i + 5) F _ _ _ _ _ _ _ _ _ _ _ _ _ _ _ _ _ _ _ _ _ _ _ _ _ _ _ _ _ _ _ _ _ _ _ _ _ _ _ _ _ _ n k (by omega) (by omega) hJ1 hseed
      rw [if_neg c9]
      rw [n5]
      exact ih (i + 5) F _ _ _ _ _ _ _ _ _ _ _ _ _ _ _ _ _ _ _ _ _ _ _ _ _ _ _ _ _ _ _ _ _ _ _ _ _ _ _ _ _ _ n k (by omega) (by omega) hJ hseed
theorem law_true {L : Nat} {xs : Nat → Int32} (hL : L ≤ 2561) : f_X7_law L xs = some 1 := by
  obtain ⟨r, hr⟩ : ∃ r, f_X7_cell L xs 0 = some r := by
    unfold f_X7_cell
    by_cases h : Int32.ofNat L ≤ 0
    · exact ⟨0, by rw [if_pos h]⟩
    · have h0 : 0 < L := by
        rcases Nat.eq_zero_or_pos L with e | e
        · exact absurd (by rw [e]; decide) h
        · exact e
      exact ⟨_, by rw [if_neg h, if_neg (show ¬ ((0 : Int32) < 0 ∨ L ≤ (0 : Int32).toNatClampNeg) from nI_in (c := 0) h0 (by omega))]⟩
  unfold f_X7_law
  rw [hr, Option.bind_some, Option.bind_some]
  exact law_pure hL 512 1 87 _ _ _ _ _ _ _ _ _ _ _ _ _ _ _ _ _ _ _ _ _ _ _ _ _ _ _ _ _ _ _ _ _ _ _ _ _ _ _ _ _ _ 0 0 (by omega) (by omega) ⟨⟨rfl, rfl, by omega, rfl, fun j hj => absurd hj (Nat.not_lt_zero j), rfl, fun _ => rfl, fun h => absurd h (by decide), rfl, rfl, Nat.le_refl 0, fun j hj => absurd hj (Nat.not_lt_zero j), fun j _ => ⟨rfl, Or.inl rfl⟩⟩, fun h => h⟩ rfl
