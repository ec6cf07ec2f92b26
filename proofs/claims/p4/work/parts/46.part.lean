theorem kz_holdsL {k : Nat} (hk : k ≤ 40) (N LF : Nat → Int32) (p0 : Int32) (h : ∀ j, j < k → N j = LF j) : ∀ (m i F : Nat), i + m = k →
    (f_X3_holds_L2 (nI k) N p0 (m + F + 1) (nI i) = some 1 ∧ ∃ j, j < k ∧ f_X5_placeOf_L2 (nI k) LF p0 (m + F + 1) (nI i) = some (nI j)) ∨ (f_X3_holds_L2 (nI k) N p0 (m + F + 1) (nI i) = some 0 ∧ f_X5_placeOf_L2 (nI k) LF p0 (m + F + 1) (nI i) = some (-1))
  | 0, i, F, hi => by
    have e : i = k := by omega
    subst e
    have hle : nI i ≤ nI i := nI_le (Nat.le_refl i) (by omega)
    refine Or.inr ⟨?_, ?_⟩
    · rw [e_X3_holds_L2, if_pos hle]
    · rw [e_X5_placeOf_L2, if_pos hle]
  | m + 1, i, F, hi => by
    have hlt : ¬ nI k ≤ nI i := nI_ge (by omega) (by omega)
    have ci : (nI i).toNatClampNeg = i := nI_clamp (by omega)
    have i40 : ¬ (nI i < 0 ∨ 40 ≤ (nI i).toNatClampNeg) := nI_in (show i < 40 by omega) (by decide)
    rw [show m + 1 + F + 1 = (m + F + 1) + 1 by omega, e_X3_holds_L2, e_X5_placeOf_L2, if_neg hlt, if_neg hlt, if_neg i40, if_neg i40, ci, h i (by omega)]
    by_cases hp : LF i = p0
    · rw [if_pos hp, if_pos hp]
      exact Or.inl ⟨rfl, i, by omega, rfl⟩
    · rw [if_neg hp, if_neg hp, nI_1]
      exact kz_holdsL hk N LF p0 h m (i + 1) F (by omega)
theorem kz_neg : ∀ a, a ≤ 63 → ((-1 : Int32) - nI a).toInt64 = -1 - lN a := by decide +kernel
theorem kz_part {n k : Nat} (hn : n ≤ 40) (hk : k ≤ n) (S X Y Z N M S' : Nat → Int32) (X' Y' Z' : Nat → Int64) (LF : Nat → Int32) (hM : M 0 = nI n) (hP : ∀ j, j < n → kz_P 0 j S X Y Z S' X' Y' Z') (hN : ∀ j, j < k → ∃ q, q < n ∧ N j = nI q ∧ LF j = nI q) (cd p0 p1 : Int32) :
    ∃ r : Int64, f_X4_part (nI n) (nI k) S X Y Z N p0 p1 = some r ∧ f_X5_part cd (nI k) M S' X' Y' Z' LF p0 p1 = some (r, 0) := by
  have hM0 : M (0 : Int32).toNatClampNeg = nI n := hM
  unfold f_X4_part f_X1_has f_X5_part
  rw [hM0]
  rcases pk_ix p0 (show n < 2 ^ 31 by omega) with h1 | h1 | ⟨j, hj, rfl⟩
  · refine ⟨-1, ?_, by rw [if_pos h1]⟩
    rw [if_pos h1, Option.bind_some, if_pos rfl]
  · by_cases h0 : p0 < 0
    · refine ⟨-1, ?_, by rw [if_pos h0]⟩
      rw [if_pos h0, Option.bind_some, if_pos rfl]
    · refine ⟨-1, ?_, ?_⟩
      · rw [if_neg h0, if_pos h1, Option.bind_some, if_pos rfl]
      · rw [if_neg h0, if_neg (fun q => by rw [Int32.lt_iff_toInt_lt] at q; rw [Int32.le_iff_toInt_le] at h1; omega)]
  · have c1 : ¬ nI j < 0 := nI_pos (by omega)
    have c2 : ¬ nI n ≤ nI j := nI_ge hj (by omega)
    have c2' : nI j < nI n := nI_lt hj (by omega)
    have c3 : ¬ (nI j < 0 ∨ 40 ≤ (nI j).toNatClampNeg) := nI_in (show j < 40 by omega) (by decide)
    have c4 : ¬ (nI j < 0 ∨ 120 ≤ (nI j).toNatClampNeg) := nI_in (show j < 120 by omega) (by decide)
    have cj : (nI j).toNatClampNeg = j := nI_clamp (by omega)
    rw [if_neg c1, if_neg c2, Option.bind_some, if_neg (by decide), if_neg c1, if_pos c2']
    rcases pk_ix p1 (show 5 < 2 ^ 31 by decide) with g | g | ⟨q, hq, rfl⟩
    · have n0 : ∀ w : Nat, w < 2 ^ 31 → ¬ p1 = nI w := fun w hw e => nI_pos hw (e ▸ g)
      refine ⟨-2, ?_, ?_⟩
      · rw [if_neg (show ¬ p1 = 4 from n0 4 (by decide)), if_pos g]
      · rw [if_neg (show ¬ p1 = 0 from n0 0 (by decide)), if_neg (show ¬ p1 = 1 from n0 1 (by decide)), if_neg (show ¬ p1 = 2 from n0 2 (by decide)), if_neg (show ¬ p1 = 3 from n0 3 (by decide)), if_neg (show ¬ p1 = 4 from n0 4 (by decide))]
    · have n0 : ∀ w : Nat, w < 5 → ¬ p1 = nI w := fun w hw e => nI_ge (a := w) (b := 5) hw (by decide) (e ▸ g)
      have gp : ¬ p1 < 0 := fun z => by
        have g' : (5 : Int32) ≤ p1 := g
        rw [Int32.lt_iff_toInt_lt] at z
        rw [Int32.le_iff_toInt_le] at g'
        have h5 : (5 : Int32).toInt = 5 := by decide
        have h0 : (0 : Int32).toInt = 0 := by decide
        omega
      have g4 : ¬ p1 ≤ 4 := fun z => by
        have g' : (5 : Int32) ≤ p1 := g
        rw [Int32.le_iff_toInt_le] at z g'
        have h5 : (5 : Int32).toInt = 5 := by decide
        have h4 : (4 : Int32).toInt = 4 := by decide
        omega
      refine ⟨-2, ?_, ?_⟩
      · rw [if_neg (show ¬ p1 = 4 from n0 4 (by decide)), if_neg gp, if_neg g4]
      · rw [if_neg (show ¬ p1 = 0 from n0 0 (by decide)), if_neg (show ¬ p1 = 1 from n0 1 (by decide)), if_neg (show ¬ p1 = 2 from n0 2 (by decide)), if_neg (show ¬ p1 = 3 from n0 3 (by decide)), if_neg (show ¬ p1 = 4 from n0 4 (by decide))]
    · rcases (show q = 0 ∨ q = 1 ∨ q = 2 ∨ q = 3 ∨ q = 4 by omega) with rfl | rfl | rfl | rfl | rfl
      · obtain ⟨a, h1, h2, h3⟩ := kz_P_s (hP j hj)
        refine ⟨(nI a).toInt64, ?_, ?_⟩
        · unfold f_X1_number
          rw [if_neg (by decide), if_neg (by decide), if_pos (by decide), if_pos (by decide), if_neg c3, Option.bind_some, cj, h2]
        · rw [if_pos (by decide), if_neg c4, cj, h3]
      · obtain ⟨a, h1, h2, h3⟩ := kz_P_x (hP j hj)
        refine ⟨lN a, ?_, ?_⟩
        · unfold f_X1_number
          rw [if_neg (by decide), if_neg (by decide), if_pos (by decide), if_neg (by decide), if_pos (by decide), if_neg c3, Option.bind_some, cj, h2, nI_l (by omega)]
        · rw [if_neg (by decide), if_pos (by decide), if_neg c4, cj, h3]
      · obtain ⟨a, h1, h2⟩ := kz_P_y (hP j hj)
        rcases h2 with ⟨h2, h3⟩ | ⟨h2, h3⟩
        · refine ⟨lN a, ?_, ?_⟩
          · unfold f_X1_number
            rw [if_neg (by decide), if_neg (by decide), if_pos (by decide), if_neg (by decide), if_neg (by decide), if_pos (by decide), if_neg c3, Option.bind_some, cj, h2, nI_l (by omega)]
          · rw [if_neg (by decide), if_neg (by decide), if_pos (by decide), if_neg c4, cj, h3]
        · refine ⟨-1 - lN a, ?_, ?_⟩
          · unfold f_X1_number
            rw [if_neg (by decide), if_neg (by decide), if_pos (by decide), if_neg (by decide), if_neg (by decide), if_pos (by decide), if_neg c3, Option.bind_some, cj, h2, kz_neg a h1]
          · rw [if_neg (by decide), if_neg (by decide), if_pos (by decide), if_neg c4, cj, h3]
      · obtain ⟨a, h1, h2, h3⟩ := kz_P_z (hP j hj)
        refine ⟨lN a, ?_, ?_⟩
        · unfold f_X1_number
          rw [if_neg (by decide), if_neg (by decide), if_pos (by decide), if_neg (by decide), if_neg (by decide), if_neg (by decide), if_neg c3, Option.bind_some, cj, h2, nI_l (by omega)]
        · rw [if_neg (by decide), if_neg (by decide), if_neg (by decide), if_pos (by decide), if_neg c4, cj, h3]
      · have hNL : ∀ i, i < k → N i = LF i := fun i hi => by
          obtain ⟨q, -, e1, e2⟩ := hN i hi
          rw [e1, e2]
        have key := kz_holdsL (show k ≤ 40 by omega) N LF (nI j) hNL k 0 (63 - k) (by omega)
        rw [show k + (63 - k) + 1 = 64 by omega] at key
        unfold f_X3_holds f_X5_placeOf
        rcases key with ⟨e1, i, hi, e2⟩ | ⟨e1, e2⟩
        · refine ⟨1, ?_, ?_⟩
          · rw [if_pos (by decide), show f_X3_holds_L2 (nI k) N (nI j) 64 0 = some 1 from e1, Option.bind_some, if_neg (by decide)]
          · rw [if_neg (by decide), if_neg (by decide), if_neg (by decide), if_neg (by decide), if_pos (by decide), show f_X5_placeOf_L2 (nI k) LF (nI j) 64 0 = some (nI i) from e2, Option.bind_some, if_pos (nI_pos' (by omega))]
        · refine ⟨0, ?_, ?_⟩
          · rw [if_pos (by decide), show f_X3_holds_L2 (nI k) N (nI j) 64 0 = some 0 from e1, Option.bind_some, if_pos rfl]
          · rw [if_neg (by decide), if_neg (by decide), if_neg (by decide), if_neg (by decide), if_pos (by decide), show f_X5_placeOf_L2 (nI k) LF (nI j) 64 0 = some (-1) from e2, Option.bind_some, if_neg kz_m1]
theorem kz_can0 {k f t : Nat} {fp : Int32} {N S Z V : Nat → Int32} (hft : f ≤ t) (hk : k ≤ 40) (ht : t ≤ 80) (h : k ≤ t - f) : f_X3_canGo (nI k) fp N S Z V (nI f) (nI t) = some 0 := by
  unfold f_X3_canGo
  rw [pk_sub hft, if_pos (nI_le h (by omega))]
theorem kz_can1 {k f t w : Nat} {fp : Int32} {N S Z V : Nat → Int32} (hft : f ≤ t) (hk : k ≤ 40) (h : t - f < k) (hw : w < 64) (hs : f_X3_signatureWithout (nI k) fp N S Z (nI f) (nI t) = some (nI w)) : f_X3_canGo (nI k) fp N S Z V (nI f) (nI t) = some (if V w = 0 then 0 else 1) := by
  unfold f_X3_canGo
  rw [pk_sub hft, if_neg (nI_ge h (by omega)), hs, Option.bind_some, kz_keeps hw, Option.bind_some]
  by_cases hv : V w = 0
  · rw [if_pos hv, if_pos rfl]
  · rw [if_neg hv, if_neg (by decide)]
theorem kz_minL {n k : Nat} {fp : Int32} {N LF S S' Z FT : Nat → Int32} {Z' : Nat → Int64} (h : kz_Q n k fp N LF S S' Z FT Z') (V SV M : Nat → Int32) (hV : ∀ j, j < 64 → SV j = V j ∧ (V j = 0 ∨ V j = 1)) (cd : Int32) : ∀ (m i F : Nat), i + m = k →
    ∃ r : Int32, (r = 0 ∨ r = 1) ∧ f_X3_isMinimal_L18 (nI k) fp N S Z V (m + F + 2) (nI i) = some r ∧ f_X5_minimal_L36 (nI k) M S' Z' FT LF SV (m + F + 2) cd 1 (nI i) = some (r, cd)
  | 0, i, F, hi => by
    have e : i = k := by omega
    subst e
    have hk := h.2.1
    have hn := h.1
    have hle : nI i ≤ nI i := nI_le (Nat.le_refl i) (by omega)
    refine ⟨1, Or.inr rfl, ?_, ?_⟩
    · rw [show 0 + F + 2 = (0 + F + 1) + 1 from rfl, e_X3_isMinimal_L18, if_pos hle]
    · rw [show 0 + F + 2 = (0 + F + 1) + 1 from rfl, e_X5_minimal_L36, if_pos hle, if_neg (by decide)]
  | m + 1, i, F, hi => by
    have hk := h.2.1
    have hn := h.1
    have hlt : ¬ nI k ≤ nI i := nI_ge (by omega) (by omega)
    obtain ⟨r, r1, r2, r3⟩ := kz_minL h V SV M hV cd m (i + 1) F (by omega)
    rw [show m + 1 + F + 2 = (m + F + 2) + 1 by omega, e_X3_isMinimal_L18, if_neg hlt, e_X5_minimal_L36, if_neg hlt, if_neg (show ¬ (1 : Int32) = 0 by decide), nI_1]
    by_cases h1 : k = 1
    · subst h1
      rw [kz_can0 (by omega) (by omega) (by omega) (by omega), Option.bind_some, if_pos rfl, if_pos (by decide)]
      exact ⟨r, r1, r2, r3⟩
    · obtain ⟨w, w1, w2, w3⟩ := kz_sig h (f := i) (t := i + 1) (by omega) (by omega)
      have w3 : f_X5_signature (nI k) S' Z' FT LF (nI i) 1 = some (nI w) := by
        rw [show i + 1 - i = 1 by omega] at w3
        exact w3
      rw [kz_can1 (by omega) (by omega) (by omega) w1 w2, Option.bind_some, if_neg (show ¬ nI k = 1 from fun q => h1 ((nI_eq (by omega) (show 1 < 2 ^ 31 by decide)).mp q)), w3, Option.bind_some, if_neg (nI_in w1 (by decide)), nI_clamp (show w < 2 ^ 31 by omega), (hV w w1).1]
      by_cases hv : V w = 0
      · rw [if_pos hv, if_pos rfl, if_pos hv]
        exact ⟨r, r1, r2, r3⟩
      · rw [if_neg hv, if_neg (by decide)]
        refine ⟨0, Or.inl rfl, rfl, ?_⟩
        rw [if_neg hv, show m + F + 2 = (m + F + 1) + 1 from rfl, e_X5_minimal_L36]
        by_cases hl : nI k ≤ nI (i + 1)
        · rw [if_pos hl, if_neg (by decide)]
        · rw [if_neg hl, if_pos rfl, if_neg (by decide)]
theorem kz_min0 {k : Nat} (hk : k ≤ 40) (S' FT LF SV M : Nat → Int32) (Z' : Nat → Int64) (cd : Int32) : f_X5_minimal_L36 (nI k) M S' Z' FT LF SV 64 cd 0 0 = some (0, cd) := by
  rw [show (64 : Nat) = 63 + 1 from rfl, e_X5_minimal_L36]
  by_cases hl : nI k ≤ 0
  · rw [if_pos hl, if_neg (by decide)]
  · rw [if_neg hl, if_pos rfl, if_neg (by decide)]
theorem kz_minimal {n k : Nat} {fp : Int32} {N LF S S' Z FT : Nat → Int32} {Z' : Nat → Int64} (h : kz_Q n k fp N LF S S' Z FT Z') (V SV M : Nat → Int32) (hM : M 0 = nI n) (hV : ∀ j, j < 64 → SV j = V j ∧ (V j = 0 ∨ V j = 1)) (cd : Int32) :
    ∃ r : Int32, (r = 0 ∨ r = 1) ∧ f_X4_minimal (nI n) fp (nI k) S Z N V = some r ∧ f_X5_minimal cd (nI k) M S' Z' FT LF SV = some (r, 0) := by
  have hk := h.2.1
  have hn := h.1
  unfold f_X4_minimal f_X5_minimal
  rw [show M (0 : Int32).toNatClampNeg = nI n from hM]
  by_cases h0 : n = 0
  · subst h0
    exact ⟨0, Or.inl rfl, by rw [if_pos (by decide)], by rw [if_pos (by decide), kz_min0 (by omega)]⟩
  · obtain ⟨w, w1, w2, w3⟩ := kz_sig h (f := 0) (t := 0) (by omega) (by omega)
    have w3 : f_X5_signature (nI k) S' Z' FT LF 0 0 = some (nI w) := w3
    have w2 : f_X3_signatureWithout (nI k) fp N S Z 0 0 = some (nI w) := w2
    rw [if_neg (nI_nle (by omega) (by omega)), if_neg (nI_nle (by omega) (by omega))]
    unfold f_X3_isMinimal f_X3_signature
    rw [w2, Option.bind_some, Option.bind_some, kz_keeps w1, Option.bind_some, w3, Option.bind_some, if_neg (nI_in w1 (by decide)), nI_clamp (show w < 2 ^ 31 by omega), (hV w w1).1]
    by_cases hv : V w = 0
    · refine ⟨0, Or.inl rfl, ?_, ?_⟩
      · rw [if_pos hv, if_pos rfl, Option.bind_some, if_pos rfl]
      · rw [if_pos hv, kz_min0 (by omega)]
    · obtain ⟨r, r1, r2, r3⟩ := kz_minL h V SV M hV 0 k 0 (62 - k) (by omega)
      rw [show k + (62 - k) + 2 = 64 by omega] at r2 r3
      refine ⟨r, r1, ?_, ?_⟩
      · rw [if_neg hv, if_neg (by decide), show f_X3_isMinimal_L18 (nI k) fp N S Z V 64 0 = some r from r2, Option.bind_some]
        rcases r1 with rfl | rfl
        · rw [if_pos rfl]
        · rw [if_neg (by decide)]
      · rw [if_neg hv]
        exact r3
