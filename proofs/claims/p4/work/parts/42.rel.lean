/-! the states of class and reference, side by side: n PARTS, k of them LEFT -/
def kz_R (n k : Nat) (cs ms : Int64) (cnt fl fp rc lefts : Int32) (S X Y Z N V M S' : Nat → Int32) (X' Y' Z' : Nat → Int64) (FA FT LF SV : Nat → Int32) : Prop :=
  cs = ms ∧ cnt = nI n ∧ n ≤ 40 ∧ M 0 = nI n ∧ (∀ j, j < n → kz_P 0 j S X Y Z S' X' Y' Z') ∧ FA 0 = fl ∧ (n = 0 → fp = -1) ∧ (0 < n → FT 0 = fp) ∧ rc = nI k ∧ lefts = nI k ∧ k ≤ n ∧ (∀ j, j < k → ∃ q, q < n ∧ N j = nI q ∧ LF j = nI q) ∧ ∀ j, j < 64 → SV j = V j ∧ (V j = 0 ∨ V j = 1)
theorem kz_m1 : ¬ (0 : Int32) ≤ -1 := by decide
theorem kz_left {n k : Nat} (hn : n ≤ 40) (hk : k ≤ n) (N LF : Nat → Int32) (h : ∀ j, j < k → ∃ q, q < n ∧ N j = nI q ∧ LF j = nI q) (cd p0 : Int32) : ∃ r, f_X4_left (nI k) N p0 = some r ∧ f_X5_left cd (nI k) LF p0 = some (r, 0) := by
  unfold f_X4_left f_X3_numberAt f_X5_left
  rcases pk_ix p0 (show k < 2 ^ 31 by omega) with h1 | h1 | ⟨j, hj, rfl⟩
  · exact ⟨-1, by rw [if_pos h1, Option.bind_some], by rw [if_pos h1]⟩
  · by_cases h0 : p0 < 0
    · exact ⟨-1, by rw [if_pos h0, Option.bind_some], by rw [if_pos h0]⟩
    · exact ⟨-1, by rw [if_neg h0, if_pos h1, Option.bind_some], by rw [if_neg h0, if_pos h1]⟩
  · obtain ⟨q, hq, e1, e2⟩ := h j hj
    have c1 : ¬ nI j < 0 := nI_pos (by omega)
    have c2 : ¬ nI k ≤ nI j := nI_ge hj (by omega)
    have c3 : ¬ (nI j < 0 ∨ 40 ≤ (nI j).toNatClampNeg) := nI_in (show j < 40 by omega) (by decide)
    refine ⟨nI q, ?_, ?_⟩
    · rw [if_neg c1, if_neg c2, if_neg c3, nI_clamp (show j < 2 ^ 31 by omega), e1, Option.bind_some]
    · rw [if_neg c1, if_neg c2, if_neg c3, nI_clamp (show j < 2 ^ 31 by omega), e2]
theorem kz_par {a : Nat} (h : a < 2 ^ 31) : (nI a - nI a / 2 * 2 = 0) ↔ a % 2 = 0 := by
  rw [show nI a - nI a / 2 * 2 = nI (a % 2) from pk_rem h (d := 2) (by decide) (by decide), show (0 : Int32) = nI 0 from rfl, nI_eq (by omega) (by decide)]
theorem kz_parL {a : Nat} (h : a < 2 ^ 31) : (lg_cmp (lN a - lN a / 2 * 2) 0 = 0) ↔ a % 2 = 0 := by
  rw [lg_cmp_eq, show lN a - lN a / 2 * 2 = lN (a % 2) from pk_lRem (by omega) (b := 2) (by decide) (by decide), show (0 : Int64) = lN 0 from rfl, lN_eq (by omega) (by decide)]
theorem kz_sumZ {n : Nat} (hn : n ≤ 40) (M Z : Nat → Int32) (Z' : Nat → Int64) (hM : M 0 = nI n) (h0 : 0 < n) (hZ : ∀ j, j < n → ∃ a, a ≤ 1999 ∧ Z j = nI a ∧ Z' j = lN a) (cd : Int32) : ∀ (m i a F : Nat), i + m = n → a ≤ 1999 * i →
    ∃ r : Int32, (r = 0 ∨ r = 1) ∧ f_X1_hasEvenSum_L4 (nI n) Z (m + F + 1) (nI a) (nI i) = some r ∧ f_X5_answers_L9 M Z' (m + F + 1) cd (lN a) (nI i) = some (r, cd)
  | 0, i, a, F, hi, ha => by
    have e : i = n := by omega
    subst e
    have hle : nI i ≤ nI i := nI_le (Nat.le_refl i) (by omega)
    have hno : ¬ nI i ≤ 0 := nI_nle h0 (by omega)
    by_cases hp : a % 2 = 0
    · refine ⟨1, Or.inr rfl, ?_, ?_⟩
      · rw [e_X1_hasEvenSum_L4, if_pos hle, if_pos ((kz_par (by omega)).mpr hp)]
      · rw [e_X5_answers_L9, show M (0 : Int32).toNatClampNeg = nI i from hM, if_pos hle, if_neg hno, if_pos ((kz_parL (by omega)).mpr hp)]
    · refine ⟨0, Or.inl rfl, ?_, ?_⟩
      · rw [e_X1_hasEvenSum_L4, if_pos hle, if_neg (fun q => hp ((kz_par (by omega)).mp q))]
      · rw [e_X5_answers_L9, show M (0 : Int32).toNatClampNeg = nI i from hM, if_pos hle, if_neg hno, if_neg (fun q => hp ((kz_parL (by omega)).mp q))]
  | m + 1, i, a, F, hi, ha => by
    obtain ⟨z, hz, e1, e2⟩ := hZ i (by omega)
    obtain ⟨r, h1, h2, h3⟩ := kz_sumZ hn M Z Z' hM h0 hZ cd m (i + 1) (a + z) F (by omega) (by omega)
    have hlt : ¬ nI n ≤ nI i := nI_ge (by omega) (by omega)
    have ci : (nI i).toNatClampNeg = i := nI_clamp (by omega)
    refine ⟨r, h1, ?_, ?_⟩
    · rw [show m + 1 + F + 1 = (m + F + 1) + 1 by omega, e_X1_hasEvenSum_L4, if_neg hlt, if_neg (nI_in (show i < 40 by omega) (by decide)), ci, e1, nI_add, nI_1]
      exact h2
    · rw [show m + 1 + F + 1 = (m + F + 1) + 1 by omega, e_X5_answers_L9, show M (0 : Int32).toNatClampNeg = nI n from hM, if_neg hlt, if_neg (nI_in (show i < 120 by omega) (by decide)), ci, e2, lN_add, nI_1]
      exact h3
theorem kz_P_z {j : Nat} {S X Y Z S' : Nat → Int32} {X' Y' Z' : Nat → Int64} (h : kz_P 0 j S X Y Z S' X' Y' Z') : ∃ a, a ≤ 1999 ∧ Z j = nI a ∧ Z' j = lN a := by
  obtain ⟨-, -, -, a, h1, h2, h3⟩ := h
  rw [Nat.zero_add] at h3
  exact ⟨a, h1, h2, h3⟩
theorem kz_P_s {j : Nat} {S X Y Z S' : Nat → Int32} {X' Y' Z' : Nat → Int64} (h : kz_P 0 j S X Y Z S' X' Y' Z') : ∃ a, a ≤ 7 ∧ S j = nI a ∧ S' j = nI a := by
  obtain ⟨⟨a, h1, h2, h3⟩, -⟩ := h
  rw [Nat.zero_add] at h3
  exact ⟨a, h1, h2, h3⟩
theorem kz_P_x {j : Nat} {S X Y Z S' : Nat → Int32} {X' Y' Z' : Nat → Int64} (h : kz_P 0 j S X Y Z S' X' Y' Z') : ∃ a, a ≤ 1999 ∧ X j = nI a ∧ X' j = lN a := by
  obtain ⟨-, ⟨a, h1, h2, h3⟩, -⟩ := h
  rw [Nat.zero_add] at h3
  exact ⟨a, h1, h2, h3⟩
theorem kz_P_y {j : Nat} {S X Y Z S' : Nat → Int32} {X' Y' Z' : Nat → Int64} (h : kz_P 0 j S X Y Z S' X' Y' Z') : ∃ a, a ≤ 63 ∧ ((Y j = nI a ∧ Y' j = lN a) ∨ (Y j = -1 - nI a ∧ Y' j = -1 - lN a)) := by
  obtain ⟨-, -, ⟨a, h1, h2⟩, -⟩ := h
  rw [Nat.zero_add] at h2
  exact ⟨a, h1, h2⟩
theorem kz_answers {n : Nat} (hn : n ≤ 40) (M Z : Nat → Int32) (Z' : Nat → Int64) (hM : M 0 = nI n) (hZ : ∀ j, j < n → ∃ a, a ≤ 1999 ∧ Z j = nI a ∧ Z' j = lN a) (cd : Int32) : ∃ r : Int32, (r = 0 ∨ r = 1) ∧ f_X4_answers (nI n) Z = some r ∧ f_X5_answers cd M Z' = some (r, 0) := by
  unfold f_X4_answers f_X5_answers
  by_cases h0 : n = 0
  · subst h0
    refine ⟨0, Or.inl rfl, by rw [if_pos (by decide)], ?_⟩
    rw [show (64 : Nat) = 63 + 1 from rfl, e_X5_answers_L9, show M (0 : Int32).toNatClampNeg = nI 0 from hM, if_pos (by decide), if_pos (by decide)]
  · obtain ⟨r, h1, h2, h3⟩ := kz_sumZ hn M Z Z' hM (by omega) hZ 0 n 0 0 (63 - n) (by omega) (by omega)
    rw [show n + (63 - n) + 1 = 64 by omega] at h2 h3
    refine ⟨r, h1, ?_, h3⟩
    rw [if_neg (nI_nle (by omega) (by omega))]
    unfold f_X1_hasEvenSum
    rw [show f_X1_hasEvenSum_L4 (nI n) Z 64 0 0 = some r from h2, Option.bind_some]
    rcases h1 with rfl | rfl
    · rw [if_pos rfl]
    · rw [if_neg (by decide)]
theorem kz_sayc {p : Nat} (hp : p < 64) : f_X2_isSignature (nI p) = some 1 := by
  unfold f_X2_isSignature
  rw [if_neg (nI_pos (by omega)), if_neg (show ¬ (64 : Int32) ≤ nI p from nI_ge hp (by decide))]
theorem kz_verdict (V SV : Nat → Int32) (h : ∀ j, j < 64 → SV j = V j ∧ (V j = 0 ∨ V j = 1)) (cd p0 p1 : Int32) (hp : p1 = 0 ∨ p1 = 1) : ∃ V1 SV1 : Nat → Int32, f_X4_verdict V p0 p1 = some V1 ∧ f_X5_verdict cd SV p0 p1 = some (0, SV1) ∧ ∀ j, j < 64 → SV1 j = V1 j ∧ (V1 j = 0 ∨ V1 j = 1) := by
  have nb : vp_nar .boolean p1 = 0 ∨ vp_nar .boolean p1 = 1 := by rcases hp with rfl | rfl <;> decide
  unfold f_X4_verdict f_X2_say f_X5_verdict
  rcases pk_ix p0 (show 64 < 2 ^ 31 by decide) with h1 | h1 | ⟨j, hj, rfl⟩
  · refine ⟨V, SV, ?_, by rw [if_pos h1], h⟩
    unfold f_X2_isSignature
    rw [if_pos h1, Option.bind_some, if_pos rfl, Option.bind_some]
  · have h1 : (64 : Int32) ≤ p0 := h1
    by_cases h0 : p0 < 0
    · refine ⟨V, SV, ?_, by rw [if_pos h0], h⟩
      unfold f_X2_isSignature
      rw [if_pos h0, Option.bind_some, if_pos rfl, Option.bind_some]
    · refine ⟨V, SV, ?_, by rw [if_neg h0, if_pos h1], h⟩
      unfold f_X2_isSignature
      rw [if_neg h0, if_pos h1, Option.bind_some, if_pos rfl, Option.bind_some]
  · have c1 : ¬ nI j < 0 := nI_pos (by omega)
    have c2 : ¬ (64 : Int32) ≤ nI j := nI_ge hj (by decide)
    have c3 : ¬ (nI j < 0 ∨ 64 ≤ (nI j).toNatClampNeg) := nI_in hj (by decide)
    refine ⟨upd V j (vp_nar .boolean p1), upd SV j (vp_nar .boolean p1), ?_, ?_, fun q hq => ?_⟩
    · rw [kz_sayc hj, Option.bind_some, if_neg (by decide), if_neg c3, nI_clamp (show j < 2 ^ 31 by omega), Option.bind_some]
    · rw [if_neg c1, if_neg c2, if_neg c3, nI_clamp (show j < 2 ^ 31 by omega)]
    · by_cases e : q = j
      · subst e
        rw [pk_us, pk_us]
        exact ⟨rfl, nb⟩
      · rw [pk_un e, pk_un e]
        exact h q hq
