/-- the reference's loop to its end: what stands already stays -/
theorem kz_letM {n k : Nat} (hn : n ≤ 40) (hk : k ≤ n) (S X Y Z N S' : Nat → Int32) (X' Y' Z' : Nat → Int64) (LF : Nat → Int32) (hP : ∀ j, j < n → kz_P 0 j S X Y Z S' X' Y' Z') (hN : ∀ j, j < k → ∃ q, q < n ∧ N j = nI q ∧ LF j = nI q) (p0 cd : Int32) : ∀ (m i F z : Nat) (T : Nat → Int32), i + m = k → z ≤ 17 * i →
    ∃ (zf : Nat) (Tf : Nat → Int32), z ≤ zf ∧ zf ≤ 680 ∧ (∀ q, q < z → Tf q = T q) ∧ f_X5_letter_L12 (nI k) S' X' Y' Z' LF p0 (m + F + 1) cd (nI z) T (nI i) = (if p0 < 0 then some (-1, cd, nI zf, Tf) else if nI zf ≤ p0 then some (-1, cd, nI zf, Tf) else if p0 < 0 ∨ 1600 ≤ p0.toNatClampNeg then none else some (Tf p0.toNatClampNeg, cd, nI zf, Tf))
  | 0, i, F, z, T, hi, hz => by
    have e : i = k := by omega
    subst e
    exact ⟨z, T, Nat.le_refl z, by omega, fun _ _ => rfl, by rw [e_X5_letter_L12, if_pos (nI_le (Nat.le_refl i) (by omega))]⟩
  | m + 1, i, F, z, T, hi, hz => by
    obtain ⟨ll, ln, l1, l2, -, -, l5⟩ := kz_line hn hk S X Y Z N S' X' Y' Z' LF hP hN (i := i) (by omega)
    obtain ⟨T1, t1, t2, -⟩ := l5 z (m + F + 1) T p0 cd (by omega)
    obtain ⟨zf, Tf, h1, h2, h3, h4⟩ := kz_letM hn hk S X Y Z N S' X' Y' Z' LF hP hN p0 cd m (i + 1) F (z + ll) T1 (by omega) (by omega)
    exact ⟨zf, Tf, by omega, h2, fun q hq => (h3 q (by omega)).trans (t2 q hq), by rw [show m + 1 + F + 1 = (m + F + 1) + 1 by omega, t1, h4]⟩
theorem kz_letS {n k : Nat} (hn : n ≤ 40) (hk : k ≤ n) (S X Y Z N S' : Nat → Int32) (X' Y' Z' : Nat → Int64) (LF : Nat → Int32) (hP : ∀ j, j < n → kz_P 0 j S X Y Z S' X' Y' Z') (hN : ∀ j, j < k → ∃ q, q < n ∧ N j = nI q ∧ LF j = nI q) {P : Nat} (hP31 : P < 2 ^ 31) (cd : Int32) : ∀ (m i F z b : Nat) (T : Nat → Int32), i + m = k → z ≤ 17 * i → P = z + b →
    ∃ (r : Int32) (zf : Nat) (Tf : Nat → Int32), f_X3_letterAt_L4 (nI k) N S X Y Z (nI P) (m + F + 1) (nI b) (nI i) = some r ∧ f_X5_letter_L12 (nI k) S' X' Y' Z' LF (nI P) (m + F + 1) cd (nI z) T (nI i) = some (r, cd, nI zf, Tf)
  | 0, i, F, z, b, T, hi, hz, hb => by
    have e : i = k := by omega
    subst e
    have hle : nI i ≤ nI i := nI_le (Nat.le_refl i) (by omega)
    refine ⟨-1, z, T, ?_, ?_⟩
    · rw [e_X3_letterAt_L4, if_pos hle]
    · rw [e_X5_letter_L12, if_pos hle, if_neg (nI_pos hP31), if_pos (nI_le (by omega) hP31)]
  | m + 1, i, F, z, b, T, hi, hz, hb => by
    obtain ⟨ll, ln, l1, l2, l3, l4, l5⟩ := kz_line hn hk S X Y Z N S' X' Y' Z' LF hP hN (i := i) (by omega)
    obtain ⟨T1, t1, t2, t3⟩ := l5 z (m + F + 1) T (nI P) cd (by omega)
    have hlt : ¬ nI k ≤ nI i := nI_ge (by omega) (by omega)
    have i40 : ¬ (nI i < 0 ∨ 40 ≤ (nI i).toNatClampNeg) := nI_in (show i < 40 by omega) (by decide)
    have ci : (nI i).toNatClampNeg = i := nI_clamp (by omega)
    rw [show m + 1 + F + 1 = (m + F + 1) + 1 by omega, e_X3_letterAt_L4, if_neg hlt, if_neg (nI_pos (show b < 2 ^ 31 by omega)), if_neg i40, ci, l3, Option.bind_some, t1]
    by_cases hbl : b < ll
    · obtain ⟨zf, Tf, h1, h2, h3, h4⟩ := kz_letM hn hk S X Y Z N S' X' Y' Z' LF hP hN (nI P) cd m (i + 1) F (z + ll) T1 (by omega) (by omega)
      refine ⟨nI (ln b), zf, Tf, ?_, ?_⟩
      · rw [if_neg (nI_ge hbl (by omega)), l4 b hbl, Option.bind_some]
      · have hv : Tf P = nI (ln b) := by rw [hb, h3 _ (by omega), t3 b hbl]
        rw [h4, if_neg (nI_pos hP31), if_neg (nI_ge (by omega) (by omega)), if_neg (nI_in (show P < 1600 by omega) (by decide)), nI_clamp hP31, hv]
    · obtain ⟨r, zf, Tf, h1, h2⟩ := kz_letS hn hk S X Y Z N S' X' Y' Z' LF hP hN hP31 cd m (i + 1) F (z + ll) (b - ll) T1 (by omega) (by omega) (by omega)
      refine ⟨r, zf, Tf, ?_, h2⟩
      rw [if_pos (nI_le (by omega) (by omega)), pk_sub (by omega), nI_1]
      exact h1
theorem kz_letter {n k : Nat} (hn : n ≤ 40) (hk : k ≤ n) (S X Y Z N S' : Nat → Int32) (X' Y' Z' : Nat → Int64) (LF : Nat → Int32) (hP : ∀ j, j < n → kz_P 0 j S X Y Z S' X' Y' Z') (hN : ∀ j, j < k → ∃ q, q < n ∧ N j = nI q ∧ LF j = nI q) (cd size : Int32) (T : Nat → Int32) (p0 : Int32) :
    ∃ (r size1 : Int32) (T1 : Nat → Int32), f_X4_letter (nI k) N S X Y Z p0 = some r ∧ f_X5_letter cd (nI k) size S' X' Y' Z' LF T p0 = some (r, 0, size1, T1) := by
  have f64 : k + (63 - k) + 1 = 64 := by omega
  by_cases h0 : p0 < 0
  · obtain ⟨zf, Tf, h1, h2, h3, h4⟩ := kz_letM hn hk S X Y Z N S' X' Y' Z' LF hP hN p0 0 k 0 (63 - k) 0 T (by omega) (by omega)
    rw [f64, if_pos h0] at h4
    refine ⟨-1, nI zf, Tf, ?_, h4⟩
    unfold f_X4_letter f_X3_letterAt
    rw [show (64 : Nat) = 63 + 1 from rfl, e_X3_letterAt_L4]
    by_cases hl : nI k ≤ 0
    · rw [if_pos hl, Option.bind_some]
    · rw [if_neg hl, if_pos h0, Option.bind_some]
  · obtain ⟨P, hP31, rfl⟩ := nI_of h0
    obtain ⟨r, zf, Tf, h1, h2⟩ := kz_letS hn hk S X Y Z N S' X' Y' Z' LF hP hN hP31 0 k 0 (63 - k) 0 P T (by omega) (by omega) (by omega)
    rw [f64] at h1 h2
    refine ⟨r, nI zf, Tf, ?_, h2⟩
    unfold f_X4_letter f_X3_letterAt
    rw [show f_X3_letterAt_L4 (nI k) N S X Y Z (nI P) 64 (nI P) 0 = some r from h1, Option.bind_some]
