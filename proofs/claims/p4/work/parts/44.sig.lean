/-! SIGNATURES of class and reference -/
def kz_bb (b a c : Nat) : Nat := b ||| 2 ^ (a % 4) ||| c
theorem kz_bit16 : ∀ b, b < 32 → ∀ a, a < 8 → ((nI b ||| ((1 : Int32) <<< ((nI a - nI a / 4 * 4) &&& 31))) ||| 16) = nI (kz_bb b a 16) ∧ kz_bb b a 16 < 32 := by decide +kernel
theorem kz_bit0 : ∀ b, b < 32 → ∀ a, a < 8 → ((nI b ||| ((1 : Int32) <<< ((nI a - nI a / 4 * 4) &&& 31))) ||| 0) = nI (kz_bb b a 0) ∧ kz_bb b a 0 < 32 := by decide +kernel
theorem kz_end : ∀ b, b < 32 → (nI b ||| 0) = nI b ∧ nI b + 0 = nI b ∧ (nI b ||| 32) = nI (b + 32) ∧ nI b + 32 = nI (b + 32) := by decide +kernel
/-- the loops over those LEFT, but for the places f .. t - 1 -/
theorem kz_sigL {n k f t : Nat} (hn : n ≤ 40) (hk : k ≤ n) (hft : f ≤ t) (ht : t ≤ 80) (fp : Int32) (N LF S S' Z FT : Nat → Int32) (Z' : Nat → Int64) (hfp : 0 < n → FT 0 = fp)
    (hS : ∀ j, j < n → ∃ a, a ≤ 7 ∧ S j = nI a ∧ S' j = nI a) (hZ : ∀ j, j < n → ∃ a, a ≤ 1999 ∧ Z j = nI a ∧ Z' j = lN a) (hN : ∀ j, j < k → ∃ q, q < n ∧ N j = nI q ∧ LF j = nI q) : ∀ (m i b a F : Nat), i + m = k → b < 32 → a ≤ 1999 * i →
    ∃ w, w < 64 ∧ f_X3_signatureWithout_L8 (nI k) fp N S Z (nI f) (nI t) (m + F + 1) (nI b) (nI a) (nI i) = some (nI w) ∧ f_X5_signature_L8 (nI k) S' Z' FT LF (nI f) (nI (t - f)) (m + F + 1) (nI b) (lN a) (nI i) = some (nI w)
  | 0, i, b, a, F, hi, hb, ha => by
    have e : i = k := by omega
    subst e
    obtain ⟨e1, e2, e3, e4⟩ := kz_end b hb
    have hle : nI i ≤ nI i := nI_le (Nat.le_refl i) (by omega)
    by_cases hp : a % 2 = 0
    · refine ⟨b, by omega, ?_, ?_⟩
      · rw [e_X3_signatureWithout_L8, if_pos hle, if_pos ((kz_par (by omega)).mpr hp), e1]
      · rw [e_X5_signature_L8, if_pos hle, if_pos ((kz_parL (by omega)).mpr hp), e2]
    · refine ⟨b + 32, by omega, ?_, ?_⟩
      · rw [e_X3_signatureWithout_L8, if_pos hle, if_neg (fun q => hp ((kz_par (by omega)).mp q)), e3]
      · rw [e_X5_signature_L8, if_pos hle, if_neg (fun q => hp ((kz_parL (by omega)).mp q)), e4]
  | m + 1, i, b, a, F, hi, hb, ha => by
    have hlt : ¬ nI k ≤ nI i := nI_ge (by omega) (by omega)
    have ci : (nI i).toNatClampNeg = i := nI_clamp (by omega)
    have fu : m + 1 + F + 1 = (m + F + 1) + 1 := by omega
    have hsum : nI f + nI (t - f) = nI t := by rw [nI_add]; congr 1; omega
    obtain ⟨q, hq, eN, eL⟩ := hN i (by omega)
    obtain ⟨s, hs, s1, s2⟩ := hS q hq
    obtain ⟨z, hz, z1, z2⟩ := hZ q hq
    have cq : (nI q).toNatClampNeg = q := nI_clamp (by omega)
    have i40 : ¬ (nI i < 0 ∨ 40 ≤ (nI i).toNatClampNeg) := nI_in (show i < 40 by omega) (by decide)
    have q40 : ¬ (nI q < 0 ∨ 40 ≤ (nI q).toNatClampNeg) := nI_in (show q < 40 by omega) (by decide)
    have q120 : ¬ (nI q < 0 ∨ 120 ≤ (nI q).toNatClampNeg) := nI_in (show q < 120 by omega) (by decide)
    have hft0 : FT (0 : Int32).toNatClampNeg = fp := hfp (by omega)
    obtain ⟨b1, b2⟩ := kz_bit16 b hb s (by omega)
    obtain ⟨b3, b4⟩ := kz_bit0 b hb s (by omega)
    rw [fu]
    by_cases h1 : i < f
    · have c1 : nI i < nI f := nI_lt h1 (by omega)
      by_cases hp : nI q = fp
      · obtain ⟨w, w1, w2, w3⟩ := kz_sigL hn hk hft ht fp N LF S S' Z FT Z' hfp hS hZ hN m (i + 1) (kz_bb b s 16) (a + z) F (by omega) b2 (by omega)
        refine ⟨w, w1, ?_, ?_⟩
        · rw [e_X3_signatureWithout_L8, if_neg hlt, if_pos c1, if_neg i40, ci, eN, if_neg q40, if_pos hp, cq, s1, z1, b1, nI_add, nI_1]
          exact w2
        · rw [e_X5_signature_L8, if_neg hlt, if_pos c1, if_neg i40, ci, eL, if_neg q120, hft0, if_pos hp, cq, s2, z2, b1, lN_add, nI_1]
          exact w3
      · obtain ⟨w, w1, w2, w3⟩ := kz_sigL hn hk hft ht fp N LF S S' Z FT Z' hfp hS hZ hN m (i + 1) (kz_bb b s 0) (a + z) F (by omega) b4 (by omega)
        refine ⟨w, w1, ?_, ?_⟩
        · rw [e_X3_signatureWithout_L8, if_neg hlt, if_pos c1, if_neg i40, ci, eN, if_neg q40, if_neg hp, cq, s1, z1, b3, nI_add, nI_1]
          exact w2
        · rw [e_X5_signature_L8, if_neg hlt, if_pos c1, if_neg i40, ci, eL, if_neg q120, hft0, if_neg hp, cq, s2, z2, b3, lN_add, nI_1]
          exact w3
    · have c1 : ¬ nI i < nI f := nI_nlt (by omega) (by omega)
      by_cases h2 : i < t
      · have c2 : nI i < nI t := nI_lt h2 (by omega)
        obtain ⟨w, w1, w2, w3⟩ := kz_sigL hn hk hft ht fp N LF S S' Z FT Z' hfp hS hZ hN m (i + 1) b a F (by omega) hb (by omega)
        refine ⟨w, w1, ?_, ?_⟩
        · rw [e_X3_signatureWithout_L8, if_neg hlt, if_neg c1, if_pos c2, nI_1]
          exact w2
        · rw [e_X5_signature_L8, if_neg hlt, if_neg c1, hsum, if_pos c2, nI_1]
          exact w3
      · have c2 : ¬ nI i < nI t := nI_nlt (by omega) (by omega)
        by_cases hp : nI q = fp
        · obtain ⟨w, w1, w2, w3⟩ := kz_sigL hn hk hft ht fp N LF S S' Z FT Z' hfp hS hZ hN m (i + 1) (kz_bb b s 16) (a + z) F (by omega) b2 (by omega)
          refine ⟨w, w1, ?_, ?_⟩
          · rw [e_X3_signatureWithout_L8, if_neg hlt, if_neg c1, if_neg c2, if_neg i40, ci, eN, if_neg q40, if_pos hp, cq, s1, z1, b1, nI_add, nI_1]
            exact w2
          · rw [e_X5_signature_L8, if_neg hlt, if_neg c1, hsum, if_neg c2, if_neg i40, ci, eL, if_neg q120, hft0, if_pos hp, cq, s2, z2, b1, lN_add, nI_1]
            exact w3
        · obtain ⟨w, w1, w2, w3⟩ := kz_sigL hn hk hft ht fp N LF S S' Z FT Z' hfp hS hZ hN m (i + 1) (kz_bb b s 0) (a + z) F (by omega) b4 (by omega)
          refine ⟨w, w1, ?_, ?_⟩
          · rw [e_X3_signatureWithout_L8, if_neg hlt, if_neg c1, if_neg c2, if_neg i40, ci, eN, if_neg q40, if_neg hp, cq, s1, z1, b3, nI_add, nI_1]
            exact w2
          · rw [e_X5_signature_L8, if_neg hlt, if_neg c1, hsum, if_neg c2, if_neg i40, ci, eL, if_neg q120, hft0, if_neg hp, cq, s2, z2, b3, lN_add, nI_1]
            exact w3
/-- what the SIGNATURE of a row rests on -/
def kz_Q (n k : Nat) (fp : Int32) (N LF S S' Z FT : Nat → Int32) (Z' : Nat → Int64) : Prop := n ≤ 40 ∧ k ≤ n ∧ (0 < n → FT 0 = fp) ∧ (∀ j, j < n → ∃ a, a ≤ 7 ∧ S j = nI a ∧ S' j = nI a) ∧ (∀ j, j < n → ∃ a, a ≤ 1999 ∧ Z j = nI a ∧ Z' j = lN a) ∧ ∀ j, j < k → ∃ q, q < n ∧ N j = nI q ∧ LF j = nI q
theorem kz_sig {n k f t : Nat} {fp : Int32} {N LF S S' Z FT : Nat → Int32} {Z' : Nat → Int64} (h : kz_Q n k fp N LF S S' Z FT Z') (hft : f ≤ t) (ht : t ≤ 80) :
    ∃ w, w < 64 ∧ f_X3_signatureWithout (nI k) fp N S Z (nI f) (nI t) = some (nI w) ∧ f_X5_signature (nI k) S' Z' FT LF (nI f) (nI (t - f)) = some (nI w) := by
  obtain ⟨hn, hk, hfp, hS, hZ, hN⟩ := h
  obtain ⟨w, w1, w2, w3⟩ := kz_sigL hn hk hft ht fp N LF S S' Z FT Z' hfp hS hZ hN k 0 0 0 (63 - k) (by omega) (by omega) (by omega)
  rw [show k + (63 - k) + 1 = 64 by omega] at w2 w3
  exact ⟨w, w1, w2, w3⟩
theorem kz_keeps {V : Nat → Int32} {w : Nat} (hw : w < 64) : f_X2_keeps V (nI w) = some (if V w = 0 then 0 else 1) := by
  unfold f_X2_keeps
  rw [kz_sayc hw, Option.bind_some, if_neg (by decide), if_neg (nI_in hw (by decide)), nI_clamp (show w < 2 ^ 31 by omega)]
  by_cases h : V w = 0
  · rw [if_pos h, if_pos h]
  · rw [if_neg h, if_neg h]
theorem kz_planted {n k : Nat} {fl fp : Int32} {N LF S S' Z FT : Nat → Int32} {Z' : Nat → Int64} (h : kz_Q n k fp N LF S S' Z FT Z') (M FA : Nat → Int32) (hM : M 0 = nI n) (hFA : FA 0 = fl) (h0 : n = 0 → fp = -1) (cd p0 : Int32) :
    ∃ r, f_X4_planted fl fp (nI k) N S Z p0 = some r ∧ f_X5_planted cd (nI k) M S' Z' FA FT LF p0 = some (r, 0) := by
  have hM0 : M (0 : Int32).toNatClampNeg = nI n := hM
  have hF0 : FA (0 : Int32).toNatClampNeg = fl := hFA
  have hn := h.1
  unfold f_X4_planted f_X5_planted
  rw [hM0, hF0]
  by_cases hz : n = 0
  · subst hz
    rw [if_pos (show nI 0 ≤ 0 by decide)]
    by_cases c0 : p0 = 0
    · exact ⟨fl, by rw [if_pos c0], by rw [if_pos c0]⟩
    by_cases c1 : p0 = 1
    · exact ⟨-1, by rw [if_neg c0, if_pos c1, h0 rfl], by rw [if_neg c0, if_pos c1, if_pos rfl]⟩
    by_cases c2 : p0 = 2
    · refine ⟨0, ?_, by rw [if_neg c0, if_neg c1, if_pos c2, if_pos rfl]⟩
      have hk : k = 0 := by have := h.2.1; omega
      subst hk
      rw [if_neg c0, if_neg c1, if_pos c2]
      unfold f_X3_signature f_X3_signatureWithout
      rw [show (64 : Nat) = 63 + 1 from rfl, e_X3_signatureWithout_L8, if_pos (show nI 0 ≤ 0 by decide), if_pos (by decide), Option.bind_some, Option.bind_some]
      rfl
    · exact ⟨-2, by rw [if_neg c0, if_neg c1, if_neg c2], by rw [if_neg c0, if_neg c1, if_neg c2]⟩
  · have hf0 : FT (0 : Int32).toNatClampNeg = fp := h.2.2.1 (by omega)
    rw [if_neg (nI_nle (by omega) (by omega)), hf0]
    by_cases c0 : p0 = 0
    · exact ⟨fl, by rw [if_pos c0], by rw [if_pos c0]⟩
    by_cases c1 : p0 = 1
    · exact ⟨fp, by rw [if_neg c0, if_pos c1], by rw [if_neg c0, if_pos c1, if_neg (by decide)]⟩
    by_cases c2 : p0 = 2
    · obtain ⟨w, w1, w2, w3⟩ := kz_sig h (f := 0) (t := 0) (by omega) (by omega)
      refine ⟨nI w, ?_, ?_⟩
      · rw [if_neg c0, if_neg c1, if_pos c2]
        unfold f_X3_signature
        rw [show f_X3_signatureWithout (nI k) fp N S Z 0 0 = some (nI w) from w2, Option.bind_some, Option.bind_some]
      · rw [if_neg c0, if_neg c1, if_pos c2, if_neg (by decide), show f_X5_signature (nI k) S' Z' FT LF 0 0 = some (nI w) from w3, Option.bind_some]
    · exact ⟨-2, by rw [if_neg c0, if_neg c1, if_neg c2], by rw [if_neg c0, if_neg c1, if_neg c2]⟩
