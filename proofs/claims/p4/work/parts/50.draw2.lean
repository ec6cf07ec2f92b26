theorem kz_takeL {n : Nat} (hn : n ≤ 40) (P0 P1 cd : Int32) (s : Int64) (M S' : Nat → Int32) (X' Y' Z' : Nat → Int64) (FA FT : Nat → Int32) (hM : M 0 = nI n) (D : Int32) : ∀ (m i F : Nat) (N LF : Nat → Int32), i + m = n → (∀ j, j < i → N j = nI j ∧ LF j = nI j) →
    ∃ N1 LF1 : Nat → Int32, (∀ j, j < n → N1 j = nI j ∧ LF1 j = nI j) ∧ f_X3_takeAll_L13 D (m + F + 1) (nI n) N (nI i) = some (nI n, N1) ∧ f_X5_draw_L46 P0 P1 (m + F + 1) cd s (nI n) M S' X' Y' Z' FA FT LF (nI i) = some (nI n, cd, s, nI n, M, S', X', Y', Z', FA, FT, LF1)
  | 0, i, F, N, LF, hi, h => by
    have e : i = n := by omega
    subst e
    have hle : nI i ≤ nI i := nI_le (Nat.le_refl i) (by omega)
    refine ⟨N, LF, h, ?_, ?_⟩
    · rw [e_X3_takeAll_L13, if_pos hle]
    · rw [e_X5_draw_L46, if_pos hle, show M (0 : Int32).toNatClampNeg = nI i from hM]
  | m + 1, i, F, N, LF, hi, h => by
    have hlt : ¬ nI n ≤ nI i := nI_ge (by omega) (by omega)
    have ci : (nI i).toNatClampNeg = i := nI_clamp (by omega)
    have i40 : ¬ (nI i < 0 ∨ 40 ≤ (nI i).toNatClampNeg) := nI_in (show i < 40 by omega) (by decide)
    obtain ⟨N1, LF1, h1, h2, h3⟩ := kz_takeL hn P0 P1 cd s M S' X' Y' Z' FA FT hM D m (i + 1) F (upd N i (nI i)) (upd LF i (nI i)) (by omega) (fun j hj => by
      by_cases e : j = i
      · subst e; exact ⟨pk_us, pk_us⟩
      · rw [pk_un e, pk_un e]; exact h j (by omega))
    refine ⟨N1, LF1, h1, ?_, ?_⟩
    · rw [show m + 1 + F + 1 = (m + F + 1) + 1 by omega, e_X3_takeAll_L13, if_neg hlt, if_neg i40, ci, nI_1]
      exact h2
    · rw [show m + 1 + F + 1 = (m + F + 1) + 1 by omega, e_X5_draw_L46, if_neg hlt, if_neg i40, ci, nI_1]
      exact h3
theorem kz_ge6 {p : Int32} (h0 : ¬ p < 0) (h : nI 6 ≤ p) : ¬ p ≤ 5 ∧ (6 : Int32) ≤ p ∧ (5 : Int32) < p := by
  have h : (6 : Int32) ≤ p := h
  refine ⟨fun z => ?_, h, ?_⟩
  · rw [Int32.le_iff_toInt_le] at z h
    have a : (6 : Int32).toInt = 6 := by decide
    have b : (5 : Int32).toInt = 5 := by decide
    omega
  · rw [Int32.le_iff_toInt_le] at h
    rw [Int32.lt_iff_toInt_lt]
    have a : (6 : Int32).toInt = 6 := by decide
    have b : (5 : Int32).toInt = 5 := by decide
    omega
theorem kz_ge21 {p : Int32} (h : nI 21 ≤ p) : ¬ p ≤ 20 ∧ (20 : Int32) < p := by
  have h : (21 : Int32) ≤ p := h
  rw [Int32.le_iff_toInt_le] at h
  have a : (21 : Int32).toInt = 21 := by decide
  have b : (20 : Int32).toInt = 20 := by decide
  refine ⟨fun z => ?_, ?_⟩
  · rw [Int32.le_iff_toInt_le] at z
    omega
  · rw [Int32.lt_iff_toInt_lt]
    omega
theorem kz_isSize : ∀ k, k < 21 → f_X4_isSize (nI k) = some 1 := by decide +kernel
theorem kz_none : ∀ k, k < 6 → ∀ z, z < 21 → f_X5_none (nI k) (nI z) = some 0 := by decide +kernel
theorem kz_le5 : ∀ k, k < 6 → nI k ≤ 5 := by decide
/-- kinds and sizes: refused by both, or both numbers -/
theorem kz_args (p0 p1 : Int32) : (f_X4_isKind p0 = some 0 ∧ (p0 < 0 ∨ (¬ p0 < 0 ∧ ¬ p0 ≤ 5)) ∧ f_X5_none p0 p1 = some 1) ∨ (f_X4_isKind p0 = some 1 ∧ ¬ p0 < 0 ∧ p0 ≤ 5 ∧ f_X4_isSize p1 = some 0 ∧ f_X5_none p0 p1 = some 1) ∨ ∃ k z, k < 6 ∧ z < 21 ∧ p0 = nI k ∧ p1 = nI z := by
  by_cases h0 : p0 < 0
  · refine Or.inl ⟨?_, Or.inl h0, ?_⟩
    · unfold f_X4_isKind
      rw [if_pos h0]
    · unfold f_X5_none
      rw [if_pos h0]
  · rcases pk_ix p0 (show 6 < 2 ^ 31 by decide) with h | h | ⟨k, hk, rfl⟩
    · exact absurd h h0
    · obtain ⟨a, b, c⟩ := kz_ge6 h0 h
      refine Or.inl ⟨?_, Or.inr ⟨h0, a⟩, ?_⟩
      · unfold f_X4_isKind
        rw [if_neg h0, if_pos b]
      · unfold f_X5_none
        rw [if_neg h0, if_pos c]
    · have n5 : ¬ (5 : Int32) < nI k := nI_nlt (a := 5) (b := k) (by omega) (by omega)
      by_cases g0 : p1 < 0
      · refine Or.inr (Or.inl ⟨kz_isKind k hk, h0, kz_le5 k hk, ?_, ?_⟩)
        · unfold f_X4_isSize
          rw [if_pos g0]
        · unfold f_X5_none
          rw [if_neg h0, if_neg n5, if_pos g0]
      · rcases pk_ix p1 (show 21 < 2 ^ 31 by decide) with g | g | ⟨z, hz, rfl⟩
        · exact absurd g g0
        · obtain ⟨a, b⟩ := kz_ge21 g
          refine Or.inr (Or.inl ⟨kz_isKind k hk, h0, kz_le5 k hk, ?_, ?_⟩)
          · unfold f_X4_isSize
            rw [if_neg g0, if_pos b]
          · unfold f_X5_none
            rw [if_neg h0, if_neg n5, if_neg g0, if_neg a]
        · exact Or.inr (Or.inr ⟨k, z, hk, hz, rfl, rfl⟩)
def kz_J (n k : Nat) (cs ms : Int64) (cnt fl fp rc lefts : Int32) (S X Y Z N V M S' : Nat → Int32) (X' Y' Z' : Nat → Int64) (FA FT LF SV : Nat → Int32) : Prop := kz_R n k cs ms cnt fl fp rc lefts S X Y Z N V M S' X' Y' Z' FA FT LF SV ∧ (0 < n → 0 < k)
theorem kz_draw {n k : Nat} {cs ms : Int64} {cnt fl fp rc lefts : Int32} {S X Y Z N V M S' : Nat → Int32} {X' Y' Z' : Nat → Int64} {FA FT LF SV : Nat → Int32} (h : kz_J n k cs ms cnt fl fp rc lefts S X Y Z N V M S' X' Y' Z' FA FT LF SV) (cd p0 p1 : Int32) :
    ∃ (r : Int32) (n1 k1 : Nat) (cs1 ms1 : Int64) (cnt1 fl1 fp1 rc1 lefts1 : Int32) (S1 X1 Y1 Z1 N1 M1 S1' : Nat → Int32) (X1' Y1' Z1' : Nat → Int64) (FA1 FT1 LF1 : Nat → Int32), kz_J n1 k1 cs1 ms1 cnt1 fl1 fp1 rc1 lefts1 S1 X1 Y1 Z1 N1 V M1 S1' X1' Y1' Z1' FA1 FT1 LF1 SV ∧
      f_X4_draw cs cnt fl fp rc S X Y Z N p0 p1 = some (r, cs1, cnt1, fl1, fp1, rc1, S1, X1, Y1, Z1, N1) ∧ f_X5_draw cd ms lefts M S' X' Y' Z' FA FT LF p0 p1 = some (r, 0, ms1, lefts1, M1, S1', X1', Y1', Z1', FA1, FT1, LF1) := by
  rcases kz_args p0 p1 with ⟨a1, a2, a3⟩ | ⟨a1, a2, a3, a4, a5⟩ | ⟨kd, sz, hk, hz, rfl, rfl⟩
  · refine ⟨-1, n, k, cs, ms, cnt, fl, fp, rc, lefts, S, X, Y, Z, N, M, S', X', Y', Z', FA, FT, LF, h, ?_, ?_⟩
    · unfold f_X4_draw
      rw [a1, Option.bind_some, if_pos rfl]
    · unfold f_X5_draw
      rcases a2 with b | ⟨b, c⟩
      · rw [if_pos b]
      · rw [if_neg b, if_neg c]
  · refine ⟨-2, n, k, cs, ms, cnt, fl, fp, rc, lefts, S, X, Y, Z, N, M, S', X', Y', Z', FA, FT, LF, h, ?_, ?_⟩
    · unfold f_X4_draw
      rw [a1, Option.bind_some, if_neg (by decide), a4, Option.bind_some, if_pos rfl]
    · unfold f_X5_draw
      rw [if_neg a2, if_pos a3, a5, Option.bind_some, if_neg (by decide)]
  · obtain ⟨⟨rfl, hcnt, hn, hM, hP, hFA, hf0, hFT, hrc, hle, hk2, hN, hV⟩, hkk⟩ := h
    obtain ⟨n1, s1, g, pt, S1, X1, Y1, Z1, M1, S1', X1', Y1', Z1', FA1, FT1, d1, d2, d3, d4, d5, d6, d7, d8, d9, d10, d11, d12⟩ := kz_drawing (d := 0) hk (show sz ≤ 20 by omega) (by decide) cnt fl fp cs S X Y Z M S' X' Y' Z' FA FT
    obtain ⟨N1, LF1, t1, t2, t3⟩ := kz_takeL d2 (nI kd) (nI sz) 0 s1 M1 S1' X1' Y1' Z1' FA1 FT1 d5 (nI n1) n1 0 (63 - n1) N LF (by omega) (fun j hj => by omega)
    rw [show n1 + (63 - n1) + 1 = 64 by omega] at t2 t3
    refine ⟨nI n1, n1, n1, s1, s1, nI n1, g, pt, nI n1, nI n1, S1, X1, Y1, Z1, N1, M1, S1', X1', Y1', Z1', FA1, FT1, LF1, ⟨⟨rfl, rfl, d2, d5, fun j hj => d7 j hj, d9, fun e => by omega, fun _ => d10, rfl, rfl, Nat.le_refl n1, fun j hj => ⟨j, hj, (t1 j hj).1, (t1 j hj).2⟩, hV⟩, fun h => h⟩, ?_, ?_⟩
    · unfold f_X4_draw
      rw [kz_isKind kd hk, Option.bind_some, if_neg (by decide), kz_isSize sz hz, Option.bind_some, if_neg (by decide), d3, Option.bind_some]
      dsimp only
      unfold f_X3_takeAll
      rw [show f_X3_takeAll_L13 (nI n1) 64 (nI n1) N 0 = some (nI n1, N1) from t2, Option.bind_some]
    · unfold f_X5_draw
      rw [if_neg (nI_pos (by omega)), if_pos (kz_le5 kd hk), kz_none kd hk sz hz, Option.bind_some, if_pos rfl, show f_X5_drawAll cs M S' X' Y' Z' FA FT 0 (nI kd) (nI sz) = _ from d4, Option.bind_some]
      dsimp only
      rw [show M1 (0 : Int32).toNatClampNeg = nI n1 from d5]
      exact t3
theorem kz_eqL {n : Nat} (hn : n ≤ 40) (c1 c2 c3 c4 : Int32) (S X Y Z S2 X2 Y2 Z2 : Nat → Int32) (e : c1 = nI n) : ∀ (m i F : Nat), i + m = n → ∃ r : Int32, (r = 0 ∨ r = 1) ∧ f_X1_equalTo_L26 c1 c2 c3 c4 S X Y Z S2 X2 Y2 Z2 (m + F + 1) (nI i) = some r
  | 0, i, F, hi => by
    have e2 : i = n := by omega
    subst e2
    exact ⟨1, Or.inr rfl, by rw [e_X1_equalTo_L26, e, if_pos (nI_le (Nat.le_refl i) (by omega))]⟩
  | m + 1, i, F, hi => by
    obtain ⟨r, h1, h2⟩ := kz_eqL hn c1 c2 c3 c4 S X Y Z S2 X2 Y2 Z2 e m (i + 1) F (by omega)
    rw [show m + 1 + F + 1 = (m + F + 1) + 1 by omega, e_X1_equalTo_L26]
    rw [e] at h2 ⊢
    rw [if_neg (nI_ge (by omega) (by omega)), if_neg (nI_in (show i < 40 by omega) (by decide)), nI_1]
    by_cases a1 : S (nI i).toNatClampNeg = S2 (nI i).toNatClampNeg
    · rw [if_pos a1]
      by_cases a2 : X (nI i).toNatClampNeg = X2 (nI i).toNatClampNeg
      · rw [if_pos a2]
        by_cases a3 : Y (nI i).toNatClampNeg = Y2 (nI i).toNatClampNeg
        · rw [if_pos a3]
          by_cases a4 : Z (nI i).toNatClampNeg = Z2 (nI i).toNatClampNeg
          · rw [if_pos a4]
            exact ⟨r, h1, h2⟩
          · exact ⟨0, Or.inl rfl, by rw [if_neg a4]⟩
        · exact ⟨0, Or.inl rfl, by rw [if_neg a3]⟩
      · exact ⟨0, Or.inl rfl, by rw [if_neg a2]⟩
    · exact ⟨0, Or.inl rfl, by rw [if_neg a1]⟩
theorem kz_sameL {n : Nat} (hn : n ≤ 40) (sd p0 : Int64) (p1 p2 cd : Int32) (s : Int64) (M S' : Nat → Int32) (X' Y' Z' : Nat → Int64) (FA FT : Nat → Int32) (hM : M 1 = nI n) : ∀ (m i F : Nat) (v : Int32), i + m = n → (v = 0 ∨ v = 1) →
    ∃ r : Int32, f_X5_same_L112 sd p0 p1 p2 (m + F + 1) cd s M S' X' Y' Z' FA FT v (nI i) = some (r, cd, s, M, S', X', Y', Z', FA, FT)
  | 0, i, F, v, hi, hv => by
    have e : i = n := by omega
    subst e
    exact ⟨v, by rw [e_X5_same_L112, show M (1 : Int32).toNatClampNeg = nI i from hM, if_pos (nI_le (Nat.le_refl i) (by omega)), if_neg (fun q => q hv)]⟩
  | m + 1, i, F, v, hi, hv => by
    rw [show m + 1 + F + 1 = (m + F + 1) + 1 by omega, e_X5_same_L112, show M (1 : Int32).toNatClampNeg = nI n from hM, if_neg (nI_ge (by omega) (by omega))]
    by_cases hz : v = 0
    · exact ⟨v, by rw [if_pos hz, if_neg (fun q => q hv)]⟩
    · have a40 : (40 : Int32) + nI i = nI (40 + i) := nI_add 40 i
      have a80 : (80 : Int32) + nI i = nI (80 + i) := nI_add 80 i
      obtain ⟨r1, h1⟩ := kz_sameL hn sd p0 p1 p2 cd s M S' X' Y' Z' FA FT hM m (i + 1) F 1 (by omega) (Or.inr rfl)
      obtain ⟨r0, h0⟩ := kz_sameL hn sd p0 p1 p2 cd s M S' X' Y' Z' FA FT hM m (i + 1) F 0 (by omega) (Or.inl rfl)
      rw [if_neg hz, a40, a80, if_neg (nI_in (show 40 + i < 120 by omega) (by decide)), if_neg (nI_in (show 80 + i < 120 by omega) (by decide)), nI_1]
      by_cases b1 : S' (nI (40 + i)).toNatClampNeg = S' (nI (80 + i)).toNatClampNeg
      · rw [if_pos b1]
        by_cases b2 : lg_cmp (X' (nI (40 + i)).toNatClampNeg) (X' (nI (80 + i)).toNatClampNeg) = 0
        · rw [if_pos b2]
          by_cases b3 : lg_cmp (Y' (nI (40 + i)).toNatClampNeg) (Y' (nI (80 + i)).toNatClampNeg) = 0
          · rw [if_pos b3]
            by_cases b4 : lg_cmp (Z' (nI (40 + i)).toNatClampNeg) (Z' (nI (80 + i)).toNatClampNeg) = 0
            · rw [if_pos b4]
              exact ⟨r1, h1⟩
            · rw [if_neg b4]
              exact ⟨r0, h0⟩
          · rw [if_neg b3]
            exact ⟨r0, h0⟩
        · rw [if_neg b2]
          exact ⟨r0, h0⟩
      · rw [if_neg b1]
        exact ⟨r0, h0⟩
