theorem kz_P_same {j : Nat} {S X Y Z S' S2 : Nat → Int32} {X' Y' Z' X2 Y2 Z2 : Nat → Int64} (h : kz_P 0 j S X Y Z S' X' Y' Z') (e : S2 j = S' j ∧ X2 j = X' j ∧ Y2 j = Y' j ∧ Z2 j = Z' j) : kz_P 0 j S X Y Z S2 X2 Y2 Z2 := by
  obtain ⟨e1, e2, e3, e4⟩ := e
  unfold kz_P at *
  rw [Nat.zero_add] at *
  rw [e1, e2, e3, e4]
  exact h
theorem kz_same {n k : Nat} {cs ms : Int64} {cnt fl fp rc lefts : Int32} {S X Y Z N V M S' : Nat → Int32} {X' Y' Z' : Nat → Int64} {FA FT LF SV : Nat → Int32} (h : kz_J n k cs ms cnt fl fp rc lefts S X Y Z N V M S' X' Y' Z' FA FT LF SV) (cd : Int32) (sd ts : Int64) (mc mf mp tc tf tp : Int32) (mS mX mY mZ tS tX tY tZ : Nat → Int32) (p0 : Int64) (p1 p2 : Int32) :
    (∃ o, f_X4_same sd ts mc mf mp tc tf tp mS mX mY mZ tS tX tY tZ p0 p1 p2 = some o) ∧ ∃ (r : Int32) (M1 S1' : Nat → Int32) (X1' Y1' Z1' : Nat → Int64) (FA1 FT1 : Nat → Int32), f_X5_same cd sd ms M S' X' Y' Z' FA FT p0 p1 p2 = some (r, 0, ms, M1, S1', X1', Y1', Z1', FA1, FT1) ∧ kz_J n k cs ms cnt fl fp rc lefts S X Y Z N V M1 S1' X1' Y1' Z1' FA1 FT1 LF SV := by
  rcases kz_args p1 p2 with ⟨a1, a2, a3⟩ | ⟨a1, a2, a3, a4, a5⟩ | ⟨kd, sz, hk, hz, rfl, rfl⟩
  · refine ⟨?_, 0, M, S', X', Y', Z', FA, FT, ?_, h⟩
    · unfold f_X4_same
      rw [a1, Option.bind_some, if_pos rfl]
      exact ⟨_, rfl⟩
    · unfold f_X5_same
      rw [a3, Option.bind_some, if_neg (by decide)]
  · refine ⟨?_, 0, M, S', X', Y', Z', FA, FT, ?_, h⟩
    · unfold f_X4_same
      rw [a1, Option.bind_some, if_neg (by decide), a4, Option.bind_some, if_pos rfl]
      exact ⟨_, rfl⟩
    · unfold f_X5_same
      rw [a5, Option.bind_some, if_neg (by decide)]
  · obtain ⟨n1, s1, g1, pt1, S1, X1, Y1, Z1, M1, S1', X1', Y1', Z1', FA1, FT1, d1, d2, d3, d4, d5, d6, d7, d8, d9, d10, d11, d12⟩ := kz_drawing (d := 1) hk (show sz ≤ 20 by omega) (by decide) mc mf mp sd mS mX mY mZ M S' X' Y' Z' FA FT
    obtain ⟨n2, s2, g2, pt2, S2, X2, Y2, Z2, M2, S2', X2', Y2', Z2', FA2, FT2, b1, b2, b3, b4, b5, b6, b7, b8, b9, b10, b11, b12⟩ := kz_drawing (d := 2) hk (show sz ≤ 20 by omega) (by decide) tc tf tp p0 tS tX tY tZ M1 S1' X1' Y1' Z1' FA1 FT1
    refine ⟨?_, ?_⟩
    · obtain ⟨r, r1, r2⟩ : ∃ r : Int32, (r = 0 ∨ r = 1) ∧ f_X1_equalTo (nI n1) g1 (nI n2) g2 S1 X1 Y1 Z1 S2 X2 Y2 Z2 = some r := by
        unfold f_X1_equalTo
        by_cases e1 : nI n1 = nI n2
        · rw [if_pos e1]
          by_cases e2 : g1 = g2
          · rw [if_pos e2]
            obtain ⟨r, q1, q2⟩ := kz_eqL d2 (nI n1) g1 (nI n2) g2 S1 X1 Y1 Z1 S2 X2 Y2 Z2 rfl n1 0 (63 - n1) (by omega)
            rw [show n1 + (63 - n1) + 1 = 64 by omega] at q2
            exact ⟨r, q1, q2⟩
          · exact ⟨0, Or.inl rfl, by rw [if_neg e2]⟩
        · exact ⟨0, Or.inl rfl, by rw [if_neg e1]⟩
      unfold f_X4_same f_X0_startAt
      rw [kz_isKind kd hk, Option.bind_some, if_neg (by decide), kz_isSize sz hz, Option.bind_some, if_neg (by decide), Option.bind_some, d3, Option.bind_some]
      dsimp only
      rw [Option.bind_some, b3, Option.bind_some]
      dsimp only
      rw [r2, Option.bind_some, if_neg (fun q => q r1)]
      exact ⟨_, rfl⟩
    · have hM1 : M2 1 = nI n1 := (b6 1 (by decide)).trans d5
      have key : ∃ r : Int32, f_X5_same cd sd ms M S' X' Y' Z' FA FT p0 (nI kd) (nI sz) = some (r, 0, ms, M2, S2', X2', Y2', Z2', FA2, FT2) := by
        obtain ⟨r1, h1⟩ := kz_sameL d2 sd p0 (nI kd) (nI sz) 0 ms M2 S2' X2' Y2' Z2' FA2 FT2 hM1 n1 0 (63 - n1) 1 (by omega) (Or.inr rfl)
        obtain ⟨r0, h0⟩ := kz_sameL d2 sd p0 (nI kd) (nI sz) 0 ms M2 S2' X2' Y2' Z2' FA2 FT2 hM1 n1 0 (63 - n1) 0 (by omega) (Or.inl rfl)
        rw [show n1 + (63 - n1) + 1 = 64 by omega] at h1 h0
        unfold f_X5_same
        rw [kz_none kd hk sz hz, Option.bind_some, if_pos rfl, show f_X5_drawAll sd M S' X' Y' Z' FA FT 1 (nI kd) (nI sz) = _ from d4, Option.bind_some]
        dsimp only
        rw [show f_X5_drawAll p0 M1 S1' X1' Y1' Z1' FA1 FT1 2 (nI kd) (nI sz) = _ from b4, Option.bind_some]
        dsimp only
        by_cases c1 : M2 (1 : Int32).toNatClampNeg = M2 (2 : Int32).toNatClampNeg
        · rw [if_pos c1]
          by_cases c2 : FA2 (1 : Int32).toNatClampNeg = FA2 (2 : Int32).toNatClampNeg
          · rw [if_pos c2]
            by_cases c3 : FT2 (1 : Int32).toNatClampNeg = FT2 (2 : Int32).toNatClampNeg
            · rw [if_pos c3]
              exact ⟨r1, h1⟩
            · rw [if_neg c3]
              exact ⟨r0, h0⟩
          · rw [if_neg c2]
            exact ⟨r0, h0⟩
        · rw [if_neg c1]
          exact ⟨r0, h0⟩
      obtain ⟨r, hr⟩ := key
      obtain ⟨⟨h1, h2, h3, h4, h5, h6, h7, h8, h9, h10, h11, h12, h13⟩, hkk⟩ := h
      refine ⟨r, M2, S2', X2', Y2', Z2', FA2, FT2, hr, ⟨h1, h2, h3, ?_, fun j hj => ?_, ?_, h7, fun z => ?_, h9, h10, h11, h12, h13⟩, hkk⟩
      · rw [b6 0 (by decide), d6 0 (by decide)]
        exact h4
      · obtain ⟨u1, u2, u3, u4⟩ := b8 j (by omega)
        obtain ⟨v1, v2, v3, v4⟩ := d8 j (by omega)
        exact kz_P_same (h5 j hj) ⟨u1.trans v1, u2.trans v2, u3.trans v3, u4.trans v4⟩
      · rw [(b12 0 (by decide)).1, (d12 0 (by decide)).1]
        exact h6
      · rw [(b12 0 (by decide)).2, (d12 0 (by decide)).2]
        exact h8 z
