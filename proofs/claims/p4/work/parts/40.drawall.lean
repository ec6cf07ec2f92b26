theorem kz_isKind : ∀ k, k < 6 → f_X4_isKind (nI k) = some 1 := by decide +kernel
/-- a whole DRAWING, by class and reference -/
theorem kz_drawing {k d sz : Nat} (hk : k < 6) (hsz : sz ≤ 20) (hd : d < 3) (cnt fl fp : Int32) (s : Int64) (S X Y Z : Nat → Int32) (M S' : Nat → Int32) (X' Y' Z' : Nat → Int64) (FA FT : Nat → Int32) :
    ∃ (n : Nat) (s1 : Int64) (g pt : Int32) (S1 X1 Y1 Z1 M1 S1' : Nat → Int32) (X1' Y1' Z1' : Nat → Int64) (FA1 FT1 : Nat → Int32), 0 < n ∧ n ≤ 40 ∧
      f_X1_fill cnt fl fp s S X Y Z (nI k) (nI sz) = some (nI n, g, pt, s1, S1, X1, Y1, Z1) ∧
      f_X5_drawAll s M S' X' Y' Z' FA FT (nI d) (nI k) (nI sz) = some (s1, M1, S1', X1', Y1', Z1', FA1, FT1) ∧
      M1 d = nI n ∧ (∀ j, j ≠ d → M1 j = M j) ∧ (∀ j, j < n → kz_P (40 * d) j S1 X1 Y1 Z1 S1' X1' Y1' Z1') ∧ (∀ j, (j < 40 * d ∨ 40 * d + 40 ≤ j) → S1' j = S' j ∧ X1' j = X' j ∧ Y1' j = Y' j ∧ Z1' j = Z' j) ∧
      FA1 d = g ∧ FT1 d = pt ∧ (pt = -1 ∨ ∃ p, p < n ∧ pt = nI p) ∧ ∀ j, j ≠ d → FA1 j = FA j ∧ FT1 j = FT j := by
  have h40 : (40 : Int32) * nI d = nI (40 * d) := pk_mul 40 d
  have hd1 : (nI d).toNatClampNeg = d := nI_clamp (by omega)
  have hd2 : (nI (40 * d)).toNatClampNeg = 40 * d := nI_clamp (by omega)
  have c1 : ¬ (nI d < 0 ∨ 3 ≤ (nI d).toNatClampNeg) := nI_in hd (by decide)
  have c2 : ¬ (nI (40 * d) < 0 ∨ 120 ≤ (nI (40 * d)).toNatClampNeg) := nI_in (show 40 * d < 120 by omega) (by decide)
  by_cases h0 : sz = 0
  · subst h0
    refine ⟨1, s, 0, -1, upd S 0 0, upd X 0 0, upd Y 0 0, upd Z 0 0, upd M d 1, upd S' (40 * d) 0, vp_updL X' (40 * d) 0, vp_updL Y' (40 * d) 0, vp_updL Z' (40 * d) 0, upd FA d 0, upd FT d (-1), by omega, by omega, ?_, ?_, pk_us, fun j hj => pk_un hj, fun j hj => ?_, fun j hj => ?_, pk_us, pk_us, Or.inl rfl, fun j hj => ⟨pk_un hj, pk_un hj⟩⟩
    · unfold f_X1_fill
      rw [if_pos (by decide)]
      rfl
    · unfold f_X5_drawAll
      rw [if_neg c1, h40, if_neg c2, if_pos (by decide), hd1, hd2]
    · have e : j = 0 := by omega
      subst e
      exact ⟨⟨0, by omega, pk_us, pk_us⟩, ⟨0, by omega, pk_us, pk_uLs⟩, ⟨0, by omega, Or.inl ⟨pk_us, pk_uLs⟩⟩, ⟨0, by omega, pk_us, pk_uLs⟩⟩
    · have ne : j ≠ 40 * d := by omega
      exact ⟨pk_un ne, pk_uLn ne, pk_uLn ne, pk_uLn ne⟩
  · obtain ⟨c, hce⟩ : ∃ c, c = kz_up s % (sz + 1) := ⟨_, rfl⟩
    have hc : c ≤ sz := by have := Nat.mod_lt (kz_up s) (show 0 < sz + 1 by omega); omega
    obtain ⟨n, hne⟩ : ∃ n, n = sz + c := ⟨_, rfl⟩
    have hn : n ≤ 40 := by omega
    obtain ⟨s1, S1, X1, Y1, Z1, S1', X1', Y1', Z1', l1, l2, l3, l4⟩ := kz_fill_loop hk hn (show 40 * d ≤ 80 by omega) (nI sz) (nI d) (nI sz) 0 (-1) (upd (upd M d 1) d (nI n)) (upd FA d 0) (upd FT d (-1)) (63 - n + 1) (63 - n + 1) n 0 (by omega) (kz_st s) S X Y Z (upd S' (40 * d) 0) (vp_updL X' (40 * d) 0) (vp_updL Y' (40 * d) 0) (vp_updL Z' (40 * d) 0) (fun j hj => by omega)
    obtain ⟨s2, g, pt, S2, X2, Y2, Z2, S2', X2', Y2', Z2', FA2, FT2, p1, p2, p3, p4, p5, p6, p7, p8⟩ := kz_plant hk (show 0 < n by omega) hn hd (nI sz) (nI sz) (upd (upd M d 1) d (nI n)) (upd FA d 0) (upd FT d (-1)) (63 - n) (63 - n) s1 S1 X1 Y1 Z1 S1' X1' Y1' Z1' l3 pk_us pk_us
    have f64 : n + (63 - n + 1) = 64 := by omega
    rw [f64] at l1 l2
    refine ⟨n, s2, g, pt, S2, X2, Y2, Z2, upd (upd M d 1) d (nI n), S2', X2', Y2', Z2', FA2, FT2, by omega, hn, ?_, ?_, pk_us, fun j hj => (pk_un hj).trans (pk_un hj), p3, fun j hj => ?_, p5, p6, p7, fun j hj => ⟨(p8 j hj).1.trans (pk_un hj), (p8 j hj).2.trans (pk_un hj)⟩⟩
    · unfold f_X1_fill
      rw [if_neg (nI_nle (by omega) (by omega)), if_neg (show ¬ (20 : Int32) < nI sz from nI_nlt (a := 20) (b := sz) hsz (by omega)), kz_isKind k hk]
      rw [Option.bind_some]
      try dsimp only
      rw [if_neg (by decide), nI_1, kz_below s (by omega) (by omega), ← hce]
      rw [Option.bind_some]
      try dsimp only
      rw [nI_add, ← hne]
      exact l1.trans p1
    · unfold f_X5_drawAll
      rw [if_neg c1, h40, if_neg c2, if_neg (nI_ne0 (by omega) (by omega)), hd1, hd2, nI_1, kz_next s (by omega) (by omega), ← hce]
      rw [Option.bind_some]
      try dsimp only
      rw [nI_add, ← hne]
      exact l2.trans p2
    · have ne : j ≠ 40 * d := by omega
      obtain ⟨a1, a2, a3, a4⟩ := p4 j (by omega)
      obtain ⟨b1, b2, b3, b4⟩ := l4 j (by omega)
      exact ⟨a1.trans (b1.trans (pk_un ne)), a2.trans (b2.trans (pk_uLn ne)), a3.trans (b3.trans (pk_uLn ne)), a4.trans (b4.trans (pk_uLn ne))⟩
