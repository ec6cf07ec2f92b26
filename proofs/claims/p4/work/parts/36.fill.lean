theorem kz_fill_step {k o n : Nat} (hk : k < 6) (hn : n ≤ 40) (ho : o ≤ 80) (P1 d P2 fl fp : Int32) (M FA FT : Nat → Int32) (F F' : Nat) {i : Nat} (hin : i < n) (s : Int64) (S X Y Z S' : Nat → Int32) (X' Y' Z' : Nat → Int64) (hF : ∀ j, j < i → kz_F k o j S X Y Z S' X' Y' Z') :
    ∃ (a v y z : Nat) (s4 : Int64), a ≤ 6 ∧ v ≤ 256 + 17 * (i + 1) ∧ (k = 0 → v ≤ i) ∧ y ≤ 63 ∧ z ≤ 999 ∧
      f_X1_fill_L48 (nI k) P1 (F + 1) (nI n) fl fp s S X Y Z (nI i) = f_X1_fill_L48 (nI k) P1 F (nI n) fl fp s4 (upd S i (nI a)) (upd X i (nI v)) (upd Y i (nI y)) (upd Z i (nI z)) (nI (i + 1)) ∧
      f_X5_drawAll_L86 d (nI k) P2 (F' + 1) s M S' X' Y' Z' FA FT (nI o) (nI n) (nI i) = f_X5_drawAll_L86 d (nI k) P2 F' s4 M (upd S' (o + i) (nI a)) (vp_updL X' (o + i) (lN v)) (vp_updL Y' (o + i) (lN y)) (vp_updL Z' (o + i) (lN z)) FA FT (nI o) (nI n) (nI (i + 1)) := by
  obtain ⟨so1, so2⟩ := kz_so_in k hk
  obtain ⟨a, hae⟩ : ∃ a, a = kz_up s % kz_so k := ⟨_, rfl⟩
  have ha : a ≤ 6 := by have := Nat.mod_lt (kz_up s) so1; omega
  obtain ⟨v, hv, hv0, dx, dx'⟩ := kz_drawX hk (show i < 40 by omega) ho (kz_st s) (upd S i (nI a)) X (upd S' (o + i) (nI a)) X' ha pk_us pk_us (fun h => by
    obtain ⟨-, ⟨x, h1, -, h3, h4⟩, -⟩ := hF (i - 1) (by omega)
    exact ⟨x, by omega, h3, h4⟩)
  have hi31 : i < 2 ^ 31 := by omega
  have hoi : o + i < 2 ^ 31 := by omega
  obtain ⟨y, s3, hy, dy, dy'⟩ : ∃ (y : Nat) (s3 : Int64), y ≤ 63 ∧ f_X1_drawY (kz_st (kz_st s)) (upd S i (nI a)) (upd X i (nI v)) Y (nI k) (nI i) = some (nI y, s3) ∧
      f_X5_drawAll_L86 d (nI k) P2 (F' + 1) s M S' X' Y' Z' FA FT (nI o) (nI n) (nI i) = (f_X5_next s3 1000).bind fun r => f_X5_drawAll_L86 d (nI k) P2 F' r.2 M (upd S' (o + i) (nI a)) (vp_updL X' (o + i) (lN v)) (vp_updL Y' (o + i) (lN y)) (vp_updL Z' (o + i) r.1.toInt64) FA FT (nI o) (nI n) (nI i + 1) := by
    rw [e_X5_drawAll_L86, if_neg (nI_ge hin (by omega)), kz_sortsOf k hk]
    rw [Option.bind_some]
    try dsimp only
    rw [kz_next s so1 (by omega), ← hae]
    rw [Option.bind_some]
    try dsimp only
    rw [nI_add, if_neg (nI_in (show o + i < 120 by omega) (by decide)), nI_clamp hoi, dx']
    rw [Option.bind_some]
    try dsimp only
    rw [pk_us, pk_uLs]
    by_cases h0 : k = 0
    · subst h0
      rw [if_pos (by decide)]
      by_cases h3 : a = 3
      · have hvi := hv0 rfl
        subst h3
        rw [if_pos (by decide), nI_l hi31]
        by_cases e : v = i
        · refine ⟨0, kz_st (kz_st s), by omega, kz_drawY_A (by omega) hvi _ _ _ _ pk_us pk_us (fun h => by omega) (fun _ => rfl), ?_⟩
          rw [if_pos ((lg_cmp_eq _ _).mpr (by rw [e])), kz_lN0]
        · obtain ⟨-, -, ⟨y, h1, h2, h3⟩, -⟩ := hF v (by omega)
          refine ⟨y, kz_st (kz_st s), h1, kz_drawY_A (by omega) hvi _ _ _ _ pk_us pk_us (fun _ => h2) (fun h => absurd h e), ?_⟩
          rw [if_neg (fun q => e ((lN_eq (by omega) hi31).mp ((lg_cmp_eq _ _).mp q))), lN_i, nI_add, if_neg (nI_in (show o + v < 120 by omega) (by decide)), nI_clamp (show o + v < 2 ^ 31 by omega), h3]
      · have hn3 : ¬ nI a = 3 := fun q => h3 ((nI_eq (by omega) (show 3 < 2 ^ 31 by decide)).mp q)
        have hm := Nat.mod_lt (kz_up (kz_st (kz_st s))) (show 0 < 64 by decide)
        refine ⟨kz_up (kz_st (kz_st s)) % 64, kz_st (kz_st (kz_st s)), by omega, kz_drawY_B hk (by omega) ha _ _ _ _ pk_us (fun q => h3 q.2), ?_⟩
        rw [if_neg hn3, kz_n64]
        rw [Option.bind_some]
        try dsimp only
        rw [nI_l (by omega)]
    · have hm := Nat.mod_lt (kz_up (kz_st (kz_st s))) (show 0 < 64 by decide)
      refine ⟨kz_up (kz_st (kz_st s)) % 64, kz_st (kz_st (kz_st s)), by omega, kz_drawY_B hk (by omega) ha _ _ _ _ pk_us (fun q => h0 q.1), ?_⟩
      rw [if_neg (nI_ne0 (by omega) (by omega)), kz_n64]
      rw [Option.bind_some]
      try dsimp only
      rw [nI_l (by omega)]
  have hz := Nat.mod_lt (kz_up s3) (show 0 < 1000 by decide)
  refine ⟨a, v, y, kz_up s3 % 1000, kz_st s3, ha, hv, hv0, hy, by omega, ?_, ?_⟩
  · exact kz_fill_c hk hn P1 fl fp F hin s _ s3 S X Y Z hae.symm dx dy
  · rw [dy', kz_n1000]
    rw [Option.bind_some]
    try dsimp only
    rw [nI_l (by omega), nI_1]
theorem kz_fill_loop {k o n : Nat} (hk : k < 6) (hn : n ≤ 40) (ho : o ≤ 80) (P1 d P2 fl fp : Int32) (M FA FT : Nat → Int32) (F F' : Nat) : ∀ (m i : Nat), i + m = n → ∀ (s : Int64) (S X Y Z S' : Nat → Int32) (X' Y' Z' : Nat → Int64), (∀ j, j < i → kz_F k o j S X Y Z S' X' Y' Z') →
    ∃ (s1 : Int64) (S1 X1 Y1 Z1 S1' : Nat → Int32) (X1' Y1' Z1' : Nat → Int64),
      f_X1_fill_L48 (nI k) P1 (m + F) (nI n) fl fp s S X Y Z (nI i) = f_X1_fill_L48 (nI k) P1 F (nI n) fl fp s1 S1 X1 Y1 Z1 (nI n) ∧
      f_X5_drawAll_L86 d (nI k) P2 (m + F') s M S' X' Y' Z' FA FT (nI o) (nI n) (nI i) = f_X5_drawAll_L86 d (nI k) P2 F' s1 M S1' X1' Y1' Z1' FA FT (nI o) (nI n) (nI n) ∧
      (∀ j, j < n → kz_F k o j S1 X1 Y1 Z1 S1' X1' Y1' Z1') ∧ ∀ q, (q < o ∨ o + n ≤ q) → S1' q = S' q ∧ X1' q = X' q ∧ Y1' q = Y' q ∧ Z1' q = Z' q
  | 0, i, hi, s, S, X, Y, Z, S', X', Y', Z', hF => by
    have e : i = n := by omega
    subst e
    exact ⟨s, S, X, Y, Z, S', X', Y', Z', by rw [Nat.zero_add], by rw [Nat.zero_add], hF, fun _ _ => ⟨rfl, rfl, rfl, rfl⟩⟩
  | m + 1, i, hi, s, S, X, Y, Z, S', X', Y', Z', hF => by
    obtain ⟨a, v, y, z, s4, ha, hv, hv0, hy, hz, e1, e2⟩ := kz_fill_step hk hn ho P1 d P2 fl fp M FA FT (m + F) (m + F') (show i < n by omega) s S X Y Z S' X' Y' Z' hF
    obtain ⟨s1, S1, X1, Y1, Z1, S1', X1', Y1', Z1', c1, c2, c3, c4⟩ := kz_fill_loop hk hn ho P1 d P2 fl fp M FA FT F F' m (i + 1) (by omega) s4 _ _ _ _ _ _ _ _ (kz_F_step hF ha hv hv0 hy hz)
    refine ⟨s1, S1, X1, Y1, Z1, S1', X1', Y1', Z1', ?_, ?_, c3, fun q hq => ?_⟩
    · rw [show m + 1 + F = m + F + 1 by omega, e1, c1]
    · rw [show m + 1 + F' = m + F' + 1 by omega, e2, c2]
    · obtain ⟨h1, h2, h3, h4⟩ := c4 q hq
      have ne : q ≠ o + i := by omega
      exact ⟨h1.trans (pk_un ne), h2.trans (pk_uLn ne), h3.trans (pk_uLn ne), h4.trans (pk_uLn ne)⟩
