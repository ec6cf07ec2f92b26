/-- what the FAULT of class and reference does to the PARTS, side by side -/
theorem kz_spoil {k o n p e : Nat} (hn : n ≤ 40) (hp : p < n) (he : e ≤ 4) (S X Y Z S' : Nat → Int32) (X' Y' Z' : Nat → Int64) (q : Nat) (hq : q ≤ 7) (hF : ∀ j, j < n → kz_F k o j S X Y Z S' X' Y' Z') :
    ∃ (S1 X1 Y1 Z1 S1' : Nat → Int32) (X1' Y1' Z1' : Nat → Int64), f_X1_spoil (nI (e + 1)) S X Y Z (nI p) (nI q) = some (S1, X1, Y1, Z1) ∧
      (S1', X1', Y1', Z1') = (if e = 0 then (S', vp_updL X' (o + p) (X' (o + p) + 1000), Y', Z') else if e = 1 then (S', X', vp_updL Y' (o + p) (-1 - Y' (o + p)), Z') else if e = 2 then (S', X', Y', vp_updL Z' (o + p) (Z' (o + p) + 1000)) else if e = 3 then (upd S' (o + p) (nI q), X', Y', Z') else (S', vp_updL X' (o + p) 0, vp_updL Y' (o + p) 0, vp_updL Z' (o + p) 0)) ∧
      (∀ j, j < n → kz_P o j S1 X1 Y1 Z1 S1' X1' Y1' Z1') ∧ ∀ j, (j < o ∨ o + n ≤ j) → S1' j = S' j ∧ X1' j = X' j ∧ Y1' j = Y' j ∧ Z1' j = Z' j := by
  have ip : ¬ (nI p < 0 ∨ 40 ≤ (nI p).toNatClampNeg) := nI_in (show p < 40 by omega) (by decide)
  have cp : (nI p).toNatClampNeg = p := nI_clamp (by omega)
  have out : ∀ j, (j < o ∨ o + n ≤ j) → j ≠ o + p := fun j h => by omega
  obtain ⟨⟨a1, b1, c1, d1⟩, ⟨a2, b2, e2, c2, d2⟩, ⟨a3, b3, c3, d3⟩, ⟨a4, b4, c4, d4⟩⟩ := hF p hp
  have keep : ∀ j, j < n → kz_P o j S X Y Z S' X' Y' Z' := fun j hj => kz_F_P (by omega) (hF j hj)
  have x1 : nI a2 + 1000 = nI (a2 + 1000) := nI_add a2 1000
  have x2 : lN a2 + 1000 = lN (a2 + 1000) := lN_add a2 1000
  have z1 : nI a4 + 1000 = nI (a4 + 1000) := nI_add a4 1000
  have z2 : lN a4 + 1000 = lN (a4 + 1000) := lN_add a4 1000
  rcases (show e = 0 ∨ e = 1 ∨ e = 2 ∨ e = 3 ∨ e = 4 by omega) with rfl | rfl | rfl | rfl | rfl
  · refine ⟨S, upd X p (nI (a2 + 1000)), Y, Z, S', vp_updL X' (o + p) (X' (o + p) + 1000), Y', Z', ?_, rfl, fun j hj => ?_, fun j hj => ⟨rfl, pk_uLn (out j hj), rfl, rfl⟩⟩
    · unfold f_X1_spoil
      rw [if_pos (by decide), if_neg ip, cp, c2, x1]
    · obtain ⟨k1, ⟨a, b, c, d⟩, k3, k4⟩ := keep j hj
      by_cases ej : j = p
      · subst ej
        exact ⟨k1, ⟨a2 + 1000, by omega, pk_us, by rw [pk_uLs, d2, x2]⟩, k3, k4⟩
      · exact ⟨k1, ⟨a, b, (pk_un ej).trans c, (pk_uLn (by omega)).trans d⟩, k3, k4⟩
  · refine ⟨S, X, upd Y p (-1 - nI a3), Z, S', X', vp_updL Y' (o + p) (-1 - Y' (o + p)), Z', ?_, rfl, fun j hj => ?_, fun j hj => ⟨rfl, rfl, pk_uLn (out j hj), rfl⟩⟩
    · unfold f_X1_spoil
      rw [if_neg (by decide), if_pos (by decide), if_neg ip, cp, c3]
    · obtain ⟨k1, k2, ⟨a, b, c⟩, k4⟩ := keep j hj
      by_cases ej : j = p
      · subst ej
        exact ⟨k1, k2, ⟨a3, b3, Or.inr ⟨pk_us, by rw [pk_uLs, d3]⟩⟩, k4⟩
      · rcases c with ⟨c, d⟩ | ⟨c, d⟩
        · exact ⟨k1, k2, ⟨a, b, Or.inl ⟨(pk_un ej).trans c, (pk_uLn (by omega)).trans d⟩⟩, k4⟩
        · exact ⟨k1, k2, ⟨a, b, Or.inr ⟨(pk_un ej).trans c, (pk_uLn (by omega)).trans d⟩⟩, k4⟩
  · refine ⟨S, X, Y, upd Z p (nI (a4 + 1000)), S', X', Y', vp_updL Z' (o + p) (Z' (o + p) + 1000), ?_, rfl, fun j hj => ?_, fun j hj => ⟨rfl, rfl, rfl, pk_uLn (out j hj)⟩⟩
    · unfold f_X1_spoil
      rw [if_neg (by decide), if_neg (by decide), if_pos (by decide), if_neg ip, cp, c4, z1]
    · obtain ⟨k1, k2, k3, ⟨a, b, c, d⟩⟩ := keep j hj
      by_cases ej : j = p
      · subst ej
        exact ⟨k1, k2, k3, ⟨a4 + 1000, by omega, pk_us, by rw [pk_uLs, d4, z2]⟩⟩
      · exact ⟨k1, k2, k3, ⟨a, b, (pk_un ej).trans c, (pk_uLn (by omega)).trans d⟩⟩
  · refine ⟨upd S p (nI q), X, Y, Z, upd S' (o + p) (nI q), X', Y', Z', ?_, rfl, fun j hj => ?_, fun j hj => ⟨pk_un (out j hj), rfl, rfl, rfl⟩⟩
    · unfold f_X1_spoil
      rw [if_neg (by decide), if_neg (by decide), if_neg (by decide), if_pos (by decide), if_neg ip, cp]
    · obtain ⟨⟨a, b, c, d⟩, k2, k3, k4⟩ := keep j hj
      by_cases ej : j = p
      · subst ej
        exact ⟨⟨q, hq, pk_us, pk_us⟩, k2, k3, k4⟩
      · exact ⟨⟨a, b, (pk_un ej).trans c, (pk_un (by omega)).trans d⟩, k2, k3, k4⟩
  · refine ⟨S, upd X p 0, upd Y p 0, upd Z p 0, S', vp_updL X' (o + p) 0, vp_updL Y' (o + p) 0, vp_updL Z' (o + p) 0, ?_, rfl, fun j hj => ?_, fun j hj => ⟨rfl, pk_uLn (out j hj), pk_uLn (out j hj), pk_uLn (out j hj)⟩⟩
    · unfold f_X1_spoil
      rw [if_neg (by decide), if_neg (by decide), if_neg (by decide), if_neg (by decide), if_neg ip, cp]
    · obtain ⟨k1, ⟨a, b, c, d⟩, ⟨a', b', c'⟩, ⟨a'', b'', c'', d''⟩⟩ := keep j hj
      by_cases ej : j = p
      · subst ej
        exact ⟨k1, ⟨0, by omega, pk_us, pk_uLs⟩, ⟨0, by omega, Or.inl ⟨pk_us, pk_uLs⟩⟩, ⟨0, by omega, pk_us, pk_uLs⟩⟩
      · refine ⟨k1, ⟨a, b, (pk_un ej).trans c, (pk_uLn (by omega)).trans d⟩, ?_, ⟨a'', b'', (pk_un ej).trans c'', (pk_uLn (by omega)).trans d''⟩⟩
        rcases c' with ⟨c, d⟩ | ⟨c, d⟩
        · exact ⟨a', b', Or.inl ⟨(pk_un ej).trans c, (pk_uLn (by omega)).trans d⟩⟩
        · exact ⟨a', b', Or.inr ⟨(pk_un ej).trans c, (pk_uLn (by omega)).trans d⟩⟩
theorem kz_plant {k d n : Nat} (hk : k < 6) (h0 : 0 < n) (hn : n ≤ 40) (hd : d < 3) (P1 P2 : Int32) (M FA FT : Nat → Int32) (F F' : Nat) (s : Int64) (S X Y Z S' : Nat → Int32) (X' Y' Z' : Nat → Int64) (hF : ∀ j, j < n → kz_F k (40 * d) j S X Y Z S' X' Y' Z') (hFA : FA d = 0) (hFT : FT d = -1) :
    ∃ (s1 : Int64) (g pt : Int32) (S1 X1 Y1 Z1 S1' : Nat → Int32) (X1' Y1' Z1' : Nat → Int64) (FA1 FT1 : Nat → Int32),
      f_X1_fill_L48 (nI k) P1 (F + 1) (nI n) 0 (-1) s S X Y Z (nI n) = some (nI n, g, pt, s1, S1, X1, Y1, Z1) ∧
      f_X5_drawAll_L86 (nI d) (nI k) P2 (F' + 1) s M S' X' Y' Z' FA FT (nI (40 * d)) (nI n) (nI n) = some (s1, M, S1', X1', Y1', Z1', FA1, FT1) ∧
      (∀ j, j < n → kz_P (40 * d) j S1 X1 Y1 Z1 S1' X1' Y1' Z1') ∧ (∀ j, (j < 40 * d ∨ 40 * d + n ≤ j) → S1' j = S' j ∧ X1' j = X' j ∧ Y1' j = Y' j ∧ Z1' j = Z' j) ∧
      FA1 d = g ∧ FT1 d = pt ∧ (pt = -1 ∨ ∃ p, p < n ∧ pt = nI p) ∧ ∀ j, j ≠ d → FA1 j = FA j ∧ FT1 j = FT j := by
  obtain ⟨fa1, fa2⟩ := kz_fa_in k hk
  obtain ⟨f, hfe⟩ : ∃ f, f = kz_up s % (2 * kz_fa k) := ⟨_, rfl⟩
  have hf2 : f < 2 * kz_fa k := by rw [hfe]; exact Nat.mod_lt _ (by omega)
  have t2 : (2 : Int32) * nI (kz_fa k) = nI (2 * kz_fa k) := pk_mul 2 _
  have cE : f_X1_fill_L48 (nI k) P1 (F + 1) (nI n) 0 (-1) s S X Y Z (nI n) = (f_X1_plant (nI n) 0 (-1) s S X Y Z (nI k)).bind fun r => some (nI n, r.1, r.2.1, r.2.2.1, r.2.2.2.1, r.2.2.2.2.1, r.2.2.2.2.2.1, r.2.2.2.2.2.2) := by
    rw [e_X1_fill_L48, if_pos (nI_le (Nat.le_refl n) (by omega))]
  by_cases hlt : f < kz_fa k
  · refine ⟨kz_st s, 0, -1, S, X, Y, Z, S', X', Y', Z', FA, FT, ?_, ?_, fun j hj => kz_F_P (by omega) (hF j hj), fun _ _ => ⟨rfl, rfl, rfl, rfl⟩, hFA, hFT, Or.inl rfl, fun _ _ => ⟨rfl, rfl⟩⟩
    · rw [cE]
      unfold f_X1_plant
      rw [if_neg (nI_in hk (by decide)), nI_clamp (show k < 2 ^ 31 by omega), kz_t1 k hk, t2, kz_below s (by omega) (by omega), ← hfe]
      rw [Option.bind_some]
      try dsimp only
      rw [if_neg (nI_ge hlt (by omega))]
      rfl
    · rw [e_X5_drawAll_L86, if_pos (nI_le (Nat.le_refl n) (by omega)), kz_faultsOf k hk]
      rw [Option.bind_some]
      try dsimp only
      rw [t2, kz_next s (by omega) (by omega), ← hfe]
      rw [Option.bind_some]
      try dsimp only
      rw [Option.bind_some]
      try dsimp only
      have hneg : ¬ (0 : Int32) ≤ nI f - nI (kz_fa k) := by
        have h := pk_sneg (a := f) (b := kz_fa k) (by omega) hlt
        rw [Int32.lt_iff_toInt_lt] at h
        rw [Int32.le_iff_toInt_le]
        omega
      rw [if_neg hneg]
  · obtain ⟨e, he⟩ : ∃ e, e = f - kz_fa k := ⟨_, rfl⟩
    have sub : nI f - nI (kz_fa k) = nI e := by rw [he]; exact pk_sub (by omega)
    obtain ⟨p, hpe⟩ : ∃ p, p = kz_up (kz_st s) % n := ⟨_, rfl⟩
    have hp : p < n := by rw [hpe]; exact Nat.mod_lt _ h0
    obtain ⟨so1, so2⟩ := kz_so_in k hk
    obtain ⟨S1, X1, Y1, Z1, S1', X1', Y1', Z1', q1, q2, q3, q4⟩ := kz_spoil (k := k) (o := 40 * d) (e := e) hn hp (by omega) S X Y Z S' X' Y' Z' (kz_so k) so2 hF
    refine ⟨kz_st (kz_st s), nI (e + 1), nI p, S1, X1, Y1, Z1, S1', X1', Y1', Z1', upd FA d (nI (e + 1)), upd FT d (nI p), ?_, ?_, q3, q4, pk_us, pk_us, Or.inr ⟨p, hp, rfl⟩, fun j hj => ⟨pk_un hj, pk_un hj⟩⟩
    · rw [cE]
      unfold f_X1_plant
      rw [if_neg (nI_in hk (by decide)), nI_clamp (show k < 2 ^ 31 by omega), kz_t1 k hk, t2, kz_below s (by omega) (by omega), ← hfe]
      rw [Option.bind_some]
      try dsimp only
      rw [if_pos (nI_le (by omega) (by omega)), kz_below (kz_st s) h0 (by omega), ← hpe]
      rw [Option.bind_some]
      try dsimp only
      rw [sub, nI_1, kz_t0 k hk, q1]
      rfl
    · rw [e_X5_drawAll_L86, if_pos (nI_le (Nat.le_refl n) (by omega)), kz_faultsOf k hk]
      rw [Option.bind_some]
      try dsimp only
      rw [t2, kz_next s (by omega) (by omega), ← hfe]
      rw [Option.bind_some]
      try dsimp only
      rw [Option.bind_some]
      try dsimp only
      rw [sub, if_pos (nI_pos' (by omega)), if_neg (nI_in hd (by decide)), nI_clamp (show d < 2 ^ 31 by omega), kz_next (kz_st s) h0 (by omega), ← hpe]
      rw [Option.bind_some]
      try dsimp only
      rw [pk_us, nI_add, nI_clamp (show 40 * d + p < 2 ^ 31 by omega), nI_1]
      have hno : ¬ (nI (40 * d + p) < 0 ∨ 120 ≤ 40 * d + p) := fun q => q.elim (nI_pos (by omega)) (fun h => by omega)
      have he4 : e ≤ 4 := by omega
      rcases (show e = 0 ∨ e = 1 ∨ e = 2 ∨ e = 3 ∨ e = 4 by omega) with h | h | h | h | h <;> subst h
      · rw [if_pos (by decide), if_neg hno]
        simp at q2
        obtain ⟨rfl, rfl, rfl, rfl⟩ := q2
        rfl
      · rw [if_neg (by decide), if_pos (by decide), if_neg hno]
        simp at q2
        obtain ⟨rfl, rfl, rfl, rfl⟩ := q2
        rfl
      · rw [if_neg (by decide), if_neg (by decide), if_pos (by decide), if_neg hno]
        simp at q2
        obtain ⟨rfl, rfl, rfl, rfl⟩ := q2
        rfl
      · rw [if_neg (by decide), if_neg (by decide), if_neg (by decide), if_pos (by decide), kz_sortsOf k hk]
        rw [Option.bind_some, if_neg hno]
        simp at q2
        obtain ⟨rfl, rfl, rfl, rfl⟩ := q2
        rfl
      · rw [if_neg (by decide), if_neg (by decide), if_neg (by decide), if_neg (by decide), if_neg hno]
        simp at q2
        obtain ⟨rfl, rfl, rfl, rfl⟩ := q2
        rfl
