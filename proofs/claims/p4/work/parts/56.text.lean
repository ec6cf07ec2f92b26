/-! THE TEXT of what is LEFT -/
def kz_ln (s lx ly lz : Nat) (cx cy cz : Nat → Nat) (r : Nat) : Nat := if r = 0 then 97 + s else if r = 1 then 32 else if r < 2 + lx then cx (r - 2) else if r = 2 + lx then 32 else if r < 3 + lx + ly then cy (r - 3 - lx) else if r = 3 + lx + ly then 32 else if r < 4 + lx + ly + lz then cz (r - 4 - lx - ly) else 10
theorem kz_num {q : Nat} (hq : q < 40) (S X Y Z : Nat → Int32) : f_X1_number S X Y Z (nI q) 1 = some (X q) ∧ f_X1_number S X Y Z (nI q) 2 = some (Y q) ∧ f_X1_number S X Y Z (nI q) 3 = some (Z q) := by
  have c : ¬ (nI q < 0 ∨ 40 ≤ (nI q).toNatClampNeg) := nI_in hq (by decide)
  have d : (nI q).toNatClampNeg = q := nI_clamp (by omega)
  unfold f_X1_number
  refine ⟨?_, ?_, ?_⟩
  · rw [if_neg (by decide), if_pos (by decide), if_neg c, d]
  · rw [if_neg (by decide), if_neg (by decide), if_pos (by decide), if_neg c, d]
  · rw [if_neg (by decide), if_neg (by decide), if_neg (by decide), if_neg c, d]
theorem kz_lineLen {q lx ly lz : Nat} (hq : q < 40) (S X Y Z : Nat → Int32) (h1 : f_X6_length (X q) = some (nI lx)) (h2 : f_X6_length (Y q) = some (nI ly)) (h3 : f_X6_length (Z q) = some (nI lz)) : f_X3_lineLength S X Y Z (nI q) = some (nI (5 + lx + ly + lz)) := by
  obtain ⟨e1, e2, e3⟩ := kz_num hq S X Y Z
  have a : ∀ a l, nI a + (1 + nI l) = nI (a + (1 + l)) := fun a l => by rw [show (1 : Int32) + nI l = nI (1 + l) from nI_add 1 l, nI_add]
  unfold f_X3_lineLength
  rw [show (64 : Nat) = 60 + 1 + 1 + 1 + 1 from rfl, e_X3_lineLength_L4, if_neg (by decide), e1, Option.bind_some, h1, Option.bind_some, e_X3_lineLength_L4, if_neg (by decide), show (1 : Int32) + 1 = 2 by decide, e2, Option.bind_some, h2, Option.bind_some, e_X3_lineLength_L4, if_neg (by decide), show (2 : Int32) + 1 = 3 by decide, e3, Option.bind_some, h3, Option.bind_some, e_X3_lineLength_L4, if_pos (by decide), show (2 : Int32) = nI 2 from rfl, a, a, a]
  congr 2
  omega
theorem kz_lineLet {q s lx ly lz b : Nat} {cx cy cz : Nat → Nat} (hq : q < 40) (S X Y Z : Nat → Int32) (hS : S q = nI s) (h1 : f_X6_length (X q) = some (nI lx)) (h2 : f_X6_length (Y q) = some (nI ly)) (h3 : f_X6_length (Z q) = some (nI lz)) (lx4 : lx ≤ 4) (ly4 : ly ≤ 4) (lz4 : lz ≤ 4)
    (g1 : ∀ i, i < lx → f_X6_letterAt (X q) (nI i) = some (nI (cx i))) (g2 : ∀ i, i < ly → f_X6_letterAt (Y q) (nI i) = some (nI (cy i))) (g3 : ∀ i, i < lz → f_X6_letterAt (Z q) (nI i) = some (nI (cz i))) (hb : b < 5 + lx + ly + lz) : f_X3_letterOfLine S X Y Z (nI q) (nI b) = some (nI (kz_ln s lx ly lz cx cy cz b)) := by
  obtain ⟨e1, e2, e3⟩ := kz_num hq S X Y Z
  have a : ∀ l, (1 : Int32) + nI l = nI (1 + l) := fun l => nI_add 1 l
  unfold f_X3_letterOfLine kz_ln
  by_cases b0 : b = 0
  · subst b0
    rw [if_pos (by decide), if_neg (nI_in hq (by decide)), nI_clamp (show q < 2 ^ 31 by omega), hS, if_pos rfl, show (97 : Int32) + nI s = nI (97 + s) from nI_add 97 s]
  · rw [if_neg (nI_ne0 (by omega) (by omega)), if_neg b0, show nI b - 1 = nI (b - 1) from pk_sub (a := b) (b := 1) (by omega), show (64 : Nat) = 60 + 1 + 1 + 1 + 1 from rfl, e_X3_letterOfLine_L24, if_neg (by decide), e1, Option.bind_some, h1, Option.bind_some, a]
    by_cases c1 : 1 + lx ≤ b - 1
    · rw [if_pos (nI_le c1 (by omega)), pk_sub c1, show (1 : Int32) + 1 = 2 by decide, e_X3_letterOfLine_L24, if_neg (by decide), e2, Option.bind_some, h2, Option.bind_some, a]
      by_cases c2 : 1 + ly ≤ b - 1 - (1 + lx)
      · rw [if_pos (nI_le c2 (by omega)), pk_sub c2, show (2 : Int32) + 1 = 3 by decide, e_X3_letterOfLine_L24, if_neg (by decide), e3, Option.bind_some, h3, Option.bind_some, a]
        by_cases c3 : 1 + lz ≤ b - 1 - (1 + lx) - (1 + ly)
        · rw [if_pos (nI_le c3 (by omega)), pk_sub c3, e_X3_letterOfLine_L24, if_pos (by decide), if_neg (by omega), if_neg (by omega), if_neg (by omega), if_neg (by omega), if_neg (by omega), if_neg (by omega)]
          rfl
        · rw [if_neg (nI_ge (by omega) (by omega))]
          by_cases z0 : b - 1 - (1 + lx) - (1 + ly) = 0
          · rw [z0, if_pos (by decide), if_neg (by omega), if_neg (by omega), if_neg (by omega), if_neg (by omega), if_pos (by omega)]
            rfl
          · rw [if_neg (nI_ne0 (by omega) (by omega)), show nI (b - 1 - (1 + lx) - (1 + ly)) - 1 = nI (b - 1 - (1 + lx) - (1 + ly) - 1) from pk_sub (b := 1) (by omega), g3 _ (by omega), Option.bind_some, if_neg (by omega), if_neg (by omega), if_neg (by omega), if_neg (by omega), if_neg (by omega), if_pos (by omega), show b - 1 - (1 + lx) - (1 + ly) - 1 = b - 4 - lx - ly by omega]
      · rw [if_neg (nI_ge (by omega) (by omega))]
        by_cases z0 : b - 1 - (1 + lx) = 0
        · rw [z0, if_pos (by decide), if_neg (by omega), if_neg (by omega), if_pos (by omega)]
          rfl
        · rw [if_neg (nI_ne0 (by omega) (by omega)), show nI (b - 1 - (1 + lx)) - 1 = nI (b - 1 - (1 + lx) - 1) from pk_sub (b := 1) (by omega), g2 _ (by omega), Option.bind_some, if_neg (by omega), if_neg (by omega), if_neg (by omega), if_pos (by omega), show b - 1 - (1 + lx) - 1 = b - 3 - lx by omega]
    · rw [if_neg (nI_ge (by omega) (by omega))]
      by_cases z0 : b - 1 = 0
      · rw [z0, if_pos (by decide), if_pos (by omega)]
        rfl
      · rw [if_neg (nI_ne0 (by omega) (by omega)), show nI (b - 1) - 1 = nI (b - 1 - 1) from pk_sub (b := 1) (by omega), g1 _ (by omega), Option.bind_some, if_neg (by omega), if_pos (by omega), show b - 1 - 1 = b - 2 by omega]
/-- one line: its length and its letters; the reference's loop over those LEFT makes one step -/
theorem kz_line {n k : Nat} (hn : n ≤ 40) (hk : k ≤ n) (S X Y Z N S' : Nat → Int32) (X' Y' Z' : Nat → Int64) (LF : Nat → Int32) (hP : ∀ j, j < n → kz_P 0 j S X Y Z S' X' Y' Z') (hN : ∀ j, j < k → ∃ q, q < n ∧ N j = nI q ∧ LF j = nI q) {i : Nat} (hi : i < k) :
    ∃ (ll : Nat) (ln : Nat → Nat), 0 < ll ∧ ll ≤ 17 ∧ f_X3_lineLength S X Y Z (N i) = some (nI ll) ∧ (∀ b, b < ll → f_X3_letterOfLine S X Y Z (N i) (nI b) = some (nI (ln b))) ∧
      ∀ (z F : Nat) (T : Nat → Int32) (p0 cd : Int32), z + ll ≤ 1600 → ∃ T1 : Nat → Int32, f_X5_letter_L12 (nI k) S' X' Y' Z' LF p0 (F + 1) cd (nI z) T (nI i) = f_X5_letter_L12 (nI k) S' X' Y' Z' LF p0 F cd (nI (z + ll)) T1 (nI (i + 1)) ∧ (∀ q, q < z → T1 q = T q) ∧ ∀ b, b < ll → T1 (z + b) = nI (ln b) := by
  obtain ⟨q, hq, e1, e2⟩ := hN i hi
  have hp := hP q hq
  obtain ⟨s, hs, s1, s2⟩ := kz_P_s hp
  obtain ⟨lx, cx, x1, x2, x3, x4, x5⟩ : ∃ lx cx, kz_T (X q) (X' q) lx cx := by
    obtain ⟨a, h1, h2, h3⟩ := kz_P_x hp
    rw [h2, h3]
    exact ⟨_, _, kz_Tpos h1⟩
  obtain ⟨ly, cy, y1, y2, y3, y4, y5⟩ : ∃ ly cy, kz_T (Y q) (Y' q) ly cy := by
    obtain ⟨a, h1, h2 | h2⟩ := kz_P_y hp
    · rw [h2.1, h2.2]
      exact ⟨_, _, kz_Tpos (by omega)⟩
    · rw [h2.1, h2.2]
      exact ⟨_, _, kz_Tneg h1⟩
  obtain ⟨lz, cz, z1, z2, z3, z4, z5⟩ : ∃ lz cz, kz_T (Z q) (Z' q) lz cz := by
    obtain ⟨a, h1, h2, h3⟩ := kz_P_z hp
    rw [h2, h3]
    exact ⟨_, _, kz_Tpos h1⟩
  refine ⟨5 + lx + ly + lz, kz_ln s lx ly lz cx cy cz, by omega, by omega, ?_, fun b hb => ?_, fun z F T p0 cd hz => ?_⟩
  · rw [e1]
    exact kz_lineLen (by omega) S X Y Z x3 y3 z3
  · rw [e1]
    exact kz_lineLet (by omega) S X Y Z s1 x3 y3 z3 x2 y2 z2 x4 y4 z4 hb
  · have hlt : ¬ nI k ≤ nI i := nI_ge hi (by omega)
    have i40 : ¬ (nI i < 0 ∨ 40 ≤ (nI i).toNatClampNeg) := nI_in (show i < 40 by omega) (by decide)
    have ci : (nI i).toNatClampNeg = i := nI_clamp (by omega)
    have q120 : ¬ (nI q < 0 ∨ 120 ≤ (nI q).toNatClampNeg) := nI_in (show q < 120 by omega) (by decide)
    have cq : (nI q).toNatClampNeg = q := nI_clamp (by omega)
    obtain ⟨T2, a1, a2, a3, a4⟩ := x5 (z + 1) (upd T z (nI (97 + s))) (by omega)
    obtain ⟨T3, b1, b2, b3, b4⟩ := y5 (z + 1 + 1 + lx) T2 (by omega)
    obtain ⟨T4, c1, c2, c3, c4⟩ := z5 (z + 1 + 1 + lx + 1 + ly) T3 (by omega)
    refine ⟨upd T4 (z + 1 + 1 + lx + 1 + ly + 1 + lz) (nI 10), ?_, fun r hr => ?_, fun b hb => ?_⟩
    · rw [e_X5_letter_L12, if_neg hlt, if_neg i40, ci, e2, if_neg q120, cq, s2, show (97 : Int32) + nI s = nI (97 + s) from nI_add 97 s, kz_type T (by omega) (by omega), Option.bind_some]
      dsimp only
      rw [a1, Option.bind_some]
      dsimp only
      rw [b1, Option.bind_some]
      dsimp only
      rw [c1, Option.bind_some]
      dsimp only
      rw [show f_X5_type (nI (z + 1 + 1 + lx + 1 + ly + 1 + lz)) T4 10 = _ from kz_type (c := 10) T4 (by omega) (by omega), Option.bind_some]
      dsimp only
      rw [nI_1, show z + 1 + 1 + lx + 1 + ly + 1 + lz + 1 = z + (5 + lx + ly + lz) by omega]
    · rw [pk_un (by omega), c2 r (by omega), b2 r (by omega), a2 r (by omega), pk_un (by omega)]
    · unfold kz_ln
      by_cases r0 : b = 0
      · rw [if_pos r0, show z + b = z by omega, pk_un (by omega), c2 z (by omega), b2 z (by omega), a2 z (by omega), pk_us]
      rw [if_neg r0]
      by_cases r1 : b = 1
      · rw [if_pos r1, r1, pk_un (by omega), c2 _ (by omega), b2 _ (by omega), a3]
      rw [if_neg r1]
      by_cases r2 : b < 2 + lx
      · rw [if_pos r2, pk_un (by omega), c2 _ (by omega), b2 _ (by omega), show z + b = z + 1 + 1 + (b - 2) by omega, a4 _ (by omega)]
      rw [if_neg r2]
      by_cases r3 : b = 2 + lx
      · rw [if_pos r3, pk_un (by omega), c2 _ (by omega), show z + b = z + 1 + 1 + lx by omega, b3]
      rw [if_neg r3]
      by_cases r4 : b < 3 + lx + ly
      · rw [if_pos r4, pk_un (by omega), c2 _ (by omega), show z + b = z + 1 + 1 + lx + 1 + (b - 3 - lx) by omega, b4 _ (by omega)]
      rw [if_neg r4]
      by_cases r5 : b = 3 + lx + ly
      · rw [if_pos r5, pk_un (by omega), show z + b = z + 1 + 1 + lx + 1 + ly by omega, c3]
      rw [if_neg r5]
      by_cases r6 : b < 4 + lx + ly + lz
      · rw [if_pos r6, pk_un (by omega), show z + b = z + 1 + 1 + lx + 1 + ly + 1 + (b - 4 - lx - ly) by omega, c4 _ (by omega)]
      rw [if_neg r6, show z + b = z + 1 + 1 + lx + 1 + ly + 1 + lz by omega, pk_us]
