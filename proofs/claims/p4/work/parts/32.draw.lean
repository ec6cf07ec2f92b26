/-! the drawing of class and reference, side by side. kz_F: a PART as it is drawn; kz_P: a PART as it is left behind (with its FAULT) -/
def kz_so (k : Nat) : Nat := match k with
  | 0 => 4
  | 1 => 3
  | 2 => 5
  | 3 => 6
  | 4 => 4
  | _ => 7
def kz_fa (k : Nat) : Nat := match k with
  | 0 => 3
  | 1 => 2
  | 2 => 4
  | 3 => 3
  | 4 => 5
  | _ => 2
theorem kz_so_in : ∀ k, k < 6 → 0 < kz_so k ∧ kz_so k ≤ 7 := by decide
theorem kz_fa_in : ∀ k, k < 6 → 0 < kz_fa k ∧ kz_fa k ≤ 5 := by decide
theorem kz_t0 : ∀ k, k < 6 → kq_t0 k = nI (kz_so k) := by decide
theorem kz_t1 : ∀ k, k < 6 → kq_t1 k = nI (kz_fa k) := by decide
theorem kz_sortsOf : ∀ k, k < 6 → f_X5_sortsOf (nI k) = some (nI (kz_so k)) := by decide +kernel
theorem kz_faultsOf : ∀ k, k < 6 → f_X5_faultsOf (nI k) = some (nI (kz_fa k)) := by decide +kernel
def kz_F (k o i : Nat) (S X Y Z S' : Nat → Int32) (X' Y' Z' : Nat → Int64) : Prop :=
  (∃ a, a ≤ 6 ∧ S i = nI a ∧ S' (o + i) = nI a) ∧ (∃ a, a ≤ 256 + 17 * (i + 1) ∧ (k = 0 → a ≤ i) ∧ X i = nI a ∧ X' (o + i) = lN a) ∧
  (∃ a, a ≤ 63 ∧ Y i = nI a ∧ Y' (o + i) = lN a) ∧ ∃ a, a ≤ 999 ∧ Z i = nI a ∧ Z' (o + i) = lN a
def kz_P (o i : Nat) (S X Y Z S' : Nat → Int32) (X' Y' Z' : Nat → Int64) : Prop :=
  (∃ a, a ≤ 7 ∧ S i = nI a ∧ S' (o + i) = nI a) ∧ (∃ a, a ≤ 1999 ∧ X i = nI a ∧ X' (o + i) = lN a) ∧
  (∃ a, a ≤ 63 ∧ ((Y i = nI a ∧ Y' (o + i) = lN a) ∨ (Y i = -1 - nI a ∧ Y' (o + i) = -1 - lN a))) ∧ ∃ a, a ≤ 1999 ∧ Z i = nI a ∧ Z' (o + i) = lN a
theorem kz_F_step {k o i : Nat} {S X Y Z S' : Nat → Int32} {X' Y' Z' : Nat → Int64} (h : ∀ j, j < i → kz_F k o j S X Y Z S' X' Y' Z') {a x y z : Nat} (ha : a ≤ 6) (hx : x ≤ 256 + 17 * (i + 1)) (hx0 : k = 0 → x ≤ i) (hy : y ≤ 63) (hz : z ≤ 999) :
    ∀ j, j < i + 1 → kz_F k o j (upd S i (nI a)) (upd X i (nI x)) (upd Y i (nI y)) (upd Z i (nI z)) (upd S' (o + i) (nI a)) (vp_updL X' (o + i) (lN x)) (vp_updL Y' (o + i) (lN y)) (vp_updL Z' (o + i) (lN z)) := by
  intro j hj
  by_cases e : j = i
  · subst e
    exact ⟨⟨a, ha, pk_us, pk_us⟩, ⟨x, hx, hx0, pk_us, pk_uLs⟩, ⟨y, hy, pk_us, pk_uLs⟩, ⟨z, hz, pk_us, pk_uLs⟩⟩
  · obtain ⟨⟨a1, b1, c1, d1⟩, ⟨a2, b2, e2, c2, d2⟩, ⟨a3, b3, c3, d3⟩, ⟨a4, b4, c4, d4⟩⟩ := h j (by omega)
    have n1 : o + j ≠ o + i := by omega
    exact ⟨⟨a1, b1, (pk_un e).trans c1, (pk_un n1).trans d1⟩, ⟨a2, b2, e2, (pk_un e).trans c2, (pk_uLn n1).trans d2⟩, ⟨a3, b3, (pk_un e).trans c3, (pk_uLn n1).trans d3⟩, ⟨a4, b4, (pk_un e).trans c4, (pk_uLn n1).trans d4⟩⟩
theorem kz_F_P {k o i : Nat} {S X Y Z S' : Nat → Int32} {X' Y' Z' : Nat → Int64} (hi : i < 40) (h : kz_F k o i S X Y Z S' X' Y' Z') : kz_P o i S X Y Z S' X' Y' Z' := by
  obtain ⟨⟨a1, b1, c1, d1⟩, ⟨a2, b2, e2, c2, d2⟩, ⟨a3, b3, c3, d3⟩, ⟨a4, b4, c4, d4⟩⟩ := h
  exact ⟨⟨a1, by omega, c1, d1⟩, ⟨a2, by omega, c2, d2⟩, ⟨a3, b3, Or.inl ⟨c3, d3⟩⟩, ⟨a4, by omega, c4, d4⟩⟩
theorem kz_l8 (a b : Nat) : lN a * lN b = lN (a * b) := lN_mul a b
theorem kz_drawX {k i o : Nat} (hk : k < 6) (hi : i < 40) (ho : o ≤ 80) (s : Int64) (S X S' : Nat → Int32) (X' : Nat → Int64) {a : Nat} (ha : a ≤ 6) (hS : S i = nI a) (hS' : S' (o + i) = nI a) (hX : 0 < i → ∃ x, x ≤ 256 + 17 * i ∧ X (i - 1) = nI x ∧ X' (o + (i - 1)) = lN x) :
    ∃ v, v ≤ 256 + 17 * (i + 1) ∧ (k = 0 → v ≤ i) ∧ f_X1_drawX s S X (nI k) (nI i) = some (nI v, kz_st s) ∧ f_X5_drawX s S' X' (nI k) (nI i) (nI (o + i)) = some (lN v, kz_st s) := by
  have m1 : ∀ n, 0 < n → kz_up s % n < n := fun n h => Nat.mod_lt _ h
  have tl : ∀ {m : Nat}, m < 2 ^ 31 → (nI m).toInt64 = lN m := fun h => nI_l h
  rcases (show k = 0 ∨ k = 1 ∨ k = 2 ∨ k = 3 ∨ k = 4 ∨ k = 5 by omega) with rfl | rfl | rfl | rfl | rfl | rfl
  · have hm := m1 (i + 1) (by omega)
    refine ⟨kz_up s % (i + 1), by omega, fun _ => by omega, ?_, ?_⟩
    · unfold f_X1_drawX
      rw [if_pos (by decide), nI_1, kz_below s (by omega) (by omega)]
      rfl
    · unfold f_X5_drawX
      rw [if_neg (by decide), if_neg (by decide), if_neg (by decide), if_neg (by decide), if_neg (by decide), nI_1, kz_next s (by omega) (by omega)]
      simp only [Option.bind_some]
      rw [tl (by omega)]
  · have hm := m1 8 (by omega)
    refine ⟨8 * (kz_up s % 8), by omega, fun h => by omega, ?_, ?_⟩
    · unfold f_X1_drawX
      rw [if_neg (by decide), if_pos (by decide), show f_X0_below s 8 = _ from kz_below s (n := 8) (by omega) (by omega)]
      simp only [Option.bind_some]
      rw [show (8 : Int32) * nI (kz_up s % 8) = _ from pk_mul 8 _]
    · unfold f_X5_drawX
      rw [if_pos (by decide), show f_X5_next s 8 = _ from kz_next s (n := 8) (by omega) (by omega)]
      simp only [Option.bind_some]
      rw [tl (by omega), show (8 : Int64) * lN (kz_up s % 8) = _ from kz_l8 8 _]
  · have hm := m1 16 (by omega)
    by_cases h0 : i = 0
    · subst h0
      refine ⟨1 + kz_up s % 16, by omega, fun h => by omega, ?_, ?_⟩
      · unfold f_X1_drawX
        rw [if_neg (by decide), if_neg (by decide), if_pos (by decide), if_pos (by decide), show f_X0_below s 16 = _ from kz_below s (n := 16) (by omega) (by omega)]
        simp only [Option.bind_some]
        rw [show ((0 : Int32) + 1) + nI (kz_up s % 16) = _ from nI_add 1 _]
      · unfold f_X5_drawX
        rw [if_neg (by decide), if_pos (by decide), if_pos (by decide), show f_X5_next s 16 = _ from kz_next s (n := 16) (by omega) (by omega)]
        simp only [Option.bind_some]
        rw [tl (by omega), show ((0 : Int64) + 1) + lN (kz_up s % 16) = _ from lN_add 1 _]
    · obtain ⟨x, hx, e1, e2⟩ := hX (by omega)
      obtain ⟨j, rfl⟩ : ∃ j, i = j + 1 := ⟨i - 1, by omega⟩
      rw [Nat.add_sub_cancel] at e1 e2
      refine ⟨x + 1 + kz_up s % 16, by omega, fun h => by omega, ?_, ?_⟩
      · unfold f_X1_drawX
        rw [if_neg (by decide), if_neg (by decide), if_pos (by decide), if_neg (nI_nle (by omega) (by omega)), nI_pred, if_neg (nI_in (show j < 40 by omega) (by decide)), nI_clamp (show j < 2 ^ 31 by omega), e1, show f_X0_below s 16 = _ from kz_below s (n := 16) (by omega) (by omega)]
        simp only [Option.bind_some]
        rw [nI_1, nI_add]
      · unfold f_X5_drawX
        have e3 : nI (o + (j + 1)) - 1 = nI (o + j) := nI_pred (o + j)
        rw [if_neg (by decide), if_pos (by decide), if_neg (nI_ne0 (by omega) (by omega)), e3, if_neg (nI_in (show o + j < 120 by omega) (by decide)), nI_clamp (show o + j < 2 ^ 31 by omega), e2, show f_X5_next s 16 = _ from kz_next s (n := 16) (by omega) (by omega)]
        simp only [Option.bind_some]
        rw [tl (by omega), lN_1, lN_add]
  · have hm := m1 (i + 1) (by omega)
    refine ⟨kz_up s % (i + 1), by omega, fun h => by omega, ?_, ?_⟩
    · unfold f_X1_drawX
      rw [if_neg (by decide), if_neg (by decide), if_neg (by decide), if_pos (by decide), nI_1, kz_below s (by omega) (by omega)]
      rfl
    · unfold f_X5_drawX
      rw [if_neg (by decide), if_neg (by decide), if_pos (by decide), nI_1, kz_next s (by omega) (by omega)]
      simp only [Option.bind_some]
      rw [tl (by omega)]
  · have hm := m1 256 (by omega)
    refine ⟨kz_up s % 256, by omega, fun h => by omega, ?_, ?_⟩
    · unfold f_X1_drawX
      rw [if_neg (by decide), if_neg (by decide), if_neg (by decide), if_neg (by decide), if_pos (by decide), show f_X0_below s 256 = _ from kz_below s (n := 256) (by omega) (by omega)]
      rfl
    · unfold f_X5_drawX
      rw [if_neg (by decide), if_neg (by decide), if_neg (by decide), if_pos (by decide), show f_X5_next s 256 = _ from kz_next s (n := 256) (by omega) (by omega)]
      simp only [Option.bind_some]
      rw [tl (by omega)]
  · have hm := m1 4 (by omega)
    refine ⟨16 * (kz_up s % 4) + a, by omega, fun h => by omega, ?_, ?_⟩
    · unfold f_X1_drawX
      rw [if_neg (by decide), if_neg (by decide), if_neg (by decide), if_neg (by decide), if_neg (by decide), show f_X0_below s 4 = _ from kz_below s (n := 4) (by omega) (by omega)]
      simp only [Option.bind_some]
      rw [if_neg (nI_in hi (by decide)), nI_clamp (show i < 2 ^ 31 by omega), hS, show (16 : Int32) * nI (kz_up s % 4) = _ from pk_mul 16 _, nI_add]
    · unfold f_X5_drawX
      rw [if_neg (by decide), if_neg (by decide), if_neg (by decide), if_neg (by decide), if_pos (by decide), show f_X5_next s 4 = _ from kz_next s (n := 4) (by omega) (by omega)]
      simp only [Option.bind_some]
      rw [if_neg (nI_in (show o + i < 120 by omega) (by decide)), nI_clamp (show o + i < 2 ^ 31 by omega), hS', tl (by omega), tl (by omega), show (16 : Int64) * lN (kz_up s % 4) = _ from kz_l8 16 _, lN_add]
