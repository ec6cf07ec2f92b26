/-! numbers in tens, by class and reference -/
def kz_len (v : Nat) : Nat := if v < 10 then 1 else if v < 100 then 2 else if v < 1000 then 3 else 4
def kz_ch (v i : Nat) : Nat := 48 + v / 10 ^ (kz_len v - 1 - i) % 10
theorem kz_len_in (v : Nat) : 0 < kz_len v ∧ kz_len v ≤ 4 := by
  unfold kz_len
  split
  · omega
  · split
    · omega
    · split <;> omega
theorem kz_lenF {v j : Nat} (hv : v < 10000) (hj : j < 4) : (j + 1 = kz_len v → v / 10 ^ j ≤ 9) ∧ (j + 1 < kz_len v → 10 ≤ v / 10 ^ j) := by
  unfold kz_len
  rcases (show j = 0 ∨ j = 1 ∨ j = 2 ∨ j = 3 by omega) with rfl | rfl | rfl | rfl <;> (split; omega; split; omega; split <;> omega)
theorem kz_d10 {v : Nat} (h : v < 2 ^ 31) : nI v / 10 = nI (v / 10) := pk_div h (d := 10) (by decide) (by decide)
theorem kz_dig0 (p0 : Int32) {x d c : Nat} (F : Nat) (h : x = 0) : f_X6_digits_L9 p0 (F + 1) (nI d) (nI x) (nI c) = some (nI d) := by
  rw [e_X6_digits_L9]
  by_cases h4 : (10 : Int32) ≤ nI c
  · rw [if_pos h4]
  · rw [if_neg h4, h, if_pos (by decide)]
theorem kz_dig1 (p0 : Int32) {x d c : Nat} (F : Nat) (h : 0 < x) (hx : x < 2 ^ 31) (hc : c < 10) : f_X6_digits_L9 p0 (F + 1) (nI d) (nI x) (nI c) = f_X6_digits_L9 p0 F (nI (d + 1)) (nI (x / 10)) (nI (c + 1)) := by
  rw [e_X6_digits_L9, if_neg (show ¬ (10 : Int32) ≤ nI c from nI_ge (a := c) (b := 10) hc (by decide)), if_neg (nI_ne0 h hx), kz_d10 hx, nI_1, nI_1]
theorem kz_digits {v : Nat} (hv : v < 10000) : f_X6_digits (nI v) = some (nI (kz_len v)) := by
  have e : f_X6_digits (nI v) = f_X6_digits_L9 (nI v) 64 (nI 1) (nI (v / 10)) (nI 0) := by
    unfold f_X6_digits
    rw [kz_d10 (by omega)]
    rfl
  rw [e]
  unfold kz_len
  split
  · exact kz_dig0 _ 63 (by omega)
  · split
    · rw [kz_dig1 _ 63 (by omega) (by omega) (by omega)]
      exact kz_dig0 _ 62 (by omega)
    · split
      · rw [kz_dig1 _ 63 (by omega) (by omega) (by omega), kz_dig1 _ 62 (by omega) (by omega) (by omega)]
        exact kz_dig0 _ 61 (by omega)
      · rw [kz_dig1 _ 63 (by omega) (by omega) (by omega), kz_dig1 _ 62 (by omega) (by omega) (by omega), kz_dig1 _ 61 (by omega) (by omega) (by omega)]
        exact kz_dig0 _ 60 (by omega)
theorem kz_length {v : Nat} (hv : v < 10000) : f_X6_length (nI v) = some (nI (kz_len v)) := by
  unfold f_X6_length
  rw [kz_digits hv, Option.bind_some, if_pos (nI_pos' (by omega)), Int32.add_zero]
theorem kz_L25 (p0 p1 : Int32) : ∀ (m x b c F : Nat), c + m = b → b ≤ 9 → x < 2 ^ 31 → f_X6_letterAt_L25 p0 p1 (m + F + 1) (nI x) (nI b) (nI c) = some (nI (48 + x / 10 ^ m % 10))
  | 0, x, b, c, F, h, hb, hx => by
    have e : c = b := by omega
    subst e
    have hr : nI x - nI x / 10 * 10 = nI (x % 10) := pk_rem hx (d := 10) (by decide) (by decide)
    have hp : (0 : Int32) ≤ nI (x % 10) := nI_pos' (by omega)
    rw [e_X6_letterAt_L25, if_pos (nI_le (Nat.le_refl c) (by omega)), hr, if_pos hp, show (48 : Int32) + nI (x % 10) = nI (48 + x % 10) from nI_add 48 _, Nat.pow_zero, Nat.div_one]
  | m + 1, x, b, c, F, h, hb, hx => by
    rw [show m + 1 + F + 1 = (m + F + 1) + 1 by omega, e_X6_letterAt_L25, if_neg (nI_ge (by omega) (by omega)), if_neg (show ¬ (10 : Int32) ≤ nI c from nI_ge (a := c) (b := 10) (by omega) (by decide)), kz_d10 hx, nI_1, kz_L25 p0 p1 m (x / 10) b (c + 1) F (by omega) hb (by omega), Nat.div_div_eq_div_mul, show 10 * 10 ^ m = 10 ^ (m + 1) by rw [Nat.pow_succ, Nat.mul_comm]]
theorem kz_letterP {v i : Nat} (hv : v < 10000) (hi : i < kz_len v) : f_X6_letterAt (nI v) (nI i) = some (nI (kz_ch v i)) := by
  obtain ⟨l1, l2⟩ := kz_len_in v
  have e : (nI (kz_len v) - 1) - nI i = nI (kz_len v - 1 - i) := by
    rw [show nI (kz_len v) - 1 = nI (kz_len v - 1) from pk_sub (a := kz_len v) (b := 1) l1, pk_sub (by omega)]
  have key := kz_L25 (nI v) (nI i) (kz_len v - 1 - i) v (kz_len v - 1 - i) 0 (63 - (kz_len v - 1 - i)) (by omega) (by omega) (by omega)
  rw [show kz_len v - 1 - i + (63 - (kz_len v - 1 - i)) + 1 = 64 by omega] at key
  unfold f_X6_letterAt kz_ch
  rw [if_pos (nI_pos' (by omega)), kz_length hv, Option.bind_some, e]
  exact key
theorem kz_byte : ∀ c, c < 128 → vp_nar .byte (nI c).toInt8.toInt32 = nI c := by decide +kernel
theorem kz_type {z c : Nat} (T : Nat → Int32) (hz : z < 1600) (hc : c < 128) : f_X5_type (nI z) T (nI c) = some (nI (z + 1), upd T z (nI c)) := by
  unfold f_X5_type
  rw [if_neg (nI_in hz (by decide)), nI_clamp (show z < 2 ^ 31 by omega), kz_byte c hc, nI_1]
theorem kz_p10 : ∀ j, j < 4 → 0 < 10 ^ j ∧ 10 ^ j ≤ 1000 := by decide
theorem kz_L48 (p0 : Int64) {v : Nat} (hv : v < 10000) : ∀ (j z F : Nat) (T : Nat → Int32), j < 4 → z + j + 1 ≤ 1600 →
    ∃ T1 : Nat → Int32, f_X5_typeNumber_L48 p0 (j + F + 2) (nI z) T (lN v) (lN (10 ^ j)) = some (nI (z + j + 1), T1) ∧ (∀ q, q < z → T1 q = T q) ∧ ∀ i, i ≤ j → T1 (z + i) = nI (48 + v / 10 ^ (j - i) % 10) := by
  intro j
  induction j with
  | zero =>
    intro z F T hj hz
    refine ⟨upd T z (nI (48 + v / 10 ^ 0 % 10)), ?_, fun q hq => pk_un (by omega), fun i hi => ?_⟩
    · have hd : lN v / lN (10 ^ 0) = lN (v / 10 ^ 0) := pk_lDiv (by omega) (by decide) (by decide)
      have hr : lN (v / 10 ^ 0) - lN (v / 10 ^ 0) / 10 * 10 = lN (v / 10 ^ 0 % 10) := pk_lRem (b := 10) (by rw [Nat.pow_zero, Nat.div_one]; omega) (by decide) (by decide)
      rw [show 0 + F + 2 = (F + 1) + 1 by omega, e_X5_typeNumber_L48, if_neg (by decide), if_neg (by decide), hd, hr, lN_i, show (48 : Int32) + nI (v / 10 ^ 0 % 10) = nI (48 + v / 10 ^ 0 % 10) from nI_add 48 _, kz_type T (by omega) (by omega), Option.bind_some]
      dsimp only
      rw [show lN (10 ^ 0) / 10 = 0 by decide, e_X5_typeNumber_L48, if_pos (by decide)]
    · have e : i = 0 := by omega
      subst e
      rw [Nat.add_zero, Nat.sub_self]
      exact pk_us
  | succ j ih =>
    intro z F T hj hz
    obtain ⟨p1, p2⟩ := kz_p10 (j + 1) hj
    have hq : v / 10 ^ (j + 1) ≤ v := Nat.div_le_self _ _
    have hd : lN v / lN (10 ^ (j + 1)) = lN (v / 10 ^ (j + 1)) := pk_lDiv (by omega) p1 (by omega)
    have hr : lN (v / 10 ^ (j + 1)) - lN (v / 10 ^ (j + 1)) / 10 * 10 = lN (v / 10 ^ (j + 1) % 10) := pk_lRem (b := 10) (by omega) (by decide) (by decide)
    have h10 : lN (10 ^ (j + 1)) / 10 = lN (10 ^ j) := by
      rw [show lN (10 ^ (j + 1)) / 10 = lN (10 ^ (j + 1) / 10) from pk_lDiv (b := 10) (by omega) (by decide) (by decide), Nat.pow_succ, Nat.mul_div_cancel _ (by decide)]
    have hpos : ¬ lg_cmp (lN (10 ^ (j + 1))) 0 ≤ 0 := fun q => by
      have := (pk_lLE (b := 0) (by omega) (by decide)).mp ((lg_cmp_le _ _).mp q)
      omega
    have hne : ¬ lN (10 ^ (j + 1)) = 0 := fun q => by
      have := (pk_lEQ (b := 0) (by omega) (by decide)).mp q
      omega
    obtain ⟨T1, t1, t2, t3⟩ := ih (z + 1) F (upd T z (nI (48 + v / 10 ^ (j + 1) % 10))) (by omega) (by omega)
    refine ⟨T1, ?_, fun q hq => (t2 q (by omega)).trans (pk_un (by omega)), fun i hi => ?_⟩
    · rw [show j + 1 + F + 2 = (j + F + 2) + 1 by omega, e_X5_typeNumber_L48, if_neg hpos, if_neg hne, hd, hr, lN_i, show (48 : Int32) + nI (v / 10 ^ (j + 1) % 10) = nI (48 + v / 10 ^ (j + 1) % 10) from nI_add 48 _, kz_type T (by omega) (by omega), Option.bind_some]
      dsimp only
      rw [h10, t1, show z + 1 + j + 1 = z + (j + 1) + 1 by omega]
    · by_cases e : i = 0
      · subst e
        rw [Nat.add_zero, Nat.sub_zero, t2 z (by omega)]
        exact pk_us
      · have := t3 (i - 1) (by omega)
        rw [show z + 1 + (i - 1) = z + i by omega, show j - (i - 1) = j + 1 - i by omega] at this
        exact this
theorem kz_L26 (p0 : Int64) {v : Nat} (hv : v < 10000) (z : Int32) (T : Nat → Int32) : ∀ (m j F : Nat), j + m + 1 = kz_len v → f_X5_typeNumber_L26 p0 (m + F + 1) z T (lN v) (lN (10 ^ j)) = f_X5_typeNumber_L48 p0 64 z T (lN v) (lN (10 ^ (kz_len v - 1)))
  | 0, j, F, h => by
    obtain ⟨l1, l2⟩ := kz_len_in v
    obtain ⟨p1, p2⟩ := kz_p10 j (by omega)
    have hq : v / 10 ^ j ≤ v := Nat.div_le_self _ _
    have hd : lN v / lN (10 ^ j) = lN (v / 10 ^ j) := pk_lDiv (by omega) p1 (by omega)
    have hne : ¬ lN (10 ^ j) = 0 := fun q => by
      have := (pk_lEQ (b := 0) (by omega) (by decide)).mp q
      omega
    have hle : lg_cmp (lN (v / 10 ^ j)) 9 ≤ 0 := (lg_cmp_le _ _).mpr ((pk_lLE (b := 9) (by omega) (by decide)).mpr ((kz_lenF hv (by omega)).1 (by omega)))
    rw [e_X5_typeNumber_L26, if_neg hne, hd, if_pos hle, show kz_len v - 1 = j by omega]
  | m + 1, j, F, h => by
    obtain ⟨l1, l2⟩ := kz_len_in v
    obtain ⟨p1, p2⟩ := kz_p10 j (by omega)
    have hq : v / 10 ^ j ≤ v := Nat.div_le_self _ _
    have hd : lN v / lN (10 ^ j) = lN (v / 10 ^ j) := pk_lDiv (by omega) p1 (by omega)
    have hne : ¬ lN (10 ^ j) = 0 := fun q => by
      have := (pk_lEQ (b := 0) (by omega) (by decide)).mp q
      omega
    have hle : ¬ lg_cmp (lN (v / 10 ^ j)) 9 ≤ 0 := fun q => by
      have h1 := (pk_lLE (b := 9) (by omega) (by decide)).mp ((lg_cmp_le _ _).mp q)
      have h2 := (kz_lenF hv (show j < 4 by omega)).2 (by omega)
      omega
    have hm : lN (10 ^ j) * 10 = lN (10 ^ (j + 1)) := by
      rw [show lN (10 ^ j) * 10 = lN (10 ^ j * 10) from lN_mul _ 10, Nat.pow_succ]
    rw [show m + 1 + F + 1 = (m + F + 1) + 1 by omega, e_X5_typeNumber_L26, if_neg hne, hd, if_neg hle, hm]
    exact kz_L26 p0 hv z T m (j + 1) F (by omega)
/-- a number's text: its length and its letters, as both sides make them -/
def kz_T (c : Int32) (m : Int64) (len : Nat) (ch : Nat → Nat) : Prop := 0 < len ∧ len ≤ 4 ∧ f_X6_length c = some (nI len) ∧ (∀ i, i < len → f_X6_letterAt c (nI i) = some (nI (ch i))) ∧
  ∀ (z : Nat) (T : Nat → Int32), z + 1 + len ≤ 1600 → ∃ T1 : Nat → Int32, f_X5_typeNumber (nI z) T m = some (nI (z + 1 + len), T1) ∧ (∀ q, q < z → T1 q = T q) ∧ T1 z = nI 32 ∧ ∀ i, i < len → T1 (z + 1 + i) = nI (ch i)
theorem kz_digs (p0 : Int64) {v : Nat} (hv : v < 10000) {z : Nat} (T : Nat → Int32) (hz : z + kz_len v ≤ 1600) : ∃ T1 : Nat → Int32, f_X5_typeNumber_L26 p0 64 (nI z) T (lN v) 1 = some (nI (z + kz_len v), T1) ∧ (∀ q, q < z → T1 q = T q) ∧ ∀ i, i < kz_len v → T1 (z + i) = nI (kz_ch v i) := by
  obtain ⟨l1, l2⟩ := kz_len_in v
  obtain ⟨T1, t1, t2, t3⟩ := kz_L48 p0 hv (kz_len v - 1) z (62 - (kz_len v - 1)) T (by omega) (by omega)
  rw [show kz_len v - 1 + (62 - (kz_len v - 1)) + 2 = 64 by omega, show z + (kz_len v - 1) + 1 = z + kz_len v by omega] at t1
  have e := kz_L26 p0 hv (nI z) T (kz_len v - 1) 0 (63 - (kz_len v - 1)) (by omega)
  rw [show kz_len v - 1 + (63 - (kz_len v - 1)) + 1 = 64 by omega] at e
  refine ⟨T1, (show f_X5_typeNumber_L26 p0 64 (nI z) T (lN v) 1 = _ from e).trans t1, t2, fun i hi => ?_⟩
  rw [t3 i (by omega)]
  rfl
theorem kz_Tpos {a : Nat} (h : a ≤ 1999) : kz_T (nI a) (lN a) (kz_len a) (kz_ch a) := by
  obtain ⟨l1, l2⟩ := kz_len_in a
  refine ⟨l1, l2, kz_length (by omega), fun i hi => kz_letterP (by omega) hi, fun z T hz => ?_⟩
  obtain ⟨T1, t1, t2, t3⟩ := kz_digs (lN a) (v := a) (by omega) (z := z + 1) (upd T z (nI 32)) (by omega)
  refine ⟨T1, ?_, fun q hq => (t2 q (by omega)).trans (pk_un (by omega)), (t2 z (by omega)).trans pk_us, t3⟩
  have h0 : (0 : Int32) ≤ lg_cmp (lN a) 0 := (lg_cmp_ge _ _).mpr ((pk_lLE (a := 0) (by decide) (by omega)).mpr (by omega))
  unfold f_X5_typeNumber
  rw [show f_X5_type (nI z) T 32 = _ from kz_type (c := 32) T (by omega) (by omega), Option.bind_some, if_pos h0]
  exact t1
theorem kz_negm : ∀ a, a < 64 → ¬ (0 : Int32) ≤ lg_cmp (-1 - lN a) 0 ∧ -(-1 - lN a) = lN (a + 1) := by decide +kernel
theorem kz_negl : ∀ a, a < 64 → f_X6_length (-1 - nI a) = some (nI (1 + kz_len (a + 1))) := by decide +kernel
theorem kz_negc : ∀ a, a < 64 → ∀ i, i < 3 → i < 1 + kz_len (a + 1) → f_X6_letterAt (-1 - nI a) (nI i) = some (nI (if i = 0 then 45 else kz_ch (a + 1) (i - 1))) := by decide +kernel
theorem kz_len2 {a : Nat} (h : a < 64) : kz_len (a + 1) ≤ 2 := by
  unfold kz_len
  split
  · omega
  · split <;> omega
theorem kz_Tneg {a : Nat} (h : a ≤ 63) : kz_T (-1 - nI a) (-1 - lN a) (1 + kz_len (a + 1)) (fun i => if i = 0 then 45 else kz_ch (a + 1) (i - 1)) := by
  have l2 := kz_len2 (show a < 64 by omega)
  obtain ⟨n1, n2⟩ := kz_negm a (by omega)
  refine ⟨by omega, by omega, kz_negl a (by omega), fun i hi => kz_negc a (by omega) i (by omega) hi, fun z T hz => ?_⟩
  obtain ⟨T1, t1, t2, t3⟩ := kz_digs (-1 - lN a) (v := a + 1) (by omega) (z := z + 1 + 1) (upd (upd T z (nI 32)) (z + 1) (nI 45)) (by omega)
  refine ⟨T1, ?_, fun q hq => ((t2 q (by omega)).trans (pk_un (by omega))).trans (pk_un (by omega)), ((t2 z (by omega)).trans (pk_un (by omega))).trans pk_us, fun i hi => ?_⟩
  · unfold f_X5_typeNumber
    rw [show f_X5_type (nI z) T 32 = _ from kz_type (c := 32) T (by omega) (by omega), Option.bind_some, if_neg n1]
    dsimp only
    rw [show f_X5_type (nI (z + 1)) (upd T z (nI 32)) 45 = _ from kz_type (c := 45) _ (by omega) (by omega), Option.bind_some, n2]
    dsimp only
    rw [t1, show z + 1 + 1 + kz_len (a + 1) = z + 1 + (1 + kz_len (a + 1)) by omega]
  · show T1 (z + 1 + i) = nI (if i = 0 then 45 else kz_ch (a + 1) (i - 1))
    by_cases e : i = 0
    · subst e
      rw [if_pos rfl, Nat.add_zero, t2 (z + 1) (by omega)]
      exact pk_us
    · have := t3 (i - 1) (by omega)
      rw [show z + 1 + 1 + (i - 1) = z + 1 + i by omega] at this
      rw [if_neg e]
      exact this
