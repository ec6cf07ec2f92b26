theorem kz_b64 (s : Int64) : f_X0_below s 64 = some (nI (kz_up s % 64), kz_st s) := kz_below s (n := 64) (by omega) (by omega)
theorem kz_n64 (s : Int64) : f_X5_next s 64 = some (nI (kz_up s % 64), kz_st s) := kz_next s (n := 64) (by omega) (by omega)
theorem kz_b1000 (s : Int64) : f_X0_below s 1000 = some (nI (kz_up s % 1000), kz_st s) := kz_below s (n := 1000) (by omega) (by omega)
theorem kz_n1000 (s : Int64) : f_X5_next s 1000 = some (nI (kz_up s % 1000), kz_st s) := kz_next s (n := 1000) (by omega) (by omega)
theorem kz_lN0 : lN 0 = 0 := rfl
theorem kz_drawY_B {k i a : Nat} (hk : k < 6) (hi : i < 40) (ha : a ≤ 6) (s : Int64) (S X Y : Nat → Int32) (hS : S i = nI a) (h : ¬ (k = 0 ∧ a = 3)) : f_X1_drawY s S X Y (nI k) (nI i) = some (nI (kz_up s % 64), kz_st s) := by
  unfold f_X1_drawY
  by_cases h0 : k = 0
  · subst h0
    have h3 : ¬ nI a = 3 := fun q => h ⟨rfl, (nI_eq (by omega) (show 3 < 2 ^ 31 by decide)).mp q⟩
    rw [if_pos (by decide), if_neg (nI_in hi (by decide)), nI_clamp (show i < 2 ^ 31 by omega), hS, if_neg h3, kz_b64]
    rfl
  · rw [if_neg (nI_ne0 (by omega) (by omega)), kz_b64]
    rfl
theorem kz_drawY_A {i v : Nat} (hi : i < 40) (hv : v ≤ i) (s : Int64) (S X Y : Nat → Int32) (hS : S i = nI 3) (hX : X i = nI v) {y : Nat} (hY : v < i → Y v = nI y) (h0 : v = i → y = 0) : f_X1_drawY s S X Y (nI 0) (nI i) = some (nI y, s) := by
  unfold f_X1_drawY
  rw [if_pos (by decide), if_neg (nI_in hi (by decide)), nI_clamp (show i < 2 ^ 31 by omega), hS, if_pos (by decide), hX, if_neg (nI_pos (by omega))]
  by_cases e : v = i
  · rw [h0 e, if_pos (nI_le (by omega) (by omega))]
    rfl
  · rw [if_neg (nI_ge (by omega) (by omega)), if_neg (nI_in (show v < 40 by omega) (by decide)), nI_clamp (show v < 2 ^ 31 by omega), hY (by omega)]
theorem kz_fill_c {k n : Nat} (hk : k < 6) (hn : n ≤ 40) (P1 fl fp : Int32) (F : Nat) {i : Nat} (hin : i < n) (s s2 s3 : Int64) (S X Y Z : Nat → Int32) {a v y : Nat} (hae : kz_up s % kz_so k = a) (dx : f_X1_drawX (kz_st s) (upd S i (nI a)) X (nI k) (nI i) = some (nI v, s2)) (dy : f_X1_drawY s2 (upd S i (nI a)) (upd X i (nI v)) Y (nI k) (nI i) = some (nI y, s3)) :
    f_X1_fill_L48 (nI k) P1 (F + 1) (nI n) fl fp s S X Y Z (nI i) = f_X1_fill_L48 (nI k) P1 F (nI n) fl fp (kz_st s3) (upd S i (nI a)) (upd X i (nI v)) (upd Y i (nI y)) (upd Z i (nI (kz_up s3 % 1000))) (nI (i + 1)) := by
  obtain ⟨so1, so2⟩ := kz_so_in k hk
  have hi31 : i < 2 ^ 31 := by omega
  rw [e_X1_fill_L48, if_neg (nI_ge hin (by omega)), if_neg (nI_in hk (by decide)), nI_clamp (show k < 2 ^ 31 by omega), kz_t0 k hk, kz_below s so1 (by omega), hae]
  rw [Option.bind_some]
  try dsimp only
  rw [if_neg (nI_in (show i < 40 by omega) (by decide)), nI_clamp hi31, dx]
  rw [Option.bind_some]
  try dsimp only
  rw [dy]
  rw [Option.bind_some]
  try dsimp only
  rw [kz_b1000]
  rw [Option.bind_some]
  try dsimp only
  rw [nI_1]
