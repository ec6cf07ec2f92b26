/-! TO MAKE IT SHORTER, by class and reference -/
def kz_L (n k : Nat) (N LF : Nat → Int32) : Prop := ∀ j, j < k → ∃ q, q < n ∧ N j = nI q ∧ LF j = nI q
theorem kz_takeOut {n k f g : Nat} (hk : k ≤ 40) (hg : 0 < g) (P0 P1 P : Int32) (S' FT SV : Nat → Int32) (Z' : Nat → Int64) : ∀ (m i F : Nat) (N LF : Nat → Int32), i + m = k → f + g ≤ i → kz_L n k N LF →
    ∃ N1 LF1 : Nat → Int32, f_X3_takeOut_L7 P0 P1 (m + F + 1) (nI k) N (nI g) (nI i) = some (nI (k - g), N1) ∧ f_X5_pass_L61 S' Z' FT SV P (m + F + 1) (nI k) LF (nI f) (nI g) (nI (i - g)) = some (nI k, LF1, nI f, nI g) ∧ kz_L n k N1 LF1
  | 0, i, F, N, LF, hi, hf, hL => by
    have e : i = k := by omega
    subst e
    have hs : nI i - nI g = nI (i - g) := pk_sub (by omega)
    refine ⟨N, LF, ?_, ?_, hL⟩
    · rw [e_X3_takeOut_L7, if_pos (nI_le (Nat.le_refl i) (by omega)), hs]
    · rw [e_X5_pass_L61, hs, if_pos (nI_le (Nat.le_refl _) (by omega))]
  | m + 1, i, F, N, LF, hi, hf, hL => by
    have hs : nI i - nI g = nI (i - g) := pk_sub (by omega)
    have hkg : nI k - nI g = nI (k - g) := pk_sub (by omega)
    have hadd : nI (i - g) + nI g = nI i := by rw [nI_add]; congr 1; omega
    have ci : (nI i).toNatClampNeg = i := nI_clamp (by omega)
    have cg : (nI (i - g)).toNatClampNeg = i - g := nI_clamp (by omega)
    have i40 : ¬ (nI i < 0 ∨ 40 ≤ (nI i).toNatClampNeg) := nI_in (show i < 40 by omega) (by decide)
    have g40 : ¬ (nI (i - g) < 0 ∨ 40 ≤ (nI (i - g)).toNatClampNeg) := nI_in (show i - g < 40 by omega) (by decide)
    have hL1 : kz_L n k (upd N (i - g) (N i)) (upd LF (i - g) (LF i)) := fun j hj => by
      by_cases e : j = i - g
      · obtain ⟨q, hq, e1, e2⟩ := hL i (by omega)
        subst e
        exact ⟨q, hq, pk_us.trans e1, pk_us.trans e2⟩
      · obtain ⟨q, hq, e1, e2⟩ := hL j hj
        exact ⟨q, hq, (pk_un e).trans e1, (pk_un e).trans e2⟩
    obtain ⟨N1, LF1, h1, h2, h3⟩ := kz_takeOut (n := n) (f := f) hk hg P0 P1 P S' FT SV Z' m (i + 1) F _ _ (by omega) (by omega) hL1
    refine ⟨N1, LF1, ?_, ?_, h3⟩
    · rw [show m + 1 + F + 1 = (m + F + 1) + 1 by omega, e_X3_takeOut_L7, if_neg (nI_ge (by omega) (by omega)), if_neg i40, hs, if_neg g40, cg, ci, nI_1]
      exact h1
    · rw [show m + 1 + F + 1 = (m + F + 1) + 1 by omega, e_X5_pass_L61, hkg, if_neg (nI_ge (by omega) (by omega)), hadd, if_neg i40, if_neg g40, cg, ci, nI_1, show i - g + 1 = i + 1 - g by omega]
      exact h2
theorem kz_Q_L {n k : Nat} {fp : Int32} {N LF S S' Z FT : Nat → Int32} {Z' : Nat → Int64} (h : kz_Q n k fp N LF S S' Z FT Z') {k1 : Nat} (hk : k1 ≤ k) {N1 LF1 : Nat → Int32} (hL : kz_L n k N1 LF1) : kz_Q n k1 fp N1 LF1 S S' Z FT Z' := ⟨h.1, Nat.le_trans hk h.2.1, h.2.2.1, h.2.2.2.1, h.2.2.2.2.1, fun j hj => hL j (by omega)⟩
theorem kz_outc {k a i : Nat} {fp v : Int32} {S Z V N : Nat → Int32} {w : Int32} (F : Nat) (hk : k ≤ 40) (h : k ≤ a) (ha : a ≤ 40) (hv : v = 0 ∨ v = 1) : f_X3_leaveOutRows_L7 fp S Z V w (F + 1) (nI k) N v (nI a) (nI i) = some (v, nI k, N) := by
  rw [e_X3_leaveOutRows_L7]
  by_cases h4 : (40 : Int32) ≤ nI i
  · rw [if_pos h4, if_neg (fun q => q hv)]
  · rw [if_neg h4, if_pos (nI_le h (by omega)), if_neg (fun q => q hv)]
theorem kz_outm {k a : Nat} {v : Int32} {S' FT SV LF : Nat → Int32} {Z' : Nat → Int64} {w : Int32} (F : Nat) (hk : k ≤ 40) (h : k ≤ a) (ha : a ≤ 40) (hv : v = 0 ∨ v = 1) : f_X5_pass_L4 S' Z' FT SV w (F + 1) (nI k) LF v (nI a) = some (v, nI k, LF) := by
  rw [e_X5_pass_L4, if_pos (nI_le h (by omega)), if_neg (fun q => q hv)]
/-- the reference's step with g = the smaller of w and what is left behind a -/
theorem kz_stepm {k a w g : Nat} {v : Int32} {S' FT SV LF : Nat → Int32} {Z' : Nat → Int64} (F : Nat) (hk : k ≤ 40) (ha : a < k) (hw : w ≤ 40) (hg : (w ≤ k - a ∧ g = w) ∨ (k - a < w ∧ g = k - a)) : f_X5_pass_L4 S' Z' FT SV (nI w) (F + 1) (nI k) LF v (nI a) =
    (if nI k ≤ nI g then f_X5_pass_L4 S' Z' FT SV (nI w) F (nI k) LF v (nI (a + g)) else (f_X5_signature (nI k) S' Z' FT LF (nI a) (nI g)).bind fun r => if r < 0 ∨ 64 ≤ r.toNatClampNeg then none else (if SV r.toNatClampNeg = 0 then f_X5_pass_L4 S' Z' FT SV (nI w) F (nI k) LF v (nI (a + g)) else (f_X5_pass_L61 S' Z' FT SV (nI w) 64 (nI k) LF (nI a) (nI g) (nI a)).bind fun q => f_X5_pass_L4 S' Z' FT SV (nI w) F (q.1 - q.2.2.2) q.2.1 1 q.2.2.1)) := by
  rw [e_X5_pass_L4, if_neg (nI_ge ha (by omega)), pk_sub (show a ≤ k by omega)]
  rcases hg with ⟨h1, rfl⟩ | ⟨h1, rfl⟩
  · rw [if_pos (nI_le h1 (by omega)), nI_add]
  · rw [if_neg (nI_ge h1 (by omega)), nI_add]
/-- one pass with width w -/
theorem kz_passL {n w : Nat} {fp : Int32} {S S' Z FT V SV : Nat → Int32} {Z' : Nat → Int64} (hw : 0 < w) (hw2 : w ≤ 40) (hV : ∀ j, j < 64 → SV j = V j ∧ (V j = 0 ∨ V j = 1)) : ∀ (m k a i F : Nat) (v : Int32) (N LF : Nat → Int32), k - a ≤ m → a ≤ k → i + k ≤ a + 40 → 0 < k → (v = 0 ∨ v = 1) → kz_Q n k fp N LF S S' Z FT Z' →
    ∃ (k1 : Nat) (v1 : Int32) (N1 LF1 : Nat → Int32), 0 < k1 ∧ k1 ≤ k ∧ (v1 = 0 ∨ v1 = 1) ∧ (v1 = 1 → v = 1 ∨ k1 < k) ∧ kz_Q n k1 fp N1 LF1 S S' Z FT Z' ∧
      f_X3_leaveOutRows_L7 fp S Z V (nI w) (m + F + 1) (nI k) N v (nI a) (nI i) = some (v1, nI k1, N1) ∧ f_X5_pass_L4 S' Z' FT SV (nI w) (m + F + 1) (nI k) LF v (nI a) = some (v1, nI k1, LF1) := by
  intro m
  induction m with
  | zero =>
    intro k a i F v N LF hm hak hi hk hv hQ
    have hn := hQ.1
    have hkn := hQ.2.1
    exact ⟨k, v, N, LF, hk, Nat.le_refl k, hv, fun h => Or.inl h, hQ, kz_outc _ (by omega) (by omega) (by omega) hv, kz_outm _ (by omega) (by omega) (by omega) hv⟩
  | succ m ih =>
    intro k a i F v N LF hm hak hi hk hv hQ
    have hn := hQ.1
    have hkn := hQ.2.1
    by_cases hal : a = k
    · exact ⟨k, v, N, LF, hk, Nat.le_refl k, hv, fun h => Or.inl h, hQ, kz_outc _ (by omega) (by omega) (by omega) hv, kz_outm _ (by omega) (by omega) (by omega) hv⟩
    · obtain ⟨g, hg⟩ : ∃ g, (w ≤ k - a ∧ g = w) ∨ (k - a < w ∧ g = k - a) := by
        by_cases h : w ≤ k - a
        · exact ⟨w, Or.inl ⟨h, rfl⟩⟩
        · exact ⟨k - a, Or.inr ⟨by omega, rfl⟩⟩
      have hg0 : 0 < g := by omega
      have hgk : a + g ≤ k := by omega
      have ht : (if nI k < (nI a + nI w) then nI k else (nI a + nI w)) = nI (a + g) := by
        rw [nI_add]
        by_cases h : k < a + w
        · rw [if_pos (nI_lt h (by omega))]; congr 1; omega
        · rw [if_neg (nI_nlt (by omega) (by omega))]; congr 1; omega
      have fu : m + 1 + F + 1 = (m + F + 1) + 1 := by omega
      have hlt : ¬ nI k ≤ nI a := nI_ge (by omega) (by omega)
      have h40 : ¬ (40 : Int32) ≤ nI i := nI_ge (a := i) (b := 40) (by omega) (by decide)
      rw [fu, e_X3_leaveOutRows_L7, if_neg h40, if_neg hlt, ht, kz_stepm _ (by omega) (by omega) hw2 hg, nI_1]
      by_cases hkg : k ≤ g
      · obtain ⟨k1, v1, N1, LF1, q1, q2, q3, q4, q5, q6, q7⟩ := ih k (a + g) (i + 1) F v N LF (by omega) (by omega) (by omega) hk hv hQ
        refine ⟨k1, v1, N1, LF1, q1, q2, q3, q4, q5, ?_, ?_⟩
        · rw [kz_can0 (by omega) (by omega) (by omega) (by omega), Option.bind_some, if_pos rfl]
          exact q6
        · rw [if_pos (nI_le hkg (by omega))]
          exact q7
      · obtain ⟨x, x1, x2, x3⟩ := kz_sig hQ (f := a) (t := a + g) (by omega) (by omega)
        rw [show a + g - a = g by omega] at x3
        rw [kz_can1 (by omega) (by omega) (by omega) x1 x2, Option.bind_some, if_neg (nI_ge (by omega) (by omega)), x3, Option.bind_some, if_neg (nI_in x1 (by decide)), nI_clamp (show x < 2 ^ 31 by omega), (hV x x1).1]
        by_cases hx : V x = 0
        · obtain ⟨k1, v1, N1, LF1, q1, q2, q3, q4, q5, q6, q7⟩ := ih k (a + g) (i + 1) F v N LF (by omega) (by omega) (by omega) hk hv hQ
          refine ⟨k1, v1, N1, LF1, q1, q2, q3, q4, q5, ?_, ?_⟩
          · rw [if_pos hx, if_pos rfl]
            exact q6
          · rw [if_pos hx]
            exact q7
        · obtain ⟨N1, LF1, t1, t2, t3⟩ := kz_takeOut (n := n) (k := k) (f := a) (g := g) (by omega) hg0 (nI a) (nI (a + g)) (nI w) S' FT SV Z' (k - (a + g)) (a + g) (63 - (k - (a + g))) N LF (by omega) (by omega) hQ.2.2.2.2.2
          rw [show k - (a + g) + (63 - (k - (a + g))) + 1 = 64 by omega] at t1 t2
          rw [show a + g - g = a by omega] at t2
          obtain ⟨k1, v1, N2, LF2, q1, q2, q3, q4, q5, q6, q7⟩ := ih (k - g) a (i + 1) F 1 N1 LF1 (by omega) (by omega) (by omega) (by omega) (Or.inr rfl) (kz_Q_L hQ (by omega) t3)
          refine ⟨k1, v1, N2, LF2, q1, by omega, q3, fun _ => Or.inr (by omega), q5, ?_, ?_⟩
          · rw [if_neg hx, if_neg (by decide)]
            unfold f_X3_takeOut
            rw [pk_sub (show a ≤ a + g by omega), show a + g - a = g by omega, t1, Option.bind_some]
            exact q6
          · rw [if_neg hx, t2, Option.bind_some]
            dsimp only
            rw [pk_sub (show g ≤ k by omega)]
            exact q7
theorem kz_pass {n k w : Nat} {fp : Int32} {S S' Z FT V SV N LF : Nat → Int32} {Z' : Nat → Int64} (hw : 0 < w) (hw2 : w ≤ 40) (hV : ∀ j, j < 64 → SV j = V j ∧ (V j = 0 ∨ V j = 1)) (hk : 0 < k) (hQ : kz_Q n k fp N LF S S' Z FT Z') :
    ∃ (k1 : Nat) (v1 : Int32) (N1 LF1 : Nat → Int32), 0 < k1 ∧ k1 ≤ k ∧ (v1 = 0 ∨ v1 = 1) ∧ (v1 = 1 → k1 < k) ∧ kz_Q n k1 fp N1 LF1 S S' Z FT Z' ∧
      f_X3_leaveOutRows (nI k) fp N S Z V (nI w) = some (v1, nI k1, N1) ∧ f_X5_pass (nI k) S' Z' FT LF SV (nI w) = some (v1, nI k1, LF1) := by
  have hn := hQ.1
  have hkn := hQ.2.1
  obtain ⟨k1, v1, N1, LF1, q1, q2, q3, q4, q5, q6, q7⟩ := kz_passL (n := n) hw hw2 hV k k 0 0 (63 - k) 0 N LF (by omega) (by omega) (by omega) hk (Or.inl rfl) hQ
  rw [show k + (63 - k) + 1 = 64 by omega] at q6 q7
  exact ⟨k1, v1, N1, LF1, q1, q2, q3, fun h => (q4 h).elim (fun z => absurd z (by decide)) id, q5, q6, q7⟩
/-- with width 1, once more, until none is left out -/
theorem kz_ones {n : Nat} {fp : Int32} {S S' Z FT V SV M : Nat → Int32} {Z' : Nat → Int64} (hV : ∀ j, j < 64 → SV j = V j ∧ (V j = 0 ∨ V j = 1)) (cd : Int32) : ∀ (m k i F F' : Nat) (v : Int32) (N LF : Nat → Int32), k ≤ m → i + k ≤ 39 ∨ v = 0 → 0 < k → (v = 0 ∨ v = 1) → kz_Q n k fp N LF S S' Z FT Z' →
    ∃ (k1 : Nat) (N1 LF1 : Nat → Int32), 0 < k1 ∧ k1 ≤ k ∧ kz_Q n k1 fp N1 LF1 S S' Z FT Z' ∧
      f_X3_shorten_L35 fp S Z V (m + F + 1) (nI k) N 1 v (nI i) = some (nI k1, N1, 1) ∧ f_X5_shorter_L38 M S' Z' FT SV (m + F' + 2) cd (nI k) LF (if v = 0 then 0 else 1) = some (nI k1, cd, nI k1, LF1) := by
  intro m
  induction m with
  | zero => intro k i F F' v N LF hm h1 h0; omega
  | succ m ih =>
    intro k i F F' v N LF hm h1 h0 hv hQ
    rw [show m + 1 + F + 1 = (m + F + 1) + 1 by omega, show m + 1 + F' + 2 = (m + F' + 2) + 1 by omega, e_X3_shorten_L35, e_X5_shorter_L38]
    by_cases hz : v = 0
    · refine ⟨k, N, LF, h0, Nat.le_refl k, hQ, ?_, ?_⟩
      · by_cases h4 : (40 : Int32) ≤ nI i
        · rw [if_pos h4]
        · rw [if_neg h4, if_pos rfl, if_pos hz]
      · rw [if_pos hz, if_pos (by decide)]
    · have hik : i + k ≤ 39 := h1.resolve_right hz
      have h40 : ¬ (40 : Int32) ≤ nI i := nI_ge (a := i) (b := 40) (by omega) (by decide)
      obtain ⟨k1, v1, N1, LF1, q1, q2, q3, q4, q5, q6, q7⟩ := kz_pass (w := 1) (by omega) (by omega) hV h0 hQ
      have q6 : f_X3_leaveOutRows (nI k) fp N S Z V 1 = some (v1, nI k1, N1) := q6
      have q7 : f_X5_pass (nI k) S' Z' FT LF SV 1 = some (v1, nI k1, LF1) := q7
      rw [if_neg h40, if_pos rfl, if_neg hz, q6, Option.bind_some, if_neg hz, if_neg (by decide), q7, Option.bind_some, if_pos (by decide), nI_1]
      dsimp only
      by_cases hv1 : v1 = 0
      · subst hv1
        by_cases hm0 : m = 0
        · subst hm0
          have hk1 : k1 = 1 := by omega
          refine ⟨k1, N1, LF1, q1, q2, q5, ?_, ?_⟩
          · rw [show 0 + F + 1 = F + 1 by omega, e_X3_shorten_L35]
            by_cases h4 : (40 : Int32) ≤ nI (i + 1)
            · rw [if_pos h4]
            · rw [if_neg h4, if_pos rfl, if_pos rfl]
          · rw [if_pos rfl, show 0 + F' + 2 = (F' + 1) + 1 by omega, e_X5_shorter_L38, if_pos (by decide)]
        · refine ⟨k1, N1, LF1, q1, q2, q5, ?_, ?_⟩
          · rw [e_X3_shorten_L35]
            by_cases h4 : (40 : Int32) ≤ nI (i + 1)
            · rw [if_pos h4]
            · rw [if_neg h4, if_pos rfl, if_pos rfl]
          · rw [if_pos rfl, show m + F' + 2 = (m + F' + 1) + 1 by omega, e_X5_shorter_L38, if_pos (by decide)]
      · have hv1' : v1 = 1 := q3.resolve_left hv1
        have hlt := q4 hv1'
        obtain ⟨k2, N2, LF2, r1, r2, r3, r4, r5⟩ := ih k1 (i + 1) F F' v1 N1 LF1 (by omega) (Or.inl (by omega)) q1 q3 q5
        refine ⟨k2, N2, LF2, r1, by omega, r3, r4, ?_⟩
        rw [if_neg hv1]
        rw [if_neg hv1] at r5
        exact r5
/-- halving -/
theorem kz_halve {n : Nat} {fp : Int32} {S S' Z FT V SV M : Nat → Int32} {Z' : Nat → Int64} (hV : ∀ j, j < 64 → SV j = V j ∧ (V j = 0 ∨ V j = 1)) (cd : Int32) : ∀ (m w k F F' : Nat) (N LF : Nat → Int32), w ≤ m → w ≤ 40 → 0 < k → kz_Q n k fp N LF S S' Z FT Z' → 41 ≤ F' →
    ∃ (k1 : Nat) (N1 LF1 : Nat → Int32), 0 < k1 ∧ k1 ≤ k ∧ kz_Q n k1 fp N1 LF1 S S' Z FT Z' ∧
      f_X3_shorten_L22 fp S Z V (m + F + 1) (nI k) N (nI w) = some (nI k1, N1) ∧ f_X5_shorter_L38 M S' Z' FT SV (m + F' + 1) cd (nI k) LF (nI w) = some (nI k1, cd, nI k1, LF1) := by
  intro m
  induction m with
  | zero =>
    intro w k F F' N LF hw hw2 h0 hQ hF
    have e : w = 0 := by omega
    subst e
    refine ⟨k, N, LF, h0, Nat.le_refl k, hQ, ?_, ?_⟩
    · rw [e_X3_shorten_L22, if_pos (by decide)]
    · rw [e_X5_shorter_L38, if_pos (by decide)]
  | succ m ih =>
    intro w k F F' N LF hw hw2 h0 hQ hF
    have hn := hQ.1
    have hkn := hQ.2.1
    rw [show m + 1 + F + 1 = (m + F + 1) + 1 by omega, show m + 1 + F' + 1 = (m + F' + 1) + 1 by omega, e_X3_shorten_L22, e_X5_shorter_L38]
    by_cases hz : w = 0
    · subst hz
      refine ⟨k, N, LF, h0, Nat.le_refl k, hQ, ?_, ?_⟩
      · rw [if_pos (by decide)]
      · rw [if_pos (by decide)]
    · have c1 : ¬ nI w < 1 := nI_nlt (a := w) (b := 1) (by omega) (by omega)
      have c0 : ¬ nI w ≤ 0 := nI_nle (by omega) (by omega)
      obtain ⟨k1, v1, N1, LF1, q1, q2, q3, q4, q5, q6, q7⟩ := kz_pass (w := w) (by omega) (by omega) hV h0 hQ
      rw [if_neg c1, q6, Option.bind_some, if_neg c0, q7, Option.bind_some]
      dsimp only
      by_cases h1 : w = 1
      · subst h1
        obtain ⟨k2, N2, LF2, r1, r2, r3, r4, r5⟩ := kz_ones (M := M) hV cd k1 k1 0 (63 - k1) (m + F' - 1 - k1) v1 N1 LF1 (Nat.le_refl _) (q3.elim (fun h => Or.inr h) (fun h => Or.inl (by have := q4 h; omega))) q1 q3 q5
        rw [show k1 + (63 - k1) + 1 = 64 by have := q5.1; have := q5.2.1; omega] at r4
        rw [show k1 + (m + F' - 1 - k1) + 2 = m + F' + 1 by have := q5.1; have := q5.2.1; omega] at r5
        have r4 : f_X3_shorten_L35 fp S Z V 64 (nI k1) N1 (nI 1) v1 0 = some (nI k2, N2, 1) := r4
        refine ⟨k2, N2, LF2, r1, by omega, r3, ?_, ?_⟩
        · rw [r4, Option.bind_some]
          dsimp only
          rw [show (1 : Int32) / 2 = 0 by decide, show m + F + 1 = (m + F) + 1 from rfl, e_X3_shorten_L22, if_pos (by decide)]
        · rw [if_pos (by decide)]
          by_cases hv : v1 = 0
          · rw [if_pos hv]
            rw [if_pos hv] at r5
            exact r5
          · rw [if_neg hv]
            rw [if_neg hv] at r5
            exact r5
      · have hd : nI w / 2 = nI (w / 2) := pk_div (d := 2) (by omega) (by decide) (by decide)
        have c2 : ¬ nI w ≤ 1 := nI_ge (a := 1) (b := w) (by omega) (by omega)
        have c3 : ¬ nI w = 1 := fun q => h1 ((nI_eq (by omega) (show 1 < 2 ^ 31 by decide)).mp q)
        obtain ⟨k2, N2, LF2, r1, r2, r3, r4, r5⟩ := ih (w / 2) k1 F F' N1 LF1 (by omega) (by omega) q1 q5 hF
        refine ⟨k2, N2, LF2, r1, by omega, r3, ?_, ?_⟩
        · have e35 : f_X3_shorten_L35 fp S Z V 64 (nI k1) N1 (nI w) v1 0 = some (nI k1, N1, nI w) := by
            rw [show (64 : Nat) = 63 + 1 from rfl, e_X3_shorten_L35, if_neg (by decide), if_neg c3]
          rw [e35, Option.bind_some]
          dsimp only
          rw [hd]
          exact r4
        · rw [if_neg c2, hd]
          exact r5
theorem kz_shorter {n k : Nat} {fp : Int32} {N LF S S' Z FT : Nat → Int32} {Z' : Nat → Int64} (h : kz_Q n k fp N LF S S' Z FT Z') (hk0 : 0 < n → 0 < k) (V SV M : Nat → Int32) (hM : M 0 = nI n) (hV : ∀ j, j < 64 → SV j = V j ∧ (V j = 0 ∨ V j = 1)) (cd : Int32) :
    ∃ (r : Int32) (k1 : Nat) (N1 LF1 : Nat → Int32), (0 < n → 0 < k1) ∧ kz_Q n k1 fp N1 LF1 S S' Z FT Z' ∧ f_X4_shorter (nI n) fp (nI k) S Z N V = some (r, nI k1, N1) ∧ f_X5_shorter cd (nI k) M S' Z' FT LF SV = some (r, 0, nI k1, LF1) := by
  have hk := h.2.1
  have hn := h.1
  unfold f_X4_shorter f_X5_shorter
  rw [show M (0 : Int32).toNatClampNeg = nI n from hM]
  by_cases h0 : n = 0
  · subst h0
    exact ⟨-3, k, N, LF, hk0, h, by rw [if_pos (by decide)], by rw [if_pos (by decide)]⟩
  · obtain ⟨w, w1, w2, w3⟩ := kz_sig h (f := 0) (t := 0) (by omega) (by omega)
    have w3 : f_X5_signature (nI k) S' Z' FT LF 0 0 = some (nI w) := w3
    have w2 : f_X3_signatureWithout (nI k) fp N S Z 0 0 = some (nI w) := w2
    have hne : ¬ nI n = 0 := nI_ne0 (by omega) (by omega)
    rw [if_neg hne, if_neg hne]
    unfold f_X3_shorten f_X3_signature
    rw [w2, Option.bind_some, Option.bind_some, kz_keeps w1, Option.bind_some, w3, Option.bind_some, if_neg (nI_in w1 (by decide)), nI_clamp (show w < 2 ^ 31 by omega), (hV w w1).1]
    by_cases hv : V w = 0
    · refine ⟨nI k, k, N, LF, hk0, h, ?_, ?_⟩
      · rw [if_pos hv, if_pos rfl, Option.bind_some]
      · rw [if_pos hv]
    · have hd : nI k / 2 = nI (k / 2) := pk_div (d := 2) (by omega) (by decide) (by decide)
      obtain ⟨k1, N1, LF1, r1, r2, r3, r4, r5⟩ := kz_halve (M := M) hV 0 20 (k / 2) k 43 43 N LF (by omega) (by omega) (hk0 (by omega)) h (by omega)
      refine ⟨nI k1, k1, N1, LF1, fun _ => r1, r3, ?_, ?_⟩
      · rw [if_neg hv, if_neg (by decide), hd, show f_X3_shorten_L22 fp S Z V 64 (nI k) N (nI (k / 2)) = some (nI k1, N1) from r4, Option.bind_some]
      · rw [if_neg hv, hd]
        exact r5
