
set_option maxHeartbeats 4000000 in
set_option maxRecDepth 100000 in
theorem c_X0_init (l : Launch) (dC : Nat → ClassId) (dI : Nat → Nat → Nat) (cA : Nat → ClassId) (tt : Nat → Nat) (h : Nat) (sz : Nat) (p0 : Int64) : Met l yX0_init wX0_init ({ frames := 1, cells := 0, slots := 0, locals := 20 }) (kq_Pc dC dI cA tt [.ref h, .long p0] [(h, .inr (0, [.long 0]))] sz) (va_Qv (fun _ : Unit => True) (fun u t => kq_B dC dI [(h, .inr (0, [.long p0]))] (va_A [(h, .inr (0, [.long 0]))] sz) t) (va_A [(h, .inr (0, [.long 0]))] sz)) 0 0 (va_A [(h, .inr (0, [.long 0]))] sz) := by
  refine Met.ofW (cc := cX0_init) (maxL := 3) (ret := none) (by decide) rfl ?_
  intro p e s m args below meth c s₁ B hml hv
  obtain ⟨rfl, hsz, hP, hD0, hG, hZ⟩ := hv
  have hx := B.exec
  have hb := B.bytes
  have hr := B.returns
  have hts : ∀ w ∈ kq_T, w.before _ s = true := fun w h => atoms_spec (ws := wX0_init) B.pre w (List.mem_cons_of_mem _ h)
  have hown : s.vm.findClass RX0 = some m.cls := findClass_of_methodNamed B.named
  have hlocks := B.notSynchronized
  have hK := hG.1
  subst hsz
  have hD := hD0.self (sz := s.heap.size)
  generalize hAe : va_A [(h, .inr (0, [.long 0]))] s.heap.size = A at hD hZ ⊢
  have hA : ∀ q : Nat, s.heap.size ≤ q → A q := fun q h => by rw [← hAe]; exact Or.inr h
  have hl := lv_entry [.ref h, .long p0] (n := 3) (Nat.le_of_ble_eq_true rfl)
  rw [lg_entry_eq]
  generalize (lg_sl [.ref h, .long p0] ++ List.replicate (3 - (lg_sl [.ref h, .long p0]).length) Slot.unset).toArray = ls at hl ⊢
  have hl : lv_has ls 3 [(0, .ref h), (1, .long p0)] := hl
  obtain ⟨H, hHe⟩ : ∃ H : Heap, H = s.heap := ⟨_, rfl⟩
  have hP : va_P (dC, dI) vwCl [(h, .inr (0, [.long 0]))] H := by rw [hHe]; exact hP
  have hS : va_S A s.heap H [] := by rw [hHe]; exact va_S.rf
  rw [← hHe]
  have hin : meth.name = "<init>" := (name_of_methodNamed B.named B.method).1
  refine lv_aload_n hx hb dX0_init_0 rfl (lv_at hl 0 rfl) ?_
  refine W.objInit hx hb hown (hts _ tw_41) (hts _ tw_34) (hts _ tw_35) rfl (by rw [hml]; exact hl.1) rfl dX0_init_1 (Nat.le_of_ble_eq_true rfl) (Nat.le_of_ble_eq_true rfl) ?_
  refine W.eq (g2 := F0 m 4 ls []) rfl ?_
  refine lv_aload_n hx hb dX0_init_4 rfl (lv_at hl 0 rfl) ?_
  refine lv_lload_n hx hb dX0_init_5 rfl (lv_at hl 1 rfl) ?_
  refine va_put (D := (dC, dI)) (ci := 0) (v := .long p0) (ty := (.long)) (C := RX0) (T := TX0) (N := 1) hx hb hts iwX0 tyX0 tyX0_ok nmX0 hown hK hP hD hS 0 rfl rfl 0 (by decide) (hts _ tw_42) (fun _ h9 => h9) rfl (by decide +kernel) rfl rfl (Nat.le_of_ble_eq_true rfl) dX0_init_6 (fun H locs hP hD hS => ?_)
  have hP : va_P (dC, dI) vwCl [(h, .inr (0, [.long p0]))] H := hP
  have hD : va_D A [(h, .inr (0, [.long p0]))] := hD
  refine W.widen (k := 0) (n := 0) (by omega) (by omega) ?_
  exact W.vret hx hb hr (fun t ht hW => ⟨⟨(), rfl, trivial, kq_mk ht hP hD⟩, hS.F ht⟩) hS.2.2 dX0_init_9


set_option maxHeartbeats 4000000 in
set_option maxRecDepth 100000 in
theorem c_X2_init (l : Launch) (dC : Nat → ClassId) (dI : Nat → Nat → Nat) (cA : Nat → ClassId) (tt : Nat → Nat) (h : Nat) (sz : Nat) : Met l yX2_init wX2_init ({ frames := 1, cells := 1, slots := 64, locals := 20 }) (kq_Pc dC dI cA tt [.ref h] [(h, .inr (2, [.null]))] sz) (va_Qv (fun _ : Nat => True) (fun u t => kq_B dC dI [(h, .inr (2, [.ref u])), (u, .inl (cA 1, 64, .inl (fun _ => 0)))] (va_A [(h, .inr (2, [.null]))] sz) t) (va_A [(h, .inr (2, [.null]))] sz)) 1 64 (va_A [(h, .inr (2, [.null]))] sz) := by
  refine Met.ofW (cc := cX2_init) (maxL := 1) (ret := none) (by decide) rfl ?_
  intro p e s m args below meth c s₁ B hml hv
  obtain ⟨rfl, hsz, hP, hD0, hG, hZ⟩ := hv
  have hx := B.exec
  have hb := B.bytes
  have hr := B.returns
  have hts : ∀ w ∈ kq_T, w.before _ s = true := fun w h => atoms_spec (ws := wX2_init) B.pre w (List.mem_cons_of_mem _ h)
  have hown : s.vm.findClass RX2 = some m.cls := findClass_of_methodNamed B.named
  have hlocks := B.notSynchronized
  have hK := hG.1
  subst hsz
  have hD := hD0.self (sz := s.heap.size)
  generalize hAe : va_A [(h, .inr (2, [.null]))] s.heap.size = A at hD hZ ⊢
  have hA : ∀ q : Nat, s.heap.size ≤ q → A q := fun q h => by rw [← hAe]; exact Or.inr h
  have hl := lv_entry [.ref h] (n := 1) (Nat.le_of_ble_eq_true rfl)
  rw [lg_entry_eq]
  generalize (lg_sl [.ref h] ++ List.replicate (1 - (lg_sl [.ref h]).length) Slot.unset).toArray = ls at hl ⊢
  have hl : lv_has ls 1 [(0, .ref h)] := hl
  obtain ⟨H, hHe⟩ : ∃ H : Heap, H = s.heap := ⟨_, rfl⟩
  have hP : va_P (dC, dI) vwCl [(h, .inr (2, [.null]))] H := by rw [hHe]; exact hP
  have hS : va_S A s.heap H [] := by rw [hHe]; exact va_S.rf
  rw [← hHe]
  have hin : meth.name = "<init>" := (name_of_methodNamed B.named B.method).1
  refine lv_aload_n hx hb dX2_init_0 rfl (lv_at hl 0 rfl) ?_
  refine W.objInit hx hb hown (hts _ tw_93) (hts _ tw_34) (hts _ tw_35) rfl (by rw [hml]; exact hl.1) rfl dX2_init_1 (Nat.le_of_ble_eq_true rfl) (Nat.le_of_ble_eq_true rfl) ?_
  refine W.eq (g2 := F0 m 4 ls []) rfl ?_
  refine lv_aload_n hx hb dX2_init_4 rfl (lv_at hl 0 rfl) ?_
  refine lv_bipush (v := 64) hx hb dX2_init_5 (by decide) ?_
  refine va_newa (atype := .boolean) (a0 := (64, .inl (fun _ => 0))) (N' := 64) hx hb (hts _ tw_98) (ty := .boolean) rfl hK hP hD hS hA (fun _ => rfl) (by decide) (by decide) (by decide) (Nat.le_of_ble_eq_true rfl) (Nat.le_of_ble_eq_true rfl) dX2_init_7 (fun n7 cn7 H hK9 hP hD hS => ?_)
  rw [kq_same hK9 4 1 rfl rfl] at hP hD
  have hP : va_P (dC, dI) vwCl [(h, .inr (2, [.null])), (n7, .inl (cA 1, 64, .inl (fun _ => 0)))] H := hP
  have hD : va_D A [(h, .inr (2, [.null])), (n7, .inl (cA 1, 64, .inl (fun _ => 0)))] := hD
  refine W.widen (k := 1) (n := 64) (by omega) (by omega) ?_
  refine va_putF (D := (dC, dI)) (ci := 2) (v := .ref n7) (ty := (.array .boolean)) (C := RX2) (T := TX2) (N := 1) hx hb hts iwX2 tyX2 tyX2_ok nmX2 hown hK hP hD hS 0 rfl rfl 0 (by decide) (hts _ tw_94) (fun _ h9 => h9) rfl hin rfl (by decide +kernel) rfl rfl (Nat.le_of_ble_eq_true rfl) dX2_init_9 (fun H locs hP hD hS => ?_)
  have hP : va_P (dC, dI) vwCl [(h, .inr (2, [.ref n7])), (n7, .inl (cA 1, 64, .inl (fun _ => 0)))] H := hP
  have hD : va_D A [(h, .inr (2, [.ref n7])), (n7, .inl (cA 1, 64, .inl (fun _ => 0)))] := hD
  refine W.widen (k := 1) (n := 64) (by omega) (by omega) ?_
  exact W.vret hx hb hr (fun t ht hW => ⟨⟨n7, rfl, trivial, kq_mk ht hP hD⟩, hS.F ht⟩) hS.2.2 dX2_init_12

def f_X4_isKind (p0 : Int32) : Option (Int32) :=
    (if p0 < 0 then
    some 0
    else
    (if 6 ≤ p0 then
    some 0
    else
    some 1))
set_option maxHeartbeats 4000000 in
set_option maxRecDepth 100000 in
theorem c_X4_isKind (l : Launch) (dC : Nat → ClassId) (dI : Nat → Nat → Nat) (cA : Nat → ClassId) (tt : Nat → Nat) (sz : Nat) (p0 : Int32) (o : Int32) (hf : f_X4_isKind p0 = some o) : Met l yX4_isKind wX4_isKind ({ frames := 0, cells := 0, slots := 0, locals := 0 }) (kq_Pc dC dI cA tt [.int p0] [] sz) (va_Qi (fun r (_ : Unit) => r = o) (fun _ t => kq_B dC dI [] (va_A [] sz) t) (va_A [] sz)) 0 0 (va_A [] sz) := by
  refine Met.ofW (cc := cX4_isKind) (maxL := 1) (ret := (some .boolean)) (by decide) rfl ?_
  intro p e s m args below meth c s₁ B hml hv
  obtain ⟨rfl, hsz, hP, hD0, hG, hZ⟩ := hv
  have hx := B.exec
  have hb := B.bytes
  have hr := B.returns
  have hts : ∀ w ∈ kq_T, w.before _ s = true := fun w h => atoms_spec (ws := wX4_isKind) B.pre w (List.mem_cons_of_mem _ h)
  have hown : s.vm.findClass RX4 = some m.cls := findClass_of_methodNamed B.named
  have hlocks := B.notSynchronized
  have hK := hG.1
  subst hsz
  have hD := hD0.self (sz := s.heap.size)
  generalize hAe : va_A [] s.heap.size = A at hD hZ ⊢
  have hA : ∀ q : Nat, s.heap.size ≤ q → A q := fun q h => by rw [← hAe]; exact Or.inr h
  have hl := lv_entry [.int p0] (n := 1) (Nat.le_of_ble_eq_true rfl)
  rw [lg_entry_eq]
  generalize (lg_sl [.int p0] ++ List.replicate (1 - (lg_sl [.int p0]).length) Slot.unset).toArray = ls at hl ⊢
  have hl : lv_has ls 1 [(0, .int p0)] := hl
  obtain ⟨H, hHe⟩ : ∃ H : Heap, H = s.heap := ⟨_, rfl⟩
  have hP : va_P (dC, dI) vwCl [] H := by rw [hHe]; exact hP
  have hS : va_S A s.heap H [] := by rw [hHe]; exact va_S.rf
  rw [← hHe]
  unfold f_X4_isKind at hf
  refine lv_iload_n hx hb dX4_isKind_0 rfl (lv_at hl 0 rfl) ?_
  refine lv_if_lt (tgt := 14) hx hb dX4_isKind_1 (by decide) (fun c1 => ?_) (fun c1 => ?_)
  · have hf := kp_p c1 hf
    refine lv_iconst (v := 0) hx hb dX4_isKind_14 (by decide) ?_
    have eo := Option.some.inj hf
    subst eo
    exact W.zret (v := 0) hx hb hr rfl (fun t ht hW => ⟨⟨_, (), rfl, rfl, kq_mk ht hP hD⟩, hS.F ht⟩) hS.2.2 dX4_isKind_15
  · have hf := kp_n c1 hf
    refine lv_iload_n hx hb dX4_isKind_4 rfl (lv_at hl 0 rfl) ?_
    refine lv_bipush (v := 6) hx hb dX4_isKind_5 (by decide) ?_
    refine lv_icmp_ge (tgt := 14) hx hb dX4_isKind_7 (by decide) (fun c2 => ?_) (fun c2 => ?_)
    · have hf := kp_p c2 hf
      refine lv_iconst (v := 0) hx hb dX4_isKind_14 (by decide) ?_
      have eo := Option.some.inj hf
      subst eo
      exact W.zret (v := 0) hx hb hr rfl (fun t ht hW => ⟨⟨_, (), rfl, rfl, kq_mk ht hP hD⟩, hS.F ht⟩) hS.2.2 dX4_isKind_15
    · have hf := kp_n c2 hf
      refine lv_iconst (v := 1) hx hb dX4_isKind_10 (by decide) ?_
      refine lv_goto (tgt := 15) hx hb dX4_isKind_11 (by decide) ?_
      have eo := Option.some.inj hf
      subst eo
      exact W.zret (v := 1) hx hb hr rfl (fun t ht hW => ⟨⟨_, (), rfl, rfl, kq_mk ht hP hD⟩, hS.F ht⟩) hS.2.2 dX4_isKind_15

def f_X0_below (h_state : Int64) (p0 : Int32) : Option (Int32 × Int64) :=
    (if p0 ≤ 0 then
    some ((0, (6364136223846793005 * h_state) + 1442695040888963407))
    else
    if p0 = 0 then none else
    some (((((((6364136223846793005 * h_state) + 1442695040888963407).toUInt64 >>> ((33 : Int32).toInt64.toUInt64 &&& Int64.toUInt64 63)).toInt64).toInt32) - (((((6364136223846793005 * h_state) + 1442695040888963407).toUInt64 >>> ((33 : Int32).toInt64.toUInt64 &&& Int64.toUInt64 63)).toInt64).toInt32) / p0 * p0, (6364136223846793005 * h_state) + 1442695040888963407)))
set_option maxHeartbeats 4000000 in
set_option maxRecDepth 100000 in
theorem c_X0_below (l : Launch) (dC : Nat → ClassId) (dI : Nat → Nat → Nat) (cA : Nat → ClassId) (tt : Nat → Nat) (h : Nat) (sz : Nat) (h_state : Int64) (p0 : Int32) (o : Int32 × Int64) (hf : f_X0_below h_state p0 = some o) : Met l yX0_below wX0_below ({ frames := 0, cells := 0, slots := 0, locals := 0 }) (kq_Pc dC dI cA tt [.ref h, .int p0] [(h, .inr (0, [.long h_state]))] sz) (va_Qi (fun r (_ : Unit) => r = o.1) (fun _ t => kq_B dC dI [(h, .inr (0, [.long o.2]))] (va_A [(h, .inr (0, [.long h_state]))] sz) t) (va_A [(h, .inr (0, [.long h_state]))] sz)) 0 0 (va_A [(h, .inr (0, [.long h_state]))] sz) := by
  refine Met.ofW (cc := cX0_below) (maxL := 3) (ret := (some .int)) (by decide) rfl ?_
  intro p e s m args below meth c s₁ B hml hv
  obtain ⟨rfl, hsz, hP, hD0, hG, hZ⟩ := hv
  have hx := B.exec
  have hb := B.bytes
  have hr := B.returns
  have hts : ∀ w ∈ kq_T, w.before _ s = true := fun w h => atoms_spec (ws := wX0_below) B.pre w (List.mem_cons_of_mem _ h)
  have hown : s.vm.findClass RX0 = some m.cls := findClass_of_methodNamed B.named
  have hlocks := B.notSynchronized
  have hK := hG.1
  subst hsz
  have hD := hD0.self (sz := s.heap.size)
  generalize hAe : va_A [(h, .inr (0, [.long h_state]))] s.heap.size = A at hD hZ ⊢
  have hA : ∀ q : Nat, s.heap.size ≤ q → A q := fun q h => by rw [← hAe]; exact Or.inr h
  have hl := lv_entry [.ref h, .int p0] (n := 3) (Nat.le_of_ble_eq_true rfl)
  rw [lg_entry_eq]
  generalize (lg_sl [.ref h, .int p0] ++ List.replicate (3 - (lg_sl [.ref h, .int p0]).length) Slot.unset).toArray = ls at hl ⊢
  have hl : lv_has ls 3 [(0, .ref h), (1, .int p0)] := hl
  obtain ⟨H, hHe⟩ : ∃ H : Heap, H = s.heap := ⟨_, rfl⟩
  have hP : va_P (dC, dI) vwCl [(h, .inr (0, [.long h_state]))] H := by rw [hHe]; exact hP
  have hS : va_S A s.heap H [] := by rw [hHe]; exact va_S.rf
  rw [← hHe]
  unfold f_X0_below at hf
  refine lv_aload_n hx hb dX0_below_0 rfl (lv_at hl 0 rfl) ?_
  refine lv_ldc2 (v := 6364136223846793005) hx hb hown (hts _ tw_165) dX0_below_1 ?_
  refine lv_aload_n hx hb dX0_below_4 rfl (lv_at hl 0 rfl) ?_
  refine va_get (D := (dC, dI)) (ci := 0) (v := .long h_state) (C := RX0) (T := TX0) (N := 1) hx hb hts iwX0 hown hK hP 0 rfl rfl 0 (by decide) (hts _ tw_42) (fun _ h9 => h9) rfl dX0_below_5 ?_
  refine lv_lmul hx hb dX0_below_8 ?_
  refine lv_ldc2 (v := 1442695040888963407) hx hb hown (hts _ tw_166) dX0_below_9 ?_
  refine lv_ladd hx hb dX0_below_12 ?_
  refine va_put (D := (dC, dI)) (ci := 0) (v := .long ((6364136223846793005 * h_state) + 1442695040888963407)) (ty := (.long)) (C := RX0) (T := TX0) (N := 1) hx hb hts iwX0 tyX0 tyX0_ok nmX0 hown hK hP hD hS 0 rfl rfl 0 (by decide) (hts _ tw_42) (fun _ h9 => h9) rfl (by decide +kernel) rfl rfl (Nat.le_of_ble_eq_true rfl) dX0_below_13 (fun H locs hP hD hS => ?_)
  have hP : va_P (dC, dI) vwCl [(h, .inr (0, [.long ((6364136223846793005 * h_state) + 1442695040888963407)]))] H := hP
  have hD : va_D A [(h, .inr (0, [.long ((6364136223846793005 * h_state) + 1442695040888963407)]))] := hD
  refine lv_aload_n hx hb dX0_below_16 rfl (lv_at hl 0 rfl) ?_
  refine va_get (D := (dC, dI)) (ci := 0) (v := .long ((6364136223846793005 * h_state) + 1442695040888963407)) (C := RX0) (T := TX0) (N := 1) hx hb hts iwX0 hown hK hP 0 rfl rfl 0 (by decide) (hts _ tw_42) (fun _ h9 => h9) rfl dX0_below_17 ?_
  refine lv_bipush (v := 33) hx hb dX0_below_20 (by decide) ?_
  refine lv_lushr hx hb dX0_below_22 rfl ?_
  refine lv_l2i hx hb dX0_below_23 rfl ?_
  refine lv_istore_n (lv' := [(2, .int (((((6364136223846793005 * h_state) + 1442695040888963407).toUInt64 >>> ((33 : Int32).toInt64.toUInt64 &&& Int64.toUInt64 63)).toInt64).toInt32)), (0, .ref h), (1, .int p0)]) hx hb dX0_below_24 rfl hl (by decide) rfl (fun ls hl => ?_)
  refine lv_iload_n hx hb dX0_below_25 rfl (lv_at hl 2 rfl) ?_
  refine lv_if_le (tgt := 35) hx hb dX0_below_26 (by decide) (fun c1 => ?_) (fun c1 => ?_)
  · have hf := kp_p c1 hf
    refine lv_iconst (v := 0) hx hb dX0_below_35 (by decide) ?_
    have eo := Option.some.inj hf
    subst eo
    exact W.iret (v := 0) hx hb hr (fun t ht hW => ⟨⟨_, (), rfl, rfl, kq_mk ht hP hD⟩, hS.F ht⟩) hS.2.2 dX0_below_36
  · have hf := kp_n c1 hf
    refine lv_iload_n hx hb dX0_below_29 rfl (lv_at hl 0 rfl) ?_
    refine lv_iload_n hx hb dX0_below_30 rfl (lv_at hl 2 rfl) ?_
    obtain ⟨hq2, hf⟩ := kp_t hf
    refine lv_irem hx hb dX0_below_31 hq2 ?_
    refine lv_goto (tgt := 36) hx hb dX0_below_32 (by decide) ?_
    have eo := Option.some.inj hf
    subst eo
    exact W.iret (v := (((((6364136223846793005 * h_state) + 1442695040888963407).toUInt64 >>> ((33 : Int32).toInt64.toUInt64 &&& Int64.toUInt64 63)).toInt64).toInt32) - (((((6364136223846793005 * h_state) + 1442695040888963407).toUInt64 >>> ((33 : Int32).toInt64.toUInt64 &&& Int64.toUInt64 63)).toInt64).toInt32) / p0 * p0) hx hb hr (fun t ht hW => ⟨⟨_, (), rfl, rfl, kq_mk ht hP hD⟩, hS.F ht⟩) hS.2.2 dX0_below_36

def f_X6_digits_L9 (p0 : Int32) : Nat → Int32 → Int32 → Int32 → Option (Int32)
  | 0, _, _, _ => none
  | n9 + 1, v1, v2, v3 =>
    (if 10 ≤ v3 then
    some v1
    else
    (if v2 = 0 then
    some v1
    else
    f_X6_digits_L9 p0 n9 (v1 + 1) (v2 / 10) (v3 + 1)))
theorem e_X6_digits_L9 (p0 : Int32) (n9 : Nat) (v1 : Int32) (v2 : Int32) (v3 : Int32) : f_X6_digits_L9 p0 (n9 + 1) v1 v2 v3 =
    ((if 10 ≤ v3 then
    some v1
    else
    (if v2 = 0 then
    some v1
    else
    f_X6_digits_L9 p0 n9 (v1 + 1) (v2 / 10) (v3 + 1)))) := rfl
def f_X6_digits (p0 : Int32) : Option (Int32) :=
    f_X6_digits_L9 p0 64 1 (p0 / 10) 0
set_option maxHeartbeats 4000000 in
set_option maxRecDepth 100000 in
theorem c_X6_digits (l : Launch) (dC : Nat → ClassId) (dI : Nat → Nat → Nat) (cA : Nat → ClassId) (tt : Nat → Nat) (sz : Nat) (p0 : Int32) (o : Int32) (hf : f_X6_digits p0 = some o) : Met l yX6_digits wX6_digits ({ frames := 0, cells := 0, slots := 0, locals := 0 }) (kq_Pc dC dI cA tt [.int p0] [] sz) (va_Qi (fun r (_ : Unit) => r = o) (fun _ t => kq_B dC dI [] (va_A [] sz) t) (va_A [] sz)) 0 0 (va_A [] sz) := by
  refine Met.ofW (cc := cX6_digits) (maxL := 4) (ret := (some .int)) (by decide) rfl ?_
  intro p e s m args below meth c s₁ B hml hv
  obtain ⟨rfl, hsz, hP, hD0, hG, hZ⟩ := hv
  have hx := B.exec
  have hb := B.bytes
  have hr := B.returns
  have hts : ∀ w ∈ kq_T, w.before _ s = true := fun w h => atoms_spec (ws := wX6_digits) B.pre w (List.mem_cons_of_mem _ h)
  have hown : s.vm.findClass RX6 = some m.cls := findClass_of_methodNamed B.named
  have hlocks := B.notSynchronized
  have hK := hG.1
  subst hsz
  have hD := hD0.self (sz := s.heap.size)
  generalize hAe : va_A [] s.heap.size = A at hD hZ ⊢
  have hA : ∀ q : Nat, s.heap.size ≤ q → A q := fun q h => by rw [← hAe]; exact Or.inr h
  have hl := lv_entry [.int p0] (n := 4) (Nat.le_of_ble_eq_true rfl)
  rw [lg_entry_eq]
  generalize (lg_sl [.int p0] ++ List.replicate (4 - (lg_sl [.int p0]).length) Slot.unset).toArray = ls at hl ⊢
  have hl : lv_has ls 4 [(0, .int p0)] := hl
  obtain ⟨H, hHe⟩ : ∃ H : Heap, H = s.heap := ⟨_, rfl⟩
  have hP : va_P (dC, dI) vwCl [] H := by rw [hHe]; exact hP
  have hS : va_S A s.heap H [] := by rw [hHe]; exact va_S.rf
  rw [← hHe]
  unfold f_X6_digits at hf
  refine lv_iconst (v := 1) hx hb dX6_digits_0 (by decide) ?_
  refine lv_istore_n (lv' := [(1, .int 1), (0, .int p0)]) hx hb dX6_digits_1 rfl hl (by decide) rfl (fun ls hl => ?_)
  refine lv_iload_n hx hb dX6_digits_2 rfl (lv_at hl 1 rfl) ?_
  refine lv_bipush (v := 10) hx hb dX6_digits_3 (by decide) ?_
  refine lv_idiv hx hb dX6_digits_5 (by decide) ?_
  refine lv_istore_n (lv' := [(2, .int (p0 / 10)), (1, .int 1), (0, .int p0)]) hx hb dX6_digits_6 rfl hl (by decide) rfl (fun ls hl => ?_)
  refine lv_iconst (v := 0) hx hb dX6_digits_7 (by decide) ?_
  refine lv_istore_n (lv' := [(3, .int 0), (2, .int (p0 / 10)), (1, .int 1), (0, .int p0)]) hx hb dX6_digits_8 rfl hl (by decide) rfl (fun ls hl => ?_)
  refine kq_ind (fun n H locs g => ∃ (v1 : Int32) (v2 : Int32) (v3 : Int32) (ls : Array Slot), g = F0 m 9 ls [] ∧ lv_has ls 4 [(1, .int v1), (2, .int v2), (3, .int v3)] ∧ va_P (dC, dI) vwCl [] H ∧ va_D A [] ∧ va_S A s.heap H locs ∧ f_X6_digits_L9 p0 n v1 v2 v3 = some o) (fun H locs g h => ?_) (fun n9 ih9 H locs g h => ?_) 64 _ _ _ ⟨1, p0 / 10, 0, ls, rfl, lv_sub hl [2, 1, 0] rfl, hP, hD, hS, hf⟩
  · obtain ⟨v1, v2, v3, ls, -, -, -, -, -, hf⟩ := h
    have hf : (none : Option (Int32)) = some o := hf
    cases hf
  · obtain ⟨v1, v2, v3, ls, rfl, hl, hP, hD, hS, hf⟩ := h
    have hf := (e_X6_digits_L9 p0 n9 v1 v2 v3).symm.trans hf
    refine lv_iload_n hx hb dX6_digits_9 rfl (lv_at hl 2 rfl) ?_
    refine lv_bipush (v := 10) hx hb dX6_digits_10 (by decide) ?_
    refine lv_icmp_ge (tgt := 33) hx hb dX6_digits_12 (by decide) (fun c10001 => ?_) (fun c10001 => ?_)
    · have hf := kp_p c10001 hf
      refine lv_iload_n hx hb dX6_digits_33 rfl (lv_at hl 0 rfl) ?_
      have eo := Option.some.inj hf
      subst eo
      exact W.iret (v := v1) hx hb hr (fun t ht hW => ⟨⟨_, (), rfl, rfl, kq_mk ht hP hD⟩, hS.F ht⟩) hS.2.2 dX6_digits_34
    · have hf := kp_n c10001 hf
      refine lv_iload_n hx hb dX6_digits_15 rfl (lv_at hl 1 rfl) ?_
      refine lv_if_eq (tgt := 33) hx hb dX6_digits_16 (by decide) (fun c10002 => ?_) (fun c10002 => ?_)
      · have hf := kp_p c10002 hf
        refine lv_iload_n hx hb dX6_digits_33 rfl (lv_at hl 0 rfl) ?_
        have eo := Option.some.inj hf
        subst eo
        exact W.iret (v := v1) hx hb hr (fun t ht hW => ⟨⟨_, (), rfl, rfl, kq_mk ht hP hD⟩, hS.F ht⟩) hS.2.2 dX6_digits_34
      · have hf := kp_n c10002 hf
        refine lv_iinc (v := v1 + 1) (lv' := [(1, .int (v1 + 1)), (2, .int v2), (3, .int v3)]) hx hb dX6_digits_19 hl (k := 0) rfl rfl (by decide) rfl (fun ls hl => ?_)
        refine lv_iload_n hx hb dX6_digits_22 rfl (lv_at hl 1 rfl) ?_
        refine lv_bipush (v := 10) hx hb dX6_digits_23 (by decide) ?_
        refine lv_idiv hx hb dX6_digits_25 (by decide) ?_
        refine lv_istore_n (lv' := [(2, .int (v2 / 10)), (1, .int (v1 + 1)), (3, .int v3)]) hx hb dX6_digits_26 rfl hl (by decide) rfl (fun ls hl => ?_)
        refine lv_iinc (v := v3 + 1) (lv' := [(3, .int (v3 + 1)), (2, .int (v2 / 10)), (1, .int (v1 + 1))]) hx hb dX6_digits_27 hl (k := 2) rfl rfl (by decide) rfl (fun ls hl => ?_)
        refine lv_goto (tgt := 9) hx hb dX6_digits_30 (by decide) ?_
        exact ih9 _ _ _ ⟨v1 + 1, v2 / 10, v3 + 1, ls, rfl, lv_sub hl [2, 1, 0] rfl, hP, hD, hS, hf⟩

def f_X6_length (p0 : Int32) : Option (Int32) :=
    (f_X6_digits p0).bind fun r1 =>
    (if 0 ≤ p0 then
    some (r1 + 0)
    else
    some (r1 + 1))
set_option maxHeartbeats 4000000 in
set_option maxRecDepth 100000 in
theorem c_X6_length (l : Launch) (dC : Nat → ClassId) (dI : Nat → Nat → Nat) (cA : Nat → ClassId) (tt : Nat → Nat) (sz : Nat) (p0 : Int32) (o : Int32) (hf : f_X6_length p0 = some o) : Met l yX6_length wX6_length ({ frames := 1, cells := 0, slots := 0, locals := 23 }) (kq_Pc dC dI cA tt [.int p0] [] sz) (va_Qi (fun r (_ : Unit) => r = o) (fun _ t => kq_B dC dI [] (va_A [] sz) t) (va_A [] sz)) 0 0 (va_A [] sz) := by
  refine Met.ofW (cc := cX6_length) (maxL := 1) (ret := (some .int)) (by decide) rfl ?_
  intro p e s m args below meth c s₁ B hml hv
  obtain ⟨rfl, hsz, hP, hD0, hG, hZ⟩ := hv
  have hx := B.exec
  have hb := B.bytes
  have hr := B.returns
  have hts : ∀ w ∈ kq_T, w.before _ s = true := fun w h => atoms_spec (ws := wX6_length) B.pre w (List.mem_cons_of_mem _ h)
  have hown : s.vm.findClass RX6 = some m.cls := findClass_of_methodNamed B.named
  have hlocks := B.notSynchronized
  have hK := hG.1
  subst hsz
  have hD := hD0.self (sz := s.heap.size)
  generalize hAe : va_A [] s.heap.size = A at hD hZ ⊢
  have hA : ∀ q : Nat, s.heap.size ≤ q → A q := fun q h => by rw [← hAe]; exact Or.inr h
  have hl := lv_entry [.int p0] (n := 1) (Nat.le_of_ble_eq_true rfl)
  rw [lg_entry_eq]
  generalize (lg_sl [.int p0] ++ List.replicate (1 - (lg_sl [.int p0]).length) Slot.unset).toArray = ls at hl ⊢
  have hl : lv_has ls 1 [(0, .int p0)] := hl
  obtain ⟨H, hHe⟩ : ∃ H : Heap, H = s.heap := ⟨_, rfl⟩
  have hP : va_P (dC, dI) vwCl [] H := by rw [hHe]; exact hP
  have hS : va_S A s.heap H [] := by rw [hHe]; exact va_S.rf
  rw [← hHe]
  unfold f_X6_length at hf
  refine lv_iload_n hx hb dX6_length_0 rfl (lv_at hl 0 rfl) ?_
  obtain ⟨r1, hr1, hf⟩ := kp_b hf
  have hPc := hP.sub (ws' := []) [] rfl
  have hDc := hD.sub (ws' := []) [] (by decide) rfl
  have hFc := va_free (wc := []) hD hS hA [] rfl
  refine va_calli (va_runS (As := [.int p0]) (rest := []) ⟨hx, hb, hml, hown, hts⟩ (c_X6_digits l dC dI cA tt H.size p0 r1 hr1) (va_cwS 1 hts (kq_gS tw_225 tw_226 tw_26 tw_227) rfl rfl rfl (by decide +kernel) ⟨Nat.le_of_ble_eq_true rfl, Nat.le_of_ble_eq_true rfl⟩) ⟨kq_blind, kq_pre hG hZ hS hPc hDc hFc⟩ rfl rfl hl.1 rfl (lv_room (Nat.le_of_ble_eq_true rfl)) dX6_length_1 ⟨Nat.le_of_ble_eq_true rfl, Nat.le_of_ble_eq_true rfl⟩) hS (fun q _ h => hFc q h) hFc (fun rv u t H1 locs ht hvm hw hB hz1 hk1 hS => ?_)
  obtain ⟨hP1, hD1⟩ := hB
  rw [ht] at hP1
  have hw := hw.symm
  subst hw
  obtain ⟨hP, hD⟩ := va_join (wr := []) (w1 := []) hP hD [] [] rfl rfl (by decide) (by decide) hk1 hFc hP1 hD1
  have hP : va_P (dC, dI) vwCl [] H1 := hP.sub [] rfl
  have hD : va_D A [] := hD.sub [] (by decide) rfl
  generalize H1 = H at hP hS ⊢
  refine lv_iload_n hx hb dX6_length_4 rfl (lv_at hl 0 rfl) ?_
  refine lv_if_ge (tgt := 12) hx hb dX6_length_5 (by decide) (fun c2 => ?_) (fun c2 => ?_)
  · have hf := kp_p c2 hf
    refine lv_iconst (v := 0) hx hb dX6_length_12 (by decide) ?_
    refine lv_iadd hx hb dX6_length_13 ?_
    have eo := Option.some.inj hf
    subst eo
    exact W.iret (v := r1 + 0) hx hb hr (fun t ht hW => ⟨⟨_, (), rfl, rfl, kq_mk ht hP hD⟩, hS.F ht⟩) hS.2.2 dX6_length_14
  · have hf := kp_n c2 hf
    refine lv_iconst (v := 1) hx hb dX6_length_8 (by decide) ?_
    refine lv_goto (tgt := 13) hx hb dX6_length_9 (by decide) ?_
    refine lv_iadd hx hb dX6_length_13 ?_
    have eo := Option.some.inj hf
    subst eo
    exact W.iret (v := r1 + 1) hx hb hr (fun t ht hW => ⟨⟨_, (), rfl, rfl, kq_mk ht hP hD⟩, hS.F ht⟩) hS.2.2 dX6_length_14

def f_X6_letterAt_L25 (p0 : Int32) (p1 : Int32) : Nat → Int32 → Int32 → Int32 → Option (Int32)
  | 0, _, _, _ => none
  | n25 + 1, v2, v3, v4 =>
    (if v3 ≤ v4 then
    some (48 + (if 0 ≤ (v2 - v2 / 10 * 10) then (v2 - v2 / 10 * 10) else 0 - (v2 - v2 / 10 * 10)))
    else
    (if 10 ≤ v4 then
    some (48 + (if 0 ≤ (v2 - v2 / 10 * 10) then (v2 - v2 / 10 * 10) else 0 - (v2 - v2 / 10 * 10)))
    else
    f_X6_letterAt_L25 p0 p1 n25 (v2 / 10) v3 (v4 + 1)))
theorem e_X6_letterAt_L25 (p0 : Int32) (p1 : Int32) (n25 : Nat) (v2 : Int32) (v3 : Int32) (v4 : Int32) : f_X6_letterAt_L25 p0 p1 (n25 + 1) v2 v3 v4 =
    ((if v3 ≤ v4 then
    some (48 + (if 0 ≤ (v2 - v2 / 10 * 10) then (v2 - v2 / 10 * 10) else 0 - (v2 - v2 / 10 * 10)))
    else
    (if 10 ≤ v4 then
    some (48 + (if 0 ≤ (v2 - v2 / 10 * 10) then (v2 - v2 / 10 * 10) else 0 - (v2 - v2 / 10 * 10)))
    else
    f_X6_letterAt_L25 p0 p1 n25 (v2 / 10) v3 (v4 + 1)))) := rfl
def f_X6_letterAt (p0 : Int32) (p1 : Int32) : Option (Int32) :=
    (if 0 ≤ p0 then
    (f_X6_length p0).bind fun r2 =>
    f_X6_letterAt_L25 p0 p1 64 p0 ((r2 - 1) - p1) 0
    else
    (if p1 = 0 then
    some 45
    else
    (f_X6_length p0).bind fun r4 =>
    f_X6_letterAt_L25 p0 p1 64 p0 ((r4 - 1) - p1) 0))
set_option maxHeartbeats 4000000 in
set_option maxRecDepth 100000 in
theorem c_X6_letterAt (l : Launch) (dC : Nat → ClassId) (dI : Nat → Nat → Nat) (cA : Nat → ClassId) (tt : Nat → Nat) (sz : Nat) (p0 : Int32) (p1 : Int32) (o : Int32) (hf : f_X6_letterAt p0 p1 = some o) : Met l yX6_letterAt wX6_letterAt ({ frames := 2, cells := 0, slots := 0, locals := 43 }) (kq_Pc dC dI cA tt [.int p0, .int p1] [] sz) (va_Qi (fun r (_ : Unit) => r = o) (fun _ t => kq_B dC dI [] (va_A [] sz) t) (va_A [] sz)) 0 0 (va_A [] sz) := by
  refine Met.ofW (cc := cX6_letterAt) (maxL := 5) (ret := (some .int)) (by decide) rfl ?_
  intro p e s m args below meth c s₁ B hml hv
  obtain ⟨rfl, hsz, hP, hD0, hG, hZ⟩ := hv
  have hx := B.exec
  have hb := B.bytes
  have hr := B.returns
  have hts : ∀ w ∈ kq_T, w.before _ s = true := fun w h => atoms_spec (ws := wX6_letterAt) B.pre w (List.mem_cons_of_mem _ h)
  have hown : s.vm.findClass RX6 = some m.cls := findClass_of_methodNamed B.named
  have hlocks := B.notSynchronized
  have hK := hG.1
  subst hsz
  have hD := hD0.self (sz := s.heap.size)
  generalize hAe : va_A [] s.heap.size = A at hD hZ ⊢
  have hA : ∀ q : Nat, s.heap.size ≤ q → A q := fun q h => by rw [← hAe]; exact Or.inr h
  have hl := lv_entry [.int p0, .int p1] (n := 5) (Nat.le_of_ble_eq_true rfl)
  rw [lg_entry_eq]
  generalize (lg_sl [.int p0, .int p1] ++ List.replicate (5 - (lg_sl [.int p0, .int p1]).length) Slot.unset).toArray = ls at hl ⊢
  have hl : lv_has ls 5 [(0, .int p0), (1, .int p1)] := hl
  obtain ⟨H, hHe⟩ : ∃ H : Heap, H = s.heap := ⟨_, rfl⟩
  have hP : va_P (dC, dI) vwCl [] H := by rw [hHe]; exact hP
  have hS : va_S A s.heap H [] := by rw [hHe]; exact va_S.rf
  rw [← hHe]
  unfold f_X6_letterAt at hf
  refine lv_iload_n hx hb dX6_letterAt_0 rfl (lv_at hl 0 rfl) ?_
  refine lv_if_ge (tgt := 11) hx hb dX6_letterAt_1 (by decide) (fun c1 => ?_) (fun c1 => ?_)
  · have hf := kp_p c1 hf
    refine lv_iload_n hx hb dX6_letterAt_11 rfl (lv_at hl 0 rfl) ?_
    refine lv_istore_n (lv' := [(2, .int p0), (0, .int p0), (1, .int p1)]) hx hb dX6_letterAt_12 rfl hl (by decide) rfl (fun ls hl => ?_)
    refine lv_iload_n hx hb dX6_letterAt_13 rfl (lv_at hl 1 rfl) ?_
    obtain ⟨r2, hr2, hf⟩ := kp_b hf
    have hPc := hP.sub (ws' := []) [] rfl
    have hDc := hD.sub (ws' := []) [] (by decide) rfl
    have hFc := va_free (wc := []) hD hS hA [] rfl
    refine va_calli (va_runS (As := [.int p0]) (rest := []) ⟨hx, hb, hml, hown, hts⟩ (c_X6_length l dC dI cA tt H.size p0 r2 hr2) (va_cwS 1 hts (kq_gS tw_235 tw_223 tw_26 tw_224) rfl rfl rfl (by decide +kernel) ⟨Nat.le_of_ble_eq_true rfl, Nat.le_of_ble_eq_true rfl⟩) ⟨kq_blind, kq_pre hG hZ hS hPc hDc hFc⟩ rfl rfl hl.1 rfl (lv_room (Nat.le_of_ble_eq_true rfl)) dX6_letterAt_14 ⟨Nat.le_of_ble_eq_true rfl, Nat.le_of_ble_eq_true rfl⟩) hS (fun q _ h => hFc q h) hFc (fun rv u t H1 locs ht hvm hw hB hz1 hk1 hS => ?_)
    obtain ⟨hP1, hD1⟩ := hB
    rw [ht] at hP1
    have hw := hw.symm
    subst hw
    obtain ⟨hP, hD⟩ := va_join (wr := []) (w1 := []) hP hD [] [] rfl rfl (by decide) (by decide) hk1 hFc hP1 hD1
    have hP : va_P (dC, dI) vwCl [] H1 := hP.sub [] rfl
    have hD : va_D A [] := hD.sub [] (by decide) rfl
    generalize H1 = H at hP hS ⊢
    refine lv_iconst (v := 1) hx hb dX6_letterAt_17 (by decide) ?_
    refine lv_isub hx hb dX6_letterAt_18 ?_
    refine lv_iload_n hx hb dX6_letterAt_19 rfl (lv_at hl 2 rfl) ?_
    refine lv_isub hx hb dX6_letterAt_20 ?_
    refine lv_istore_n (lv' := [(3, .int ((r2 - 1) - p1)), (2, .int p0), (0, .int p0), (1, .int p1)]) hx hb dX6_letterAt_21 rfl hl (by decide) rfl (fun ls hl => ?_)
    refine lv_iconst (v := 0) hx hb dX6_letterAt_22 (by decide) ?_
    refine lv_istore (lv' := [(4, .int 0), (3, .int ((r2 - 1) - p1)), (2, .int p0), (0, .int p0), (1, .int p1)]) hx hb dX6_letterAt_23 hl (by decide) rfl (fun ls hl => ?_)
    refine kq_ind (fun n H locs g => ∃ (v2 : Int32) (v3 : Int32) (v4 : Int32) (ls : Array Slot), g = F0 m 25 ls [] ∧ lv_has ls 5 [(2, .int v2), (3, .int v3), (4, .int v4)] ∧ va_P (dC, dI) vwCl [] H ∧ va_D A [] ∧ va_S A s.heap H locs ∧ f_X6_letterAt_L25 p0 p1 n v2 v3 v4 = some o) (fun H locs g h => ?_) (fun n25 ih25 H locs g h => ?_) 64 _ _ _ ⟨p0, (r2 - 1) - p1, 0, ls, rfl, lv_sub hl [2, 1, 0] rfl, hP, hD, hS, hf⟩
    · obtain ⟨v2, v3, v4, ls, -, -, -, -, -, hf⟩ := h
      have hf : (none : Option (Int32)) = some o := hf
      cases hf
    · obtain ⟨v2, v3, v4, ls, rfl, hl, hP, hD, hS, hf⟩ := h
      have hf := (e_X6_letterAt_L25 p0 p1 n25 v2 v3 v4).symm.trans hf
      refine lv_iload hx hb dX6_letterAt_25 (lv_at hl 2 rfl) ?_
      refine lv_iload_n hx hb dX6_letterAt_27 rfl (lv_at hl 1 rfl) ?_
      refine lv_icmp_ge (tgt := 49) hx hb dX6_letterAt_28 (by decide) (fun c26001 => ?_) (fun c26001 => ?_)
      · have hf := kp_p c26001 hf
        refine lv_bipush (v := 48) hx hb dX6_letterAt_49 (by decide) ?_
        refine lv_iload_n hx hb dX6_letterAt_51 rfl (lv_at hl 0 rfl) ?_
        refine lv_bipush (v := 10) hx hb dX6_letterAt_52 (by decide) ?_
        refine lv_irem hx hb dX6_letterAt_54 (by decide) ?_
        refine va_mabs hx hb (hml.trans hl.1.symm) hown (hts _ tw_236) (hts _ tw_237) (hts _ tw_27) (hts _ tw_238) (Nat.le_of_ble_eq_true rfl) (Nat.le_of_ble_eq_true rfl) (Nat.zero_le _) (Nat.zero_le _) dX6_letterAt_55 ?_
        refine lv_iadd hx hb dX6_letterAt_58 ?_
        have eo := Option.some.inj hf
        subst eo
        exact W.iret (v := 48 + (if 0 ≤ (v2 - v2 / 10 * 10) then (v2 - v2 / 10 * 10) else 0 - (v2 - v2 / 10 * 10))) hx hb hr (fun t ht hW => ⟨⟨_, (), rfl, rfl, kq_mk ht hP hD⟩, hS.F ht⟩) hS.2.2 dX6_letterAt_59
      · have hf := kp_n c26001 hf
        refine lv_iload hx hb dX6_letterAt_31 (lv_at hl 2 rfl) ?_
        refine lv_bipush (v := 10) hx hb dX6_letterAt_33 (by decide) ?_
        refine lv_icmp_ge (tgt := 49) hx hb dX6_letterAt_35 (by decide) (fun c26002 => ?_) (fun c26002 => ?_)
        · have hf := kp_p c26002 hf
          refine lv_bipush (v := 48) hx hb dX6_letterAt_49 (by decide) ?_
          refine lv_iload_n hx hb dX6_letterAt_51 rfl (lv_at hl 0 rfl) ?_
          refine lv_bipush (v := 10) hx hb dX6_letterAt_52 (by decide) ?_
          refine lv_irem hx hb dX6_letterAt_54 (by decide) ?_
          refine va_mabs hx hb (hml.trans hl.1.symm) hown (hts _ tw_236) (hts _ tw_237) (hts _ tw_27) (hts _ tw_238) (Nat.le_of_ble_eq_true rfl) (Nat.le_of_ble_eq_true rfl) (Nat.zero_le _) (Nat.zero_le _) dX6_letterAt_55 ?_
          refine lv_iadd hx hb dX6_letterAt_58 ?_
          have eo := Option.some.inj hf
          subst eo
          exact W.iret (v := 48 + (if 0 ≤ (v2 - v2 / 10 * 10) then (v2 - v2 / 10 * 10) else 0 - (v2 - v2 / 10 * 10))) hx hb hr (fun t ht hW => ⟨⟨_, (), rfl, rfl, kq_mk ht hP hD⟩, hS.F ht⟩) hS.2.2 dX6_letterAt_59
        · have hf := kp_n c26002 hf
          refine lv_iload_n hx hb dX6_letterAt_38 rfl (lv_at hl 0 rfl) ?_
          refine lv_bipush (v := 10) hx hb dX6_letterAt_39 (by decide) ?_
          refine lv_idiv hx hb dX6_letterAt_41 (by decide) ?_
          refine lv_istore_n (lv' := [(2, .int (v2 / 10)), (3, .int v3), (4, .int v4)]) hx hb dX6_letterAt_42 rfl hl (by decide) rfl (fun ls hl => ?_)
          refine lv_iinc (v := v4 + 1) (lv' := [(4, .int (v4 + 1)), (2, .int (v2 / 10)), (3, .int v3)]) hx hb dX6_letterAt_43 hl (k := 2) rfl rfl (by decide) rfl (fun ls hl => ?_)
          refine lv_goto (tgt := 25) hx hb dX6_letterAt_46 (by decide) ?_
          exact ih25 _ _ _ ⟨v2 / 10, v3, v4 + 1, ls, rfl, lv_sub hl [1, 2, 0] rfl, hP, hD, hS, hf⟩
  · have hf := kp_n c1 hf
    refine lv_iload_n hx hb dX6_letterAt_4 rfl (lv_at hl 1 rfl) ?_
    refine lv_if_ne (tgt := 11) hx hb dX6_letterAt_5 (by decide) (fun c3 => ?_) (fun c3 => ?_)
    · have hf := kp_n c3 hf
      refine lv_iload_n hx hb dX6_letterAt_11 rfl (lv_at hl 0 rfl) ?_
      refine lv_istore_n (lv' := [(2, .int p0), (0, .int p0), (1, .int p1)]) hx hb dX6_letterAt_12 rfl hl (by decide) rfl (fun ls hl => ?_)
      refine lv_iload_n hx hb dX6_letterAt_13 rfl (lv_at hl 1 rfl) ?_
      obtain ⟨r4, hr4, hf⟩ := kp_b hf
      have hPc := hP.sub (ws' := []) [] rfl
      have hDc := hD.sub (ws' := []) [] (by decide) rfl
      have hFc := va_free (wc := []) hD hS hA [] rfl
      refine va_calli (va_runS (As := [.int p0]) (rest := []) ⟨hx, hb, hml, hown, hts⟩ (c_X6_length l dC dI cA tt H.size p0 r4 hr4) (va_cwS 1 hts (kq_gS tw_235 tw_223 tw_26 tw_224) rfl rfl rfl (by decide +kernel) ⟨Nat.le_of_ble_eq_true rfl, Nat.le_of_ble_eq_true rfl⟩) ⟨kq_blind, kq_pre hG hZ hS hPc hDc hFc⟩ rfl rfl hl.1 rfl (lv_room (Nat.le_of_ble_eq_true rfl)) dX6_letterAt_14 ⟨Nat.le_of_ble_eq_true rfl, Nat.le_of_ble_eq_true rfl⟩) hS (fun q _ h => hFc q h) hFc (fun rv u t H1 locs ht hvm hw hB hz1 hk1 hS => ?_)
      obtain ⟨hP1, hD1⟩ := hB
      rw [ht] at hP1
      have hw := hw.symm
      subst hw
      obtain ⟨hP, hD⟩ := va_join (wr := []) (w1 := []) hP hD [] [] rfl rfl (by decide) (by decide) hk1 hFc hP1 hD1
      have hP : va_P (dC, dI) vwCl [] H1 := hP.sub [] rfl
      have hD : va_D A [] := hD.sub [] (by decide) rfl
      generalize H1 = H at hP hS ⊢
      refine lv_iconst (v := 1) hx hb dX6_letterAt_17 (by decide) ?_
      refine lv_isub hx hb dX6_letterAt_18 ?_
      refine lv_iload_n hx hb dX6_letterAt_19 rfl (lv_at hl 2 rfl) ?_
      refine lv_isub hx hb dX6_letterAt_20 ?_
      refine lv_istore_n (lv' := [(3, .int ((r4 - 1) - p1)), (2, .int p0), (0, .int p0), (1, .int p1)]) hx hb dX6_letterAt_21 rfl hl (by decide) rfl (fun ls hl => ?_)
      refine lv_iconst (v := 0) hx hb dX6_letterAt_22 (by decide) ?_
      refine lv_istore (lv' := [(4, .int 0), (3, .int ((r4 - 1) - p1)), (2, .int p0), (0, .int p0), (1, .int p1)]) hx hb dX6_letterAt_23 hl (by decide) rfl (fun ls hl => ?_)
      refine kq_ind (fun n H locs g => ∃ (v2 : Int32) (v3 : Int32) (v4 : Int32) (ls : Array Slot), g = F0 m 25 ls [] ∧ lv_has ls 5 [(2, .int v2), (3, .int v3), (4, .int v4)] ∧ va_P (dC, dI) vwCl [] H ∧ va_D A [] ∧ va_S A s.heap H locs ∧ f_X6_letterAt_L25 p0 p1 n v2 v3 v4 = some o) (fun H locs g h => ?_) (fun n25 ih25 H locs g h => ?_) 64 _ _ _ ⟨p0, (r4 - 1) - p1, 0, ls, rfl, lv_sub hl [2, 1, 0] rfl, hP, hD, hS, hf⟩
      · obtain ⟨v2, v3, v4, ls, -, -, -, -, -, hf⟩ := h
        have hf : (none : Option (Int32)) = some o := hf
        cases hf
      · obtain ⟨v2, v3, v4, ls, rfl, hl, hP, hD, hS, hf⟩ := h
        have hf := (e_X6_letterAt_L25 p0 p1 n25 v2 v3 v4).symm.trans hf
        refine lv_iload hx hb dX6_letterAt_25 (lv_at hl 2 rfl) ?_
        refine lv_iload_n hx hb dX6_letterAt_27 rfl (lv_at hl 1 rfl) ?_
        refine lv_icmp_ge (tgt := 49) hx hb dX6_letterAt_28 (by decide) (fun c26001 => ?_) (fun c26001 => ?_)
        · have hf := kp_p c26001 hf
          refine lv_bipush (v := 48) hx hb dX6_letterAt_49 (by decide) ?_
          refine lv_iload_n hx hb dX6_letterAt_51 rfl (lv_at hl 0 rfl) ?_
          refine lv_bipush (v := 10) hx hb dX6_letterAt_52 (by decide) ?_
          refine lv_irem hx hb dX6_letterAt_54 (by decide) ?_
          refine va_mabs hx hb (hml.trans hl.1.symm) hown (hts _ tw_236) (hts _ tw_237) (hts _ tw_27) (hts _ tw_238) (Nat.le_of_ble_eq_true rfl) (Nat.le_of_ble_eq_true rfl) (Nat.zero_le _) (Nat.zero_le _) dX6_letterAt_55 ?_
          refine lv_iadd hx hb dX6_letterAt_58 ?_
          have eo := Option.some.inj hf
          subst eo
          exact W.iret (v := 48 + (if 0 ≤ (v2 - v2 / 10 * 10) then (v2 - v2 / 10 * 10) else 0 - (v2 - v2 / 10 * 10))) hx hb hr (fun t ht hW => ⟨⟨_, (), rfl, rfl, kq_mk ht hP hD⟩, hS.F ht⟩) hS.2.2 dX6_letterAt_59
        · have hf := kp_n c26001 hf
          refine lv_iload hx hb dX6_letterAt_31 (lv_at hl 2 rfl) ?_
          refine lv_bipush (v := 10) hx hb dX6_letterAt_33 (by decide) ?_
          refine lv_icmp_ge (tgt := 49) hx hb dX6_letterAt_35 (by decide) (fun c26002 => ?_) (fun c26002 => ?_)
          · have hf := kp_p c26002 hf
            refine lv_bipush (v := 48) hx hb dX6_letterAt_49 (by decide) ?_
            refine lv_iload_n hx hb dX6_letterAt_51 rfl (lv_at hl 0 rfl) ?_
            refine lv_bipush (v := 10) hx hb dX6_letterAt_52 (by decide) ?_
            refine lv_irem hx hb dX6_letterAt_54 (by decide) ?_
            refine va_mabs hx hb (hml.trans hl.1.symm) hown (hts _ tw_236) (hts _ tw_237) (hts _ tw_27) (hts _ tw_238) (Nat.le_of_ble_eq_true rfl) (Nat.le_of_ble_eq_true rfl) (Nat.zero_le _) (Nat.zero_le _) dX6_letterAt_55 ?_
            refine lv_iadd hx hb dX6_letterAt_58 ?_
            have eo := Option.some.inj hf
            subst eo
            exact W.iret (v := 48 + (if 0 ≤ (v2 - v2 / 10 * 10) then (v2 - v2 / 10 * 10) else 0 - (v2 - v2 / 10 * 10))) hx hb hr (fun t ht hW => ⟨⟨_, (), rfl, rfl, kq_mk ht hP hD⟩, hS.F ht⟩) hS.2.2 dX6_letterAt_59
          · have hf := kp_n c26002 hf
            refine lv_iload_n hx hb dX6_letterAt_38 rfl (lv_at hl 0 rfl) ?_
            refine lv_bipush (v := 10) hx hb dX6_letterAt_39 (by decide) ?_
            refine lv_idiv hx hb dX6_letterAt_41 (by decide) ?_
            refine lv_istore_n (lv' := [(2, .int (v2 / 10)), (3, .int v3), (4, .int v4)]) hx hb dX6_letterAt_42 rfl hl (by decide) rfl (fun ls hl => ?_)
            refine lv_iinc (v := v4 + 1) (lv' := [(4, .int (v4 + 1)), (2, .int (v2 / 10)), (3, .int v3)]) hx hb dX6_letterAt_43 hl (k := 2) rfl rfl (by decide) rfl (fun ls hl => ?_)
            refine lv_goto (tgt := 25) hx hb dX6_letterAt_46 (by decide) ?_
            exact ih25 _ _ _ ⟨v2 / 10, v3, v4 + 1, ls, rfl, lv_sub hl [1, 2, 0] rfl, hP, hD, hS, hf⟩
    · have hf := kp_p c3 hf
      refine lv_bipush (v := 45) hx hb dX6_letterAt_8 (by decide) ?_
      have eo := Option.some.inj hf
      subst eo
      exact W.iret (v := 45) hx hb hr (fun t ht hW => ⟨⟨_, (), rfl, rfl, kq_mk ht hP hD⟩, hS.F ht⟩) hS.2.2 dX6_letterAt_10

def f_X2_isSignature (p0 : Int32) : Option (Int32) :=
    (if p0 < 0 then
    some 0
    else
    (if 64 ≤ p0 then
    some 0
    else
    some 1))
set_option maxHeartbeats 4000000 in
set_option maxRecDepth 100000 in
theorem c_X2_isSignature (l : Launch) (dC : Nat → ClassId) (dI : Nat → Nat → Nat) (cA : Nat → ClassId) (tt : Nat → Nat) (sz : Nat) (p0 : Int32) (o : Int32) (hf : f_X2_isSignature p0 = some o) : Met l yX2_isSignature wX2_isSignature ({ frames := 0, cells := 0, slots := 0, locals := 0 }) (kq_Pc dC dI cA tt [.int p0] [] sz) (va_Qi (fun r (_ : Unit) => r = o) (fun _ t => kq_B dC dI [] (va_A [] sz) t) (va_A [] sz)) 0 0 (va_A [] sz) := by
  refine Met.ofW (cc := cX2_isSignature) (maxL := 1) (ret := (some .boolean)) (by decide) rfl ?_
  intro p e s m args below meth c s₁ B hml hv
  obtain ⟨rfl, hsz, hP, hD0, hG, hZ⟩ := hv
  have hx := B.exec
  have hb := B.bytes
  have hr := B.returns
  have hts : ∀ w ∈ kq_T, w.before _ s = true := fun w h => atoms_spec (ws := wX2_isSignature) B.pre w (List.mem_cons_of_mem _ h)
  have hown : s.vm.findClass RX2 = some m.cls := findClass_of_methodNamed B.named
  have hlocks := B.notSynchronized
  have hK := hG.1
  subst hsz
  have hD := hD0.self (sz := s.heap.size)
  generalize hAe : va_A [] s.heap.size = A at hD hZ ⊢
  have hA : ∀ q : Nat, s.heap.size ≤ q → A q := fun q h => by rw [← hAe]; exact Or.inr h
  have hl := lv_entry [.int p0] (n := 1) (Nat.le_of_ble_eq_true rfl)
  rw [lg_entry_eq]
  generalize (lg_sl [.int p0] ++ List.replicate (1 - (lg_sl [.int p0]).length) Slot.unset).toArray = ls at hl ⊢
  have hl : lv_has ls 1 [(0, .int p0)] := hl
  obtain ⟨H, hHe⟩ : ∃ H : Heap, H = s.heap := ⟨_, rfl⟩
  have hP : va_P (dC, dI) vwCl [] H := by rw [hHe]; exact hP
  have hS : va_S A s.heap H [] := by rw [hHe]; exact va_S.rf
  rw [← hHe]
  unfold f_X2_isSignature at hf
  refine lv_iload_n hx hb dX2_isSignature_0 rfl (lv_at hl 0 rfl) ?_
  refine lv_if_lt (tgt := 14) hx hb dX2_isSignature_1 (by decide) (fun c1 => ?_) (fun c1 => ?_)
  · have hf := kp_p c1 hf
    refine lv_iconst (v := 0) hx hb dX2_isSignature_14 (by decide) ?_
    have eo := Option.some.inj hf
    subst eo
    exact W.zret (v := 0) hx hb hr rfl (fun t ht hW => ⟨⟨_, (), rfl, rfl, kq_mk ht hP hD⟩, hS.F ht⟩) hS.2.2 dX2_isSignature_15
  · have hf := kp_n c1 hf
    refine lv_iload_n hx hb dX2_isSignature_4 rfl (lv_at hl 0 rfl) ?_
    refine lv_bipush (v := 64) hx hb dX2_isSignature_5 (by decide) ?_
    refine lv_icmp_ge (tgt := 14) hx hb dX2_isSignature_7 (by decide) (fun c2 => ?_) (fun c2 => ?_)
    · have hf := kp_p c2 hf
      refine lv_iconst (v := 0) hx hb dX2_isSignature_14 (by decide) ?_
      have eo := Option.some.inj hf
      subst eo
      exact W.zret (v := 0) hx hb hr rfl (fun t ht hW => ⟨⟨_, (), rfl, rfl, kq_mk ht hP hD⟩, hS.F ht⟩) hS.2.2 dX2_isSignature_15
    · have hf := kp_n c2 hf
      refine lv_iconst (v := 1) hx hb dX2_isSignature_10 (by decide) ?_
      refine lv_goto (tgt := 15) hx hb dX2_isSignature_11 (by decide) ?_
      have eo := Option.some.inj hf
      subst eo
      exact W.zret (v := 1) hx hb hr rfl (fun t ht hW => ⟨⟨_, (), rfl, rfl, kq_mk ht hP hD⟩, hS.F ht⟩) hS.2.2 dX2_isSignature_15

def f_X2_say (h_staying_v : Nat → Int32) (p0 : Int32) (p1 : Int32) : Option ((Nat → Int32)) :=
    (f_X2_isSignature p0).bind fun r1 =>
    (if r1 = 0 then
    some h_staying_v
    else
    if p0 < 0 ∨ 64 ≤ p0.toNatClampNeg then none else
    some (upd h_staying_v p0.toNatClampNeg (vp_nar .boolean p1)))
set_option maxHeartbeats 4000000 in
set_option maxRecDepth 100000 in
theorem c_X2_say (l : Launch) (dC : Nat → ClassId) (dI : Nat → Nat → Nat) (cA : Nat → ClassId) (tt : Nat → Nat) (h h_staying : Nat) (sz : Nat) (h_staying_v : Nat → Int32) (p0 : Int32) (p1 : Int32) (o : (Nat → Int32)) (hf : f_X2_say h_staying_v p0 p1 = some o) : Met l yX2_say wX2_say ({ frames := 1, cells := 0, slots := 0, locals := 20 }) (kq_Pc dC dI cA tt [.ref h, .int p0, .int p1] [(h, .inr (2, [.ref h_staying])), (h_staying, .inl (cA 1, 64, .inl h_staying_v))] sz) (va_Qv (fun _ : Unit => True) (fun _ t => kq_B dC dI [(h, .inr (2, [.ref h_staying])), (h_staying, .inl (cA 1, 64, .inl o))] (va_A [(h, .inr (2, [.ref h_staying])), (h_staying, .inl (cA 1, 64, .inl h_staying_v))] sz) t) (va_A [(h, .inr (2, [.ref h_staying])), (h_staying, .inl (cA 1, 64, .inl h_staying_v))] sz)) 0 0 (va_A [(h, .inr (2, [.ref h_staying])), (h_staying, .inl (cA 1, 64, .inl h_staying_v))] sz) := by
  refine Met.ofW (cc := cX2_say) (maxL := 3) (ret := none) (by decide) rfl ?_
  intro p e s m args below meth c s₁ B hml hv
  obtain ⟨rfl, hsz, hP, hD0, hG, hZ⟩ := hv
  have hx := B.exec
  have hb := B.bytes
  have hr := B.returns
  have hts : ∀ w ∈ kq_T, w.before _ s = true := fun w h => atoms_spec (ws := wX2_say) B.pre w (List.mem_cons_of_mem _ h)
  have hown : s.vm.findClass RX2 = some m.cls := findClass_of_methodNamed B.named
  have hlocks := B.notSynchronized
  have hK := hG.1
  subst hsz
  have hD := hD0.self (sz := s.heap.size)
  generalize hAe : va_A [(h, .inr (2, [.ref h_staying])), (h_staying, .inl (cA 1, 64, .inl h_staying_v))] s.heap.size = A at hD hZ ⊢
  have hA : ∀ q : Nat, s.heap.size ≤ q → A q := fun q h => by rw [← hAe]; exact Or.inr h
  have hl := lv_entry [.ref h, .int p0, .int p1] (n := 3) (Nat.le_of_ble_eq_true rfl)
  rw [lg_entry_eq]
  generalize (lg_sl [.ref h, .int p0, .int p1] ++ List.replicate (3 - (lg_sl [.ref h, .int p0, .int p1]).length) Slot.unset).toArray = ls at hl ⊢
  have hl : lv_has ls 3 [(0, .ref h), (1, .int p0), (2, .int p1)] := hl
  obtain ⟨H, hHe⟩ : ∃ H : Heap, H = s.heap := ⟨_, rfl⟩
  have hP : va_P (dC, dI) vwCl [(h, .inr (2, [.ref h_staying])), (h_staying, .inl (cA 1, 64, .inl h_staying_v))] H := by rw [hHe]; exact hP
  have hS : va_S A s.heap H [] := by rw [hHe]; exact va_S.rf
  rw [← hHe]
  unfold f_X2_say at hf
  refine lv_iload_n hx hb dX2_say_0 rfl (lv_at hl 1 rfl) ?_
  obtain ⟨r1, hr1, hf⟩ := kp_b hf
  have hPc := hP.sub (ws' := []) [] rfl
  have hDc := hD.sub (ws' := []) [] (by decide) rfl
  have hFc := va_free (wc := []) hD hS hA [] rfl
  refine va_calli (va_runS (As := [.int p0]) (rest := []) ⟨hx, hb, hml, hown, hts⟩ (c_X2_isSignature l dC dI cA tt H.size p0 r1 hr1) (va_cwS 1 hts (kq_gS tw_259 tw_260 tw_24 tw_261) rfl rfl rfl (by decide +kernel) ⟨Nat.le_of_ble_eq_true rfl, Nat.le_of_ble_eq_true rfl⟩) ⟨kq_blind, kq_pre hG hZ hS hPc hDc hFc⟩ rfl rfl hl.1 rfl (lv_room (Nat.le_of_ble_eq_true rfl)) dX2_say_1 ⟨Nat.le_of_ble_eq_true rfl, Nat.le_of_ble_eq_true rfl⟩) hS (fun q _ h => hFc q h) hFc (fun rv u t H1 locs ht hvm hw hB hz1 hk1 hS => ?_)
  obtain ⟨hP1, hD1⟩ := hB
  rw [ht] at hP1
  have hw := hw.symm
  subst hw
  obtain ⟨hP, hD⟩ := va_join (wr := [(h, .inr (2, [.ref h_staying])), (h_staying, .inl (cA 1, 64, .inl h_staying_v))]) (w1 := []) hP hD [] [0, 1] rfl rfl (by decide) (by decide) hk1 hFc hP1 hD1
  have hP : va_P (dC, dI) vwCl [(h, .inr (2, [.ref h_staying])), (h_staying, .inl (cA 1, 64, .inl h_staying_v))] H1 := hP.sub [0, 1] rfl
  have hD : va_D A [(h, .inr (2, [.ref h_staying])), (h_staying, .inl (cA 1, 64, .inl h_staying_v))] := hD.sub [0, 1] (by decide) rfl
  generalize H1 = H at hP hS ⊢
  refine lv_if_eq (tgt := 14) hx hb dX2_say_4 (by decide) (fun c2 => ?_) (fun c2 => ?_)
  · have hf := kp_p c2 hf
    have eo := Option.some.inj hf
    subst eo
    exact W.vret hx hb hr (fun t ht hW => ⟨⟨(), rfl, trivial, kq_mk ht hP hD⟩, hS.F ht⟩) hS.2.2 dX2_say_14
  · have hf := kp_n c2 hf
    refine lv_aload_n hx hb dX2_say_7 rfl (lv_at hl 0 rfl) ?_
    refine va_get (D := (dC, dI)) (ci := 2) (v := .ref h_staying) (C := RX2) (T := TX2) (N := 1) hx hb hts iwX2 hown hK hP 0 rfl rfl 0 (by decide) (hts _ tw_94) (fun _ h9 => h9) rfl dX2_say_8 ?_
    refine lv_iload_n hx hb dX2_say_11 rfl (lv_at hl 1 rfl) ?_
    refine lv_iload_n hx hb dX2_say_12 rfl (lv_at hl 2 rfl) ?_
    obtain ⟨hq3, hf⟩ := kp_t hf
    refine va_zast hx hb hK hP hD hS 1 1 rfl rfl hq3 dX2_say_13 (fun H locs hP hD hS => ?_)
    have hP : va_P (dC, dI) vwCl [(h, .inr (2, [.ref h_staying])), (h_staying, .inl (cA 1, 64, .inl (upd h_staying_v p0.toNatClampNeg (vp_nar .boolean p1))))] H := hP
    have hD : va_D A [(h, .inr (2, [.ref h_staying])), (h_staying, .inl (cA 1, 64, .inl (upd h_staying_v p0.toNatClampNeg (vp_nar .boolean p1))))] := hD
    have eo := Option.some.inj hf
    subst eo
    exact W.vret hx hb hr (fun t ht hW => ⟨⟨(), rfl, trivial, kq_mk ht hP hD⟩, hS.F ht⟩) hS.2.2 dX2_say_14

def f_X2_keeps (h_staying_v : Nat → Int32) (p0 : Int32) : Option (Int32) :=
    (f_X2_isSignature p0).bind fun r1 =>
    (if r1 = 0 then
    some 0
    else
    if p0 < 0 ∨ 64 ≤ p0.toNatClampNeg then none else
    (if (h_staying_v p0.toNatClampNeg) = 0 then
    some 0
    else
    some 1))
set_option maxHeartbeats 4000000 in
set_option maxRecDepth 100000 in
theorem c_X2_keeps (l : Launch) (dC : Nat → ClassId) (dI : Nat → Nat → Nat) (cA : Nat → ClassId) (tt : Nat → Nat) (h h_staying : Nat) (sz : Nat) (h_staying_v : Nat → Int32) (p0 : Int32) (o : Int32) (hf : f_X2_keeps h_staying_v p0 = some o) : Met l yX2_keeps wX2_keeps ({ frames := 1, cells := 0, slots := 0, locals := 20 }) (kq_Pc dC dI cA tt [.ref h, .int p0] [(h, .inr (2, [.ref h_staying])), (h_staying, .inl (cA 1, 64, .inl h_staying_v))] sz) (va_Qi (fun r (_ : Unit) => r = o) (fun _ t => kq_B dC dI [(h, .inr (2, [.ref h_staying])), (h_staying, .inl (cA 1, 64, .inl h_staying_v))] (va_A [(h, .inr (2, [.ref h_staying])), (h_staying, .inl (cA 1, 64, .inl h_staying_v))] sz) t) (va_A [(h, .inr (2, [.ref h_staying])), (h_staying, .inl (cA 1, 64, .inl h_staying_v))] sz)) 0 0 (va_A [(h, .inr (2, [.ref h_staying])), (h_staying, .inl (cA 1, 64, .inl h_staying_v))] sz) := by
  refine Met.ofW (cc := cX2_keeps) (maxL := 2) (ret := (some .boolean)) (by decide) rfl ?_
  intro p e s m args below meth c s₁ B hml hv
  obtain ⟨rfl, hsz, hP, hD0, hG, hZ⟩ := hv
  have hx := B.exec
  have hb := B.bytes
  have hr := B.returns
  have hts : ∀ w ∈ kq_T, w.before _ s = true := fun w h => atoms_spec (ws := wX2_keeps) B.pre w (List.mem_cons_of_mem _ h)
  have hown : s.vm.findClass RX2 = some m.cls := findClass_of_methodNamed B.named
  have hlocks := B.notSynchronized
  have hK := hG.1
  subst hsz
  have hD := hD0.self (sz := s.heap.size)
  generalize hAe : va_A [(h, .inr (2, [.ref h_staying])), (h_staying, .inl (cA 1, 64, .inl h_staying_v))] s.heap.size = A at hD hZ ⊢
  have hA : ∀ q : Nat, s.heap.size ≤ q → A q := fun q h => by rw [← hAe]; exact Or.inr h
  have hl := lv_entry [.ref h, .int p0] (n := 2) (Nat.le_of_ble_eq_true rfl)
  rw [lg_entry_eq]
  generalize (lg_sl [.ref h, .int p0] ++ List.replicate (2 - (lg_sl [.ref h, .int p0]).length) Slot.unset).toArray = ls at hl ⊢
  have hl : lv_has ls 2 [(0, .ref h), (1, .int p0)] := hl
  obtain ⟨H, hHe⟩ : ∃ H : Heap, H = s.heap := ⟨_, rfl⟩
  have hP : va_P (dC, dI) vwCl [(h, .inr (2, [.ref h_staying])), (h_staying, .inl (cA 1, 64, .inl h_staying_v))] H := by rw [hHe]; exact hP
  have hS : va_S A s.heap H [] := by rw [hHe]; exact va_S.rf
  rw [← hHe]
  unfold f_X2_keeps at hf
  refine lv_iload_n hx hb dX2_keeps_0 rfl (lv_at hl 1 rfl) ?_
  obtain ⟨r1, hr1, hf⟩ := kp_b hf
  have hPc := hP.sub (ws' := []) [] rfl
  have hDc := hD.sub (ws' := []) [] (by decide) rfl
  have hFc := va_free (wc := []) hD hS hA [] rfl
  refine va_calli (va_runS (As := [.int p0]) (rest := []) ⟨hx, hb, hml, hown, hts⟩ (c_X2_isSignature l dC dI cA tt H.size p0 r1 hr1) (va_cwS 1 hts (kq_gS tw_259 tw_260 tw_24 tw_261) rfl rfl rfl (by decide +kernel) ⟨Nat.le_of_ble_eq_true rfl, Nat.le_of_ble_eq_true rfl⟩) ⟨kq_blind, kq_pre hG hZ hS hPc hDc hFc⟩ rfl rfl hl.1 rfl (lv_room (Nat.le_of_ble_eq_true rfl)) dX2_keeps_1 ⟨Nat.le_of_ble_eq_true rfl, Nat.le_of_ble_eq_true rfl⟩) hS (fun q _ h => hFc q h) hFc (fun rv u t H1 locs ht hvm hw hB hz1 hk1 hS => ?_)
  obtain ⟨hP1, hD1⟩ := hB
  rw [ht] at hP1
  have hw := hw.symm
  subst hw
  obtain ⟨hP, hD⟩ := va_join (wr := [(h, .inr (2, [.ref h_staying])), (h_staying, .inl (cA 1, 64, .inl h_staying_v))]) (w1 := []) hP hD [] [0, 1] rfl rfl (by decide) (by decide) hk1 hFc hP1 hD1
  have hP : va_P (dC, dI) vwCl [(h, .inr (2, [.ref h_staying])), (h_staying, .inl (cA 1, 64, .inl h_staying_v))] H1 := hP.sub [0, 1] rfl
  have hD : va_D A [(h, .inr (2, [.ref h_staying])), (h_staying, .inl (cA 1, 64, .inl h_staying_v))] := hD.sub [0, 1] (by decide) rfl
  generalize H1 = H at hP hS ⊢
  refine lv_if_eq (tgt := 20) hx hb dX2_keeps_4 (by decide) (fun c2 => ?_) (fun c2 => ?_)
  · have hf := kp_p c2 hf
    refine lv_iconst (v := 0) hx hb dX2_keeps_20 (by decide) ?_
    have eo := Option.some.inj hf
    subst eo
    exact W.zret (v := 0) hx hb hr rfl (fun t ht hW => ⟨⟨_, (), rfl, rfl, kq_mk ht hP hD⟩, hS.F ht⟩) hS.2.2 dX2_keeps_21
  · have hf := kp_n c2 hf
    refine lv_aload_n hx hb dX2_keeps_7 rfl (lv_at hl 0 rfl) ?_
    refine va_get (D := (dC, dI)) (ci := 2) (v := .ref h_staying) (C := RX2) (T := TX2) (N := 1) hx hb hts iwX2 hown hK hP 0 rfl rfl 0 (by decide) (hts _ tw_94) (fun _ h9 => h9) rfl dX2_keeps_8 ?_
    refine lv_iload_n hx hb dX2_keeps_11 rfl (lv_at hl 1 rfl) ?_
    obtain ⟨hq3, hf⟩ := kp_t hf
    refine va_zald hx hb hK hP 1 1 rfl rfl hq3 dX2_keeps_12 ?_
    refine lv_if_eq (tgt := 20) hx hb dX2_keeps_13 (by decide) (fun c4 => ?_) (fun c4 => ?_)
    · have hf := kp_p c4 hf
      refine lv_iconst (v := 0) hx hb dX2_keeps_20 (by decide) ?_
      have eo := Option.some.inj hf
      subst eo
      exact W.zret (v := 0) hx hb hr rfl (fun t ht hW => ⟨⟨_, (), rfl, rfl, kq_mk ht hP hD⟩, hS.F ht⟩) hS.2.2 dX2_keeps_21
    · have hf := kp_n c4 hf
      refine lv_iconst (v := 1) hx hb dX2_keeps_16 (by decide) ?_
      refine lv_goto (tgt := 21) hx hb dX2_keeps_17 (by decide) ?_
      have eo := Option.some.inj hf
      subst eo
      exact W.zret (v := 1) hx hb hr rfl (fun t ht hW => ⟨⟨_, (), rfl, rfl, kq_mk ht hP hD⟩, hS.F ht⟩) hS.2.2 dX2_keeps_21

def f_X0_startAt (h_state : Int64) (p0 : Int64) : Option (Int64) :=
    some p0
set_option maxHeartbeats 4000000 in
set_option maxRecDepth 100000 in
theorem c_X0_startAt (l : Launch) (dC : Nat → ClassId) (dI : Nat → Nat → Nat) (cA : Nat → ClassId) (tt : Nat → Nat) (h : Nat) (sz : Nat) (h_state : Int64) (p0 : Int64) (o : Int64) (hf : f_X0_startAt h_state p0 = some o) : Met l yX0_startAt wX0_startAt ({ frames := 0, cells := 0, slots := 0, locals := 0 }) (kq_Pc dC dI cA tt [.ref h, .long p0] [(h, .inr (0, [.long h_state]))] sz) (va_Qv (fun _ : Unit => True) (fun _ t => kq_B dC dI [(h, .inr (0, [.long o]))] (va_A [(h, .inr (0, [.long h_state]))] sz) t) (va_A [(h, .inr (0, [.long h_state]))] sz)) 0 0 (va_A [(h, .inr (0, [.long h_state]))] sz) := by
  refine Met.ofW (cc := cX0_startAt) (maxL := 3) (ret := none) (by decide) rfl ?_
  intro p e s m args below meth c s₁ B hml hv
  obtain ⟨rfl, hsz, hP, hD0, hG, hZ⟩ := hv
  have hx := B.exec
  have hb := B.bytes
  have hr := B.returns
  have hts : ∀ w ∈ kq_T, w.before _ s = true := fun w h => atoms_spec (ws := wX0_startAt) B.pre w (List.mem_cons_of_mem _ h)
  have hown : s.vm.findClass RX0 = some m.cls := findClass_of_methodNamed B.named
  have hlocks := B.notSynchronized
  have hK := hG.1
  subst hsz
  have hD := hD0.self (sz := s.heap.size)
  generalize hAe : va_A [(h, .inr (0, [.long h_state]))] s.heap.size = A at hD hZ ⊢
  have hA : ∀ q : Nat, s.heap.size ≤ q → A q := fun q h => by rw [← hAe]; exact Or.inr h
  have hl := lv_entry [.ref h, .long p0] (n := 3) (Nat.le_of_ble_eq_true rfl)
  rw [lg_entry_eq]
  generalize (lg_sl [.ref h, .long p0] ++ List.replicate (3 - (lg_sl [.ref h, .long p0]).length) Slot.unset).toArray = ls at hl ⊢
  have hl : lv_has ls 3 [(0, .ref h), (1, .long p0)] := hl
  obtain ⟨H, hHe⟩ : ∃ H : Heap, H = s.heap := ⟨_, rfl⟩
  have hP : va_P (dC, dI) vwCl [(h, .inr (0, [.long h_state]))] H := by rw [hHe]; exact hP
  have hS : va_S A s.heap H [] := by rw [hHe]; exact va_S.rf
  rw [← hHe]
  unfold f_X0_startAt at hf
  refine lv_aload_n hx hb dX0_startAt_0 rfl (lv_at hl 0 rfl) ?_
  refine lv_lload_n hx hb dX0_startAt_1 rfl (lv_at hl 1 rfl) ?_
  refine va_put (D := (dC, dI)) (ci := 0) (v := .long p0) (ty := (.long)) (C := RX0) (T := TX0) (N := 1) hx hb hts iwX0 tyX0 tyX0_ok nmX0 hown hK hP hD hS 0 rfl rfl 0 (by decide) (hts _ tw_42) (fun _ h9 => h9) rfl (by decide +kernel) rfl rfl (Nat.le_of_ble_eq_true rfl) dX0_startAt_2 (fun H locs hP hD hS => ?_)
  have hP : va_P (dC, dI) vwCl [(h, .inr (0, [.long p0]))] H := hP
  have hD : va_D A [(h, .inr (0, [.long p0]))] := hD
  have eo := Option.some.inj hf
  subst eo
  exact W.vret hx hb hr (fun t ht hW => ⟨⟨(), rfl, trivial, kq_mk ht hP hD⟩, hS.F ht⟩) hS.2.2 dX0_startAt_5
