
set_option maxHeartbeats 4000000 in
set_option maxRecDepth 100000 in
theorem c_X1_init (l : Launch) (dC : Nat → ClassId) (dI : Nat → Nat → Nat) (cA : Nat → ClassId) (tt : Nat → Nat) (h : Nat) (sz : Nat) : Met l yX1_init wX1_init ({ frames := 1, cells := 4, slots := 160, locals := 20 }) (kq_Pc dC dI cA tt [.ref h] [(h, .inr (1, [.null, .null, .null, .null, .int 0, .int 0, .int 0]))] sz) (va_Qv (fun _ : Nat × Nat × Nat × Nat => True) (fun u t => kq_B dC dI [(h, .inr (1, [.ref u.1, .ref u.2.1, .ref u.2.2.1, .ref u.2.2.2, .int 0, .int 0, .int ((-1))])), (u.1, .inl (cA 0, 40, .inl (fun _ => 0))), (u.2.1, .inl (cA 0, 40, .inl (fun _ => 0))), (u.2.2.1, .inl (cA 0, 40, .inl (fun _ => 0))), (u.2.2.2, .inl (cA 0, 40, .inl (fun _ => 0)))] (va_A [(h, .inr (1, [.null, .null, .null, .null, .int 0, .int 0, .int 0]))] sz) t) (va_A [(h, .inr (1, [.null, .null, .null, .null, .int 0, .int 0, .int 0]))] sz)) 4 160 (va_A [(h, .inr (1, [.null, .null, .null, .null, .int 0, .int 0, .int 0]))] sz) := by
  refine Met.ofW (cc := cX1_init) (maxL := 1) (ret := none) (by decide) rfl ?_
  intro p e s m args below meth c s₁ B hml hv
  obtain ⟨rfl, hsz, hP, hD0, hG, hZ⟩ := hv
  have hx := B.exec
  have hb := B.bytes
  have hr := B.returns
  have hts : ∀ w ∈ kq_T, w.before _ s = true := fun w h => atoms_spec (ws := wX1_init) B.pre w (List.mem_cons_of_mem _ h)
  have hown : s.vm.findClass RX1 = some m.cls := findClass_of_methodNamed B.named
  have hlocks := B.notSynchronized
  have hK := hG.1
  subst hsz
  have hD := hD0.self (sz := s.heap.size)
  generalize hAe : va_A [(h, .inr (1, [.null, .null, .null, .null, .int 0, .int 0, .int 0]))] s.heap.size = A at hD hZ ⊢
  have hA : ∀ q : Nat, s.heap.size ≤ q → A q := fun q h => by rw [← hAe]; exact Or.inr h
  have hl := lv_entry [.ref h] (n := 1) (Nat.le_of_ble_eq_true rfl)
  rw [lg_entry_eq]
  generalize (lg_sl [.ref h] ++ List.replicate (1 - (lg_sl [.ref h]).length) Slot.unset).toArray = ls at hl ⊢
  have hl : lv_has ls 1 [(0, .ref h)] := hl
  obtain ⟨H, hHe⟩ : ∃ H : Heap, H = s.heap := ⟨_, rfl⟩
  have hP : va_P (dC, dI) vwCl [(h, .inr (1, [.null, .null, .null, .null, .int 0, .int 0, .int 0]))] H := by rw [hHe]; exact hP
  have hS : va_S A s.heap H [] := by rw [hHe]; exact va_S.rf
  rw [← hHe]
  have hin : meth.name = "<init>" := (name_of_methodNamed B.named B.method).1
  refine lv_aload_n hx hb dX1_init_0 rfl (lv_at hl 0 rfl) ?_
  refine W.objInit hx hb hown (hts _ tw_57) (hts _ tw_34) (hts _ tw_35) rfl (by rw [hml]; exact hl.1) rfl dX1_init_1 (Nat.le_of_ble_eq_true rfl) (Nat.le_of_ble_eq_true rfl) ?_
  refine W.eq (g2 := F0 m 4 ls []) rfl ?_
  refine lv_aload_n hx hb dX1_init_4 rfl (lv_at hl 0 rfl) ?_
  refine lv_bipush (v := 40) hx hb dX1_init_5 (by decide) ?_
  refine va_newa (atype := .int) (a0 := (40, .inl (fun _ => 0))) (N' := 40) hx hb (hts _ tw_87) (ty := .int) rfl hK hP hD hS hA (fun _ => rfl) (by decide) (by decide) (by decide) (Nat.le_of_ble_eq_true rfl) (Nat.le_of_ble_eq_true rfl) dX1_init_7 (fun n7 cn7 H hK9 hP hD hS => ?_)
  rw [kq_same hK9 4 0 rfl rfl] at hP hD
  have hP : va_P (dC, dI) vwCl [(h, .inr (1, [.null, .null, .null, .null, .int 0, .int 0, .int 0])), (n7, .inl (cA 0, 40, .inl (fun _ => 0)))] H := hP
  have hD : va_D A [(h, .inr (1, [.null, .null, .null, .null, .int 0, .int 0, .int 0])), (n7, .inl (cA 0, 40, .inl (fun _ => 0)))] := hD
  refine W.widen (k := 1) (n := 40) (by omega) (by omega) ?_
  refine va_putF (D := (dC, dI)) (ci := 1) (v := .ref n7) (ty := (.array .int)) (C := RX1) (T := TX1) (N := 7) hx hb hts iwX1 tyX1 tyX1_ok nmX1 hown hK hP hD hS 0 rfl rfl 0 (by decide) (hts _ tw_58) (fun _ h9 => h9) rfl hin rfl (by decide +kernel) rfl rfl (Nat.le_of_ble_eq_true rfl) dX1_init_9 (fun H locs hP hD hS => ?_)
  have hP : va_P (dC, dI) vwCl [(h, .inr (1, [.ref n7, .null, .null, .null, .int 0, .int 0, .int 0])), (n7, .inl (cA 0, 40, .inl (fun _ => 0)))] H := hP
  have hD : va_D A [(h, .inr (1, [.ref n7, .null, .null, .null, .int 0, .int 0, .int 0])), (n7, .inl (cA 0, 40, .inl (fun _ => 0)))] := hD
  refine lv_aload_n hx hb dX1_init_12 rfl (lv_at hl 0 rfl) ?_
  refine lv_bipush (v := 40) hx hb dX1_init_13 (by decide) ?_
  refine va_newa (atype := .int) (a0 := (40, .inl (fun _ => 0))) (N' := 40) hx hb (hts _ tw_87) (ty := .int) rfl hK hP hD hS hA (fun _ => rfl) (by decide) (by decide) (by decide) (Nat.le_of_ble_eq_true rfl) (Nat.le_of_ble_eq_true rfl) dX1_init_15 (fun n15 cn15 H hK9 hP hD hS => ?_)
  rw [kq_same hK9 4 0 rfl rfl] at hP hD
  have hP : va_P (dC, dI) vwCl [(h, .inr (1, [.ref n7, .null, .null, .null, .int 0, .int 0, .int 0])), (n7, .inl (cA 0, 40, .inl (fun _ => 0))), (n15, .inl (cA 0, 40, .inl (fun _ => 0)))] H := hP
  have hD : va_D A [(h, .inr (1, [.ref n7, .null, .null, .null, .int 0, .int 0, .int 0])), (n7, .inl (cA 0, 40, .inl (fun _ => 0))), (n15, .inl (cA 0, 40, .inl (fun _ => 0)))] := hD
  refine W.widen (k := 2) (n := 80) (by omega) (by omega) ?_
  refine va_putF (D := (dC, dI)) (ci := 1) (v := .ref n15) (ty := (.array .int)) (C := RX1) (T := TX1) (N := 7) hx hb hts iwX1 tyX1 tyX1_ok nmX1 hown hK hP hD hS 0 rfl rfl 1 (by decide) (hts _ tw_60) (fun _ h9 => h9) rfl hin rfl (by decide +kernel) rfl rfl (Nat.le_of_ble_eq_true rfl) dX1_init_17 (fun H locs hP hD hS => ?_)
  have hP : va_P (dC, dI) vwCl [(h, .inr (1, [.ref n7, .ref n15, .null, .null, .int 0, .int 0, .int 0])), (n7, .inl (cA 0, 40, .inl (fun _ => 0))), (n15, .inl (cA 0, 40, .inl (fun _ => 0)))] H := hP
  have hD : va_D A [(h, .inr (1, [.ref n7, .ref n15, .null, .null, .int 0, .int 0, .int 0])), (n7, .inl (cA 0, 40, .inl (fun _ => 0))), (n15, .inl (cA 0, 40, .inl (fun _ => 0)))] := hD
  refine lv_aload_n hx hb dX1_init_20 rfl (lv_at hl 0 rfl) ?_
  refine lv_bipush (v := 40) hx hb dX1_init_21 (by decide) ?_
  refine va_newa (atype := .int) (a0 := (40, .inl (fun _ => 0))) (N' := 40) hx hb (hts _ tw_87) (ty := .int) rfl hK hP hD hS hA (fun _ => rfl) (by decide) (by decide) (by decide) (Nat.le_of_ble_eq_true rfl) (Nat.le_of_ble_eq_true rfl) dX1_init_23 (fun n23 cn23 H hK9 hP hD hS => ?_)
  rw [kq_same hK9 4 0 rfl rfl] at hP hD
  have hP : va_P (dC, dI) vwCl [(h, .inr (1, [.ref n7, .ref n15, .null, .null, .int 0, .int 0, .int 0])), (n7, .inl (cA 0, 40, .inl (fun _ => 0))), (n15, .inl (cA 0, 40, .inl (fun _ => 0))), (n23, .inl (cA 0, 40, .inl (fun _ => 0)))] H := hP
  have hD : va_D A [(h, .inr (1, [.ref n7, .ref n15, .null, .null, .int 0, .int 0, .int 0])), (n7, .inl (cA 0, 40, .inl (fun _ => 0))), (n15, .inl (cA 0, 40, .inl (fun _ => 0))), (n23, .inl (cA 0, 40, .inl (fun _ => 0)))] := hD
  refine W.widen (k := 3) (n := 120) (by omega) (by omega) ?_
  refine va_putF (D := (dC, dI)) (ci := 1) (v := .ref n23) (ty := (.array .int)) (C := RX1) (T := TX1) (N := 7) hx hb hts iwX1 tyX1 tyX1_ok nmX1 hown hK hP hD hS 0 rfl rfl 2 (by decide) (hts _ tw_61) (fun _ h9 => h9) rfl hin rfl (by decide +kernel) rfl rfl (Nat.le_of_ble_eq_true rfl) dX1_init_25 (fun H locs hP hD hS => ?_)
  have hP : va_P (dC, dI) vwCl [(h, .inr (1, [.ref n7, .ref n15, .ref n23, .null, .int 0, .int 0, .int 0])), (n7, .inl (cA 0, 40, .inl (fun _ => 0))), (n15, .inl (cA 0, 40, .inl (fun _ => 0))), (n23, .inl (cA 0, 40, .inl (fun _ => 0)))] H := hP
  have hD : va_D A [(h, .inr (1, [.ref n7, .ref n15, .ref n23, .null, .int 0, .int 0, .int 0])), (n7, .inl (cA 0, 40, .inl (fun _ => 0))), (n15, .inl (cA 0, 40, .inl (fun _ => 0))), (n23, .inl (cA 0, 40, .inl (fun _ => 0)))] := hD
  refine lv_aload_n hx hb dX1_init_28 rfl (lv_at hl 0 rfl) ?_
  refine lv_bipush (v := 40) hx hb dX1_init_29 (by decide) ?_
  refine va_newa (atype := .int) (a0 := (40, .inl (fun _ => 0))) (N' := 40) hx hb (hts _ tw_87) (ty := .int) rfl hK hP hD hS hA (fun _ => rfl) (by decide) (by decide) (by decide) (Nat.le_of_ble_eq_true rfl) (Nat.le_of_ble_eq_true rfl) dX1_init_31 (fun n31 cn31 H hK9 hP hD hS => ?_)
  rw [kq_same hK9 4 0 rfl rfl] at hP hD
  have hP : va_P (dC, dI) vwCl [(h, .inr (1, [.ref n7, .ref n15, .ref n23, .null, .int 0, .int 0, .int 0])), (n7, .inl (cA 0, 40, .inl (fun _ => 0))), (n15, .inl (cA 0, 40, .inl (fun _ => 0))), (n23, .inl (cA 0, 40, .inl (fun _ => 0))), (n31, .inl (cA 0, 40, .inl (fun _ => 0)))] H := hP
  have hD : va_D A [(h, .inr (1, [.ref n7, .ref n15, .ref n23, .null, .int 0, .int 0, .int 0])), (n7, .inl (cA 0, 40, .inl (fun _ => 0))), (n15, .inl (cA 0, 40, .inl (fun _ => 0))), (n23, .inl (cA 0, 40, .inl (fun _ => 0))), (n31, .inl (cA 0, 40, .inl (fun _ => 0)))] := hD
  refine W.widen (k := 4) (n := 160) (by omega) (by omega) ?_
  refine va_putF (D := (dC, dI)) (ci := 1) (v := .ref n31) (ty := (.array .int)) (C := RX1) (T := TX1) (N := 7) hx hb hts iwX1 tyX1 tyX1_ok nmX1 hown hK hP hD hS 0 rfl rfl 3 (by decide) (hts _ tw_62) (fun _ h9 => h9) rfl hin rfl (by decide +kernel) rfl rfl (Nat.le_of_ble_eq_true rfl) dX1_init_33 (fun H locs hP hD hS => ?_)
  have hP : va_P (dC, dI) vwCl [(h, .inr (1, [.ref n7, .ref n15, .ref n23, .ref n31, .int 0, .int 0, .int 0])), (n7, .inl (cA 0, 40, .inl (fun _ => 0))), (n15, .inl (cA 0, 40, .inl (fun _ => 0))), (n23, .inl (cA 0, 40, .inl (fun _ => 0))), (n31, .inl (cA 0, 40, .inl (fun _ => 0)))] H := hP
  have hD : va_D A [(h, .inr (1, [.ref n7, .ref n15, .ref n23, .ref n31, .int 0, .int 0, .int 0])), (n7, .inl (cA 0, 40, .inl (fun _ => 0))), (n15, .inl (cA 0, 40, .inl (fun _ => 0))), (n23, .inl (cA 0, 40, .inl (fun _ => 0))), (n31, .inl (cA 0, 40, .inl (fun _ => 0)))] := hD
  refine lv_aload_n hx hb dX1_init_36 rfl (lv_at hl 0 rfl) ?_
  refine lv_iconst (v := 0) hx hb dX1_init_37 (by decide) ?_
  refine va_put (D := (dC, dI)) (ci := 1) (v := .int 0) (ty := (.int)) (C := RX1) (T := TX1) (N := 7) hx hb hts iwX1 tyX1 tyX1_ok nmX1 hown hK hP hD hS 0 rfl rfl 4 (by decide) (hts _ tw_64) (fun _ h9 => h9) rfl (by decide +kernel) rfl rfl (Nat.le_of_ble_eq_true rfl) dX1_init_38 (fun H locs hP hD hS => ?_)
  have hP : va_P (dC, dI) vwCl [(h, .inr (1, [.ref n7, .ref n15, .ref n23, .ref n31, .int 0, .int 0, .int 0])), (n7, .inl (cA 0, 40, .inl (fun _ => 0))), (n15, .inl (cA 0, 40, .inl (fun _ => 0))), (n23, .inl (cA 0, 40, .inl (fun _ => 0))), (n31, .inl (cA 0, 40, .inl (fun _ => 0)))] H := hP
  have hD : va_D A [(h, .inr (1, [.ref n7, .ref n15, .ref n23, .ref n31, .int 0, .int 0, .int 0])), (n7, .inl (cA 0, 40, .inl (fun _ => 0))), (n15, .inl (cA 0, 40, .inl (fun _ => 0))), (n23, .inl (cA 0, 40, .inl (fun _ => 0))), (n31, .inl (cA 0, 40, .inl (fun _ => 0)))] := hD
  refine lv_aload_n hx hb dX1_init_41 rfl (lv_at hl 0 rfl) ?_
  refine lv_iconst (v := 0) hx hb dX1_init_42 (by decide) ?_
  refine va_put (D := (dC, dI)) (ci := 1) (v := .int 0) (ty := (.int)) (C := RX1) (T := TX1) (N := 7) hx hb hts iwX1 tyX1 tyX1_ok nmX1 hown hK hP hD hS 0 rfl rfl 5 (by decide) (hts _ tw_67) (fun _ h9 => h9) rfl (by decide +kernel) rfl rfl (Nat.le_of_ble_eq_true rfl) dX1_init_43 (fun H locs hP hD hS => ?_)
  have hP : va_P (dC, dI) vwCl [(h, .inr (1, [.ref n7, .ref n15, .ref n23, .ref n31, .int 0, .int 0, .int 0])), (n7, .inl (cA 0, 40, .inl (fun _ => 0))), (n15, .inl (cA 0, 40, .inl (fun _ => 0))), (n23, .inl (cA 0, 40, .inl (fun _ => 0))), (n31, .inl (cA 0, 40, .inl (fun _ => 0)))] H := hP
  have hD : va_D A [(h, .inr (1, [.ref n7, .ref n15, .ref n23, .ref n31, .int 0, .int 0, .int 0])), (n7, .inl (cA 0, 40, .inl (fun _ => 0))), (n15, .inl (cA 0, 40, .inl (fun _ => 0))), (n23, .inl (cA 0, 40, .inl (fun _ => 0))), (n31, .inl (cA 0, 40, .inl (fun _ => 0)))] := hD
  refine lv_aload_n hx hb dX1_init_46 rfl (lv_at hl 0 rfl) ?_
  refine lv_iconst (v := (-1)) hx hb dX1_init_47 (by decide) ?_
  refine va_put (D := (dC, dI)) (ci := 1) (v := .int ((-1))) (ty := (.int)) (C := RX1) (T := TX1) (N := 7) hx hb hts iwX1 tyX1 tyX1_ok nmX1 hown hK hP hD hS 0 rfl rfl 6 (by decide) (hts _ tw_69) (fun _ h9 => h9) rfl (by decide +kernel) rfl rfl (Nat.le_of_ble_eq_true rfl) dX1_init_48 (fun H locs hP hD hS => ?_)
  have hP : va_P (dC, dI) vwCl [(h, .inr (1, [.ref n7, .ref n15, .ref n23, .ref n31, .int 0, .int 0, .int ((-1))])), (n7, .inl (cA 0, 40, .inl (fun _ => 0))), (n15, .inl (cA 0, 40, .inl (fun _ => 0))), (n23, .inl (cA 0, 40, .inl (fun _ => 0))), (n31, .inl (cA 0, 40, .inl (fun _ => 0)))] H := hP
  have hD : va_D A [(h, .inr (1, [.ref n7, .ref n15, .ref n23, .ref n31, .int 0, .int 0, .int ((-1))])), (n7, .inl (cA 0, 40, .inl (fun _ => 0))), (n15, .inl (cA 0, 40, .inl (fun _ => 0))), (n23, .inl (cA 0, 40, .inl (fun _ => 0))), (n31, .inl (cA 0, 40, .inl (fun _ => 0)))] := hD
  refine W.widen (k := 4) (n := 160) (by omega) (by omega) ?_
  exact W.vret hx hb hr (fun t ht hW => ⟨⟨(n7, n15, n23, n31), rfl, trivial, kq_mk ht hP hD⟩, hS.F ht⟩) hS.2.2 dX1_init_51

def f_X1_fillWithNought (h_count : Int32) (h_sort_v : Nat → Int32) (h_x_v : Nat → Int32) (h_y_v : Nat → Int32) (h_z_v : Nat → Int32) : Option (Int32 × (Nat → Int32) × (Nat → Int32) × (Nat → Int32) × (Nat → Int32)) :=
    some ((1, upd h_sort_v (0 : Int32).toNatClampNeg 0, upd h_x_v (0 : Int32).toNatClampNeg 0, upd h_y_v (0 : Int32).toNatClampNeg 0, upd h_z_v (0 : Int32).toNatClampNeg 0))
set_option maxHeartbeats 4000000 in
set_option maxRecDepth 100000 in
theorem c_X1_fillWithNought (l : Launch) (dC : Nat → ClassId) (dI : Nat → Nat → Nat) (cA : Nat → ClassId) (tt : Nat → Nat) (h h_sort h_x h_y h_z : Nat) (sz : Nat) (h_count : Int32) (h_fault : Int32) (h_faultPart : Int32) (h_sort_v : Nat → Int32) (h_x_v : Nat → Int32) (h_y_v : Nat → Int32) (h_z_v : Nat → Int32) (o : Int32 × (Nat → Int32) × (Nat → Int32) × (Nat → Int32) × (Nat → Int32)) (hf : f_X1_fillWithNought h_count h_sort_v h_x_v h_y_v h_z_v = some o) : Met l yX1_fillWithNought wX1_fillWithNought ({ frames := 0, cells := 0, slots := 0, locals := 0 }) (kq_Pc dC dI cA tt [.ref h] [(h, .inr (1, [.ref h_sort, .ref h_x, .ref h_y, .ref h_z, .int h_count, .int h_fault, .int h_faultPart])), (h_sort, .inl (cA 0, 40, .inl h_sort_v)), (h_x, .inl (cA 0, 40, .inl h_x_v)), (h_y, .inl (cA 0, 40, .inl h_y_v)), (h_z, .inl (cA 0, 40, .inl h_z_v))] sz) (va_Qv (fun _ : Unit => True) (fun _ t => kq_B dC dI [(h, .inr (1, [.ref h_sort, .ref h_x, .ref h_y, .ref h_z, .int o.1, .int h_fault, .int h_faultPart])), (h_sort, .inl (cA 0, 40, .inl o.2.1)), (h_x, .inl (cA 0, 40, .inl o.2.2.1)), (h_y, .inl (cA 0, 40, .inl o.2.2.2.1)), (h_z, .inl (cA 0, 40, .inl o.2.2.2.2))] (va_A [(h, .inr (1, [.ref h_sort, .ref h_x, .ref h_y, .ref h_z, .int h_count, .int h_fault, .int h_faultPart])), (h_sort, .inl (cA 0, 40, .inl h_sort_v)), (h_x, .inl (cA 0, 40, .inl h_x_v)), (h_y, .inl (cA 0, 40, .inl h_y_v)), (h_z, .inl (cA 0, 40, .inl h_z_v))] sz) t) (va_A [(h, .inr (1, [.ref h_sort, .ref h_x, .ref h_y, .ref h_z, .int h_count, .int h_fault, .int h_faultPart])), (h_sort, .inl (cA 0, 40, .inl h_sort_v)), (h_x, .inl (cA 0, 40, .inl h_x_v)), (h_y, .inl (cA 0, 40, .inl h_y_v)), (h_z, .inl (cA 0, 40, .inl h_z_v))] sz)) 0 0 (va_A [(h, .inr (1, [.ref h_sort, .ref h_x, .ref h_y, .ref h_z, .int h_count, .int h_fault, .int h_faultPart])), (h_sort, .inl (cA 0, 40, .inl h_sort_v)), (h_x, .inl (cA 0, 40, .inl h_x_v)), (h_y, .inl (cA 0, 40, .inl h_y_v)), (h_z, .inl (cA 0, 40, .inl h_z_v))] sz) := by
  refine Met.ofW (cc := cX1_fillWithNought) (maxL := 1) (ret := none) (by decide) rfl ?_
  intro p e s m args below meth c s₁ B hml hv
  obtain ⟨rfl, hsz, hP, hD0, hG, hZ⟩ := hv
  have hx := B.exec
  have hb := B.bytes
  have hr := B.returns
  have hts : ∀ w ∈ kq_T, w.before _ s = true := fun w h => atoms_spec (ws := wX1_fillWithNought) B.pre w (List.mem_cons_of_mem _ h)
  have hown : s.vm.findClass RX1 = some m.cls := findClass_of_methodNamed B.named
  have hlocks := B.notSynchronized
  have hK := hG.1
  subst hsz
  have hD := hD0.self (sz := s.heap.size)
  generalize hAe : va_A [(h, .inr (1, [.ref h_sort, .ref h_x, .ref h_y, .ref h_z, .int h_count, .int h_fault, .int h_faultPart])), (h_sort, .inl (cA 0, 40, .inl h_sort_v)), (h_x, .inl (cA 0, 40, .inl h_x_v)), (h_y, .inl (cA 0, 40, .inl h_y_v)), (h_z, .inl (cA 0, 40, .inl h_z_v))] s.heap.size = A at hD hZ ⊢
  have hA : ∀ q : Nat, s.heap.size ≤ q → A q := fun q h => by rw [← hAe]; exact Or.inr h
  have hl := lv_entry [.ref h] (n := 1) (Nat.le_of_ble_eq_true rfl)
  rw [lg_entry_eq]
  generalize (lg_sl [.ref h] ++ List.replicate (1 - (lg_sl [.ref h]).length) Slot.unset).toArray = ls at hl ⊢
  have hl : lv_has ls 1 [(0, .ref h)] := hl
  obtain ⟨H, hHe⟩ : ∃ H : Heap, H = s.heap := ⟨_, rfl⟩
  have hP : va_P (dC, dI) vwCl [(h, .inr (1, [.ref h_sort, .ref h_x, .ref h_y, .ref h_z, .int h_count, .int h_fault, .int h_faultPart])), (h_sort, .inl (cA 0, 40, .inl h_sort_v)), (h_x, .inl (cA 0, 40, .inl h_x_v)), (h_y, .inl (cA 0, 40, .inl h_y_v)), (h_z, .inl (cA 0, 40, .inl h_z_v))] H := by rw [hHe]; exact hP
  have hS : va_S A s.heap H [] := by rw [hHe]; exact va_S.rf
  rw [← hHe]
  unfold f_X1_fillWithNought at hf
  refine lv_aload_n hx hb dX1_fillWithNought_0 rfl (lv_at hl 0 rfl) ?_
  refine lv_iconst (v := 1) hx hb dX1_fillWithNought_1 (by decide) ?_
  refine va_put (D := (dC, dI)) (ci := 1) (v := .int 1) (ty := (.int)) (C := RX1) (T := TX1) (N := 7) hx hb hts iwX1 tyX1 tyX1_ok nmX1 hown hK hP hD hS 0 rfl rfl 4 (by decide) (hts _ tw_64) (fun _ h9 => h9) rfl (by decide +kernel) rfl rfl (Nat.le_of_ble_eq_true rfl) dX1_fillWithNought_2 (fun H locs hP hD hS => ?_)
  have hP : va_P (dC, dI) vwCl [(h, .inr (1, [.ref h_sort, .ref h_x, .ref h_y, .ref h_z, .int 1, .int h_fault, .int h_faultPart])), (h_sort, .inl (cA 0, 40, .inl h_sort_v)), (h_x, .inl (cA 0, 40, .inl h_x_v)), (h_y, .inl (cA 0, 40, .inl h_y_v)), (h_z, .inl (cA 0, 40, .inl h_z_v))] H := hP
  have hD : va_D A [(h, .inr (1, [.ref h_sort, .ref h_x, .ref h_y, .ref h_z, .int 1, .int h_fault, .int h_faultPart])), (h_sort, .inl (cA 0, 40, .inl h_sort_v)), (h_x, .inl (cA 0, 40, .inl h_x_v)), (h_y, .inl (cA 0, 40, .inl h_y_v)), (h_z, .inl (cA 0, 40, .inl h_z_v))] := hD
  refine lv_aload_n hx hb dX1_fillWithNought_5 rfl (lv_at hl 0 rfl) ?_
  refine va_get (D := (dC, dI)) (ci := 1) (v := .ref h_sort) (C := RX1) (T := TX1) (N := 7) hx hb hts iwX1 hown hK hP 0 rfl rfl 0 (by decide) (hts _ tw_58) (fun _ h9 => h9) rfl dX1_fillWithNought_6 ?_
  refine lv_iconst (v := 0) hx hb dX1_fillWithNought_9 (by decide) ?_
  refine lv_iconst (v := 0) hx hb dX1_fillWithNought_10 (by decide) ?_
  refine va_iast hx hb hK hP hD hS 1 0 rfl rfl (show ¬ ((0 : Int32) < 0 ∨ 40 ≤ (0 : Int32).toNatClampNeg) by decide) dX1_fillWithNought_11 (fun H locs hP hD hS => ?_)
  have hP : va_P (dC, dI) vwCl [(h, .inr (1, [.ref h_sort, .ref h_x, .ref h_y, .ref h_z, .int 1, .int h_fault, .int h_faultPart])), (h_sort, .inl (cA 0, 40, .inl (upd h_sort_v (0 : Int32).toNatClampNeg 0))), (h_x, .inl (cA 0, 40, .inl h_x_v)), (h_y, .inl (cA 0, 40, .inl h_y_v)), (h_z, .inl (cA 0, 40, .inl h_z_v))] H := hP
  have hD : va_D A [(h, .inr (1, [.ref h_sort, .ref h_x, .ref h_y, .ref h_z, .int 1, .int h_fault, .int h_faultPart])), (h_sort, .inl (cA 0, 40, .inl (upd h_sort_v (0 : Int32).toNatClampNeg 0))), (h_x, .inl (cA 0, 40, .inl h_x_v)), (h_y, .inl (cA 0, 40, .inl h_y_v)), (h_z, .inl (cA 0, 40, .inl h_z_v))] := hD
  refine lv_aload_n hx hb dX1_fillWithNought_12 rfl (lv_at hl 0 rfl) ?_
  refine va_get (D := (dC, dI)) (ci := 1) (v := .ref h_x) (C := RX1) (T := TX1) (N := 7) hx hb hts iwX1 hown hK hP 0 rfl rfl 1 (by decide) (hts _ tw_60) (fun _ h9 => h9) rfl dX1_fillWithNought_13 ?_
  refine lv_iconst (v := 0) hx hb dX1_fillWithNought_16 (by decide) ?_
  refine lv_iconst (v := 0) hx hb dX1_fillWithNought_17 (by decide) ?_
  refine va_iast hx hb hK hP hD hS 2 0 rfl rfl (show ¬ ((0 : Int32) < 0 ∨ 40 ≤ (0 : Int32).toNatClampNeg) by decide) dX1_fillWithNought_18 (fun H locs hP hD hS => ?_)
  have hP : va_P (dC, dI) vwCl [(h, .inr (1, [.ref h_sort, .ref h_x, .ref h_y, .ref h_z, .int 1, .int h_fault, .int h_faultPart])), (h_sort, .inl (cA 0, 40, .inl (upd h_sort_v (0 : Int32).toNatClampNeg 0))), (h_x, .inl (cA 0, 40, .inl (upd h_x_v (0 : Int32).toNatClampNeg 0))), (h_y, .inl (cA 0, 40, .inl h_y_v)), (h_z, .inl (cA 0, 40, .inl h_z_v))] H := hP
  have hD : va_D A [(h, .inr (1, [.ref h_sort, .ref h_x, .ref h_y, .ref h_z, .int 1, .int h_fault, .int h_faultPart])), (h_sort, .inl (cA 0, 40, .inl (upd h_sort_v (0 : Int32).toNatClampNeg 0))), (h_x, .inl (cA 0, 40, .inl (upd h_x_v (0 : Int32).toNatClampNeg 0))), (h_y, .inl (cA 0, 40, .inl h_y_v)), (h_z, .inl (cA 0, 40, .inl h_z_v))] := hD
  refine lv_aload_n hx hb dX1_fillWithNought_19 rfl (lv_at hl 0 rfl) ?_
  refine va_get (D := (dC, dI)) (ci := 1) (v := .ref h_y) (C := RX1) (T := TX1) (N := 7) hx hb hts iwX1 hown hK hP 0 rfl rfl 2 (by decide) (hts _ tw_61) (fun _ h9 => h9) rfl dX1_fillWithNought_20 ?_
  refine lv_iconst (v := 0) hx hb dX1_fillWithNought_23 (by decide) ?_
  refine lv_iconst (v := 0) hx hb dX1_fillWithNought_24 (by decide) ?_
  refine va_iast hx hb hK hP hD hS 3 0 rfl rfl (show ¬ ((0 : Int32) < 0 ∨ 40 ≤ (0 : Int32).toNatClampNeg) by decide) dX1_fillWithNought_25 (fun H locs hP hD hS => ?_)
  have hP : va_P (dC, dI) vwCl [(h, .inr (1, [.ref h_sort, .ref h_x, .ref h_y, .ref h_z, .int 1, .int h_fault, .int h_faultPart])), (h_sort, .inl (cA 0, 40, .inl (upd h_sort_v (0 : Int32).toNatClampNeg 0))), (h_x, .inl (cA 0, 40, .inl (upd h_x_v (0 : Int32).toNatClampNeg 0))), (h_y, .inl (cA 0, 40, .inl (upd h_y_v (0 : Int32).toNatClampNeg 0))), (h_z, .inl (cA 0, 40, .inl h_z_v))] H := hP
  have hD : va_D A [(h, .inr (1, [.ref h_sort, .ref h_x, .ref h_y, .ref h_z, .int 1, .int h_fault, .int h_faultPart])), (h_sort, .inl (cA 0, 40, .inl (upd h_sort_v (0 : Int32).toNatClampNeg 0))), (h_x, .inl (cA 0, 40, .inl (upd h_x_v (0 : Int32).toNatClampNeg 0))), (h_y, .inl (cA 0, 40, .inl (upd h_y_v (0 : Int32).toNatClampNeg 0))), (h_z, .inl (cA 0, 40, .inl h_z_v))] := hD
  refine lv_aload_n hx hb dX1_fillWithNought_26 rfl (lv_at hl 0 rfl) ?_
  refine va_get (D := (dC, dI)) (ci := 1) (v := .ref h_z) (C := RX1) (T := TX1) (N := 7) hx hb hts iwX1 hown hK hP 0 rfl rfl 3 (by decide) (hts _ tw_62) (fun _ h9 => h9) rfl dX1_fillWithNought_27 ?_
  refine lv_iconst (v := 0) hx hb dX1_fillWithNought_30 (by decide) ?_
  refine lv_iconst (v := 0) hx hb dX1_fillWithNought_31 (by decide) ?_
  refine va_iast hx hb hK hP hD hS 4 0 rfl rfl (show ¬ ((0 : Int32) < 0 ∨ 40 ≤ (0 : Int32).toNatClampNeg) by decide) dX1_fillWithNought_32 (fun H locs hP hD hS => ?_)
  have hP : va_P (dC, dI) vwCl [(h, .inr (1, [.ref h_sort, .ref h_x, .ref h_y, .ref h_z, .int 1, .int h_fault, .int h_faultPart])), (h_sort, .inl (cA 0, 40, .inl (upd h_sort_v (0 : Int32).toNatClampNeg 0))), (h_x, .inl (cA 0, 40, .inl (upd h_x_v (0 : Int32).toNatClampNeg 0))), (h_y, .inl (cA 0, 40, .inl (upd h_y_v (0 : Int32).toNatClampNeg 0))), (h_z, .inl (cA 0, 40, .inl (upd h_z_v (0 : Int32).toNatClampNeg 0)))] H := hP
  have hD : va_D A [(h, .inr (1, [.ref h_sort, .ref h_x, .ref h_y, .ref h_z, .int 1, .int h_fault, .int h_faultPart])), (h_sort, .inl (cA 0, 40, .inl (upd h_sort_v (0 : Int32).toNatClampNeg 0))), (h_x, .inl (cA 0, 40, .inl (upd h_x_v (0 : Int32).toNatClampNeg 0))), (h_y, .inl (cA 0, 40, .inl (upd h_y_v (0 : Int32).toNatClampNeg 0))), (h_z, .inl (cA 0, 40, .inl (upd h_z_v (0 : Int32).toNatClampNeg 0)))] := hD
  have eo := Option.some.inj hf
  subst eo
  exact W.vret hx hb hr (fun t ht hW => ⟨⟨(), rfl, trivial, kq_mk ht hP hD⟩, hS.F ht⟩) hS.2.2 dX1_fillWithNought_33

def f_X1_drawX (p2_state : Int64) (h_sort_v : Nat → Int32) (h_x_v : Nat → Int32) (p0 : Int32) (p1 : Int32) : Option (Int32 × Int64) :=
    (if p0 = 0 then
    (f_X0_below p2_state (p1 + 1)).bind fun r2 =>
    some ((r2.1, r2.2))
    else
    (if p0 = 1 then
    (f_X0_below p2_state 8).bind fun r4 =>
    some ((8 * r4.1, r4.2))
    else
    (if p0 = 2 then
    (if p1 ≤ 0 then
    (f_X0_below p2_state 16).bind fun r7 =>
    some (((0 + 1) + r7.1, r7.2))
    else
    if (p1 - 1) < 0 ∨ 40 ≤ (p1 - 1).toNatClampNeg then none else
    (f_X0_below p2_state 16).bind fun r9 =>
    some ((((h_x_v (p1 - 1).toNatClampNeg) + 1) + r9.1, r9.2)))
    else
    (if p0 = 3 then
    (f_X0_below p2_state (p1 + 1)).bind fun r11 =>
    some ((r11.1, r11.2))
    else
    (if p0 = 4 then
    (f_X0_below p2_state 256).bind fun r13 =>
    some ((r13.1, r13.2))
    else
    (f_X0_below p2_state 4).bind fun r14 =>
    if p1 < 0 ∨ 40 ≤ p1.toNatClampNeg then none else
    some (((16 * r14.1) + (h_sort_v p1.toNatClampNeg), r14.2)))))))
set_option maxHeartbeats 4000000 in
set_option maxRecDepth 100000 in
theorem c_X1_drawX (l : Launch) (dC : Nat → ClassId) (dI : Nat → Nat → Nat) (cA : Nat → ClassId) (tt : Nat → Nat) (h p2 h_sort h_x h_y h_z : Nat) (sz : Nat) (h_count : Int32) (h_fault : Int32) (h_faultPart : Int32) (p2_state : Int64) (h_sort_v : Nat → Int32) (h_x_v : Nat → Int32) (p0 : Int32) (p1 : Int32) (o : Int32 × Int64) (hf : f_X1_drawX p2_state h_sort_v h_x_v p0 p1 = some o) : Met l yX1_drawX wX1_drawX ({ frames := 1, cells := 0, slots := 0, locals := 22 }) (kq_Pc dC dI cA tt [.ref h, .int p0, .int p1, .ref p2] [(h, .inr (1, [.ref h_sort, .ref h_x, .ref h_y, .ref h_z, .int h_count, .int h_fault, .int h_faultPart])), (p2, .inr (0, [.long p2_state])), (h_sort, .inl (cA 0, 40, .inl h_sort_v)), (h_x, .inl (cA 0, 40, .inl h_x_v))] sz) (va_Qi (fun r (_ : Unit) => r = o.1) (fun _ t => kq_B dC dI [(h, .inr (1, [.ref h_sort, .ref h_x, .ref h_y, .ref h_z, .int h_count, .int h_fault, .int h_faultPart])), (p2, .inr (0, [.long o.2])), (h_sort, .inl (cA 0, 40, .inl h_sort_v)), (h_x, .inl (cA 0, 40, .inl h_x_v))] (va_A [(h, .inr (1, [.ref h_sort, .ref h_x, .ref h_y, .ref h_z, .int h_count, .int h_fault, .int h_faultPart])), (p2, .inr (0, [.long p2_state])), (h_sort, .inl (cA 0, 40, .inl h_sort_v)), (h_x, .inl (cA 0, 40, .inl h_x_v))] sz) t) (va_A [(h, .inr (1, [.ref h_sort, .ref h_x, .ref h_y, .ref h_z, .int h_count, .int h_fault, .int h_faultPart])), (p2, .inr (0, [.long p2_state])), (h_sort, .inl (cA 0, 40, .inl h_sort_v)), (h_x, .inl (cA 0, 40, .inl h_x_v))] sz)) 0 0 (va_A [(h, .inr (1, [.ref h_sort, .ref h_x, .ref h_y, .ref h_z, .int h_count, .int h_fault, .int h_faultPart])), (p2, .inr (0, [.long p2_state])), (h_sort, .inl (cA 0, 40, .inl h_sort_v)), (h_x, .inl (cA 0, 40, .inl h_x_v))] sz) := by
  refine Met.ofW (cc := cX1_drawX) (maxL := 4) (ret := (some .int)) (by decide) rfl ?_
  intro p e s m args below meth c s₁ B hml hv
  obtain ⟨rfl, hsz, hP, hD0, hG, hZ⟩ := hv
  have hx := B.exec
  have hb := B.bytes
  have hr := B.returns
  have hts : ∀ w ∈ kq_T, w.before _ s = true := fun w h => atoms_spec (ws := wX1_drawX) B.pre w (List.mem_cons_of_mem _ h)
  have hown : s.vm.findClass RX1 = some m.cls := findClass_of_methodNamed B.named
  have hlocks := B.notSynchronized
  have hK := hG.1
  subst hsz
  have hD := hD0.self (sz := s.heap.size)
  generalize hAe : va_A [(h, .inr (1, [.ref h_sort, .ref h_x, .ref h_y, .ref h_z, .int h_count, .int h_fault, .int h_faultPart])), (p2, .inr (0, [.long p2_state])), (h_sort, .inl (cA 0, 40, .inl h_sort_v)), (h_x, .inl (cA 0, 40, .inl h_x_v))] s.heap.size = A at hD hZ ⊢
  have hA : ∀ q : Nat, s.heap.size ≤ q → A q := fun q h => by rw [← hAe]; exact Or.inr h
  have hl := lv_entry [.ref h, .int p0, .int p1, .ref p2] (n := 4) (Nat.le_of_ble_eq_true rfl)
  rw [lg_entry_eq]
  generalize (lg_sl [.ref h, .int p0, .int p1, .ref p2] ++ List.replicate (4 - (lg_sl [.ref h, .int p0, .int p1, .ref p2]).length) Slot.unset).toArray = ls at hl ⊢
  have hl : lv_has ls 4 [(0, .ref h), (1, .int p0), (2, .int p1), (3, .ref p2)] := hl
  obtain ⟨H, hHe⟩ : ∃ H : Heap, H = s.heap := ⟨_, rfl⟩
  have hP : va_P (dC, dI) vwCl [(h, .inr (1, [.ref h_sort, .ref h_x, .ref h_y, .ref h_z, .int h_count, .int h_fault, .int h_faultPart])), (p2, .inr (0, [.long p2_state])), (h_sort, .inl (cA 0, 40, .inl h_sort_v)), (h_x, .inl (cA 0, 40, .inl h_x_v))] H := by rw [hHe]; exact hP
  have hS : va_S A s.heap H [] := by rw [hHe]; exact va_S.rf
  rw [← hHe]
  unfold f_X1_drawX at hf
  refine lv_iload_n hx hb dX1_drawX_0 rfl (lv_at hl 1 rfl) ?_
  by_cases c1 : p0 = 0
  · have hf := kp_p c1 hf
    refine lv_tableIn (tgt := 36) hx hb dX1_drawX_1 (by rw [c1]; decide) (by rw [c1]; decide) (by rw [c1]; rfl) (by decide) ?_
    refine lv_aload_n hx hb dX1_drawX_36 rfl (lv_at hl 3 rfl) ?_
    refine lv_iload_n hx hb dX1_drawX_37 rfl (lv_at hl 2 rfl) ?_
    refine lv_iconst (v := 1) hx hb dX1_drawX_38 (by decide) ?_
    refine lv_iadd hx hb dX1_drawX_39 ?_
    obtain ⟨r2, hr2, hf⟩ := kp_b hf
    have hPc := hP.sub (ws' := [(p2, .inr (0, [.long p2_state]))]) [1] rfl
    have hDc := hD.sub (ws' := [(p2, .inr (0, [.long p2_state]))]) [1] (by decide) rfl
    have hFc := va_free (wc := [(p2, .inr (0, [.long p2_state]))]) hD hS hA [1] rfl
    refine va_calli (va_runV (As := [.int (p1 + 1)]) (rest := []) ⟨hx, hb, hml, hown, hts⟩ (c_X0_below l dC dI cA tt p2 H.size p2_state (p1 + 1) r2 hr2) (cwV 1 hts (kq_gV tw_161 tw_162 tw_163 tw_21 tw_164) rfl rfl rfl (by decide +kernel) ⟨Nat.le_of_ble_eq_true rfl, Nat.le_of_ble_eq_true rfl⟩) ⟨kq_blind, va_recv hK hP (ci := 0) (q0 := 1) rfl rfl, kq_pre hG hZ hS hPc hDc hFc⟩ rfl rfl hl.1 rfl (lv_room (Nat.le_of_ble_eq_true rfl)) dX1_drawX_40 ⟨Nat.le_of_ble_eq_true rfl, Nat.le_of_ble_eq_true rfl⟩) hS (fun q _ h => hFc q h) hFc (fun rv u t H1 locs ht hvm hw hB hz1 hk1 hS => ?_)
    obtain ⟨hP1, hD1⟩ := hB
    rw [ht] at hP1
    have hw := hw.symm
    subst hw
    obtain ⟨hP, hD⟩ := va_join (wr := [(h, .inr (1, [.ref h_sort, .ref h_x, .ref h_y, .ref h_z, .int h_count, .int h_fault, .int h_faultPart])), (h_sort, .inl (cA 0, 40, .inl h_sort_v)), (h_x, .inl (cA 0, 40, .inl h_x_v))]) (w1 := [(p2, .inr (0, [.long r2.2]))]) hP hD [1] [0, 2, 3] rfl rfl (by decide) (by decide) hk1 hFc hP1 hD1
    have hP : va_P (dC, dI) vwCl [(h, .inr (1, [.ref h_sort, .ref h_x, .ref h_y, .ref h_z, .int h_count, .int h_fault, .int h_faultPart])), (p2, .inr (0, [.long r2.2])), (h_sort, .inl (cA 0, 40, .inl h_sort_v)), (h_x, .inl (cA 0, 40, .inl h_x_v))] H1 := hP.sub [0, 3, 1, 2] rfl
    have hD : va_D A [(h, .inr (1, [.ref h_sort, .ref h_x, .ref h_y, .ref h_z, .int h_count, .int h_fault, .int h_faultPart])), (p2, .inr (0, [.long r2.2])), (h_sort, .inl (cA 0, 40, .inl h_sort_v)), (h_x, .inl (cA 0, 40, .inl h_x_v))] := hD.sub [0, 3, 1, 2] (by decide) rfl
    generalize H1 = H at hP hS ⊢
    have eo := Option.some.inj hf
    subst eo
    exact W.iret (v := r2.1) hx hb hr (fun t ht hW => ⟨⟨_, (), rfl, rfl, kq_mk ht hP hD⟩, hS.F ht⟩) hS.2.2 dX1_drawX_43
  · have hf := kp_n c1 hf
    by_cases c3 : p0 = 1
    · have hf := kp_p c3 hf
      refine lv_tableIn (tgt := 44) hx hb dX1_drawX_1 (by rw [c3]; decide) (by rw [c3]; decide) (by rw [c3]; rfl) (by decide) ?_
      refine lv_bipush (v := 8) hx hb dX1_drawX_44 (by decide) ?_
      refine lv_aload_n hx hb dX1_drawX_46 rfl (lv_at hl 3 rfl) ?_
      refine lv_bipush (v := 8) hx hb dX1_drawX_47 (by decide) ?_
      obtain ⟨r4, hr4, hf⟩ := kp_b hf
      have hPc := hP.sub (ws' := [(p2, .inr (0, [.long p2_state]))]) [1] rfl
      have hDc := hD.sub (ws' := [(p2, .inr (0, [.long p2_state]))]) [1] (by decide) rfl
      have hFc := va_free (wc := [(p2, .inr (0, [.long p2_state]))]) hD hS hA [1] rfl
      refine va_calli (va_runV (As := [.int 8]) (rest := [.int 8]) ⟨hx, hb, hml, hown, hts⟩ (c_X0_below l dC dI cA tt p2 H.size p2_state 8 r4 hr4) (cwV 1 hts (kq_gV tw_161 tw_162 tw_163 tw_21 tw_164) rfl rfl rfl (by decide +kernel) ⟨Nat.le_of_ble_eq_true rfl, Nat.le_of_ble_eq_true rfl⟩) ⟨kq_blind, va_recv hK hP (ci := 0) (q0 := 1) rfl rfl, kq_pre hG hZ hS hPc hDc hFc⟩ rfl rfl hl.1 rfl (lv_room (Nat.le_of_ble_eq_true rfl)) dX1_drawX_49 ⟨Nat.le_of_ble_eq_true rfl, Nat.le_of_ble_eq_true rfl⟩) hS (fun q _ h => hFc q h) hFc (fun rv u t H1 locs ht hvm hw hB hz1 hk1 hS => ?_)
      obtain ⟨hP1, hD1⟩ := hB
      rw [ht] at hP1
      have hw := hw.symm
      subst hw
      obtain ⟨hP, hD⟩ := va_join (wr := [(h, .inr (1, [.ref h_sort, .ref h_x, .ref h_y, .ref h_z, .int h_count, .int h_fault, .int h_faultPart])), (h_sort, .inl (cA 0, 40, .inl h_sort_v)), (h_x, .inl (cA 0, 40, .inl h_x_v))]) (w1 := [(p2, .inr (0, [.long r4.2]))]) hP hD [1] [0, 2, 3] rfl rfl (by decide) (by decide) hk1 hFc hP1 hD1
      have hP : va_P (dC, dI) vwCl [(h, .inr (1, [.ref h_sort, .ref h_x, .ref h_y, .ref h_z, .int h_count, .int h_fault, .int h_faultPart])), (p2, .inr (0, [.long r4.2])), (h_sort, .inl (cA 0, 40, .inl h_sort_v)), (h_x, .inl (cA 0, 40, .inl h_x_v))] H1 := hP.sub [0, 3, 1, 2] rfl
      have hD : va_D A [(h, .inr (1, [.ref h_sort, .ref h_x, .ref h_y, .ref h_z, .int h_count, .int h_fault, .int h_faultPart])), (p2, .inr (0, [.long r4.2])), (h_sort, .inl (cA 0, 40, .inl h_sort_v)), (h_x, .inl (cA 0, 40, .inl h_x_v))] := hD.sub [0, 3, 1, 2] (by decide) rfl
      generalize H1 = H at hP hS ⊢
      refine lv_imul hx hb dX1_drawX_52 ?_
      have eo := Option.some.inj hf
      subst eo
      exact W.iret (v := 8 * r4.1) hx hb hr (fun t ht hW => ⟨⟨_, (), rfl, rfl, kq_mk ht hP hD⟩, hS.F ht⟩) hS.2.2 dX1_drawX_53
    · have hf := kp_n c3 hf
      by_cases c5 : p0 = 2
      · have hf := kp_p c5 hf
        refine lv_tableIn (tgt := 54) hx hb dX1_drawX_1 (by rw [c5]; decide) (by rw [c5]; decide) (by rw [c5]; rfl) (by decide) ?_
        refine lv_iload_n hx hb dX1_drawX_54 rfl (lv_at hl 2 rfl) ?_
        refine lv_if_le (tgt := 69) hx hb dX1_drawX_55 (by decide) (fun c6 => ?_) (fun c6 => ?_)
        · have hf := kp_p c6 hf
          refine lv_iconst (v := 0) hx hb dX1_drawX_69 (by decide) ?_
          refine lv_iconst (v := 1) hx hb dX1_drawX_70 (by decide) ?_
          refine lv_iadd hx hb dX1_drawX_71 ?_
          refine lv_aload_n hx hb dX1_drawX_72 rfl (lv_at hl 3 rfl) ?_
          refine lv_bipush (v := 16) hx hb dX1_drawX_73 (by decide) ?_
          obtain ⟨r7, hr7, hf⟩ := kp_b hf
          have hPc := hP.sub (ws' := [(p2, .inr (0, [.long p2_state]))]) [1] rfl
          have hDc := hD.sub (ws' := [(p2, .inr (0, [.long p2_state]))]) [1] (by decide) rfl
          have hFc := va_free (wc := [(p2, .inr (0, [.long p2_state]))]) hD hS hA [1] rfl
          refine va_calli (va_runV (As := [.int 16]) (rest := [.int (0 + 1)]) ⟨hx, hb, hml, hown, hts⟩ (c_X0_below l dC dI cA tt p2 H.size p2_state 16 r7 hr7) (cwV 1 hts (kq_gV tw_161 tw_162 tw_163 tw_21 tw_164) rfl rfl rfl (by decide +kernel) ⟨Nat.le_of_ble_eq_true rfl, Nat.le_of_ble_eq_true rfl⟩) ⟨kq_blind, va_recv hK hP (ci := 0) (q0 := 1) rfl rfl, kq_pre hG hZ hS hPc hDc hFc⟩ rfl rfl hl.1 rfl (lv_room (Nat.le_of_ble_eq_true rfl)) dX1_drawX_75 ⟨Nat.le_of_ble_eq_true rfl, Nat.le_of_ble_eq_true rfl⟩) hS (fun q _ h => hFc q h) hFc (fun rv u t H1 locs ht hvm hw hB hz1 hk1 hS => ?_)
          obtain ⟨hP1, hD1⟩ := hB
          rw [ht] at hP1
          have hw := hw.symm
          subst hw
          obtain ⟨hP, hD⟩ := va_join (wr := [(h, .inr (1, [.ref h_sort, .ref h_x, .ref h_y, .ref h_z, .int h_count, .int h_fault, .int h_faultPart])), (h_sort, .inl (cA 0, 40, .inl h_sort_v)), (h_x, .inl (cA 0, 40, .inl h_x_v))]) (w1 := [(p2, .inr (0, [.long r7.2]))]) hP hD [1] [0, 2, 3] rfl rfl (by decide) (by decide) hk1 hFc hP1 hD1
          have hP : va_P (dC, dI) vwCl [(h, .inr (1, [.ref h_sort, .ref h_x, .ref h_y, .ref h_z, .int h_count, .int h_fault, .int h_faultPart])), (p2, .inr (0, [.long r7.2])), (h_sort, .inl (cA 0, 40, .inl h_sort_v)), (h_x, .inl (cA 0, 40, .inl h_x_v))] H1 := hP.sub [0, 3, 1, 2] rfl
          have hD : va_D A [(h, .inr (1, [.ref h_sort, .ref h_x, .ref h_y, .ref h_z, .int h_count, .int h_fault, .int h_faultPart])), (p2, .inr (0, [.long r7.2])), (h_sort, .inl (cA 0, 40, .inl h_sort_v)), (h_x, .inl (cA 0, 40, .inl h_x_v))] := hD.sub [0, 3, 1, 2] (by decide) rfl
          generalize H1 = H at hP hS ⊢
          refine lv_iadd hx hb dX1_drawX_78 ?_
          have eo := Option.some.inj hf
          subst eo
          exact W.iret (v := (0 + 1) + r7.1) hx hb hr (fun t ht hW => ⟨⟨_, (), rfl, rfl, kq_mk ht hP hD⟩, hS.F ht⟩) hS.2.2 dX1_drawX_79
        · have hf := kp_n c6 hf
          refine lv_aload_n hx hb dX1_drawX_58 rfl (lv_at hl 0 rfl) ?_
          refine va_get (D := (dC, dI)) (ci := 1) (v := .ref h_x) (C := RX1) (T := TX1) (N := 7) hx hb hts iwX1 hown hK hP 0 rfl rfl 1 (by decide) (hts _ tw_60) (fun _ h9 => h9) rfl dX1_drawX_59 ?_
          refine lv_iload_n hx hb dX1_drawX_62 rfl (lv_at hl 2 rfl) ?_
          refine lv_iconst (v := 1) hx hb dX1_drawX_63 (by decide) ?_
          refine lv_isub hx hb dX1_drawX_64 ?_
          obtain ⟨hq8, hf⟩ := kp_t hf
          refine va_iald hx hb hK hP 3 0 rfl rfl hq8 dX1_drawX_65 ?_
          refine lv_goto (tgt := 70) hx hb dX1_drawX_66 (by decide) ?_
          refine lv_iconst (v := 1) hx hb dX1_drawX_70 (by decide) ?_
          refine lv_iadd hx hb dX1_drawX_71 ?_
          refine lv_aload_n hx hb dX1_drawX_72 rfl (lv_at hl 3 rfl) ?_
          refine lv_bipush (v := 16) hx hb dX1_drawX_73 (by decide) ?_
          obtain ⟨r9, hr9, hf⟩ := kp_b hf
          have hPc := hP.sub (ws' := [(p2, .inr (0, [.long p2_state]))]) [1] rfl
          have hDc := hD.sub (ws' := [(p2, .inr (0, [.long p2_state]))]) [1] (by decide) rfl
          have hFc := va_free (wc := [(p2, .inr (0, [.long p2_state]))]) hD hS hA [1] rfl
          refine va_calli (va_runV (As := [.int 16]) (rest := [.int ((h_x_v (p1 - 1).toNatClampNeg) + 1)]) ⟨hx, hb, hml, hown, hts⟩ (c_X0_below l dC dI cA tt p2 H.size p2_state 16 r9 hr9) (cwV 1 hts (kq_gV tw_161 tw_162 tw_163 tw_21 tw_164) rfl rfl rfl (by decide +kernel) ⟨Nat.le_of_ble_eq_true rfl, Nat.le_of_ble_eq_true rfl⟩) ⟨kq_blind, va_recv hK hP (ci := 0) (q0 := 1) rfl rfl, kq_pre hG hZ hS hPc hDc hFc⟩ rfl rfl hl.1 rfl (lv_room (Nat.le_of_ble_eq_true rfl)) dX1_drawX_75 ⟨Nat.le_of_ble_eq_true rfl, Nat.le_of_ble_eq_true rfl⟩) hS (fun q _ h => hFc q h) hFc (fun rv u t H1 locs ht hvm hw hB hz1 hk1 hS => ?_)
          obtain ⟨hP1, hD1⟩ := hB
          rw [ht] at hP1
          have hw := hw.symm
          subst hw
          obtain ⟨hP, hD⟩ := va_join (wr := [(h, .inr (1, [.ref h_sort, .ref h_x, .ref h_y, .ref h_z, .int h_count, .int h_fault, .int h_faultPart])), (h_sort, .inl (cA 0, 40, .inl h_sort_v)), (h_x, .inl (cA 0, 40, .inl h_x_v))]) (w1 := [(p2, .inr (0, [.long r9.2]))]) hP hD [1] [0, 2, 3] rfl rfl (by decide) (by decide) hk1 hFc hP1 hD1
          have hP : va_P (dC, dI) vwCl [(h, .inr (1, [.ref h_sort, .ref h_x, .ref h_y, .ref h_z, .int h_count, .int h_fault, .int h_faultPart])), (p2, .inr (0, [.long r9.2])), (h_sort, .inl (cA 0, 40, .inl h_sort_v)), (h_x, .inl (cA 0, 40, .inl h_x_v))] H1 := hP.sub [0, 3, 1, 2] rfl
          have hD : va_D A [(h, .inr (1, [.ref h_sort, .ref h_x, .ref h_y, .ref h_z, .int h_count, .int h_fault, .int h_faultPart])), (p2, .inr (0, [.long r9.2])), (h_sort, .inl (cA 0, 40, .inl h_sort_v)), (h_x, .inl (cA 0, 40, .inl h_x_v))] := hD.sub [0, 3, 1, 2] (by decide) rfl
          generalize H1 = H at hP hS ⊢
          refine lv_iadd hx hb dX1_drawX_78 ?_
          have eo := Option.some.inj hf
          subst eo
          exact W.iret (v := ((h_x_v (p1 - 1).toNatClampNeg) + 1) + r9.1) hx hb hr (fun t ht hW => ⟨⟨_, (), rfl, rfl, kq_mk ht hP hD⟩, hS.F ht⟩) hS.2.2 dX1_drawX_79
      · have hf := kp_n c5 hf
        by_cases c10 : p0 = 3
        · have hf := kp_p c10 hf
          refine lv_tableIn (tgt := 36) hx hb dX1_drawX_1 (by rw [c10]; decide) (by rw [c10]; decide) (by rw [c10]; rfl) (by decide) ?_
          refine lv_aload_n hx hb dX1_drawX_36 rfl (lv_at hl 3 rfl) ?_
          refine lv_iload_n hx hb dX1_drawX_37 rfl (lv_at hl 2 rfl) ?_
          refine lv_iconst (v := 1) hx hb dX1_drawX_38 (by decide) ?_
          refine lv_iadd hx hb dX1_drawX_39 ?_
          obtain ⟨r11, hr11, hf⟩ := kp_b hf
          have hPc := hP.sub (ws' := [(p2, .inr (0, [.long p2_state]))]) [1] rfl
          have hDc := hD.sub (ws' := [(p2, .inr (0, [.long p2_state]))]) [1] (by decide) rfl
          have hFc := va_free (wc := [(p2, .inr (0, [.long p2_state]))]) hD hS hA [1] rfl
          refine va_calli (va_runV (As := [.int (p1 + 1)]) (rest := []) ⟨hx, hb, hml, hown, hts⟩ (c_X0_below l dC dI cA tt p2 H.size p2_state (p1 + 1) r11 hr11) (cwV 1 hts (kq_gV tw_161 tw_162 tw_163 tw_21 tw_164) rfl rfl rfl (by decide +kernel) ⟨Nat.le_of_ble_eq_true rfl, Nat.le_of_ble_eq_true rfl⟩) ⟨kq_blind, va_recv hK hP (ci := 0) (q0 := 1) rfl rfl, kq_pre hG hZ hS hPc hDc hFc⟩ rfl rfl hl.1 rfl (lv_room (Nat.le_of_ble_eq_true rfl)) dX1_drawX_40 ⟨Nat.le_of_ble_eq_true rfl, Nat.le_of_ble_eq_true rfl⟩) hS (fun q _ h => hFc q h) hFc (fun rv u t H1 locs ht hvm hw hB hz1 hk1 hS => ?_)
          obtain ⟨hP1, hD1⟩ := hB
          rw [ht] at hP1
          have hw := hw.symm
          subst hw
          obtain ⟨hP, hD⟩ := va_join (wr := [(h, .inr (1, [.ref h_sort, .ref h_x, .ref h_y, .ref h_z, .int h_count, .int h_fault, .int h_faultPart])), (h_sort, .inl (cA 0, 40, .inl h_sort_v)), (h_x, .inl (cA 0, 40, .inl h_x_v))]) (w1 := [(p2, .inr (0, [.long r11.2]))]) hP hD [1] [0, 2, 3] rfl rfl (by decide) (by decide) hk1 hFc hP1 hD1
          have hP : va_P (dC, dI) vwCl [(h, .inr (1, [.ref h_sort, .ref h_x, .ref h_y, .ref h_z, .int h_count, .int h_fault, .int h_faultPart])), (p2, .inr (0, [.long r11.2])), (h_sort, .inl (cA 0, 40, .inl h_sort_v)), (h_x, .inl (cA 0, 40, .inl h_x_v))] H1 := hP.sub [0, 3, 1, 2] rfl
          have hD : va_D A [(h, .inr (1, [.ref h_sort, .ref h_x, .ref h_y, .ref h_z, .int h_count, .int h_fault, .int h_faultPart])), (p2, .inr (0, [.long r11.2])), (h_sort, .inl (cA 0, 40, .inl h_sort_v)), (h_x, .inl (cA 0, 40, .inl h_x_v))] := hD.sub [0, 3, 1, 2] (by decide) rfl
          generalize H1 = H at hP hS ⊢
          have eo := Option.some.inj hf
          subst eo
          exact W.iret (v := r11.1) hx hb hr (fun t ht hW => ⟨⟨_, (), rfl, rfl, kq_mk ht hP hD⟩, hS.F ht⟩) hS.2.2 dX1_drawX_43
        · have hf := kp_n c10 hf
          by_cases c12 : p0 = 4
          · have hf := kp_p c12 hf
            refine lv_tableIn (tgt := 80) hx hb dX1_drawX_1 (by rw [c12]; decide) (by rw [c12]; decide) (by rw [c12]; rfl) (by decide) ?_
            refine lv_aload_n hx hb dX1_drawX_80 rfl (lv_at hl 3 rfl) ?_
            refine lv_sipush (v := 256) hx hb dX1_drawX_81 (by decide) ?_
            obtain ⟨r13, hr13, hf⟩ := kp_b hf
            have hPc := hP.sub (ws' := [(p2, .inr (0, [.long p2_state]))]) [1] rfl
            have hDc := hD.sub (ws' := [(p2, .inr (0, [.long p2_state]))]) [1] (by decide) rfl
            have hFc := va_free (wc := [(p2, .inr (0, [.long p2_state]))]) hD hS hA [1] rfl
            refine va_calli (va_runV (As := [.int 256]) (rest := []) ⟨hx, hb, hml, hown, hts⟩ (c_X0_below l dC dI cA tt p2 H.size p2_state 256 r13 hr13) (cwV 1 hts (kq_gV tw_161 tw_162 tw_163 tw_21 tw_164) rfl rfl rfl (by decide +kernel) ⟨Nat.le_of_ble_eq_true rfl, Nat.le_of_ble_eq_true rfl⟩) ⟨kq_blind, va_recv hK hP (ci := 0) (q0 := 1) rfl rfl, kq_pre hG hZ hS hPc hDc hFc⟩ rfl rfl hl.1 rfl (lv_room (Nat.le_of_ble_eq_true rfl)) dX1_drawX_84 ⟨Nat.le_of_ble_eq_true rfl, Nat.le_of_ble_eq_true rfl⟩) hS (fun q _ h => hFc q h) hFc (fun rv u t H1 locs ht hvm hw hB hz1 hk1 hS => ?_)
            obtain ⟨hP1, hD1⟩ := hB
            rw [ht] at hP1
            have hw := hw.symm
            subst hw
            obtain ⟨hP, hD⟩ := va_join (wr := [(h, .inr (1, [.ref h_sort, .ref h_x, .ref h_y, .ref h_z, .int h_count, .int h_fault, .int h_faultPart])), (h_sort, .inl (cA 0, 40, .inl h_sort_v)), (h_x, .inl (cA 0, 40, .inl h_x_v))]) (w1 := [(p2, .inr (0, [.long r13.2]))]) hP hD [1] [0, 2, 3] rfl rfl (by decide) (by decide) hk1 hFc hP1 hD1
            have hP : va_P (dC, dI) vwCl [(h, .inr (1, [.ref h_sort, .ref h_x, .ref h_y, .ref h_z, .int h_count, .int h_fault, .int h_faultPart])), (p2, .inr (0, [.long r13.2])), (h_sort, .inl (cA 0, 40, .inl h_sort_v)), (h_x, .inl (cA 0, 40, .inl h_x_v))] H1 := hP.sub [0, 3, 1, 2] rfl
            have hD : va_D A [(h, .inr (1, [.ref h_sort, .ref h_x, .ref h_y, .ref h_z, .int h_count, .int h_fault, .int h_faultPart])), (p2, .inr (0, [.long r13.2])), (h_sort, .inl (cA 0, 40, .inl h_sort_v)), (h_x, .inl (cA 0, 40, .inl h_x_v))] := hD.sub [0, 3, 1, 2] (by decide) rfl
            generalize H1 = H at hP hS ⊢
            have eo := Option.some.inj hf
            subst eo
            exact W.iret (v := r13.1) hx hb hr (fun t ht hW => ⟨⟨_, (), rfl, rfl, kq_mk ht hP hD⟩, hS.F ht⟩) hS.2.2 dX1_drawX_87
          · have hf := kp_n c12 hf
            refine lv_tableOut (tgt := 88) hx hb dX1_drawX_1 (by have gc1 := lv_neT c1 (a := 0) (by decide); have gc3 := lv_neT c3 (a := 1) (by decide); have gc5 := lv_neT c5 (a := 2) (by decide); have gc10 := lv_neT c10 (a := 3) (by decide); have gc12 := lv_neT c12 (a := 4) (by decide); omega) (by decide) ?_
            refine lv_bipush (v := 16) hx hb dX1_drawX_88 (by decide) ?_
            refine lv_aload_n hx hb dX1_drawX_90 rfl (lv_at hl 3 rfl) ?_
            refine lv_iconst (v := 4) hx hb dX1_drawX_91 (by decide) ?_
            obtain ⟨r14, hr14, hf⟩ := kp_b hf
            have hPc := hP.sub (ws' := [(p2, .inr (0, [.long p2_state]))]) [1] rfl
            have hDc := hD.sub (ws' := [(p2, .inr (0, [.long p2_state]))]) [1] (by decide) rfl
            have hFc := va_free (wc := [(p2, .inr (0, [.long p2_state]))]) hD hS hA [1] rfl
            refine va_calli (va_runV (As := [.int 4]) (rest := [.int 16]) ⟨hx, hb, hml, hown, hts⟩ (c_X0_below l dC dI cA tt p2 H.size p2_state 4 r14 hr14) (cwV 1 hts (kq_gV tw_161 tw_162 tw_163 tw_21 tw_164) rfl rfl rfl (by decide +kernel) ⟨Nat.le_of_ble_eq_true rfl, Nat.le_of_ble_eq_true rfl⟩) ⟨kq_blind, va_recv hK hP (ci := 0) (q0 := 1) rfl rfl, kq_pre hG hZ hS hPc hDc hFc⟩ rfl rfl hl.1 rfl (lv_room (Nat.le_of_ble_eq_true rfl)) dX1_drawX_92 ⟨Nat.le_of_ble_eq_true rfl, Nat.le_of_ble_eq_true rfl⟩) hS (fun q _ h => hFc q h) hFc (fun rv u t H1 locs ht hvm hw hB hz1 hk1 hS => ?_)
            obtain ⟨hP1, hD1⟩ := hB
            rw [ht] at hP1
            have hw := hw.symm
            subst hw
            obtain ⟨hP, hD⟩ := va_join (wr := [(h, .inr (1, [.ref h_sort, .ref h_x, .ref h_y, .ref h_z, .int h_count, .int h_fault, .int h_faultPart])), (h_sort, .inl (cA 0, 40, .inl h_sort_v)), (h_x, .inl (cA 0, 40, .inl h_x_v))]) (w1 := [(p2, .inr (0, [.long r14.2]))]) hP hD [1] [0, 2, 3] rfl rfl (by decide) (by decide) hk1 hFc hP1 hD1
            have hP : va_P (dC, dI) vwCl [(h, .inr (1, [.ref h_sort, .ref h_x, .ref h_y, .ref h_z, .int h_count, .int h_fault, .int h_faultPart])), (p2, .inr (0, [.long r14.2])), (h_sort, .inl (cA 0, 40, .inl h_sort_v)), (h_x, .inl (cA 0, 40, .inl h_x_v))] H1 := hP.sub [0, 3, 1, 2] rfl
            have hD : va_D A [(h, .inr (1, [.ref h_sort, .ref h_x, .ref h_y, .ref h_z, .int h_count, .int h_fault, .int h_faultPart])), (p2, .inr (0, [.long r14.2])), (h_sort, .inl (cA 0, 40, .inl h_sort_v)), (h_x, .inl (cA 0, 40, .inl h_x_v))] := hD.sub [0, 3, 1, 2] (by decide) rfl
            generalize H1 = H at hP hS ⊢
            refine lv_imul hx hb dX1_drawX_95 ?_
            refine lv_aload_n hx hb dX1_drawX_96 rfl (lv_at hl 0 rfl) ?_
            refine va_get (D := (dC, dI)) (ci := 1) (v := .ref h_sort) (C := RX1) (T := TX1) (N := 7) hx hb hts iwX1 hown hK hP 0 rfl rfl 0 (by decide) (hts _ tw_58) (fun _ h9 => h9) rfl dX1_drawX_97 ?_
            refine lv_iload_n hx hb dX1_drawX_100 rfl (lv_at hl 2 rfl) ?_
            obtain ⟨hq15, hf⟩ := kp_t hf
            refine va_iald hx hb hK hP 2 0 rfl rfl hq15 dX1_drawX_101 ?_
            refine lv_iadd hx hb dX1_drawX_102 ?_
            have eo := Option.some.inj hf
            subst eo
            exact W.iret (v := (16 * r14.1) + (h_sort_v p1.toNatClampNeg)) hx hb hr (fun t ht hW => ⟨⟨_, (), rfl, rfl, kq_mk ht hP hD⟩, hS.F ht⟩) hS.2.2 dX1_drawX_103

def f_X1_drawY (p2_state : Int64) (h_sort_v : Nat → Int32) (h_x_v : Nat → Int32) (h_y_v : Nat → Int32) (p0 : Int32) (p1 : Int32) : Option (Int32 × Int64) :=
    (if p0 = 0 then
    if p1 < 0 ∨ 40 ≤ p1.toNatClampNeg then none else
    (if (h_sort_v p1.toNatClampNeg) = 3 then
    (if (h_x_v p1.toNatClampNeg) < 0 then
    some ((0, p2_state))
    else
    (if p1 ≤ (h_x_v p1.toNatClampNeg) then
    some ((0, p2_state))
    else
    if (h_x_v p1.toNatClampNeg) < 0 ∨ 40 ≤ (h_x_v p1.toNatClampNeg).toNatClampNeg then none else
    some ((h_y_v (h_x_v p1.toNatClampNeg).toNatClampNeg, p2_state))))
    else
    (f_X0_below p2_state 64).bind fun r9 =>
    some ((r9.1, r9.2)))
    else
    (f_X0_below p2_state 64).bind fun r2 =>
    some ((r2.1, r2.2)))
set_option maxHeartbeats 4000000 in
set_option maxRecDepth 100000 in
theorem c_X1_drawY (l : Launch) (dC : Nat → ClassId) (dI : Nat → Nat → Nat) (cA : Nat → ClassId) (tt : Nat → Nat) (h p2 h_sort h_x h_y h_z : Nat) (sz : Nat) (h_count : Int32) (h_fault : Int32) (h_faultPart : Int32) (p2_state : Int64) (h_sort_v : Nat → Int32) (h_x_v : Nat → Int32) (h_y_v : Nat → Int32) (p0 : Int32) (p1 : Int32) (o : Int32 × Int64) (hf : f_X1_drawY p2_state h_sort_v h_x_v h_y_v p0 p1 = some o) : Met l yX1_drawY wX1_drawY ({ frames := 1, cells := 0, slots := 0, locals := 22 }) (kq_Pc dC dI cA tt [.ref h, .int p0, .int p1, .ref p2] [(h, .inr (1, [.ref h_sort, .ref h_x, .ref h_y, .ref h_z, .int h_count, .int h_fault, .int h_faultPart])), (p2, .inr (0, [.long p2_state])), (h_sort, .inl (cA 0, 40, .inl h_sort_v)), (h_x, .inl (cA 0, 40, .inl h_x_v)), (h_y, .inl (cA 0, 40, .inl h_y_v))] sz) (va_Qi (fun r (_ : Unit) => r = o.1) (fun _ t => kq_B dC dI [(h, .inr (1, [.ref h_sort, .ref h_x, .ref h_y, .ref h_z, .int h_count, .int h_fault, .int h_faultPart])), (p2, .inr (0, [.long o.2])), (h_sort, .inl (cA 0, 40, .inl h_sort_v)), (h_x, .inl (cA 0, 40, .inl h_x_v)), (h_y, .inl (cA 0, 40, .inl h_y_v))] (va_A [(h, .inr (1, [.ref h_sort, .ref h_x, .ref h_y, .ref h_z, .int h_count, .int h_fault, .int h_faultPart])), (p2, .inr (0, [.long p2_state])), (h_sort, .inl (cA 0, 40, .inl h_sort_v)), (h_x, .inl (cA 0, 40, .inl h_x_v)), (h_y, .inl (cA 0, 40, .inl h_y_v))] sz) t) (va_A [(h, .inr (1, [.ref h_sort, .ref h_x, .ref h_y, .ref h_z, .int h_count, .int h_fault, .int h_faultPart])), (p2, .inr (0, [.long p2_state])), (h_sort, .inl (cA 0, 40, .inl h_sort_v)), (h_x, .inl (cA 0, 40, .inl h_x_v)), (h_y, .inl (cA 0, 40, .inl h_y_v))] sz)) 0 0 (va_A [(h, .inr (1, [.ref h_sort, .ref h_x, .ref h_y, .ref h_z, .int h_count, .int h_fault, .int h_faultPart])), (p2, .inr (0, [.long p2_state])), (h_sort, .inl (cA 0, 40, .inl h_sort_v)), (h_x, .inl (cA 0, 40, .inl h_x_v)), (h_y, .inl (cA 0, 40, .inl h_y_v))] sz) := by
  refine Met.ofW (cc := cX1_drawY) (maxL := 5) (ret := (some .int)) (by decide) rfl ?_
  intro p e s m args below meth c s₁ B hml hv
  obtain ⟨rfl, hsz, hP, hD0, hG, hZ⟩ := hv
  have hx := B.exec
  have hb := B.bytes
  have hr := B.returns
  have hts : ∀ w ∈ kq_T, w.before _ s = true := fun w h => atoms_spec (ws := wX1_drawY) B.pre w (List.mem_cons_of_mem _ h)
  have hown : s.vm.findClass RX1 = some m.cls := findClass_of_methodNamed B.named
  have hlocks := B.notSynchronized
  have hK := hG.1
  subst hsz
  have hD := hD0.self (sz := s.heap.size)
  generalize hAe : va_A [(h, .inr (1, [.ref h_sort, .ref h_x, .ref h_y, .ref h_z, .int h_count, .int h_fault, .int h_faultPart])), (p2, .inr (0, [.long p2_state])), (h_sort, .inl (cA 0, 40, .inl h_sort_v)), (h_x, .inl (cA 0, 40, .inl h_x_v)), (h_y, .inl (cA 0, 40, .inl h_y_v))] s.heap.size = A at hD hZ ⊢
  have hA : ∀ q : Nat, s.heap.size ≤ q → A q := fun q h => by rw [← hAe]; exact Or.inr h
  have hl := lv_entry [.ref h, .int p0, .int p1, .ref p2] (n := 5) (Nat.le_of_ble_eq_true rfl)
  rw [lg_entry_eq]
  generalize (lg_sl [.ref h, .int p0, .int p1, .ref p2] ++ List.replicate (5 - (lg_sl [.ref h, .int p0, .int p1, .ref p2]).length) Slot.unset).toArray = ls at hl ⊢
  have hl : lv_has ls 5 [(0, .ref h), (1, .int p0), (2, .int p1), (3, .ref p2)] := hl
  obtain ⟨H, hHe⟩ : ∃ H : Heap, H = s.heap := ⟨_, rfl⟩
  have hP : va_P (dC, dI) vwCl [(h, .inr (1, [.ref h_sort, .ref h_x, .ref h_y, .ref h_z, .int h_count, .int h_fault, .int h_faultPart])), (p2, .inr (0, [.long p2_state])), (h_sort, .inl (cA 0, 40, .inl h_sort_v)), (h_x, .inl (cA 0, 40, .inl h_x_v)), (h_y, .inl (cA 0, 40, .inl h_y_v))] H := by rw [hHe]; exact hP
  have hS : va_S A s.heap H [] := by rw [hHe]; exact va_S.rf
  rw [← hHe]
  unfold f_X1_drawY at hf
  refine lv_iload_n hx hb dX1_drawY_0 rfl (lv_at hl 1 rfl) ?_
  refine lv_if_ne (tgt := 14) hx hb dX1_drawY_1 (by decide) (fun c1 => ?_) (fun c1 => ?_)
  · have hf := kp_n c1 hf
    refine lv_aload_n hx hb dX1_drawY_14 rfl (lv_at hl 3 rfl) ?_
    refine lv_bipush (v := 64) hx hb dX1_drawY_15 (by decide) ?_
    obtain ⟨r2, hr2, hf⟩ := kp_b hf
    have hPc := hP.sub (ws' := [(p2, .inr (0, [.long p2_state]))]) [1] rfl
    have hDc := hD.sub (ws' := [(p2, .inr (0, [.long p2_state]))]) [1] (by decide) rfl
    have hFc := va_free (wc := [(p2, .inr (0, [.long p2_state]))]) hD hS hA [1] rfl
    refine va_calli (va_runV (As := [.int 64]) (rest := []) ⟨hx, hb, hml, hown, hts⟩ (c_X0_below l dC dI cA tt p2 H.size p2_state 64 r2 hr2) (cwV 1 hts (kq_gV tw_161 tw_162 tw_163 tw_21 tw_164) rfl rfl rfl (by decide +kernel) ⟨Nat.le_of_ble_eq_true rfl, Nat.le_of_ble_eq_true rfl⟩) ⟨kq_blind, va_recv hK hP (ci := 0) (q0 := 1) rfl rfl, kq_pre hG hZ hS hPc hDc hFc⟩ rfl rfl hl.1 rfl (lv_room (Nat.le_of_ble_eq_true rfl)) dX1_drawY_17 ⟨Nat.le_of_ble_eq_true rfl, Nat.le_of_ble_eq_true rfl⟩) hS (fun q _ h => hFc q h) hFc (fun rv u t H1 locs ht hvm hw hB hz1 hk1 hS => ?_)
    obtain ⟨hP1, hD1⟩ := hB
    rw [ht] at hP1
    have hw := hw.symm
    subst hw
    obtain ⟨hP, hD⟩ := va_join (wr := [(h, .inr (1, [.ref h_sort, .ref h_x, .ref h_y, .ref h_z, .int h_count, .int h_fault, .int h_faultPart])), (h_sort, .inl (cA 0, 40, .inl h_sort_v)), (h_x, .inl (cA 0, 40, .inl h_x_v)), (h_y, .inl (cA 0, 40, .inl h_y_v))]) (w1 := [(p2, .inr (0, [.long r2.2]))]) hP hD [1] [0, 2, 3, 4] rfl rfl (by decide) (by decide) hk1 hFc hP1 hD1
    have hP : va_P (dC, dI) vwCl [(h, .inr (1, [.ref h_sort, .ref h_x, .ref h_y, .ref h_z, .int h_count, .int h_fault, .int h_faultPart])), (p2, .inr (0, [.long r2.2])), (h_sort, .inl (cA 0, 40, .inl h_sort_v)), (h_x, .inl (cA 0, 40, .inl h_x_v)), (h_y, .inl (cA 0, 40, .inl h_y_v))] H1 := hP.sub [0, 4, 1, 2, 3] rfl
    have hD : va_D A [(h, .inr (1, [.ref h_sort, .ref h_x, .ref h_y, .ref h_z, .int h_count, .int h_fault, .int h_faultPart])), (p2, .inr (0, [.long r2.2])), (h_sort, .inl (cA 0, 40, .inl h_sort_v)), (h_x, .inl (cA 0, 40, .inl h_x_v)), (h_y, .inl (cA 0, 40, .inl h_y_v))] := hD.sub [0, 4, 1, 2, 3] (by decide) rfl
    generalize H1 = H at hP hS ⊢
    have eo := Option.some.inj hf
    subst eo
    exact W.iret (v := r2.1) hx hb hr (fun t ht hW => ⟨⟨_, (), rfl, rfl, kq_mk ht hP hD⟩, hS.F ht⟩) hS.2.2 dX1_drawY_20
  · have hf := kp_p c1 hf
    refine lv_aload_n hx hb dX1_drawY_4 rfl (lv_at hl 0 rfl) ?_
    refine va_get (D := (dC, dI)) (ci := 1) (v := .ref h_sort) (C := RX1) (T := TX1) (N := 7) hx hb hts iwX1 hown hK hP 0 rfl rfl 0 (by decide) (hts _ tw_58) (fun _ h9 => h9) rfl dX1_drawY_5 ?_
    refine lv_iload_n hx hb dX1_drawY_8 rfl (lv_at hl 2 rfl) ?_
    obtain ⟨hq3, hf⟩ := kp_t hf
    refine va_iald hx hb hK hP 2 0 rfl rfl hq3 dX1_drawY_9 ?_
    refine lv_iconst (v := 3) hx hb dX1_drawY_10 (by decide) ?_
    refine lv_icmp_eq (tgt := 21) hx hb dX1_drawY_11 (by decide) (fun c4 => ?_) (fun c4 => ?_)
    · have hf := kp_p c4 hf
      refine lv_aload_n hx hb dX1_drawY_21 rfl (lv_at hl 0 rfl) ?_
      refine va_get (D := (dC, dI)) (ci := 1) (v := .ref h_x) (C := RX1) (T := TX1) (N := 7) hx hb hts iwX1 hown hK hP 0 rfl rfl 1 (by decide) (hts _ tw_60) (fun _ h9 => h9) rfl dX1_drawY_22 ?_
      refine lv_iload_n hx hb dX1_drawY_25 rfl (lv_at hl 2 rfl) ?_
      refine va_iald hx hb hK hP 3 0 rfl rfl hq3 dX1_drawY_26 ?_
      refine lv_istore (lv' := [(4, .int (h_x_v p1.toNatClampNeg)), (0, .ref h), (1, .int p0), (2, .int p1), (3, .ref p2)]) hx hb dX1_drawY_27 hl (by decide) rfl (fun ls hl => ?_)
      refine lv_iload hx hb dX1_drawY_29 (lv_at hl 0 rfl) ?_
      refine lv_if_lt (tgt := 50) hx hb dX1_drawY_31 (by decide) (fun c6 => ?_) (fun c6 => ?_)
      · have hf := kp_p c6 hf
        refine lv_iconst (v := 0) hx hb dX1_drawY_50 (by decide) ?_
        have eo := Option.some.inj hf
        subst eo
        exact W.iret (v := 0) hx hb hr (fun t ht hW => ⟨⟨_, (), rfl, rfl, kq_mk ht hP hD⟩, hS.F ht⟩) hS.2.2 dX1_drawY_51
      · have hf := kp_n c6 hf
        refine lv_iload hx hb dX1_drawY_34 (lv_at hl 0 rfl) ?_
        refine lv_iload_n hx hb dX1_drawY_36 rfl (lv_at hl 3 rfl) ?_
        refine lv_icmp_ge (tgt := 50) hx hb dX1_drawY_37 (by decide) (fun c7 => ?_) (fun c7 => ?_)
        · have hf := kp_p c7 hf
          refine lv_iconst (v := 0) hx hb dX1_drawY_50 (by decide) ?_
          have eo := Option.some.inj hf
          subst eo
          exact W.iret (v := 0) hx hb hr (fun t ht hW => ⟨⟨_, (), rfl, rfl, kq_mk ht hP hD⟩, hS.F ht⟩) hS.2.2 dX1_drawY_51
        · have hf := kp_n c7 hf
          refine lv_aload_n hx hb dX1_drawY_40 rfl (lv_at hl 1 rfl) ?_
          refine va_get (D := (dC, dI)) (ci := 1) (v := .ref h_y) (C := RX1) (T := TX1) (N := 7) hx hb hts iwX1 hown hK hP 0 rfl rfl 2 (by decide) (hts _ tw_61) (fun _ h9 => h9) rfl dX1_drawY_41 ?_
          refine lv_iload hx hb dX1_drawY_44 (lv_at hl 0 rfl) ?_
          obtain ⟨hq8, hf⟩ := kp_t hf
          refine va_iald hx hb hK hP 4 0 rfl rfl hq8 dX1_drawY_46 ?_
          refine lv_goto (tgt := 51) hx hb dX1_drawY_47 (by decide) ?_
          have eo := Option.some.inj hf
          subst eo
          exact W.iret (v := h_y_v (h_x_v p1.toNatClampNeg).toNatClampNeg) hx hb hr (fun t ht hW => ⟨⟨_, (), rfl, rfl, kq_mk ht hP hD⟩, hS.F ht⟩) hS.2.2 dX1_drawY_51
    · have hf := kp_n c4 hf
      refine lv_aload_n hx hb dX1_drawY_14 rfl (lv_at hl 3 rfl) ?_
      refine lv_bipush (v := 64) hx hb dX1_drawY_15 (by decide) ?_
      obtain ⟨r9, hr9, hf⟩ := kp_b hf
      have hPc := hP.sub (ws' := [(p2, .inr (0, [.long p2_state]))]) [1] rfl
      have hDc := hD.sub (ws' := [(p2, .inr (0, [.long p2_state]))]) [1] (by decide) rfl
      have hFc := va_free (wc := [(p2, .inr (0, [.long p2_state]))]) hD hS hA [1] rfl
      refine va_calli (va_runV (As := [.int 64]) (rest := []) ⟨hx, hb, hml, hown, hts⟩ (c_X0_below l dC dI cA tt p2 H.size p2_state 64 r9 hr9) (cwV 1 hts (kq_gV tw_161 tw_162 tw_163 tw_21 tw_164) rfl rfl rfl (by decide +kernel) ⟨Nat.le_of_ble_eq_true rfl, Nat.le_of_ble_eq_true rfl⟩) ⟨kq_blind, va_recv hK hP (ci := 0) (q0 := 1) rfl rfl, kq_pre hG hZ hS hPc hDc hFc⟩ rfl rfl hl.1 rfl (lv_room (Nat.le_of_ble_eq_true rfl)) dX1_drawY_17 ⟨Nat.le_of_ble_eq_true rfl, Nat.le_of_ble_eq_true rfl⟩) hS (fun q _ h => hFc q h) hFc (fun rv u t H1 locs ht hvm hw hB hz1 hk1 hS => ?_)
      obtain ⟨hP1, hD1⟩ := hB
      rw [ht] at hP1
      have hw := hw.symm
      subst hw
      obtain ⟨hP, hD⟩ := va_join (wr := [(h, .inr (1, [.ref h_sort, .ref h_x, .ref h_y, .ref h_z, .int h_count, .int h_fault, .int h_faultPart])), (h_sort, .inl (cA 0, 40, .inl h_sort_v)), (h_x, .inl (cA 0, 40, .inl h_x_v)), (h_y, .inl (cA 0, 40, .inl h_y_v))]) (w1 := [(p2, .inr (0, [.long r9.2]))]) hP hD [1] [0, 2, 3, 4] rfl rfl (by decide) (by decide) hk1 hFc hP1 hD1
      have hP : va_P (dC, dI) vwCl [(h, .inr (1, [.ref h_sort, .ref h_x, .ref h_y, .ref h_z, .int h_count, .int h_fault, .int h_faultPart])), (p2, .inr (0, [.long r9.2])), (h_sort, .inl (cA 0, 40, .inl h_sort_v)), (h_x, .inl (cA 0, 40, .inl h_x_v)), (h_y, .inl (cA 0, 40, .inl h_y_v))] H1 := hP.sub [0, 4, 1, 2, 3] rfl
      have hD : va_D A [(h, .inr (1, [.ref h_sort, .ref h_x, .ref h_y, .ref h_z, .int h_count, .int h_fault, .int h_faultPart])), (p2, .inr (0, [.long r9.2])), (h_sort, .inl (cA 0, 40, .inl h_sort_v)), (h_x, .inl (cA 0, 40, .inl h_x_v)), (h_y, .inl (cA 0, 40, .inl h_y_v))] := hD.sub [0, 4, 1, 2, 3] (by decide) rfl
      generalize H1 = H at hP hS ⊢
      have eo := Option.some.inj hf
      subst eo
      exact W.iret (v := r9.1) hx hb hr (fun t ht hW => ⟨⟨_, (), rfl, rfl, kq_mk ht hP hD⟩, hS.F ht⟩) hS.2.2 dX1_drawY_20

def f_X1_spoil (h_fault : Int32) (h_sort_v : Nat → Int32) (h_x_v : Nat → Int32) (h_y_v : Nat → Int32) (h_z_v : Nat → Int32) (p0 : Int32) (p1 : Int32) : Option ((Nat → Int32) × (Nat → Int32) × (Nat → Int32) × (Nat → Int32)) :=
    (if h_fault = 1 then
    if p0 < 0 ∨ 40 ≤ p0.toNatClampNeg then none else
    some ((h_sort_v, upd h_x_v p0.toNatClampNeg ((h_x_v p0.toNatClampNeg) + 1000), h_y_v, h_z_v))
    else
    (if h_fault = 2 then
    if p0 < 0 ∨ 40 ≤ p0.toNatClampNeg then none else
    some ((h_sort_v, h_x_v, upd h_y_v p0.toNatClampNeg (((-1)) - (h_y_v p0.toNatClampNeg)), h_z_v))
    else
    (if h_fault = 3 then
    if p0 < 0 ∨ 40 ≤ p0.toNatClampNeg then none else
    some ((h_sort_v, h_x_v, h_y_v, upd h_z_v p0.toNatClampNeg ((h_z_v p0.toNatClampNeg) + 1000)))
    else
    (if h_fault = 4 then
    if p0 < 0 ∨ 40 ≤ p0.toNatClampNeg then none else
    some ((upd h_sort_v p0.toNatClampNeg p1, h_x_v, h_y_v, h_z_v))
    else
    if p0 < 0 ∨ 40 ≤ p0.toNatClampNeg then none else
    some ((h_sort_v, upd h_x_v p0.toNatClampNeg 0, upd h_y_v p0.toNatClampNeg 0, upd h_z_v p0.toNatClampNeg 0))))))
set_option maxHeartbeats 4000000 in
set_option maxRecDepth 100000 in
theorem c_X1_spoil (l : Launch) (dC : Nat → ClassId) (dI : Nat → Nat → Nat) (cA : Nat → ClassId) (tt : Nat → Nat) (h h_sort h_x h_y h_z : Nat) (sz : Nat) (h_count : Int32) (h_fault : Int32) (h_faultPart : Int32) (h_sort_v : Nat → Int32) (h_x_v : Nat → Int32) (h_y_v : Nat → Int32) (h_z_v : Nat → Int32) (p0 : Int32) (p1 : Int32) (o : (Nat → Int32) × (Nat → Int32) × (Nat → Int32) × (Nat → Int32)) (hf : f_X1_spoil h_fault h_sort_v h_x_v h_y_v h_z_v p0 p1 = some o) : Met l yX1_spoil wX1_spoil ({ frames := 0, cells := 0, slots := 0, locals := 0 }) (kq_Pc dC dI cA tt [.ref h, .int p0, .int p1] [(h, .inr (1, [.ref h_sort, .ref h_x, .ref h_y, .ref h_z, .int h_count, .int h_fault, .int h_faultPart])), (h_sort, .inl (cA 0, 40, .inl h_sort_v)), (h_x, .inl (cA 0, 40, .inl h_x_v)), (h_y, .inl (cA 0, 40, .inl h_y_v)), (h_z, .inl (cA 0, 40, .inl h_z_v))] sz) (va_Qv (fun _ : Unit => True) (fun _ t => kq_B dC dI [(h, .inr (1, [.ref h_sort, .ref h_x, .ref h_y, .ref h_z, .int h_count, .int h_fault, .int h_faultPart])), (h_sort, .inl (cA 0, 40, .inl o.1)), (h_x, .inl (cA 0, 40, .inl o.2.1)), (h_y, .inl (cA 0, 40, .inl o.2.2.1)), (h_z, .inl (cA 0, 40, .inl o.2.2.2))] (va_A [(h, .inr (1, [.ref h_sort, .ref h_x, .ref h_y, .ref h_z, .int h_count, .int h_fault, .int h_faultPart])), (h_sort, .inl (cA 0, 40, .inl h_sort_v)), (h_x, .inl (cA 0, 40, .inl h_x_v)), (h_y, .inl (cA 0, 40, .inl h_y_v)), (h_z, .inl (cA 0, 40, .inl h_z_v))] sz) t) (va_A [(h, .inr (1, [.ref h_sort, .ref h_x, .ref h_y, .ref h_z, .int h_count, .int h_fault, .int h_faultPart])), (h_sort, .inl (cA 0, 40, .inl h_sort_v)), (h_x, .inl (cA 0, 40, .inl h_x_v)), (h_y, .inl (cA 0, 40, .inl h_y_v)), (h_z, .inl (cA 0, 40, .inl h_z_v))] sz)) 0 0 (va_A [(h, .inr (1, [.ref h_sort, .ref h_x, .ref h_y, .ref h_z, .int h_count, .int h_fault, .int h_faultPart])), (h_sort, .inl (cA 0, 40, .inl h_sort_v)), (h_x, .inl (cA 0, 40, .inl h_x_v)), (h_y, .inl (cA 0, 40, .inl h_y_v)), (h_z, .inl (cA 0, 40, .inl h_z_v))] sz) := by
  refine Met.ofW (cc := cX1_spoil) (maxL := 3) (ret := none) (by decide) rfl ?_
  intro p e s m args below meth c s₁ B hml hv
  obtain ⟨rfl, hsz, hP, hD0, hG, hZ⟩ := hv
  have hx := B.exec
  have hb := B.bytes
  have hr := B.returns
  have hts : ∀ w ∈ kq_T, w.before _ s = true := fun w h => atoms_spec (ws := wX1_spoil) B.pre w (List.mem_cons_of_mem _ h)
  have hown : s.vm.findClass RX1 = some m.cls := findClass_of_methodNamed B.named
  have hlocks := B.notSynchronized
  have hK := hG.1
  subst hsz
  have hD := hD0.self (sz := s.heap.size)
  generalize hAe : va_A [(h, .inr (1, [.ref h_sort, .ref h_x, .ref h_y, .ref h_z, .int h_count, .int h_fault, .int h_faultPart])), (h_sort, .inl (cA 0, 40, .inl h_sort_v)), (h_x, .inl (cA 0, 40, .inl h_x_v)), (h_y, .inl (cA 0, 40, .inl h_y_v)), (h_z, .inl (cA 0, 40, .inl h_z_v))] s.heap.size = A at hD hZ ⊢
  have hA : ∀ q : Nat, s.heap.size ≤ q → A q := fun q h => by rw [← hAe]; exact Or.inr h
  have hl := lv_entry [.ref h, .int p0, .int p1] (n := 3) (Nat.le_of_ble_eq_true rfl)
  rw [lg_entry_eq]
  generalize (lg_sl [.ref h, .int p0, .int p1] ++ List.replicate (3 - (lg_sl [.ref h, .int p0, .int p1]).length) Slot.unset).toArray = ls at hl ⊢
  have hl : lv_has ls 3 [(0, .ref h), (1, .int p0), (2, .int p1)] := hl
  obtain ⟨H, hHe⟩ : ∃ H : Heap, H = s.heap := ⟨_, rfl⟩
  have hP : va_P (dC, dI) vwCl [(h, .inr (1, [.ref h_sort, .ref h_x, .ref h_y, .ref h_z, .int h_count, .int h_fault, .int h_faultPart])), (h_sort, .inl (cA 0, 40, .inl h_sort_v)), (h_x, .inl (cA 0, 40, .inl h_x_v)), (h_y, .inl (cA 0, 40, .inl h_y_v)), (h_z, .inl (cA 0, 40, .inl h_z_v))] H := by rw [hHe]; exact hP
  have hS : va_S A s.heap H [] := by rw [hHe]; exact va_S.rf
  rw [← hHe]
  unfold f_X1_spoil at hf
  refine lv_aload_n hx hb dX1_spoil_0 rfl (lv_at hl 0 rfl) ?_
  refine va_get (D := (dC, dI)) (ci := 1) (v := .int h_fault) (C := RX1) (T := TX1) (N := 7) hx hb hts iwX1 hown hK hP 0 rfl rfl 5 (by decide) (hts _ tw_67) (fun _ h9 => h9) rfl dX1_spoil_1 ?_
  by_cases c1 : h_fault = 1
  · have hf := kp_p c1 hf
    refine lv_tableIn (tgt := 36) hx hb dX1_spoil_4 (by rw [c1]; decide) (by rw [c1]; decide) (by rw [c1]; rfl) (by decide) ?_
    refine lv_aload_n hx hb dX1_spoil_36 rfl (lv_at hl 0 rfl) ?_
    refine va_get (D := (dC, dI)) (ci := 1) (v := .ref h_x) (C := RX1) (T := TX1) (N := 7) hx hb hts iwX1 hown hK hP 0 rfl rfl 1 (by decide) (hts _ tw_60) (fun _ h9 => h9) rfl dX1_spoil_37 ?_
    refine lv_iload_n hx hb dX1_spoil_40 rfl (lv_at hl 1 rfl) ?_
    refine lv_dup2_11 hx hb dX1_spoil_41 rfl rfl ?_
    obtain ⟨hq2, hf⟩ := kp_t hf
    refine va_iald hx hb hK hP 2 0 rfl rfl hq2 dX1_spoil_42 ?_
    refine lv_sipush (v := 1000) hx hb dX1_spoil_43 (by decide) ?_
    refine lv_iadd hx hb dX1_spoil_46 ?_
    refine va_iast hx hb hK hP hD hS 2 0 rfl rfl hq2 dX1_spoil_47 (fun H locs hP hD hS => ?_)
    have hP : va_P (dC, dI) vwCl [(h, .inr (1, [.ref h_sort, .ref h_x, .ref h_y, .ref h_z, .int h_count, .int h_fault, .int h_faultPart])), (h_sort, .inl (cA 0, 40, .inl h_sort_v)), (h_x, .inl (cA 0, 40, .inl (upd h_x_v p0.toNatClampNeg ((h_x_v p0.toNatClampNeg) + 1000)))), (h_y, .inl (cA 0, 40, .inl h_y_v)), (h_z, .inl (cA 0, 40, .inl h_z_v))] H := hP
    have hD : va_D A [(h, .inr (1, [.ref h_sort, .ref h_x, .ref h_y, .ref h_z, .int h_count, .int h_fault, .int h_faultPart])), (h_sort, .inl (cA 0, 40, .inl h_sort_v)), (h_x, .inl (cA 0, 40, .inl (upd h_x_v p0.toNatClampNeg ((h_x_v p0.toNatClampNeg) + 1000)))), (h_y, .inl (cA 0, 40, .inl h_y_v)), (h_z, .inl (cA 0, 40, .inl h_z_v))] := hD
    refine lv_goto (tgt := 114) hx hb dX1_spoil_48 (by decide) ?_
    have eo := Option.some.inj hf
    subst eo
    exact W.vret hx hb hr (fun t ht hW => ⟨⟨(), rfl, trivial, kq_mk ht hP hD⟩, hS.F ht⟩) hS.2.2 dX1_spoil_114
  · have hf := kp_n c1 hf
    by_cases c4 : h_fault = 2
    · have hf := kp_p c4 hf
      refine lv_tableIn (tgt := 51) hx hb dX1_spoil_4 (by rw [c4]; decide) (by rw [c4]; decide) (by rw [c4]; rfl) (by decide) ?_
      refine lv_aload_n hx hb dX1_spoil_51 rfl (lv_at hl 0 rfl) ?_
      refine va_get (D := (dC, dI)) (ci := 1) (v := .ref h_y) (C := RX1) (T := TX1) (N := 7) hx hb hts iwX1 hown hK hP 0 rfl rfl 2 (by decide) (hts _ tw_61) (fun _ h9 => h9) rfl dX1_spoil_52 ?_
      refine lv_iload_n hx hb dX1_spoil_55 rfl (lv_at hl 1 rfl) ?_
      refine lv_iconst (v := (-1)) hx hb dX1_spoil_56 (by decide) ?_
      refine lv_aload_n hx hb dX1_spoil_57 rfl (lv_at hl 0 rfl) ?_
      refine va_get (D := (dC, dI)) (ci := 1) (v := .ref h_y) (C := RX1) (T := TX1) (N := 7) hx hb hts iwX1 hown hK hP 0 rfl rfl 2 (by decide) (hts _ tw_61) (fun _ h9 => h9) rfl dX1_spoil_58 ?_
      refine lv_iload_n hx hb dX1_spoil_61 rfl (lv_at hl 1 rfl) ?_
      obtain ⟨hq5, hf⟩ := kp_t hf
      refine va_iald hx hb hK hP 3 0 rfl rfl hq5 dX1_spoil_62 ?_
      refine lv_isub hx hb dX1_spoil_63 ?_
      refine va_iast hx hb hK hP hD hS 3 0 rfl rfl hq5 dX1_spoil_64 (fun H locs hP hD hS => ?_)
      have hP : va_P (dC, dI) vwCl [(h, .inr (1, [.ref h_sort, .ref h_x, .ref h_y, .ref h_z, .int h_count, .int h_fault, .int h_faultPart])), (h_sort, .inl (cA 0, 40, .inl h_sort_v)), (h_x, .inl (cA 0, 40, .inl h_x_v)), (h_y, .inl (cA 0, 40, .inl (upd h_y_v p0.toNatClampNeg (((-1)) - (h_y_v p0.toNatClampNeg))))), (h_z, .inl (cA 0, 40, .inl h_z_v))] H := hP
      have hD : va_D A [(h, .inr (1, [.ref h_sort, .ref h_x, .ref h_y, .ref h_z, .int h_count, .int h_fault, .int h_faultPart])), (h_sort, .inl (cA 0, 40, .inl h_sort_v)), (h_x, .inl (cA 0, 40, .inl h_x_v)), (h_y, .inl (cA 0, 40, .inl (upd h_y_v p0.toNatClampNeg (((-1)) - (h_y_v p0.toNatClampNeg))))), (h_z, .inl (cA 0, 40, .inl h_z_v))] := hD
      refine lv_goto (tgt := 114) hx hb dX1_spoil_65 (by decide) ?_
      have eo := Option.some.inj hf
      subst eo
      exact W.vret hx hb hr (fun t ht hW => ⟨⟨(), rfl, trivial, kq_mk ht hP hD⟩, hS.F ht⟩) hS.2.2 dX1_spoil_114
    · have hf := kp_n c4 hf
      by_cases c7 : h_fault = 3
      · have hf := kp_p c7 hf
        refine lv_tableIn (tgt := 68) hx hb dX1_spoil_4 (by rw [c7]; decide) (by rw [c7]; decide) (by rw [c7]; rfl) (by decide) ?_
        refine lv_aload_n hx hb dX1_spoil_68 rfl (lv_at hl 0 rfl) ?_
        refine va_get (D := (dC, dI)) (ci := 1) (v := .ref h_z) (C := RX1) (T := TX1) (N := 7) hx hb hts iwX1 hown hK hP 0 rfl rfl 3 (by decide) (hts _ tw_62) (fun _ h9 => h9) rfl dX1_spoil_69 ?_
        refine lv_iload_n hx hb dX1_spoil_72 rfl (lv_at hl 1 rfl) ?_
        refine lv_dup2_11 hx hb dX1_spoil_73 rfl rfl ?_
        obtain ⟨hq8, hf⟩ := kp_t hf
        refine va_iald hx hb hK hP 4 0 rfl rfl hq8 dX1_spoil_74 ?_
        refine lv_sipush (v := 1000) hx hb dX1_spoil_75 (by decide) ?_
        refine lv_iadd hx hb dX1_spoil_78 ?_
        refine va_iast hx hb hK hP hD hS 4 0 rfl rfl hq8 dX1_spoil_79 (fun H locs hP hD hS => ?_)
        have hP : va_P (dC, dI) vwCl [(h, .inr (1, [.ref h_sort, .ref h_x, .ref h_y, .ref h_z, .int h_count, .int h_fault, .int h_faultPart])), (h_sort, .inl (cA 0, 40, .inl h_sort_v)), (h_x, .inl (cA 0, 40, .inl h_x_v)), (h_y, .inl (cA 0, 40, .inl h_y_v)), (h_z, .inl (cA 0, 40, .inl (upd h_z_v p0.toNatClampNeg ((h_z_v p0.toNatClampNeg) + 1000))))] H := hP
        have hD : va_D A [(h, .inr (1, [.ref h_sort, .ref h_x, .ref h_y, .ref h_z, .int h_count, .int h_fault, .int h_faultPart])), (h_sort, .inl (cA 0, 40, .inl h_sort_v)), (h_x, .inl (cA 0, 40, .inl h_x_v)), (h_y, .inl (cA 0, 40, .inl h_y_v)), (h_z, .inl (cA 0, 40, .inl (upd h_z_v p0.toNatClampNeg ((h_z_v p0.toNatClampNeg) + 1000))))] := hD
        refine lv_goto (tgt := 114) hx hb dX1_spoil_80 (by decide) ?_
        have eo := Option.some.inj hf
        subst eo
        exact W.vret hx hb hr (fun t ht hW => ⟨⟨(), rfl, trivial, kq_mk ht hP hD⟩, hS.F ht⟩) hS.2.2 dX1_spoil_114
      · have hf := kp_n c7 hf
        by_cases c10 : h_fault = 4
        · have hf := kp_p c10 hf
          refine lv_tableIn (tgt := 83) hx hb dX1_spoil_4 (by rw [c10]; decide) (by rw [c10]; decide) (by rw [c10]; rfl) (by decide) ?_
          refine lv_aload_n hx hb dX1_spoil_83 rfl (lv_at hl 0 rfl) ?_
          refine va_get (D := (dC, dI)) (ci := 1) (v := .ref h_sort) (C := RX1) (T := TX1) (N := 7) hx hb hts iwX1 hown hK hP 0 rfl rfl 0 (by decide) (hts _ tw_58) (fun _ h9 => h9) rfl dX1_spoil_84 ?_
          refine lv_iload_n hx hb dX1_spoil_87 rfl (lv_at hl 1 rfl) ?_
          refine lv_iload_n hx hb dX1_spoil_88 rfl (lv_at hl 2 rfl) ?_
          obtain ⟨hq11, hf⟩ := kp_t hf
          refine va_iast hx hb hK hP hD hS 1 0 rfl rfl hq11 dX1_spoil_89 (fun H locs hP hD hS => ?_)
          have hP : va_P (dC, dI) vwCl [(h, .inr (1, [.ref h_sort, .ref h_x, .ref h_y, .ref h_z, .int h_count, .int h_fault, .int h_faultPart])), (h_sort, .inl (cA 0, 40, .inl (upd h_sort_v p0.toNatClampNeg p1))), (h_x, .inl (cA 0, 40, .inl h_x_v)), (h_y, .inl (cA 0, 40, .inl h_y_v)), (h_z, .inl (cA 0, 40, .inl h_z_v))] H := hP
          have hD : va_D A [(h, .inr (1, [.ref h_sort, .ref h_x, .ref h_y, .ref h_z, .int h_count, .int h_fault, .int h_faultPart])), (h_sort, .inl (cA 0, 40, .inl (upd h_sort_v p0.toNatClampNeg p1))), (h_x, .inl (cA 0, 40, .inl h_x_v)), (h_y, .inl (cA 0, 40, .inl h_y_v)), (h_z, .inl (cA 0, 40, .inl h_z_v))] := hD
          refine lv_goto (tgt := 114) hx hb dX1_spoil_90 (by decide) ?_
          have eo := Option.some.inj hf
          subst eo
          exact W.vret hx hb hr (fun t ht hW => ⟨⟨(), rfl, trivial, kq_mk ht hP hD⟩, hS.F ht⟩) hS.2.2 dX1_spoil_114
        · have hf := kp_n c10 hf
          refine lv_tableOut (tgt := 93) hx hb dX1_spoil_4 (by have gc1 := lv_neT c1 (a := 1) (by decide); have gc4 := lv_neT c4 (a := 2) (by decide); have gc7 := lv_neT c7 (a := 3) (by decide); have gc10 := lv_neT c10 (a := 4) (by decide); omega) (by decide) ?_
          refine lv_aload_n hx hb dX1_spoil_93 rfl (lv_at hl 0 rfl) ?_
          refine va_get (D := (dC, dI)) (ci := 1) (v := .ref h_x) (C := RX1) (T := TX1) (N := 7) hx hb hts iwX1 hown hK hP 0 rfl rfl 1 (by decide) (hts _ tw_60) (fun _ h9 => h9) rfl dX1_spoil_94 ?_
          refine lv_iload_n hx hb dX1_spoil_97 rfl (lv_at hl 1 rfl) ?_
          refine lv_iconst (v := 0) hx hb dX1_spoil_98 (by decide) ?_
          obtain ⟨hq12, hf⟩ := kp_t hf
          refine va_iast hx hb hK hP hD hS 2 0 rfl rfl hq12 dX1_spoil_99 (fun H locs hP hD hS => ?_)
          have hP : va_P (dC, dI) vwCl [(h, .inr (1, [.ref h_sort, .ref h_x, .ref h_y, .ref h_z, .int h_count, .int h_fault, .int h_faultPart])), (h_sort, .inl (cA 0, 40, .inl h_sort_v)), (h_x, .inl (cA 0, 40, .inl (upd h_x_v p0.toNatClampNeg 0))), (h_y, .inl (cA 0, 40, .inl h_y_v)), (h_z, .inl (cA 0, 40, .inl h_z_v))] H := hP
          have hD : va_D A [(h, .inr (1, [.ref h_sort, .ref h_x, .ref h_y, .ref h_z, .int h_count, .int h_fault, .int h_faultPart])), (h_sort, .inl (cA 0, 40, .inl h_sort_v)), (h_x, .inl (cA 0, 40, .inl (upd h_x_v p0.toNatClampNeg 0))), (h_y, .inl (cA 0, 40, .inl h_y_v)), (h_z, .inl (cA 0, 40, .inl h_z_v))] := hD
          refine lv_aload_n hx hb dX1_spoil_100 rfl (lv_at hl 0 rfl) ?_
          refine va_get (D := (dC, dI)) (ci := 1) (v := .ref h_y) (C := RX1) (T := TX1) (N := 7) hx hb hts iwX1 hown hK hP 0 rfl rfl 2 (by decide) (hts _ tw_61) (fun _ h9 => h9) rfl dX1_spoil_101 ?_
          refine lv_iload_n hx hb dX1_spoil_104 rfl (lv_at hl 1 rfl) ?_
          refine lv_iconst (v := 0) hx hb dX1_spoil_105 (by decide) ?_
          refine va_iast hx hb hK hP hD hS 3 0 rfl rfl hq12 dX1_spoil_106 (fun H locs hP hD hS => ?_)
          have hP : va_P (dC, dI) vwCl [(h, .inr (1, [.ref h_sort, .ref h_x, .ref h_y, .ref h_z, .int h_count, .int h_fault, .int h_faultPart])), (h_sort, .inl (cA 0, 40, .inl h_sort_v)), (h_x, .inl (cA 0, 40, .inl (upd h_x_v p0.toNatClampNeg 0))), (h_y, .inl (cA 0, 40, .inl (upd h_y_v p0.toNatClampNeg 0))), (h_z, .inl (cA 0, 40, .inl h_z_v))] H := hP
          have hD : va_D A [(h, .inr (1, [.ref h_sort, .ref h_x, .ref h_y, .ref h_z, .int h_count, .int h_fault, .int h_faultPart])), (h_sort, .inl (cA 0, 40, .inl h_sort_v)), (h_x, .inl (cA 0, 40, .inl (upd h_x_v p0.toNatClampNeg 0))), (h_y, .inl (cA 0, 40, .inl (upd h_y_v p0.toNatClampNeg 0))), (h_z, .inl (cA 0, 40, .inl h_z_v))] := hD
          refine lv_aload_n hx hb dX1_spoil_107 rfl (lv_at hl 0 rfl) ?_
          refine va_get (D := (dC, dI)) (ci := 1) (v := .ref h_z) (C := RX1) (T := TX1) (N := 7) hx hb hts iwX1 hown hK hP 0 rfl rfl 3 (by decide) (hts _ tw_62) (fun _ h9 => h9) rfl dX1_spoil_108 ?_
          refine lv_iload_n hx hb dX1_spoil_111 rfl (lv_at hl 1 rfl) ?_
          refine lv_iconst (v := 0) hx hb dX1_spoil_112 (by decide) ?_
          refine va_iast hx hb hK hP hD hS 4 0 rfl rfl hq12 dX1_spoil_113 (fun H locs hP hD hS => ?_)
          have hP : va_P (dC, dI) vwCl [(h, .inr (1, [.ref h_sort, .ref h_x, .ref h_y, .ref h_z, .int h_count, .int h_fault, .int h_faultPart])), (h_sort, .inl (cA 0, 40, .inl h_sort_v)), (h_x, .inl (cA 0, 40, .inl (upd h_x_v p0.toNatClampNeg 0))), (h_y, .inl (cA 0, 40, .inl (upd h_y_v p0.toNatClampNeg 0))), (h_z, .inl (cA 0, 40, .inl (upd h_z_v p0.toNatClampNeg 0)))] H := hP
          have hD : va_D A [(h, .inr (1, [.ref h_sort, .ref h_x, .ref h_y, .ref h_z, .int h_count, .int h_fault, .int h_faultPart])), (h_sort, .inl (cA 0, 40, .inl h_sort_v)), (h_x, .inl (cA 0, 40, .inl (upd h_x_v p0.toNatClampNeg 0))), (h_y, .inl (cA 0, 40, .inl (upd h_y_v p0.toNatClampNeg 0))), (h_z, .inl (cA 0, 40, .inl (upd h_z_v p0.toNatClampNeg 0)))] := hD
          have eo := Option.some.inj hf
          subst eo
          exact W.vret hx hb hr (fun t ht hW => ⟨⟨(), rfl, trivial, kq_mk ht hP hD⟩, hS.F ht⟩) hS.2.2 dX1_spoil_114

def f_X1_plant (h_count : Int32) (h_fault : Int32) (h_faultPart : Int32) (p1_state : Int64) (h_sort_v : Nat → Int32) (h_x_v : Nat → Int32) (h_y_v : Nat → Int32) (h_z_v : Nat → Int32) (p0 : Int32) : Option (Int32 × Int32 × Int64 × (Nat → Int32) × (Nat → Int32) × (Nat → Int32) × (Nat → Int32)) :=
    if p0 < 0 ∨ 6 ≤ p0.toNatClampNeg then none else
    (f_X0_below p1_state (2 * (kq_t1 (p0).toNatClampNeg))).bind fun r2 =>
    (if (kq_t1 (p0).toNatClampNeg) ≤ r2.1 then
    (f_X0_below r2.2 h_count).bind fun r6 =>
    (f_X1_spoil ((r2.1 - (kq_t1 (p0).toNatClampNeg)) + 1) h_sort_v h_x_v h_y_v h_z_v r6.1 (kq_t0 (p0).toNatClampNeg)).bind fun r8 =>
    some (((r2.1 - (kq_t1 (p0).toNatClampNeg)) + 1, r6.1, r6.2, r8.1, r8.2.1, r8.2.2.1, r8.2.2.2))
    else
    some ((h_fault, h_faultPart, r2.2, h_sort_v, h_x_v, h_y_v, h_z_v)))
set_option maxHeartbeats 4000000 in
set_option maxRecDepth 100000 in
theorem c_X1_plant (l : Launch) (dC : Nat → ClassId) (dI : Nat → Nat → Nat) (cA : Nat → ClassId) (tt : Nat → Nat) (h p1 h_sort h_x h_y h_z : Nat) (sz : Nat) (h_count : Int32) (h_fault : Int32) (h_faultPart : Int32) (p1_state : Int64) (h_sort_v : Nat → Int32) (h_x_v : Nat → Int32) (h_y_v : Nat → Int32) (h_z_v : Nat → Int32) (p0 : Int32) (o : Int32 × Int32 × Int64 × (Nat → Int32) × (Nat → Int32) × (Nat → Int32) × (Nat → Int32)) (hf : f_X1_plant h_count h_fault h_faultPart p1_state h_sort_v h_x_v h_y_v h_z_v p0 = some o) : Met l yX1_plant wX1_plant ({ frames := 1, cells := 0, slots := 0, locals := 22 }) (kq_Pc dC dI cA tt [.ref h, .int p0, .ref p1] [(h, .inr (1, [.ref h_sort, .ref h_x, .ref h_y, .ref h_z, .int h_count, .int h_fault, .int h_faultPart])), (p1, .inr (0, [.long p1_state])), (h_sort, .inl (cA 0, 40, .inl h_sort_v)), (h_x, .inl (cA 0, 40, .inl h_x_v)), (h_y, .inl (cA 0, 40, .inl h_y_v)), (h_z, .inl (cA 0, 40, .inl h_z_v))] sz) (va_Qv (fun _ : Unit => True) (fun _ t => kq_B dC dI [(h, .inr (1, [.ref h_sort, .ref h_x, .ref h_y, .ref h_z, .int h_count, .int o.1, .int o.2.1])), (p1, .inr (0, [.long o.2.2.1])), (h_sort, .inl (cA 0, 40, .inl o.2.2.2.1)), (h_x, .inl (cA 0, 40, .inl o.2.2.2.2.1)), (h_y, .inl (cA 0, 40, .inl o.2.2.2.2.2.1)), (h_z, .inl (cA 0, 40, .inl o.2.2.2.2.2.2))] (va_A [(h, .inr (1, [.ref h_sort, .ref h_x, .ref h_y, .ref h_z, .int h_count, .int h_fault, .int h_faultPart])), (p1, .inr (0, [.long p1_state])), (h_sort, .inl (cA 0, 40, .inl h_sort_v)), (h_x, .inl (cA 0, 40, .inl h_x_v)), (h_y, .inl (cA 0, 40, .inl h_y_v)), (h_z, .inl (cA 0, 40, .inl h_z_v))] sz) t) (va_A [(h, .inr (1, [.ref h_sort, .ref h_x, .ref h_y, .ref h_z, .int h_count, .int h_fault, .int h_faultPart])), (p1, .inr (0, [.long p1_state])), (h_sort, .inl (cA 0, 40, .inl h_sort_v)), (h_x, .inl (cA 0, 40, .inl h_x_v)), (h_y, .inl (cA 0, 40, .inl h_y_v)), (h_z, .inl (cA 0, 40, .inl h_z_v))] sz)) 0 0 (va_A [(h, .inr (1, [.ref h_sort, .ref h_x, .ref h_y, .ref h_z, .int h_count, .int h_fault, .int h_faultPart])), (p1, .inr (0, [.long p1_state])), (h_sort, .inl (cA 0, 40, .inl h_sort_v)), (h_x, .inl (cA 0, 40, .inl h_x_v)), (h_y, .inl (cA 0, 40, .inl h_y_v)), (h_z, .inl (cA 0, 40, .inl h_z_v))] sz) := by
  refine Met.ofW (cc := cX1_plant) (maxL := 4) (ret := none) (by decide) rfl ?_
  intro p e s m args below meth c s₁ B hml hv
  obtain ⟨rfl, hsz, hP, hD0, hG, hZ⟩ := hv
  have hx := B.exec
  have hb := B.bytes
  have hr := B.returns
  have hts : ∀ w ∈ kq_T, w.before _ s = true := fun w h => atoms_spec (ws := wX1_plant) B.pre w (List.mem_cons_of_mem _ h)
  have hown : s.vm.findClass RX1 = some m.cls := findClass_of_methodNamed B.named
  have hlocks := B.notSynchronized
  have hK := hG.1
  subst hsz
  have hD := hD0.self (sz := s.heap.size)
  generalize hAe : va_A [(h, .inr (1, [.ref h_sort, .ref h_x, .ref h_y, .ref h_z, .int h_count, .int h_fault, .int h_faultPart])), (p1, .inr (0, [.long p1_state])), (h_sort, .inl (cA 0, 40, .inl h_sort_v)), (h_x, .inl (cA 0, 40, .inl h_x_v)), (h_y, .inl (cA 0, 40, .inl h_y_v)), (h_z, .inl (cA 0, 40, .inl h_z_v))] s.heap.size = A at hD hZ ⊢
  have hA : ∀ q : Nat, s.heap.size ≤ q → A q := fun q h => by rw [← hAe]; exact Or.inr h
  have hl := lv_entry [.ref h, .int p0, .ref p1] (n := 4) (Nat.le_of_ble_eq_true rfl)
  rw [lg_entry_eq]
  generalize (lg_sl [.ref h, .int p0, .ref p1] ++ List.replicate (4 - (lg_sl [.ref h, .int p0, .ref p1]).length) Slot.unset).toArray = ls at hl ⊢
  have hl : lv_has ls 4 [(0, .ref h), (1, .int p0), (2, .ref p1)] := hl
  obtain ⟨H, hHe⟩ : ∃ H : Heap, H = s.heap := ⟨_, rfl⟩
  have hP : va_P (dC, dI) vwCl [(h, .inr (1, [.ref h_sort, .ref h_x, .ref h_y, .ref h_z, .int h_count, .int h_fault, .int h_faultPart])), (p1, .inr (0, [.long p1_state])), (h_sort, .inl (cA 0, 40, .inl h_sort_v)), (h_x, .inl (cA 0, 40, .inl h_x_v)), (h_y, .inl (cA 0, 40, .inl h_y_v)), (h_z, .inl (cA 0, 40, .inl h_z_v))] H := by rw [hHe]; exact hP
  have hS : va_S A s.heap H [] := by rw [hHe]; exact va_S.rf
  rw [← hHe]
  unfold f_X1_plant at hf
  refine lv_aload_n hx hb dX1_plant_0 rfl (lv_at hl 2 rfl) ?_
  refine lv_iconst (v := 2) hx hb dX1_plant_1 (by decide) ?_
  refine va_getsN (v := .ref (tt 1)) hx hb hZ.2.2.1 hS hown (kq_nf hG (RX1, 61, RX4, "FAULTS", "[I", "CarDrawer") (by decide +kernel)) (fun _ h9 => h9) dX1_plant_2 ?_
  refine lv_iload_n hx hb dX1_plant_5 rfl (lv_at hl 1 rfl) ?_
  obtain ⟨hq1, hf⟩ := kp_t hf
  refine va_ti (v := .int (kq_t1 (p0).toNatClampNeg)) hx hb hZ.2.2.2 hS hq1 rfl dX1_plant_6 ?_
  refine lv_imul hx hb dX1_plant_7 ?_
  obtain ⟨r2, hr2, hf⟩ := kp_b hf
  have hPc := hP.sub (ws' := [(p1, .inr (0, [.long p1_state]))]) [1] rfl
  have hDc := hD.sub (ws' := [(p1, .inr (0, [.long p1_state]))]) [1] (by decide) rfl
  have hFc := va_free (wc := [(p1, .inr (0, [.long p1_state]))]) hD hS hA [1] rfl
  refine va_calli (va_runV (As := [.int (2 * (kq_t1 (p0).toNatClampNeg))]) (rest := []) ⟨hx, hb, hml, hown, hts⟩ (c_X0_below l dC dI cA tt p1 H.size p1_state (2 * (kq_t1 (p0).toNatClampNeg)) r2 hr2) (cwV 1 hts (kq_gV tw_161 tw_162 tw_163 tw_21 tw_164) rfl rfl rfl (by decide +kernel) ⟨Nat.le_of_ble_eq_true rfl, Nat.le_of_ble_eq_true rfl⟩) ⟨kq_blind, va_recv hK hP (ci := 0) (q0 := 1) rfl rfl, kq_pre hG hZ hS hPc hDc hFc⟩ rfl rfl hl.1 rfl (lv_room (Nat.le_of_ble_eq_true rfl)) dX1_plant_8 ⟨Nat.le_of_ble_eq_true rfl, Nat.le_of_ble_eq_true rfl⟩) hS (fun q _ h => hFc q h) hFc (fun rv u t H1 locs ht hvm hw hB hz1 hk1 hS => ?_)
  obtain ⟨hP1, hD1⟩ := hB
  rw [ht] at hP1
  have hw := hw.symm
  subst hw
  obtain ⟨hP, hD⟩ := va_join (wr := [(h, .inr (1, [.ref h_sort, .ref h_x, .ref h_y, .ref h_z, .int h_count, .int h_fault, .int h_faultPart])), (h_sort, .inl (cA 0, 40, .inl h_sort_v)), (h_x, .inl (cA 0, 40, .inl h_x_v)), (h_y, .inl (cA 0, 40, .inl h_y_v)), (h_z, .inl (cA 0, 40, .inl h_z_v))]) (w1 := [(p1, .inr (0, [.long r2.2]))]) hP hD [1] [0, 2, 3, 4, 5] rfl rfl (by decide) (by decide) hk1 hFc hP1 hD1
  have hP : va_P (dC, dI) vwCl [(h, .inr (1, [.ref h_sort, .ref h_x, .ref h_y, .ref h_z, .int h_count, .int h_fault, .int h_faultPart])), (p1, .inr (0, [.long r2.2])), (h_sort, .inl (cA 0, 40, .inl h_sort_v)), (h_x, .inl (cA 0, 40, .inl h_x_v)), (h_y, .inl (cA 0, 40, .inl h_y_v)), (h_z, .inl (cA 0, 40, .inl h_z_v))] H1 := hP.sub [0, 5, 1, 2, 3, 4] rfl
  have hD : va_D A [(h, .inr (1, [.ref h_sort, .ref h_x, .ref h_y, .ref h_z, .int h_count, .int h_fault, .int h_faultPart])), (p1, .inr (0, [.long r2.2])), (h_sort, .inl (cA 0, 40, .inl h_sort_v)), (h_x, .inl (cA 0, 40, .inl h_x_v)), (h_y, .inl (cA 0, 40, .inl h_y_v)), (h_z, .inl (cA 0, 40, .inl h_z_v))] := hD.sub [0, 5, 1, 2, 3, 4] (by decide) rfl
  generalize H1 = H at hP hS ⊢
  refine lv_istore_n (lv' := [(3, .int r2.1), (0, .ref h), (1, .int p0), (2, .ref p1)]) hx hb dX1_plant_11 rfl hl (by decide) rfl (fun ls hl => ?_)
  refine lv_iload_n hx hb dX1_plant_12 rfl (lv_at hl 0 rfl) ?_
  refine va_getsN (v := .ref (tt 1)) hx hb hZ.2.2.1 hS hown (kq_nf hG (RX1, 61, RX4, "FAULTS", "[I", "CarDrawer") (by decide +kernel)) (fun _ h9 => h9) dX1_plant_13 ?_
  refine lv_iload_n hx hb dX1_plant_16 rfl (lv_at hl 2 rfl) ?_
  refine va_ti (v := .int (kq_t1 (p0).toNatClampNeg)) hx hb hZ.2.2.2 hS hq1 rfl dX1_plant_17 ?_
  refine lv_icmp_ge (tgt := 22) hx hb dX1_plant_18 (by decide) (fun c4 => ?_) (fun c4 => ?_)
  · have hf := kp_p c4 hf
    refine lv_aload_n hx hb dX1_plant_22 rfl (lv_at hl 1 rfl) ?_
    refine lv_iload_n hx hb dX1_plant_23 rfl (lv_at hl 0 rfl) ?_
    refine va_getsN (v := .ref (tt 1)) hx hb hZ.2.2.1 hS hown (kq_nf hG (RX1, 61, RX4, "FAULTS", "[I", "CarDrawer") (by decide +kernel)) (fun _ h9 => h9) dX1_plant_24 ?_
    refine lv_iload_n hx hb dX1_plant_27 rfl (lv_at hl 2 rfl) ?_
    refine va_ti (v := .int (kq_t1 (p0).toNatClampNeg)) hx hb hZ.2.2.2 hS hq1 rfl dX1_plant_28 ?_
    refine lv_isub hx hb dX1_plant_29 ?_
    refine lv_iconst (v := 1) hx hb dX1_plant_30 (by decide) ?_
    refine lv_iadd hx hb dX1_plant_31 ?_
    refine va_put (D := (dC, dI)) (ci := 1) (v := .int ((r2.1 - (kq_t1 (p0).toNatClampNeg)) + 1)) (ty := (.int)) (C := RX1) (T := TX1) (N := 7) hx hb hts iwX1 tyX1 tyX1_ok nmX1 hown hK hP hD hS 0 rfl rfl 5 (by decide) (hts _ tw_67) (fun _ h9 => h9) rfl (by decide +kernel) rfl rfl (Nat.le_of_ble_eq_true rfl) dX1_plant_32 (fun H locs hP hD hS => ?_)
    have hP : va_P (dC, dI) vwCl [(h, .inr (1, [.ref h_sort, .ref h_x, .ref h_y, .ref h_z, .int h_count, .int ((r2.1 - (kq_t1 (p0).toNatClampNeg)) + 1), .int h_faultPart])), (p1, .inr (0, [.long r2.2])), (h_sort, .inl (cA 0, 40, .inl h_sort_v)), (h_x, .inl (cA 0, 40, .inl h_x_v)), (h_y, .inl (cA 0, 40, .inl h_y_v)), (h_z, .inl (cA 0, 40, .inl h_z_v))] H := hP
    have hD : va_D A [(h, .inr (1, [.ref h_sort, .ref h_x, .ref h_y, .ref h_z, .int h_count, .int ((r2.1 - (kq_t1 (p0).toNatClampNeg)) + 1), .int h_faultPart])), (p1, .inr (0, [.long r2.2])), (h_sort, .inl (cA 0, 40, .inl h_sort_v)), (h_x, .inl (cA 0, 40, .inl h_x_v)), (h_y, .inl (cA 0, 40, .inl h_y_v)), (h_z, .inl (cA 0, 40, .inl h_z_v))] := hD
    refine lv_aload_n hx hb dX1_plant_35 rfl (lv_at hl 1 rfl) ?_
    refine lv_aload_n hx hb dX1_plant_36 rfl (lv_at hl 3 rfl) ?_
    refine lv_aload_n hx hb dX1_plant_37 rfl (lv_at hl 1 rfl) ?_
    refine va_get (D := (dC, dI)) (ci := 1) (v := .int h_count) (C := RX1) (T := TX1) (N := 7) hx hb hts iwX1 hown hK hP 0 rfl rfl 4 (by decide) (hts _ tw_64) (fun _ h9 => h9) rfl dX1_plant_38 ?_
    obtain ⟨r6, hr6, hf⟩ := kp_b hf
    have hPc := hP.sub (ws' := [(p1, .inr (0, [.long r2.2]))]) [1] rfl
    have hDc := hD.sub (ws' := [(p1, .inr (0, [.long r2.2]))]) [1] (by decide) rfl
    have hFc := va_free (wc := [(p1, .inr (0, [.long r2.2]))]) hD hS hA [1] rfl
    refine va_calli (va_runV (As := [.int h_count]) (rest := [.ref h]) ⟨hx, hb, hml, hown, hts⟩ (c_X0_below l dC dI cA tt p1 H.size r2.2 h_count r6 hr6) (cwV 1 hts (kq_gV tw_161 tw_162 tw_163 tw_21 tw_164) rfl rfl rfl (by decide +kernel) ⟨Nat.le_of_ble_eq_true rfl, Nat.le_of_ble_eq_true rfl⟩) ⟨kq_blind, va_recv hK hP (ci := 0) (q0 := 1) rfl rfl, kq_pre hG hZ hS hPc hDc hFc⟩ rfl rfl hl.1 rfl (lv_room (Nat.le_of_ble_eq_true rfl)) dX1_plant_41 ⟨Nat.le_of_ble_eq_true rfl, Nat.le_of_ble_eq_true rfl⟩) hS (fun q _ h => hFc q h) hFc (fun rv u t H1 locs ht hvm hw hB hz1 hk1 hS => ?_)
    obtain ⟨hP1, hD1⟩ := hB
    rw [ht] at hP1
    have hw := hw.symm
    subst hw
    obtain ⟨hP, hD⟩ := va_join (wr := [(h, .inr (1, [.ref h_sort, .ref h_x, .ref h_y, .ref h_z, .int h_count, .int ((r2.1 - (kq_t1 (p0).toNatClampNeg)) + 1), .int h_faultPart])), (h_sort, .inl (cA 0, 40, .inl h_sort_v)), (h_x, .inl (cA 0, 40, .inl h_x_v)), (h_y, .inl (cA 0, 40, .inl h_y_v)), (h_z, .inl (cA 0, 40, .inl h_z_v))]) (w1 := [(p1, .inr (0, [.long r6.2]))]) hP hD [1] [0, 2, 3, 4, 5] rfl rfl (by decide) (by decide) hk1 hFc hP1 hD1
    have hP : va_P (dC, dI) vwCl [(h, .inr (1, [.ref h_sort, .ref h_x, .ref h_y, .ref h_z, .int h_count, .int ((r2.1 - (kq_t1 (p0).toNatClampNeg)) + 1), .int h_faultPart])), (p1, .inr (0, [.long r6.2])), (h_sort, .inl (cA 0, 40, .inl h_sort_v)), (h_x, .inl (cA 0, 40, .inl h_x_v)), (h_y, .inl (cA 0, 40, .inl h_y_v)), (h_z, .inl (cA 0, 40, .inl h_z_v))] H1 := hP.sub [0, 5, 1, 2, 3, 4] rfl
    have hD : va_D A [(h, .inr (1, [.ref h_sort, .ref h_x, .ref h_y, .ref h_z, .int h_count, .int ((r2.1 - (kq_t1 (p0).toNatClampNeg)) + 1), .int h_faultPart])), (p1, .inr (0, [.long r6.2])), (h_sort, .inl (cA 0, 40, .inl h_sort_v)), (h_x, .inl (cA 0, 40, .inl h_x_v)), (h_y, .inl (cA 0, 40, .inl h_y_v)), (h_z, .inl (cA 0, 40, .inl h_z_v))] := hD.sub [0, 5, 1, 2, 3, 4] (by decide) rfl
    generalize H1 = H at hP hS ⊢
    refine va_put (D := (dC, dI)) (ci := 1) (v := .int r6.1) (ty := (.int)) (C := RX1) (T := TX1) (N := 7) hx hb hts iwX1 tyX1 tyX1_ok nmX1 hown hK hP hD hS 0 rfl rfl 6 (by decide) (hts _ tw_69) (fun _ h9 => h9) rfl (by decide +kernel) rfl rfl (Nat.le_of_ble_eq_true rfl) dX1_plant_44 (fun H locs hP hD hS => ?_)
    have hP : va_P (dC, dI) vwCl [(h, .inr (1, [.ref h_sort, .ref h_x, .ref h_y, .ref h_z, .int h_count, .int ((r2.1 - (kq_t1 (p0).toNatClampNeg)) + 1), .int r6.1])), (p1, .inr (0, [.long r6.2])), (h_sort, .inl (cA 0, 40, .inl h_sort_v)), (h_x, .inl (cA 0, 40, .inl h_x_v)), (h_y, .inl (cA 0, 40, .inl h_y_v)), (h_z, .inl (cA 0, 40, .inl h_z_v))] H := hP
    have hD : va_D A [(h, .inr (1, [.ref h_sort, .ref h_x, .ref h_y, .ref h_z, .int h_count, .int ((r2.1 - (kq_t1 (p0).toNatClampNeg)) + 1), .int r6.1])), (p1, .inr (0, [.long r6.2])), (h_sort, .inl (cA 0, 40, .inl h_sort_v)), (h_x, .inl (cA 0, 40, .inl h_x_v)), (h_y, .inl (cA 0, 40, .inl h_y_v)), (h_z, .inl (cA 0, 40, .inl h_z_v))] := hD
    refine lv_aload_n hx hb dX1_plant_47 rfl (lv_at hl 1 rfl) ?_
    refine lv_aload_n hx hb dX1_plant_48 rfl (lv_at hl 1 rfl) ?_
    refine va_get (D := (dC, dI)) (ci := 1) (v := .int r6.1) (C := RX1) (T := TX1) (N := 7) hx hb hts iwX1 hown hK hP 0 rfl rfl 6 (by decide) (hts _ tw_69) (fun _ h9 => h9) rfl dX1_plant_49 ?_
    refine va_getsN (v := .ref (tt 0)) hx hb hZ.1 hS hown (kq_nf hG (RX1, 47, RX4, "SORTS", "[I", "CarDrawer") (by decide +kernel)) (fun _ h9 => h9) dX1_plant_52 ?_
    refine lv_iload_n hx hb dX1_plant_55 rfl (lv_at hl 2 rfl) ?_
    refine va_ti (v := .int (kq_t0 (p0).toNatClampNeg)) hx hb hZ.2.1 hS hq1 rfl dX1_plant_56 ?_
    obtain ⟨r8, hr8, hf⟩ := kp_b hf
    have hPc := hP.sub (ws' := [(h, .inr (1, [.ref h_sort, .ref h_x, .ref h_y, .ref h_z, .int h_count, .int ((r2.1 - (kq_t1 (p0).toNatClampNeg)) + 1), .int r6.1])), (h_sort, .inl (cA 0, 40, .inl h_sort_v)), (h_x, .inl (cA 0, 40, .inl h_x_v)), (h_y, .inl (cA 0, 40, .inl h_y_v)), (h_z, .inl (cA 0, 40, .inl h_z_v))]) [0, 2, 3, 4, 5] rfl
    have hDc := hD.sub (ws' := [(h, .inr (1, [.ref h_sort, .ref h_x, .ref h_y, .ref h_z, .int h_count, .int ((r2.1 - (kq_t1 (p0).toNatClampNeg)) + 1), .int r6.1])), (h_sort, .inl (cA 0, 40, .inl h_sort_v)), (h_x, .inl (cA 0, 40, .inl h_x_v)), (h_y, .inl (cA 0, 40, .inl h_y_v)), (h_z, .inl (cA 0, 40, .inl h_z_v))]) [0, 2, 3, 4, 5] (by decide) rfl
    have hFc := va_free (wc := [(h, .inr (1, [.ref h_sort, .ref h_x, .ref h_y, .ref h_z, .int h_count, .int ((r2.1 - (kq_t1 (p0).toNatClampNeg)) + 1), .int r6.1])), (h_sort, .inl (cA 0, 40, .inl h_sort_v)), (h_x, .inl (cA 0, 40, .inl h_x_v)), (h_y, .inl (cA 0, 40, .inl h_y_v)), (h_z, .inl (cA 0, 40, .inl h_z_v))]) hD hS hA [0, 2, 3, 4, 5] rfl
    refine va_callv (va_runV (As := [.int r6.1, .int (kq_t0 (p0).toNatClampNeg)]) (rest := []) ⟨hx, hb, hml, hown, hts⟩ (c_X1_spoil l dC dI cA tt h h_sort h_x h_y h_z H.size h_count ((r2.1 - (kq_t1 (p0).toNatClampNeg)) + 1) r6.1 h_sort_v h_x_v h_y_v h_z_v r6.1 (kq_t0 (p0).toNatClampNeg) r8 hr8) (cwV 2 hts (kq_gV tw_183 tw_185 tw_4 tw_23 tw_186) rfl rfl rfl (by decide +kernel) ⟨Nat.le_of_ble_eq_true rfl, Nat.le_of_ble_eq_true rfl⟩) ⟨kq_blind, va_recv hK hP (ci := 1) (q0 := 0) rfl rfl, kq_pre hG hZ hS hPc hDc hFc⟩ rfl rfl hl.1 rfl (lv_room (Nat.le_of_ble_eq_true rfl)) dX1_plant_57 ⟨Nat.le_of_ble_eq_true rfl, Nat.le_of_ble_eq_true rfl⟩) hS (fun q _ h => hFc q h) hFc (fun u t H1 locs ht hvm hw hB hz1 hk1 hS => ?_)
    obtain ⟨hP1, hD1⟩ := hB
    rw [ht] at hP1
    obtain ⟨hP, hD⟩ := va_join (wr := [(p1, .inr (0, [.long r6.2]))]) (w1 := [(h, .inr (1, [.ref h_sort, .ref h_x, .ref h_y, .ref h_z, .int h_count, .int ((r2.1 - (kq_t1 (p0).toNatClampNeg)) + 1), .int r6.1])), (h_sort, .inl (cA 0, 40, .inl r8.1)), (h_x, .inl (cA 0, 40, .inl r8.2.1)), (h_y, .inl (cA 0, 40, .inl r8.2.2.1)), (h_z, .inl (cA 0, 40, .inl r8.2.2.2))]) hP hD [0, 2, 3, 4, 5] [1] rfl rfl (by decide) (by decide) hk1 hFc hP1 hD1
    have hP : va_P (dC, dI) vwCl [(h, .inr (1, [.ref h_sort, .ref h_x, .ref h_y, .ref h_z, .int h_count, .int ((r2.1 - (kq_t1 (p0).toNatClampNeg)) + 1), .int r6.1])), (p1, .inr (0, [.long r6.2])), (h_sort, .inl (cA 0, 40, .inl r8.1)), (h_x, .inl (cA 0, 40, .inl r8.2.1)), (h_y, .inl (cA 0, 40, .inl r8.2.2.1)), (h_z, .inl (cA 0, 40, .inl r8.2.2.2))] H1 := hP.sub [1, 0, 2, 3, 4, 5] rfl
    have hD : va_D A [(h, .inr (1, [.ref h_sort, .ref h_x, .ref h_y, .ref h_z, .int h_count, .int ((r2.1 - (kq_t1 (p0).toNatClampNeg)) + 1), .int r6.1])), (p1, .inr (0, [.long r6.2])), (h_sort, .inl (cA 0, 40, .inl r8.1)), (h_x, .inl (cA 0, 40, .inl r8.2.1)), (h_y, .inl (cA 0, 40, .inl r8.2.2.1)), (h_z, .inl (cA 0, 40, .inl r8.2.2.2))] := hD.sub [1, 0, 2, 3, 4, 5] (by decide) rfl
    generalize H1 = H at hP hS ⊢
    have eo := Option.some.inj hf
    subst eo
    exact W.vret hx hb hr (fun t ht hW => ⟨⟨(), rfl, trivial, kq_mk ht hP hD⟩, hS.F ht⟩) hS.2.2 dX1_plant_60
  · have hf := kp_n c4 hf
    have eo := Option.some.inj hf
    subst eo
    exact W.vret hx hb hr (fun t ht hW => ⟨⟨(), rfl, trivial, kq_mk ht hP hD⟩, hS.F ht⟩) hS.2.2 dX1_plant_21

def f_X1_fill_L48 (p0 : Int32) (p1 : Int32) : Nat → Int32 → Int32 → Int32 → Int64 → (Nat → Int32) → (Nat → Int32) → (Nat → Int32) → (Nat → Int32) → Int32 → Option (Int32 × Int32 × Int32 × Int64 × (Nat → Int32) × (Nat → Int32) × (Nat → Int32) × (Nat → Int32))
  | 0, _, _, _, _, _, _, _, _, _ => none
  | n48 + 1, h_count, h_fault, h_faultPart, p2_state, h_sort_v, h_x_v, h_y_v, h_z_v, v4 =>
    (if h_count ≤ v4 then
    (f_X1_plant h_count h_fault h_faultPart p2_state h_sort_v h_x_v h_y_v h_z_v p0).bind fun r49002 =>
    some ((h_count, r49002.1, r49002.2.1, r49002.2.2.1, r49002.2.2.2.1, r49002.2.2.2.2.1, r49002.2.2.2.2.2.1, r49002.2.2.2.2.2.2))
    else
    if p0 < 0 ∨ 6 ≤ p0.toNatClampNeg then none else
    (f_X0_below p2_state (kq_t0 (p0).toNatClampNeg)).bind fun r49004 =>
    if v4 < 0 ∨ 40 ≤ v4.toNatClampNeg then none else
    (f_X1_drawX r49004.2 (upd h_sort_v v4.toNatClampNeg r49004.1) h_x_v p0 v4).bind fun r49006 =>
    (f_X1_drawY r49006.2 (upd h_sort_v v4.toNatClampNeg r49004.1) (upd h_x_v v4.toNatClampNeg r49006.1) h_y_v p0 v4).bind fun r49008 =>
    (f_X0_below r49008.2 1000).bind fun r49010 =>
    f_X1_fill_L48 p0 p1 n48 h_count h_fault h_faultPart r49010.2 (upd h_sort_v v4.toNatClampNeg r49004.1) (upd h_x_v v4.toNatClampNeg r49006.1) (upd h_y_v v4.toNatClampNeg r49008.1) (upd h_z_v v4.toNatClampNeg r49010.1) (v4 + 1))
theorem e_X1_fill_L48 (p0 : Int32) (p1 : Int32) (n48 : Nat) (h_count : Int32) (h_fault : Int32) (h_faultPart : Int32) (p2_state : Int64) (h_sort_v : Nat → Int32) (h_x_v : Nat → Int32) (h_y_v : Nat → Int32) (h_z_v : Nat → Int32) (v4 : Int32) : f_X1_fill_L48 p0 p1 (n48 + 1) h_count h_fault h_faultPart p2_state h_sort_v h_x_v h_y_v h_z_v v4 =
    ((if h_count ≤ v4 then
    (f_X1_plant h_count h_fault h_faultPart p2_state h_sort_v h_x_v h_y_v h_z_v p0).bind fun r49002 =>
    some ((h_count, r49002.1, r49002.2.1, r49002.2.2.1, r49002.2.2.2.1, r49002.2.2.2.2.1, r49002.2.2.2.2.2.1, r49002.2.2.2.2.2.2))
    else
    if p0 < 0 ∨ 6 ≤ p0.toNatClampNeg then none else
    (f_X0_below p2_state (kq_t0 (p0).toNatClampNeg)).bind fun r49004 =>
    if v4 < 0 ∨ 40 ≤ v4.toNatClampNeg then none else
    (f_X1_drawX r49004.2 (upd h_sort_v v4.toNatClampNeg r49004.1) h_x_v p0 v4).bind fun r49006 =>
    (f_X1_drawY r49006.2 (upd h_sort_v v4.toNatClampNeg r49004.1) (upd h_x_v v4.toNatClampNeg r49006.1) h_y_v p0 v4).bind fun r49008 =>
    (f_X0_below r49008.2 1000).bind fun r49010 =>
    f_X1_fill_L48 p0 p1 n48 h_count h_fault h_faultPart r49010.2 (upd h_sort_v v4.toNatClampNeg r49004.1) (upd h_x_v v4.toNatClampNeg r49006.1) (upd h_y_v v4.toNatClampNeg r49008.1) (upd h_z_v v4.toNatClampNeg r49010.1) (v4 + 1))) := rfl
def f_X1_fill (h_count : Int32) (h_fault : Int32) (h_faultPart : Int32) (p2_state : Int64) (h_sort_v : Nat → Int32) (h_x_v : Nat → Int32) (h_y_v : Nat → Int32) (h_z_v : Nat → Int32) (p0 : Int32) (p1 : Int32) : Option (Int32 × Int32 × Int32 × Int64 × (Nat → Int32) × (Nat → Int32) × (Nat → Int32) × (Nat → Int32)) :=
    (if p1 ≤ 0 then
    (f_X1_fillWithNought h_count h_sort_v h_x_v h_y_v h_z_v).bind fun r2 =>
    some ((r2.1, 0, (-1), p2_state, r2.2.1, r2.2.2.1, r2.2.2.2.1, r2.2.2.2.2))
    else
    (if 20 < p1 then
    (f_X1_fillWithNought h_count h_sort_v h_x_v h_y_v h_z_v).bind fun r4 =>
    some ((r4.1, 0, (-1), p2_state, r4.2.1, r4.2.2.1, r4.2.2.2.1, r4.2.2.2.2))
    else
    (f_X4_isKind p0).bind fun r5 =>
    (if r5 = 0 then
    (f_X1_fillWithNought h_count h_sort_v h_x_v h_y_v h_z_v).bind fun r8 =>
    some ((r8.1, 0, (-1), p2_state, r8.2.1, r8.2.2.1, r8.2.2.2.1, r8.2.2.2.2))
    else
    (f_X0_below p2_state (p1 + 1)).bind fun r7 =>
    f_X1_fill_L48 p0 p1 64 (p1 + r7.1) 0 ((-1)) r7.2 h_sort_v h_x_v h_y_v h_z_v 0)))
set_option maxHeartbeats 4000000 in
set_option maxRecDepth 100000 in
theorem c_X1_fill (l : Launch) (dC : Nat → ClassId) (dI : Nat → Nat → Nat) (cA : Nat → ClassId) (tt : Nat → Nat) (h p2 h_sort h_x h_y h_z : Nat) (sz : Nat) (h_count : Int32) (h_fault : Int32) (h_faultPart : Int32) (p2_state : Int64) (h_sort_v : Nat → Int32) (h_x_v : Nat → Int32) (h_y_v : Nat → Int32) (h_z_v : Nat → Int32) (p0 : Int32) (p1 : Int32) (o : Int32 × Int32 × Int32 × Int64 × (Nat → Int32) × (Nat → Int32) × (Nat → Int32) × (Nat → Int32)) (hf : f_X1_fill h_count h_fault h_faultPart p2_state h_sort_v h_x_v h_y_v h_z_v p0 p1 = some o) : Met l yX1_fill wX1_fill ({ frames := 2, cells := 0, slots := 0, locals := 46 }) (kq_Pc dC dI cA tt [.ref h, .int p0, .int p1, .ref p2] [(h, .inr (1, [.ref h_sort, .ref h_x, .ref h_y, .ref h_z, .int h_count, .int h_fault, .int h_faultPart])), (p2, .inr (0, [.long p2_state])), (h_sort, .inl (cA 0, 40, .inl h_sort_v)), (h_x, .inl (cA 0, 40, .inl h_x_v)), (h_y, .inl (cA 0, 40, .inl h_y_v)), (h_z, .inl (cA 0, 40, .inl h_z_v))] sz) (va_Qv (fun _ : Unit => True) (fun _ t => kq_B dC dI [(h, .inr (1, [.ref h_sort, .ref h_x, .ref h_y, .ref h_z, .int o.1, .int o.2.1, .int o.2.2.1])), (p2, .inr (0, [.long o.2.2.2.1])), (h_sort, .inl (cA 0, 40, .inl o.2.2.2.2.1)), (h_x, .inl (cA 0, 40, .inl o.2.2.2.2.2.1)), (h_y, .inl (cA 0, 40, .inl o.2.2.2.2.2.2.1)), (h_z, .inl (cA 0, 40, .inl o.2.2.2.2.2.2.2))] (va_A [(h, .inr (1, [.ref h_sort, .ref h_x, .ref h_y, .ref h_z, .int h_count, .int h_fault, .int h_faultPart])), (p2, .inr (0, [.long p2_state])), (h_sort, .inl (cA 0, 40, .inl h_sort_v)), (h_x, .inl (cA 0, 40, .inl h_x_v)), (h_y, .inl (cA 0, 40, .inl h_y_v)), (h_z, .inl (cA 0, 40, .inl h_z_v))] sz) t) (va_A [(h, .inr (1, [.ref h_sort, .ref h_x, .ref h_y, .ref h_z, .int h_count, .int h_fault, .int h_faultPart])), (p2, .inr (0, [.long p2_state])), (h_sort, .inl (cA 0, 40, .inl h_sort_v)), (h_x, .inl (cA 0, 40, .inl h_x_v)), (h_y, .inl (cA 0, 40, .inl h_y_v)), (h_z, .inl (cA 0, 40, .inl h_z_v))] sz)) 0 0 (va_A [(h, .inr (1, [.ref h_sort, .ref h_x, .ref h_y, .ref h_z, .int h_count, .int h_fault, .int h_faultPart])), (p2, .inr (0, [.long p2_state])), (h_sort, .inl (cA 0, 40, .inl h_sort_v)), (h_x, .inl (cA 0, 40, .inl h_x_v)), (h_y, .inl (cA 0, 40, .inl h_y_v)), (h_z, .inl (cA 0, 40, .inl h_z_v))] sz) := by
  refine Met.ofW (cc := cX1_fill) (maxL := 5) (ret := none) (by decide) rfl ?_
  intro p e s m args below meth c s₁ B hml hv
  obtain ⟨rfl, hsz, hP, hD0, hG, hZ⟩ := hv
  have hx := B.exec
  have hb := B.bytes
  have hr := B.returns
  have hts : ∀ w ∈ kq_T, w.before _ s = true := fun w h => atoms_spec (ws := wX1_fill) B.pre w (List.mem_cons_of_mem _ h)
  have hown : s.vm.findClass RX1 = some m.cls := findClass_of_methodNamed B.named
  have hlocks := B.notSynchronized
  have hK := hG.1
  subst hsz
  have hD := hD0.self (sz := s.heap.size)
  generalize hAe : va_A [(h, .inr (1, [.ref h_sort, .ref h_x, .ref h_y, .ref h_z, .int h_count, .int h_fault, .int h_faultPart])), (p2, .inr (0, [.long p2_state])), (h_sort, .inl (cA 0, 40, .inl h_sort_v)), (h_x, .inl (cA 0, 40, .inl h_x_v)), (h_y, .inl (cA 0, 40, .inl h_y_v)), (h_z, .inl (cA 0, 40, .inl h_z_v))] s.heap.size = A at hD hZ ⊢
  have hA : ∀ q : Nat, s.heap.size ≤ q → A q := fun q h => by rw [← hAe]; exact Or.inr h
  have hl := lv_entry [.ref h, .int p0, .int p1, .ref p2] (n := 5) (Nat.le_of_ble_eq_true rfl)
  rw [lg_entry_eq]
  generalize (lg_sl [.ref h, .int p0, .int p1, .ref p2] ++ List.replicate (5 - (lg_sl [.ref h, .int p0, .int p1, .ref p2]).length) Slot.unset).toArray = ls at hl ⊢
  have hl : lv_has ls 5 [(0, .ref h), (1, .int p0), (2, .int p1), (3, .ref p2)] := hl
  obtain ⟨H, hHe⟩ : ∃ H : Heap, H = s.heap := ⟨_, rfl⟩
  have hP : va_P (dC, dI) vwCl [(h, .inr (1, [.ref h_sort, .ref h_x, .ref h_y, .ref h_z, .int h_count, .int h_fault, .int h_faultPart])), (p2, .inr (0, [.long p2_state])), (h_sort, .inl (cA 0, 40, .inl h_sort_v)), (h_x, .inl (cA 0, 40, .inl h_x_v)), (h_y, .inl (cA 0, 40, .inl h_y_v)), (h_z, .inl (cA 0, 40, .inl h_z_v))] H := by rw [hHe]; exact hP
  have hS : va_S A s.heap H [] := by rw [hHe]; exact va_S.rf
  rw [← hHe]
  unfold f_X1_fill at hf
  refine lv_aload_n hx hb dX1_fill_0 rfl (lv_at hl 0 rfl) ?_
  refine lv_iconst (v := 0) hx hb dX1_fill_1 (by decide) ?_
  refine va_put (D := (dC, dI)) (ci := 1) (v := .int 0) (ty := (.int)) (C := RX1) (T := TX1) (N := 7) hx hb hts iwX1 tyX1 tyX1_ok nmX1 hown hK hP hD hS 0 rfl rfl 5 (by decide) (hts _ tw_67) (fun _ h9 => h9) rfl (by decide +kernel) rfl rfl (Nat.le_of_ble_eq_true rfl) dX1_fill_2 (fun H locs hP hD hS => ?_)
  have hP : va_P (dC, dI) vwCl [(h, .inr (1, [.ref h_sort, .ref h_x, .ref h_y, .ref h_z, .int h_count, .int 0, .int h_faultPart])), (p2, .inr (0, [.long p2_state])), (h_sort, .inl (cA 0, 40, .inl h_sort_v)), (h_x, .inl (cA 0, 40, .inl h_x_v)), (h_y, .inl (cA 0, 40, .inl h_y_v)), (h_z, .inl (cA 0, 40, .inl h_z_v))] H := hP
  have hD : va_D A [(h, .inr (1, [.ref h_sort, .ref h_x, .ref h_y, .ref h_z, .int h_count, .int 0, .int h_faultPart])), (p2, .inr (0, [.long p2_state])), (h_sort, .inl (cA 0, 40, .inl h_sort_v)), (h_x, .inl (cA 0, 40, .inl h_x_v)), (h_y, .inl (cA 0, 40, .inl h_y_v)), (h_z, .inl (cA 0, 40, .inl h_z_v))] := hD
  refine lv_aload_n hx hb dX1_fill_5 rfl (lv_at hl 0 rfl) ?_
  refine lv_iconst (v := (-1)) hx hb dX1_fill_6 (by decide) ?_
  refine va_put (D := (dC, dI)) (ci := 1) (v := .int ((-1))) (ty := (.int)) (C := RX1) (T := TX1) (N := 7) hx hb hts iwX1 tyX1 tyX1_ok nmX1 hown hK hP hD hS 0 rfl rfl 6 (by decide) (hts _ tw_69) (fun _ h9 => h9) rfl (by decide +kernel) rfl rfl (Nat.le_of_ble_eq_true rfl) dX1_fill_7 (fun H locs hP hD hS => ?_)
  have hP : va_P (dC, dI) vwCl [(h, .inr (1, [.ref h_sort, .ref h_x, .ref h_y, .ref h_z, .int h_count, .int 0, .int ((-1))])), (p2, .inr (0, [.long p2_state])), (h_sort, .inl (cA 0, 40, .inl h_sort_v)), (h_x, .inl (cA 0, 40, .inl h_x_v)), (h_y, .inl (cA 0, 40, .inl h_y_v)), (h_z, .inl (cA 0, 40, .inl h_z_v))] H := hP
  have hD : va_D A [(h, .inr (1, [.ref h_sort, .ref h_x, .ref h_y, .ref h_z, .int h_count, .int 0, .int ((-1))])), (p2, .inr (0, [.long p2_state])), (h_sort, .inl (cA 0, 40, .inl h_sort_v)), (h_x, .inl (cA 0, 40, .inl h_x_v)), (h_y, .inl (cA 0, 40, .inl h_y_v)), (h_z, .inl (cA 0, 40, .inl h_z_v))] := hD
  refine lv_iload_n hx hb dX1_fill_10 rfl (lv_at hl 2 rfl) ?_
  refine lv_if_le (tgt := 27) hx hb dX1_fill_11 (by decide) (fun c1 => ?_) (fun c1 => ?_)
  · have hf := kp_p c1 hf
    refine lv_aload_n hx hb dX1_fill_27 rfl (lv_at hl 0 rfl) ?_
    obtain ⟨r2, hr2, hf⟩ := kp_b hf
    have hPc := hP.sub (ws' := [(h, .inr (1, [.ref h_sort, .ref h_x, .ref h_y, .ref h_z, .int h_count, .int 0, .int ((-1))])), (h_sort, .inl (cA 0, 40, .inl h_sort_v)), (h_x, .inl (cA 0, 40, .inl h_x_v)), (h_y, .inl (cA 0, 40, .inl h_y_v)), (h_z, .inl (cA 0, 40, .inl h_z_v))]) [0, 2, 3, 4, 5] rfl
    have hDc := hD.sub (ws' := [(h, .inr (1, [.ref h_sort, .ref h_x, .ref h_y, .ref h_z, .int h_count, .int 0, .int ((-1))])), (h_sort, .inl (cA 0, 40, .inl h_sort_v)), (h_x, .inl (cA 0, 40, .inl h_x_v)), (h_y, .inl (cA 0, 40, .inl h_y_v)), (h_z, .inl (cA 0, 40, .inl h_z_v))]) [0, 2, 3, 4, 5] (by decide) rfl
    have hFc := va_free (wc := [(h, .inr (1, [.ref h_sort, .ref h_x, .ref h_y, .ref h_z, .int h_count, .int 0, .int ((-1))])), (h_sort, .inl (cA 0, 40, .inl h_sort_v)), (h_x, .inl (cA 0, 40, .inl h_x_v)), (h_y, .inl (cA 0, 40, .inl h_y_v)), (h_z, .inl (cA 0, 40, .inl h_z_v))]) hD hS hA [0, 2, 3, 4, 5] rfl
    refine va_callv (va_runV (As := []) (rest := []) ⟨hx, hb, hml, hown, hts⟩ (c_X1_fillWithNought l dC dI cA tt h h_sort h_x h_y h_z H.size h_count 0 ((-1)) h_sort_v h_x_v h_y_v h_z_v r2 hr2) (cwV 0 hts (kq_gV tw_157 tw_159 tw_0 tw_23 tw_160) rfl rfl rfl (by decide +kernel) ⟨Nat.le_of_ble_eq_true rfl, Nat.le_of_ble_eq_true rfl⟩) ⟨kq_blind, va_recv hK hP (ci := 1) (q0 := 0) rfl rfl, kq_pre hG hZ hS hPc hDc hFc⟩ rfl rfl hl.1 rfl (lv_room (Nat.le_of_ble_eq_true rfl)) dX1_fill_28 ⟨Nat.le_of_ble_eq_true rfl, Nat.le_of_ble_eq_true rfl⟩) hS (fun q _ h => hFc q h) hFc (fun u t H1 locs ht hvm hw hB hz1 hk1 hS => ?_)
    obtain ⟨hP1, hD1⟩ := hB
    rw [ht] at hP1
    obtain ⟨hP, hD⟩ := va_join (wr := [(p2, .inr (0, [.long p2_state]))]) (w1 := [(h, .inr (1, [.ref h_sort, .ref h_x, .ref h_y, .ref h_z, .int r2.1, .int 0, .int ((-1))])), (h_sort, .inl (cA 0, 40, .inl r2.2.1)), (h_x, .inl (cA 0, 40, .inl r2.2.2.1)), (h_y, .inl (cA 0, 40, .inl r2.2.2.2.1)), (h_z, .inl (cA 0, 40, .inl r2.2.2.2.2))]) hP hD [0, 2, 3, 4, 5] [1] rfl rfl (by decide) (by decide) hk1 hFc hP1 hD1
    have hP : va_P (dC, dI) vwCl [(h, .inr (1, [.ref h_sort, .ref h_x, .ref h_y, .ref h_z, .int r2.1, .int 0, .int ((-1))])), (p2, .inr (0, [.long p2_state])), (h_sort, .inl (cA 0, 40, .inl r2.2.1)), (h_x, .inl (cA 0, 40, .inl r2.2.2.1)), (h_y, .inl (cA 0, 40, .inl r2.2.2.2.1)), (h_z, .inl (cA 0, 40, .inl r2.2.2.2.2))] H1 := hP.sub [1, 0, 2, 3, 4, 5] rfl
    have hD : va_D A [(h, .inr (1, [.ref h_sort, .ref h_x, .ref h_y, .ref h_z, .int r2.1, .int 0, .int ((-1))])), (p2, .inr (0, [.long p2_state])), (h_sort, .inl (cA 0, 40, .inl r2.2.1)), (h_x, .inl (cA 0, 40, .inl r2.2.2.1)), (h_y, .inl (cA 0, 40, .inl r2.2.2.2.1)), (h_z, .inl (cA 0, 40, .inl r2.2.2.2.2))] := hD.sub [1, 0, 2, 3, 4, 5] (by decide) rfl
    generalize H1 = H at hP hS ⊢
    have eo := Option.some.inj hf
    subst eo
    exact W.vret hx hb hr (fun t ht hW => ⟨⟨(), rfl, trivial, kq_mk ht hP hD⟩, hS.F ht⟩) hS.2.2 dX1_fill_31
  · have hf := kp_n c1 hf
    refine lv_iload_n hx hb dX1_fill_14 rfl (lv_at hl 2 rfl) ?_
    refine lv_bipush (v := 20) hx hb dX1_fill_15 (by decide) ?_
    refine lv_icmp_gt (tgt := 27) hx hb dX1_fill_17 (by decide) (fun c3 => ?_) (fun c3 => ?_)
    · have hf := kp_p c3 hf
      refine lv_aload_n hx hb dX1_fill_27 rfl (lv_at hl 0 rfl) ?_
      obtain ⟨r4, hr4, hf⟩ := kp_b hf
      have hPc := hP.sub (ws' := [(h, .inr (1, [.ref h_sort, .ref h_x, .ref h_y, .ref h_z, .int h_count, .int 0, .int ((-1))])), (h_sort, .inl (cA 0, 40, .inl h_sort_v)), (h_x, .inl (cA 0, 40, .inl h_x_v)), (h_y, .inl (cA 0, 40, .inl h_y_v)), (h_z, .inl (cA 0, 40, .inl h_z_v))]) [0, 2, 3, 4, 5] rfl
      have hDc := hD.sub (ws' := [(h, .inr (1, [.ref h_sort, .ref h_x, .ref h_y, .ref h_z, .int h_count, .int 0, .int ((-1))])), (h_sort, .inl (cA 0, 40, .inl h_sort_v)), (h_x, .inl (cA 0, 40, .inl h_x_v)), (h_y, .inl (cA 0, 40, .inl h_y_v)), (h_z, .inl (cA 0, 40, .inl h_z_v))]) [0, 2, 3, 4, 5] (by decide) rfl
      have hFc := va_free (wc := [(h, .inr (1, [.ref h_sort, .ref h_x, .ref h_y, .ref h_z, .int h_count, .int 0, .int ((-1))])), (h_sort, .inl (cA 0, 40, .inl h_sort_v)), (h_x, .inl (cA 0, 40, .inl h_x_v)), (h_y, .inl (cA 0, 40, .inl h_y_v)), (h_z, .inl (cA 0, 40, .inl h_z_v))]) hD hS hA [0, 2, 3, 4, 5] rfl
      refine va_callv (va_runV (As := []) (rest := []) ⟨hx, hb, hml, hown, hts⟩ (c_X1_fillWithNought l dC dI cA tt h h_sort h_x h_y h_z H.size h_count 0 ((-1)) h_sort_v h_x_v h_y_v h_z_v r4 hr4) (cwV 0 hts (kq_gV tw_157 tw_159 tw_0 tw_23 tw_160) rfl rfl rfl (by decide +kernel) ⟨Nat.le_of_ble_eq_true rfl, Nat.le_of_ble_eq_true rfl⟩) ⟨kq_blind, va_recv hK hP (ci := 1) (q0 := 0) rfl rfl, kq_pre hG hZ hS hPc hDc hFc⟩ rfl rfl hl.1 rfl (lv_room (Nat.le_of_ble_eq_true rfl)) dX1_fill_28 ⟨Nat.le_of_ble_eq_true rfl, Nat.le_of_ble_eq_true rfl⟩) hS (fun q _ h => hFc q h) hFc (fun u t H1 locs ht hvm hw hB hz1 hk1 hS => ?_)
      obtain ⟨hP1, hD1⟩ := hB
      rw [ht] at hP1
      obtain ⟨hP, hD⟩ := va_join (wr := [(p2, .inr (0, [.long p2_state]))]) (w1 := [(h, .inr (1, [.ref h_sort, .ref h_x, .ref h_y, .ref h_z, .int r4.1, .int 0, .int ((-1))])), (h_sort, .inl (cA 0, 40, .inl r4.2.1)), (h_x, .inl (cA 0, 40, .inl r4.2.2.1)), (h_y, .inl (cA 0, 40, .inl r4.2.2.2.1)), (h_z, .inl (cA 0, 40, .inl r4.2.2.2.2))]) hP hD [0, 2, 3, 4, 5] [1] rfl rfl (by decide) (by decide) hk1 hFc hP1 hD1
      have hP : va_P (dC, dI) vwCl [(h, .inr (1, [.ref h_sort, .ref h_x, .ref h_y, .ref h_z, .int r4.1, .int 0, .int ((-1))])), (p2, .inr (0, [.long p2_state])), (h_sort, .inl (cA 0, 40, .inl r4.2.1)), (h_x, .inl (cA 0, 40, .inl r4.2.2.1)), (h_y, .inl (cA 0, 40, .inl r4.2.2.2.1)), (h_z, .inl (cA 0, 40, .inl r4.2.2.2.2))] H1 := hP.sub [1, 0, 2, 3, 4, 5] rfl
      have hD : va_D A [(h, .inr (1, [.ref h_sort, .ref h_x, .ref h_y, .ref h_z, .int r4.1, .int 0, .int ((-1))])), (p2, .inr (0, [.long p2_state])), (h_sort, .inl (cA 0, 40, .inl r4.2.1)), (h_x, .inl (cA 0, 40, .inl r4.2.2.1)), (h_y, .inl (cA 0, 40, .inl r4.2.2.2.1)), (h_z, .inl (cA 0, 40, .inl r4.2.2.2.2))] := hD.sub [1, 0, 2, 3, 4, 5] (by decide) rfl
      generalize H1 = H at hP hS ⊢
      have eo := Option.some.inj hf
      subst eo
      exact W.vret hx hb hr (fun t ht hW => ⟨⟨(), rfl, trivial, kq_mk ht hP hD⟩, hS.F ht⟩) hS.2.2 dX1_fill_31
    · have hf := kp_n c3 hf
      refine lv_iload_n hx hb dX1_fill_20 rfl (lv_at hl 1 rfl) ?_
      obtain ⟨r5, hr5, hf⟩ := kp_b hf
      have hPc := hP.sub (ws' := []) [] rfl
      have hDc := hD.sub (ws' := []) [] (by decide) rfl
      have hFc := va_free (wc := []) hD hS hA [] rfl
      refine va_calli (va_runSN (As := [.int p0]) (rest := []) ⟨hx, hb, hml, hown, hts⟩ (c_X4_isKind l dC dI cA tt H.size p0 r5 hr5) ⟨(va_cnB 1 hts (kq_g1 tw_148) rfl rfl rfl (kq_nm hG (RX1, 34, yX4_isKind, "CarDrawer") (by decide +kernel)) (hts _ tw_20) (by decide +kernel) ⟨Nat.le_of_ble_eq_true rfl, Nat.le_of_ble_eq_true rfl⟩), (hts _ tw_147), trivial⟩ ⟨kq_blind, kq_pre hG hZ hS hPc hDc hFc⟩ rfl rfl hl.1 rfl (lv_room (Nat.le_of_ble_eq_true rfl)) dX1_fill_21 ⟨Nat.le_of_ble_eq_true rfl, Nat.le_of_ble_eq_true rfl⟩) hS (fun q _ h => hFc q h) hFc (fun rv u t H1 locs ht hvm hw hB hz1 hk1 hS => ?_)
      obtain ⟨hP1, hD1⟩ := hB
      rw [ht] at hP1
      have hw := hw.symm
      subst hw
      obtain ⟨hP, hD⟩ := va_join (wr := [(h, .inr (1, [.ref h_sort, .ref h_x, .ref h_y, .ref h_z, .int h_count, .int 0, .int ((-1))])), (p2, .inr (0, [.long p2_state])), (h_sort, .inl (cA 0, 40, .inl h_sort_v)), (h_x, .inl (cA 0, 40, .inl h_x_v)), (h_y, .inl (cA 0, 40, .inl h_y_v)), (h_z, .inl (cA 0, 40, .inl h_z_v))]) (w1 := []) hP hD [] [0, 1, 2, 3, 4, 5] rfl rfl (by decide) (by decide) hk1 hFc hP1 hD1
      have hP : va_P (dC, dI) vwCl [(h, .inr (1, [.ref h_sort, .ref h_x, .ref h_y, .ref h_z, .int h_count, .int 0, .int ((-1))])), (p2, .inr (0, [.long p2_state])), (h_sort, .inl (cA 0, 40, .inl h_sort_v)), (h_x, .inl (cA 0, 40, .inl h_x_v)), (h_y, .inl (cA 0, 40, .inl h_y_v)), (h_z, .inl (cA 0, 40, .inl h_z_v))] H1 := hP.sub [0, 1, 2, 3, 4, 5] rfl
      have hD : va_D A [(h, .inr (1, [.ref h_sort, .ref h_x, .ref h_y, .ref h_z, .int h_count, .int 0, .int ((-1))])), (p2, .inr (0, [.long p2_state])), (h_sort, .inl (cA 0, 40, .inl h_sort_v)), (h_x, .inl (cA 0, 40, .inl h_x_v)), (h_y, .inl (cA 0, 40, .inl h_y_v)), (h_z, .inl (cA 0, 40, .inl h_z_v))] := hD.sub [0, 1, 2, 3, 4, 5] (by decide) rfl
      generalize H1 = H at hP hS ⊢
      refine lv_if_ne (tgt := 32) hx hb dX1_fill_24 (by decide) (fun c6 => ?_) (fun c6 => ?_)
      · have hf := kp_n c6 hf
        refine lv_aload_n hx hb dX1_fill_32 rfl (lv_at hl 0 rfl) ?_
        refine lv_iload_n hx hb dX1_fill_33 rfl (lv_at hl 2 rfl) ?_
        refine lv_aload_n hx hb dX1_fill_34 rfl (lv_at hl 3 rfl) ?_
        refine lv_iload_n hx hb dX1_fill_35 rfl (lv_at hl 2 rfl) ?_
        refine lv_iconst (v := 1) hx hb dX1_fill_36 (by decide) ?_
        refine lv_iadd hx hb dX1_fill_37 ?_
        obtain ⟨r7, hr7, hf⟩ := kp_b hf
        have hPc := hP.sub (ws' := [(p2, .inr (0, [.long p2_state]))]) [1] rfl
        have hDc := hD.sub (ws' := [(p2, .inr (0, [.long p2_state]))]) [1] (by decide) rfl
        have hFc := va_free (wc := [(p2, .inr (0, [.long p2_state]))]) hD hS hA [1] rfl
        refine va_calli (va_runV (As := [.int (p1 + 1)]) (rest := [.int p1, .ref h]) ⟨hx, hb, hml, hown, hts⟩ (c_X0_below l dC dI cA tt p2 H.size p2_state (p1 + 1) r7 hr7) (cwV 1 hts (kq_gV tw_161 tw_162 tw_163 tw_21 tw_164) rfl rfl rfl (by decide +kernel) ⟨Nat.le_of_ble_eq_true rfl, Nat.le_of_ble_eq_true rfl⟩) ⟨kq_blind, va_recv hK hP (ci := 0) (q0 := 1) rfl rfl, kq_pre hG hZ hS hPc hDc hFc⟩ rfl rfl hl.1 rfl (lv_room (Nat.le_of_ble_eq_true rfl)) dX1_fill_38 ⟨Nat.le_of_ble_eq_true rfl, Nat.le_of_ble_eq_true rfl⟩) hS (fun q _ h => hFc q h) hFc (fun rv u t H1 locs ht hvm hw hB hz1 hk1 hS => ?_)
        obtain ⟨hP1, hD1⟩ := hB
        rw [ht] at hP1
        have hw := hw.symm
        subst hw
        obtain ⟨hP, hD⟩ := va_join (wr := [(h, .inr (1, [.ref h_sort, .ref h_x, .ref h_y, .ref h_z, .int h_count, .int 0, .int ((-1))])), (h_sort, .inl (cA 0, 40, .inl h_sort_v)), (h_x, .inl (cA 0, 40, .inl h_x_v)), (h_y, .inl (cA 0, 40, .inl h_y_v)), (h_z, .inl (cA 0, 40, .inl h_z_v))]) (w1 := [(p2, .inr (0, [.long r7.2]))]) hP hD [1] [0, 2, 3, 4, 5] rfl rfl (by decide) (by decide) hk1 hFc hP1 hD1
        have hP : va_P (dC, dI) vwCl [(h, .inr (1, [.ref h_sort, .ref h_x, .ref h_y, .ref h_z, .int h_count, .int 0, .int ((-1))])), (p2, .inr (0, [.long r7.2])), (h_sort, .inl (cA 0, 40, .inl h_sort_v)), (h_x, .inl (cA 0, 40, .inl h_x_v)), (h_y, .inl (cA 0, 40, .inl h_y_v)), (h_z, .inl (cA 0, 40, .inl h_z_v))] H1 := hP.sub [0, 5, 1, 2, 3, 4] rfl
        have hD : va_D A [(h, .inr (1, [.ref h_sort, .ref h_x, .ref h_y, .ref h_z, .int h_count, .int 0, .int ((-1))])), (p2, .inr (0, [.long r7.2])), (h_sort, .inl (cA 0, 40, .inl h_sort_v)), (h_x, .inl (cA 0, 40, .inl h_x_v)), (h_y, .inl (cA 0, 40, .inl h_y_v)), (h_z, .inl (cA 0, 40, .inl h_z_v))] := hD.sub [0, 5, 1, 2, 3, 4] (by decide) rfl
        generalize H1 = H at hP hS ⊢
        refine lv_iadd hx hb dX1_fill_41 ?_
        refine va_put (D := (dC, dI)) (ci := 1) (v := .int (p1 + r7.1)) (ty := (.int)) (C := RX1) (T := TX1) (N := 7) hx hb hts iwX1 tyX1 tyX1_ok nmX1 hown hK hP hD hS 0 rfl rfl 4 (by decide) (hts _ tw_64) (fun _ h9 => h9) rfl (by decide +kernel) rfl rfl (Nat.le_of_ble_eq_true rfl) dX1_fill_42 (fun H locs hP hD hS => ?_)
        have hP : va_P (dC, dI) vwCl [(h, .inr (1, [.ref h_sort, .ref h_x, .ref h_y, .ref h_z, .int (p1 + r7.1), .int 0, .int ((-1))])), (p2, .inr (0, [.long r7.2])), (h_sort, .inl (cA 0, 40, .inl h_sort_v)), (h_x, .inl (cA 0, 40, .inl h_x_v)), (h_y, .inl (cA 0, 40, .inl h_y_v)), (h_z, .inl (cA 0, 40, .inl h_z_v))] H := hP
        have hD : va_D A [(h, .inr (1, [.ref h_sort, .ref h_x, .ref h_y, .ref h_z, .int (p1 + r7.1), .int 0, .int ((-1))])), (p2, .inr (0, [.long r7.2])), (h_sort, .inl (cA 0, 40, .inl h_sort_v)), (h_x, .inl (cA 0, 40, .inl h_x_v)), (h_y, .inl (cA 0, 40, .inl h_y_v)), (h_z, .inl (cA 0, 40, .inl h_z_v))] := hD
        refine lv_iconst (v := 0) hx hb dX1_fill_45 (by decide) ?_
        refine lv_istore (lv' := [(4, .int 0), (0, .ref h), (1, .int p0), (2, .int p1), (3, .ref p2)]) hx hb dX1_fill_46 hl (by decide) rfl (fun ls hl => ?_)
        refine kq_ind (fun n H locs g => ∃ (h_count : Int32) (h_fault : Int32) (h_faultPart : Int32) (p2_state : Int64) (h_sort_v : Nat → Int32) (h_x_v : Nat → Int32) (h_y_v : Nat → Int32) (h_z_v : Nat → Int32) (v4 : Int32) (ls : Array Slot), g = F0 m 48 ls [] ∧ lv_has ls 5 [(0, .ref h), (1, .int p0), (3, .ref p2), (4, .int v4)] ∧ va_P (dC, dI) vwCl [(h, .inr (1, [.ref h_sort, .ref h_x, .ref h_y, .ref h_z, .int h_count, .int h_fault, .int h_faultPart])), (p2, .inr (0, [.long p2_state])), (h_sort, .inl (cA 0, 40, .inl h_sort_v)), (h_x, .inl (cA 0, 40, .inl h_x_v)), (h_y, .inl (cA 0, 40, .inl h_y_v)), (h_z, .inl (cA 0, 40, .inl h_z_v))] H ∧ va_D A [(h, .inr (1, [.ref h_sort, .ref h_x, .ref h_y, .ref h_z, .int h_count, .int h_fault, .int h_faultPart])), (p2, .inr (0, [.long p2_state])), (h_sort, .inl (cA 0, 40, .inl h_sort_v)), (h_x, .inl (cA 0, 40, .inl h_x_v)), (h_y, .inl (cA 0, 40, .inl h_y_v)), (h_z, .inl (cA 0, 40, .inl h_z_v))] ∧ va_S A s.heap H locs ∧ f_X1_fill_L48 p0 p1 n h_count h_fault h_faultPart p2_state h_sort_v h_x_v h_y_v h_z_v v4 = some o) (fun H locs g h => ?_) (fun n48 ih48 H locs g h => ?_) 64 _ _ _ ⟨p1 + r7.1, 0, (-1), r7.2, h_sort_v, h_x_v, h_y_v, h_z_v, 0, ls, rfl, lv_sub hl [1, 2, 4, 0] rfl, hP, hD, hS, hf⟩
        · obtain ⟨h_count, h_fault, h_faultPart, p2_state, h_sort_v, h_x_v, h_y_v, h_z_v, v4, ls, -, -, -, -, -, hf⟩ := h
          have hf : (none : Option (Int32 × Int32 × Int32 × Int64 × (Nat → Int32) × (Nat → Int32) × (Nat → Int32) × (Nat → Int32))) = some o := hf
          cases hf
        · obtain ⟨h_count, h_fault, h_faultPart, p2_state, h_sort_v, h_x_v, h_y_v, h_z_v, v4, ls, rfl, hl, hP, hD, hS, hf⟩ := h
          have hf := (e_X1_fill_L48 p0 p1 n48 h_count h_fault h_faultPart p2_state h_sort_v h_x_v h_y_v h_z_v v4).symm.trans hf
          refine lv_iload hx hb dX1_fill_48 (lv_at hl 3 rfl) ?_
          refine lv_aload_n hx hb dX1_fill_50 rfl (lv_at hl 0 rfl) ?_
          refine va_get (D := (dC, dI)) (ci := 1) (v := .int h_count) (C := RX1) (T := TX1) (N := 7) hx hb hts iwX1 hown hK hP 0 rfl rfl 4 (by decide) (hts _ tw_64) (fun _ h9 => h9) rfl dX1_fill_51 ?_
          refine lv_icmp_ge (tgt := 123) hx hb dX1_fill_54 (by decide) (fun c49001 => ?_) (fun c49001 => ?_)
          · have hf := kp_p c49001 hf
            refine lv_aload_n hx hb dX1_fill_123 rfl (lv_at hl 0 rfl) ?_
            refine lv_iload_n hx hb dX1_fill_124 rfl (lv_at hl 1 rfl) ?_
            refine lv_aload_n hx hb dX1_fill_125 rfl (lv_at hl 2 rfl) ?_
            obtain ⟨r49002, hr49002, hf⟩ := kp_b hf
            have hPc := hP.sub (ws' := [(h, .inr (1, [.ref h_sort, .ref h_x, .ref h_y, .ref h_z, .int h_count, .int h_fault, .int h_faultPart])), (p2, .inr (0, [.long p2_state])), (h_sort, .inl (cA 0, 40, .inl h_sort_v)), (h_x, .inl (cA 0, 40, .inl h_x_v)), (h_y, .inl (cA 0, 40, .inl h_y_v)), (h_z, .inl (cA 0, 40, .inl h_z_v))]) [0, 1, 2, 3, 4, 5] rfl
            have hDc := hD.sub (ws' := [(h, .inr (1, [.ref h_sort, .ref h_x, .ref h_y, .ref h_z, .int h_count, .int h_fault, .int h_faultPart])), (p2, .inr (0, [.long p2_state])), (h_sort, .inl (cA 0, 40, .inl h_sort_v)), (h_x, .inl (cA 0, 40, .inl h_x_v)), (h_y, .inl (cA 0, 40, .inl h_y_v)), (h_z, .inl (cA 0, 40, .inl h_z_v))]) [0, 1, 2, 3, 4, 5] (by decide) rfl
            have hFc := va_free (wc := [(h, .inr (1, [.ref h_sort, .ref h_x, .ref h_y, .ref h_z, .int h_count, .int h_fault, .int h_faultPart])), (p2, .inr (0, [.long p2_state])), (h_sort, .inl (cA 0, 40, .inl h_sort_v)), (h_x, .inl (cA 0, 40, .inl h_x_v)), (h_y, .inl (cA 0, 40, .inl h_y_v)), (h_z, .inl (cA 0, 40, .inl h_z_v))]) hD hS hA [0, 1, 2, 3, 4, 5] rfl
            refine va_callv (va_runV (As := [.int p0, .ref p2]) (rest := []) ⟨hx, hb, hml, hown, hts⟩ (c_X1_plant l dC dI cA tt h p2 h_sort h_x h_y h_z H.size h_count h_fault h_faultPart p2_state h_sort_v h_x_v h_y_v h_z_v p0 r49002 hr49002) (cwV 2 hts (kq_gV tw_177 tw_179 tw_3 tw_23 tw_180) rfl rfl rfl (by decide +kernel) ⟨Nat.le_of_ble_eq_true rfl, Nat.le_of_ble_eq_true rfl⟩) ⟨kq_blind, va_recv hK hP (ci := 1) (q0 := 0) rfl rfl, kq_pre hG hZ hS hPc hDc hFc⟩ rfl rfl hl.1 rfl (lv_room (Nat.le_of_ble_eq_true rfl)) dX1_fill_126 ⟨Nat.le_of_ble_eq_true rfl, Nat.le_of_ble_eq_true rfl⟩) hS (fun q _ h => hFc q h) hFc (fun u t H1 locs ht hvm hw hB hz1 hk1 hS => ?_)
            obtain ⟨hP1, hD1⟩ := hB
            rw [ht] at hP1
            obtain ⟨hP, hD⟩ := va_join (wr := []) (w1 := [(h, .inr (1, [.ref h_sort, .ref h_x, .ref h_y, .ref h_z, .int h_count, .int r49002.1, .int r49002.2.1])), (p2, .inr (0, [.long r49002.2.2.1])), (h_sort, .inl (cA 0, 40, .inl r49002.2.2.2.1)), (h_x, .inl (cA 0, 40, .inl r49002.2.2.2.2.1)), (h_y, .inl (cA 0, 40, .inl r49002.2.2.2.2.2.1)), (h_z, .inl (cA 0, 40, .inl r49002.2.2.2.2.2.2))]) hP hD [0, 1, 2, 3, 4, 5] [] rfl rfl (by decide) (by decide) hk1 hFc hP1 hD1
            have hP : va_P (dC, dI) vwCl [(h, .inr (1, [.ref h_sort, .ref h_x, .ref h_y, .ref h_z, .int h_count, .int r49002.1, .int r49002.2.1])), (p2, .inr (0, [.long r49002.2.2.1])), (h_sort, .inl (cA 0, 40, .inl r49002.2.2.2.1)), (h_x, .inl (cA 0, 40, .inl r49002.2.2.2.2.1)), (h_y, .inl (cA 0, 40, .inl r49002.2.2.2.2.2.1)), (h_z, .inl (cA 0, 40, .inl r49002.2.2.2.2.2.2))] H1 := hP.sub [0, 1, 2, 3, 4, 5] rfl
            have hD : va_D A [(h, .inr (1, [.ref h_sort, .ref h_x, .ref h_y, .ref h_z, .int h_count, .int r49002.1, .int r49002.2.1])), (p2, .inr (0, [.long r49002.2.2.1])), (h_sort, .inl (cA 0, 40, .inl r49002.2.2.2.1)), (h_x, .inl (cA 0, 40, .inl r49002.2.2.2.2.1)), (h_y, .inl (cA 0, 40, .inl r49002.2.2.2.2.2.1)), (h_z, .inl (cA 0, 40, .inl r49002.2.2.2.2.2.2))] := hD.sub [0, 1, 2, 3, 4, 5] (by decide) rfl
            generalize H1 = H at hP hS ⊢
            have eo := Option.some.inj hf
            subst eo
            exact W.vret hx hb hr (fun t ht hW => ⟨⟨(), rfl, trivial, kq_mk ht hP hD⟩, hS.F ht⟩) hS.2.2 dX1_fill_129
          · have hf := kp_n c49001 hf
            refine lv_aload_n hx hb dX1_fill_57 rfl (lv_at hl 0 rfl) ?_
            refine va_get (D := (dC, dI)) (ci := 1) (v := .ref h_sort) (C := RX1) (T := TX1) (N := 7) hx hb hts iwX1 hown hK hP 0 rfl rfl 0 (by decide) (hts _ tw_58) (fun _ h9 => h9) rfl dX1_fill_58 ?_
            refine lv_iload hx hb dX1_fill_61 (lv_at hl 3 rfl) ?_
            refine lv_aload_n hx hb dX1_fill_63 rfl (lv_at hl 2 rfl) ?_
            refine va_getsN (v := .ref (tt 0)) hx hb hZ.1 hS hown (kq_nf hG (RX1, 47, RX4, "SORTS", "[I", "CarDrawer") (by decide +kernel)) (fun _ h9 => h9) dX1_fill_64 ?_
            refine lv_iload_n hx hb dX1_fill_67 rfl (lv_at hl 1 rfl) ?_
            obtain ⟨hq49003, hf⟩ := kp_t hf
            refine va_ti (v := .int (kq_t0 (p0).toNatClampNeg)) hx hb hZ.2.1 hS hq49003 rfl dX1_fill_68 ?_
            obtain ⟨r49004, hr49004, hf⟩ := kp_b hf
            have hPc := hP.sub (ws' := [(p2, .inr (0, [.long p2_state]))]) [1] rfl
            have hDc := hD.sub (ws' := [(p2, .inr (0, [.long p2_state]))]) [1] (by decide) rfl
            have hFc := va_free (wc := [(p2, .inr (0, [.long p2_state]))]) hD hS hA [1] rfl
            refine va_calli (va_runV (As := [.int (kq_t0 (p0).toNatClampNeg)]) (rest := [.int v4, .ref h_sort]) ⟨hx, hb, hml, hown, hts⟩ (c_X0_below l dC dI cA tt p2 H.size p2_state (kq_t0 (p0).toNatClampNeg) r49004 hr49004) (cwV 1 hts (kq_gV tw_161 tw_162 tw_163 tw_21 tw_164) rfl rfl rfl (by decide +kernel) ⟨Nat.le_of_ble_eq_true rfl, Nat.le_of_ble_eq_true rfl⟩) ⟨kq_blind, va_recv hK hP (ci := 0) (q0 := 1) rfl rfl, kq_pre hG hZ hS hPc hDc hFc⟩ rfl rfl hl.1 rfl (lv_room (Nat.le_of_ble_eq_true rfl)) dX1_fill_69 ⟨Nat.le_of_ble_eq_true rfl, Nat.le_of_ble_eq_true rfl⟩) hS (fun q _ h => hFc q h) hFc (fun rv u t H1 locs ht hvm hw hB hz1 hk1 hS => ?_)
            obtain ⟨hP1, hD1⟩ := hB
            rw [ht] at hP1
            have hw := hw.symm
            subst hw
            obtain ⟨hP, hD⟩ := va_join (wr := [(h, .inr (1, [.ref h_sort, .ref h_x, .ref h_y, .ref h_z, .int h_count, .int h_fault, .int h_faultPart])), (h_sort, .inl (cA 0, 40, .inl h_sort_v)), (h_x, .inl (cA 0, 40, .inl h_x_v)), (h_y, .inl (cA 0, 40, .inl h_y_v)), (h_z, .inl (cA 0, 40, .inl h_z_v))]) (w1 := [(p2, .inr (0, [.long r49004.2]))]) hP hD [1] [0, 2, 3, 4, 5] rfl rfl (by decide) (by decide) hk1 hFc hP1 hD1
            have hP : va_P (dC, dI) vwCl [(h, .inr (1, [.ref h_sort, .ref h_x, .ref h_y, .ref h_z, .int h_count, .int h_fault, .int h_faultPart])), (p2, .inr (0, [.long r49004.2])), (h_sort, .inl (cA 0, 40, .inl h_sort_v)), (h_x, .inl (cA 0, 40, .inl h_x_v)), (h_y, .inl (cA 0, 40, .inl h_y_v)), (h_z, .inl (cA 0, 40, .inl h_z_v))] H1 := hP.sub [0, 5, 1, 2, 3, 4] rfl
            have hD : va_D A [(h, .inr (1, [.ref h_sort, .ref h_x, .ref h_y, .ref h_z, .int h_count, .int h_fault, .int h_faultPart])), (p2, .inr (0, [.long r49004.2])), (h_sort, .inl (cA 0, 40, .inl h_sort_v)), (h_x, .inl (cA 0, 40, .inl h_x_v)), (h_y, .inl (cA 0, 40, .inl h_y_v)), (h_z, .inl (cA 0, 40, .inl h_z_v))] := hD.sub [0, 5, 1, 2, 3, 4] (by decide) rfl
            generalize H1 = H at hP hS ⊢
            obtain ⟨hq49005, hf⟩ := kp_t hf
            refine va_iast hx hb hK hP hD hS 2 0 rfl rfl hq49005 dX1_fill_72 (fun H locs hP hD hS => ?_)
            have hP : va_P (dC, dI) vwCl [(h, .inr (1, [.ref h_sort, .ref h_x, .ref h_y, .ref h_z, .int h_count, .int h_fault, .int h_faultPart])), (p2, .inr (0, [.long r49004.2])), (h_sort, .inl (cA 0, 40, .inl (upd h_sort_v v4.toNatClampNeg r49004.1))), (h_x, .inl (cA 0, 40, .inl h_x_v)), (h_y, .inl (cA 0, 40, .inl h_y_v)), (h_z, .inl (cA 0, 40, .inl h_z_v))] H := hP
            have hD : va_D A [(h, .inr (1, [.ref h_sort, .ref h_x, .ref h_y, .ref h_z, .int h_count, .int h_fault, .int h_faultPart])), (p2, .inr (0, [.long r49004.2])), (h_sort, .inl (cA 0, 40, .inl (upd h_sort_v v4.toNatClampNeg r49004.1))), (h_x, .inl (cA 0, 40, .inl h_x_v)), (h_y, .inl (cA 0, 40, .inl h_y_v)), (h_z, .inl (cA 0, 40, .inl h_z_v))] := hD
            refine lv_aload_n hx hb dX1_fill_73 rfl (lv_at hl 0 rfl) ?_
            refine va_get (D := (dC, dI)) (ci := 1) (v := .ref h_x) (C := RX1) (T := TX1) (N := 7) hx hb hts iwX1 hown hK hP 0 rfl rfl 1 (by decide) (hts _ tw_60) (fun _ h9 => h9) rfl dX1_fill_74 ?_
            refine lv_iload hx hb dX1_fill_77 (lv_at hl 3 rfl) ?_
            refine lv_aload_n hx hb dX1_fill_79 rfl (lv_at hl 0 rfl) ?_
            refine lv_iload_n hx hb dX1_fill_80 rfl (lv_at hl 1 rfl) ?_
            refine lv_iload hx hb dX1_fill_81 (lv_at hl 3 rfl) ?_
            refine lv_aload_n hx hb dX1_fill_83 rfl (lv_at hl 2 rfl) ?_
            obtain ⟨r49006, hr49006, hf⟩ := kp_b hf
            have hPc := hP.sub (ws' := [(h, .inr (1, [.ref h_sort, .ref h_x, .ref h_y, .ref h_z, .int h_count, .int h_fault, .int h_faultPart])), (p2, .inr (0, [.long r49004.2])), (h_sort, .inl (cA 0, 40, .inl (upd h_sort_v v4.toNatClampNeg r49004.1))), (h_x, .inl (cA 0, 40, .inl h_x_v))]) [0, 1, 2, 3] rfl
            have hDc := hD.sub (ws' := [(h, .inr (1, [.ref h_sort, .ref h_x, .ref h_y, .ref h_z, .int h_count, .int h_fault, .int h_faultPart])), (p2, .inr (0, [.long r49004.2])), (h_sort, .inl (cA 0, 40, .inl (upd h_sort_v v4.toNatClampNeg r49004.1))), (h_x, .inl (cA 0, 40, .inl h_x_v))]) [0, 1, 2, 3] (by decide) rfl
            have hFc := va_free (wc := [(h, .inr (1, [.ref h_sort, .ref h_x, .ref h_y, .ref h_z, .int h_count, .int h_fault, .int h_faultPart])), (p2, .inr (0, [.long r49004.2])), (h_sort, .inl (cA 0, 40, .inl (upd h_sort_v v4.toNatClampNeg r49004.1))), (h_x, .inl (cA 0, 40, .inl h_x_v))]) hD hS hA [0, 1, 2, 3] rfl
            refine va_calli (va_runV (As := [.int p0, .int v4, .ref p2]) (rest := [.int v4, .ref h_x]) ⟨hx, hb, hml, hown, hts⟩ (c_X1_drawX l dC dI cA tt h p2 h_sort h_x h_y h_z H.size h_count h_fault h_faultPart r49004.2 (upd h_sort_v v4.toNatClampNeg r49004.1) h_x_v p0 v4 r49006 hr49006) (cwV 3 hts (kq_gV tw_169 tw_171 tw_1 tw_23 tw_172) rfl rfl rfl (by decide +kernel) ⟨Nat.le_of_ble_eq_true rfl, Nat.le_of_ble_eq_true rfl⟩) ⟨kq_blind, va_recv hK hP (ci := 1) (q0 := 0) rfl rfl, kq_pre hG hZ hS hPc hDc hFc⟩ rfl rfl hl.1 rfl (lv_room (Nat.le_of_ble_eq_true rfl)) dX1_fill_84 ⟨Nat.le_of_ble_eq_true rfl, Nat.le_of_ble_eq_true rfl⟩) hS (fun q _ h => hFc q h) hFc (fun rv u t H1 locs ht hvm hw hB hz1 hk1 hS => ?_)
            obtain ⟨hP1, hD1⟩ := hB
            rw [ht] at hP1
            have hw := hw.symm
            subst hw
            obtain ⟨hP, hD⟩ := va_join (wr := [(h_y, .inl (cA 0, 40, .inl h_y_v)), (h_z, .inl (cA 0, 40, .inl h_z_v))]) (w1 := [(h, .inr (1, [.ref h_sort, .ref h_x, .ref h_y, .ref h_z, .int h_count, .int h_fault, .int h_faultPart])), (p2, .inr (0, [.long r49006.2])), (h_sort, .inl (cA 0, 40, .inl (upd h_sort_v v4.toNatClampNeg r49004.1))), (h_x, .inl (cA 0, 40, .inl h_x_v))]) hP hD [0, 1, 2, 3] [4, 5] rfl rfl (by decide) (by decide) hk1 hFc hP1 hD1
            have hP : va_P (dC, dI) vwCl [(h, .inr (1, [.ref h_sort, .ref h_x, .ref h_y, .ref h_z, .int h_count, .int h_fault, .int h_faultPart])), (p2, .inr (0, [.long r49006.2])), (h_sort, .inl (cA 0, 40, .inl (upd h_sort_v v4.toNatClampNeg r49004.1))), (h_x, .inl (cA 0, 40, .inl h_x_v)), (h_y, .inl (cA 0, 40, .inl h_y_v)), (h_z, .inl (cA 0, 40, .inl h_z_v))] H1 := hP.sub [2, 3, 4, 5, 0, 1] rfl
            have hD : va_D A [(h, .inr (1, [.ref h_sort, .ref h_x, .ref h_y, .ref h_z, .int h_count, .int h_fault, .int h_faultPart])), (p2, .inr (0, [.long r49006.2])), (h_sort, .inl (cA 0, 40, .inl (upd h_sort_v v4.toNatClampNeg r49004.1))), (h_x, .inl (cA 0, 40, .inl h_x_v)), (h_y, .inl (cA 0, 40, .inl h_y_v)), (h_z, .inl (cA 0, 40, .inl h_z_v))] := hD.sub [2, 3, 4, 5, 0, 1] (by decide) rfl
            generalize H1 = H at hP hS ⊢
            refine va_iast hx hb hK hP hD hS 3 0 rfl rfl hq49005 dX1_fill_87 (fun H locs hP hD hS => ?_)
            have hP : va_P (dC, dI) vwCl [(h, .inr (1, [.ref h_sort, .ref h_x, .ref h_y, .ref h_z, .int h_count, .int h_fault, .int h_faultPart])), (p2, .inr (0, [.long r49006.2])), (h_sort, .inl (cA 0, 40, .inl (upd h_sort_v v4.toNatClampNeg r49004.1))), (h_x, .inl (cA 0, 40, .inl (upd h_x_v v4.toNatClampNeg r49006.1))), (h_y, .inl (cA 0, 40, .inl h_y_v)), (h_z, .inl (cA 0, 40, .inl h_z_v))] H := hP
            have hD : va_D A [(h, .inr (1, [.ref h_sort, .ref h_x, .ref h_y, .ref h_z, .int h_count, .int h_fault, .int h_faultPart])), (p2, .inr (0, [.long r49006.2])), (h_sort, .inl (cA 0, 40, .inl (upd h_sort_v v4.toNatClampNeg r49004.1))), (h_x, .inl (cA 0, 40, .inl (upd h_x_v v4.toNatClampNeg r49006.1))), (h_y, .inl (cA 0, 40, .inl h_y_v)), (h_z, .inl (cA 0, 40, .inl h_z_v))] := hD
            refine lv_aload_n hx hb dX1_fill_88 rfl (lv_at hl 0 rfl) ?_
            refine va_get (D := (dC, dI)) (ci := 1) (v := .ref h_y) (C := RX1) (T := TX1) (N := 7) hx hb hts iwX1 hown hK hP 0 rfl rfl 2 (by decide) (hts _ tw_61) (fun _ h9 => h9) rfl dX1_fill_89 ?_
            refine lv_iload hx hb dX1_fill_92 (lv_at hl 3 rfl) ?_
            refine lv_aload_n hx hb dX1_fill_94 rfl (lv_at hl 0 rfl) ?_
            refine lv_iload_n hx hb dX1_fill_95 rfl (lv_at hl 1 rfl) ?_
            refine lv_iload hx hb dX1_fill_96 (lv_at hl 3 rfl) ?_
            refine lv_aload_n hx hb dX1_fill_98 rfl (lv_at hl 2 rfl) ?_
            obtain ⟨r49008, hr49008, hf⟩ := kp_b hf
            have hPc := hP.sub (ws' := [(h, .inr (1, [.ref h_sort, .ref h_x, .ref h_y, .ref h_z, .int h_count, .int h_fault, .int h_faultPart])), (p2, .inr (0, [.long r49006.2])), (h_sort, .inl (cA 0, 40, .inl (upd h_sort_v v4.toNatClampNeg r49004.1))), (h_x, .inl (cA 0, 40, .inl (upd h_x_v v4.toNatClampNeg r49006.1))), (h_y, .inl (cA 0, 40, .inl h_y_v))]) [0, 1, 2, 3, 4] rfl
            have hDc := hD.sub (ws' := [(h, .inr (1, [.ref h_sort, .ref h_x, .ref h_y, .ref h_z, .int h_count, .int h_fault, .int h_faultPart])), (p2, .inr (0, [.long r49006.2])), (h_sort, .inl (cA 0, 40, .inl (upd h_sort_v v4.toNatClampNeg r49004.1))), (h_x, .inl (cA 0, 40, .inl (upd h_x_v v4.toNatClampNeg r49006.1))), (h_y, .inl (cA 0, 40, .inl h_y_v))]) [0, 1, 2, 3, 4] (by decide) rfl
            have hFc := va_free (wc := [(h, .inr (1, [.ref h_sort, .ref h_x, .ref h_y, .ref h_z, .int h_count, .int h_fault, .int h_faultPart])), (p2, .inr (0, [.long r49006.2])), (h_sort, .inl (cA 0, 40, .inl (upd h_sort_v v4.toNatClampNeg r49004.1))), (h_x, .inl (cA 0, 40, .inl (upd h_x_v v4.toNatClampNeg r49006.1))), (h_y, .inl (cA 0, 40, .inl h_y_v))]) hD hS hA [0, 1, 2, 3, 4] rfl
            refine va_calli (va_runV (As := [.int p0, .int v4, .ref p2]) (rest := [.int v4, .ref h_y]) ⟨hx, hb, hml, hown, hts⟩ (c_X1_drawY l dC dI cA tt h p2 h_sort h_x h_y h_z H.size h_count h_fault h_faultPart r49006.2 (upd h_sort_v v4.toNatClampNeg r49004.1) (upd h_x_v v4.toNatClampNeg r49006.1) h_y_v p0 v4 r49008 hr49008) (cwV 3 hts (kq_gV tw_173 tw_175 tw_2 tw_23 tw_176) rfl rfl rfl (by decide +kernel) ⟨Nat.le_of_ble_eq_true rfl, Nat.le_of_ble_eq_true rfl⟩) ⟨kq_blind, va_recv hK hP (ci := 1) (q0 := 0) rfl rfl, kq_pre hG hZ hS hPc hDc hFc⟩ rfl rfl hl.1 rfl (lv_room (Nat.le_of_ble_eq_true rfl)) dX1_fill_99 ⟨Nat.le_of_ble_eq_true rfl, Nat.le_of_ble_eq_true rfl⟩) hS (fun q _ h => hFc q h) hFc (fun rv u t H1 locs ht hvm hw hB hz1 hk1 hS => ?_)
            obtain ⟨hP1, hD1⟩ := hB
            rw [ht] at hP1
            have hw := hw.symm
            subst hw
            obtain ⟨hP, hD⟩ := va_join (wr := [(h_z, .inl (cA 0, 40, .inl h_z_v))]) (w1 := [(h, .inr (1, [.ref h_sort, .ref h_x, .ref h_y, .ref h_z, .int h_count, .int h_fault, .int h_faultPart])), (p2, .inr (0, [.long r49008.2])), (h_sort, .inl (cA 0, 40, .inl (upd h_sort_v v4.toNatClampNeg r49004.1))), (h_x, .inl (cA 0, 40, .inl (upd h_x_v v4.toNatClampNeg r49006.1))), (h_y, .inl (cA 0, 40, .inl h_y_v))]) hP hD [0, 1, 2, 3, 4] [5] rfl rfl (by decide) (by decide) hk1 hFc hP1 hD1
            have hP : va_P (dC, dI) vwCl [(h, .inr (1, [.ref h_sort, .ref h_x, .ref h_y, .ref h_z, .int h_count, .int h_fault, .int h_faultPart])), (p2, .inr (0, [.long r49008.2])), (h_sort, .inl (cA 0, 40, .inl (upd h_sort_v v4.toNatClampNeg r49004.1))), (h_x, .inl (cA 0, 40, .inl (upd h_x_v v4.toNatClampNeg r49006.1))), (h_y, .inl (cA 0, 40, .inl h_y_v)), (h_z, .inl (cA 0, 40, .inl h_z_v))] H1 := hP.sub [1, 2, 3, 4, 5, 0] rfl
            have hD : va_D A [(h, .inr (1, [.ref h_sort, .ref h_x, .ref h_y, .ref h_z, .int h_count, .int h_fault, .int h_faultPart])), (p2, .inr (0, [.long r49008.2])), (h_sort, .inl (cA 0, 40, .inl (upd h_sort_v v4.toNatClampNeg r49004.1))), (h_x, .inl (cA 0, 40, .inl (upd h_x_v v4.toNatClampNeg r49006.1))), (h_y, .inl (cA 0, 40, .inl h_y_v)), (h_z, .inl (cA 0, 40, .inl h_z_v))] := hD.sub [1, 2, 3, 4, 5, 0] (by decide) rfl
            generalize H1 = H at hP hS ⊢
            refine va_iast hx hb hK hP hD hS 4 0 rfl rfl hq49005 dX1_fill_102 (fun H locs hP hD hS => ?_)
            have hP : va_P (dC, dI) vwCl [(h, .inr (1, [.ref h_sort, .ref h_x, .ref h_y, .ref h_z, .int h_count, .int h_fault, .int h_faultPart])), (p2, .inr (0, [.long r49008.2])), (h_sort, .inl (cA 0, 40, .inl (upd h_sort_v v4.toNatClampNeg r49004.1))), (h_x, .inl (cA 0, 40, .inl (upd h_x_v v4.toNatClampNeg r49006.1))), (h_y, .inl (cA 0, 40, .inl (upd h_y_v v4.toNatClampNeg r49008.1))), (h_z, .inl (cA 0, 40, .inl h_z_v))] H := hP
            have hD : va_D A [(h, .inr (1, [.ref h_sort, .ref h_x, .ref h_y, .ref h_z, .int h_count, .int h_fault, .int h_faultPart])), (p2, .inr (0, [.long r49008.2])), (h_sort, .inl (cA 0, 40, .inl (upd h_sort_v v4.toNatClampNeg r49004.1))), (h_x, .inl (cA 0, 40, .inl (upd h_x_v v4.toNatClampNeg r49006.1))), (h_y, .inl (cA 0, 40, .inl (upd h_y_v v4.toNatClampNeg r49008.1))), (h_z, .inl (cA 0, 40, .inl h_z_v))] := hD
            refine lv_aload_n hx hb dX1_fill_103 rfl (lv_at hl 0 rfl) ?_
            refine va_get (D := (dC, dI)) (ci := 1) (v := .ref h_z) (C := RX1) (T := TX1) (N := 7) hx hb hts iwX1 hown hK hP 0 rfl rfl 3 (by decide) (hts _ tw_62) (fun _ h9 => h9) rfl dX1_fill_104 ?_
            refine lv_iload hx hb dX1_fill_107 (lv_at hl 3 rfl) ?_
            refine lv_aload_n hx hb dX1_fill_109 rfl (lv_at hl 2 rfl) ?_
            refine lv_sipush (v := 1000) hx hb dX1_fill_110 (by decide) ?_
            obtain ⟨r49010, hr49010, hf⟩ := kp_b hf
            have hPc := hP.sub (ws' := [(p2, .inr (0, [.long r49008.2]))]) [1] rfl
            have hDc := hD.sub (ws' := [(p2, .inr (0, [.long r49008.2]))]) [1] (by decide) rfl
            have hFc := va_free (wc := [(p2, .inr (0, [.long r49008.2]))]) hD hS hA [1] rfl
            refine va_calli (va_runV (As := [.int 1000]) (rest := [.int v4, .ref h_z]) ⟨hx, hb, hml, hown, hts⟩ (c_X0_below l dC dI cA tt p2 H.size r49008.2 1000 r49010 hr49010) (cwV 1 hts (kq_gV tw_161 tw_162 tw_163 tw_21 tw_164) rfl rfl rfl (by decide +kernel) ⟨Nat.le_of_ble_eq_true rfl, Nat.le_of_ble_eq_true rfl⟩) ⟨kq_blind, va_recv hK hP (ci := 0) (q0 := 1) rfl rfl, kq_pre hG hZ hS hPc hDc hFc⟩ rfl rfl hl.1 rfl (lv_room (Nat.le_of_ble_eq_true rfl)) dX1_fill_113 ⟨Nat.le_of_ble_eq_true rfl, Nat.le_of_ble_eq_true rfl⟩) hS (fun q _ h => hFc q h) hFc (fun rv u t H1 locs ht hvm hw hB hz1 hk1 hS => ?_)
            obtain ⟨hP1, hD1⟩ := hB
            rw [ht] at hP1
            have hw := hw.symm
            subst hw
            obtain ⟨hP, hD⟩ := va_join (wr := [(h, .inr (1, [.ref h_sort, .ref h_x, .ref h_y, .ref h_z, .int h_count, .int h_fault, .int h_faultPart])), (h_sort, .inl (cA 0, 40, .inl (upd h_sort_v v4.toNatClampNeg r49004.1))), (h_x, .inl (cA 0, 40, .inl (upd h_x_v v4.toNatClampNeg r49006.1))), (h_y, .inl (cA 0, 40, .inl (upd h_y_v v4.toNatClampNeg r49008.1))), (h_z, .inl (cA 0, 40, .inl h_z_v))]) (w1 := [(p2, .inr (0, [.long r49010.2]))]) hP hD [1] [0, 2, 3, 4, 5] rfl rfl (by decide) (by decide) hk1 hFc hP1 hD1
            have hP : va_P (dC, dI) vwCl [(h, .inr (1, [.ref h_sort, .ref h_x, .ref h_y, .ref h_z, .int h_count, .int h_fault, .int h_faultPart])), (p2, .inr (0, [.long r49010.2])), (h_sort, .inl (cA 0, 40, .inl (upd h_sort_v v4.toNatClampNeg r49004.1))), (h_x, .inl (cA 0, 40, .inl (upd h_x_v v4.toNatClampNeg r49006.1))), (h_y, .inl (cA 0, 40, .inl (upd h_y_v v4.toNatClampNeg r49008.1))), (h_z, .inl (cA 0, 40, .inl h_z_v))] H1 := hP.sub [0, 5, 1, 2, 3, 4] rfl
            have hD : va_D A [(h, .inr (1, [.ref h_sort, .ref h_x, .ref h_y, .ref h_z, .int h_count, .int h_fault, .int h_faultPart])), (p2, .inr (0, [.long r49010.2])), (h_sort, .inl (cA 0, 40, .inl (upd h_sort_v v4.toNatClampNeg r49004.1))), (h_x, .inl (cA 0, 40, .inl (upd h_x_v v4.toNatClampNeg r49006.1))), (h_y, .inl (cA 0, 40, .inl (upd h_y_v v4.toNatClampNeg r49008.1))), (h_z, .inl (cA 0, 40, .inl h_z_v))] := hD.sub [0, 5, 1, 2, 3, 4] (by decide) rfl
            generalize H1 = H at hP hS ⊢
            refine va_iast hx hb hK hP hD hS 5 0 rfl rfl hq49005 dX1_fill_116 (fun H locs hP hD hS => ?_)
            have hP : va_P (dC, dI) vwCl [(h, .inr (1, [.ref h_sort, .ref h_x, .ref h_y, .ref h_z, .int h_count, .int h_fault, .int h_faultPart])), (p2, .inr (0, [.long r49010.2])), (h_sort, .inl (cA 0, 40, .inl (upd h_sort_v v4.toNatClampNeg r49004.1))), (h_x, .inl (cA 0, 40, .inl (upd h_x_v v4.toNatClampNeg r49006.1))), (h_y, .inl (cA 0, 40, .inl (upd h_y_v v4.toNatClampNeg r49008.1))), (h_z, .inl (cA 0, 40, .inl (upd h_z_v v4.toNatClampNeg r49010.1)))] H := hP
            have hD : va_D A [(h, .inr (1, [.ref h_sort, .ref h_x, .ref h_y, .ref h_z, .int h_count, .int h_fault, .int h_faultPart])), (p2, .inr (0, [.long r49010.2])), (h_sort, .inl (cA 0, 40, .inl (upd h_sort_v v4.toNatClampNeg r49004.1))), (h_x, .inl (cA 0, 40, .inl (upd h_x_v v4.toNatClampNeg r49006.1))), (h_y, .inl (cA 0, 40, .inl (upd h_y_v v4.toNatClampNeg r49008.1))), (h_z, .inl (cA 0, 40, .inl (upd h_z_v v4.toNatClampNeg r49010.1)))] := hD
            refine lv_iinc (v := v4 + 1) (lv' := [(4, .int (v4 + 1)), (0, .ref h), (1, .int p0), (3, .ref p2)]) hx hb dX1_fill_117 hl (k := 3) rfl rfl (by decide) rfl (fun ls hl => ?_)
            refine lv_goto (tgt := 48) hx hb dX1_fill_120 (by decide) ?_
            exact ih48 _ _ _ ⟨h_count, h_fault, h_faultPart, r49010.2, upd h_sort_v v4.toNatClampNeg r49004.1, upd h_x_v v4.toNatClampNeg r49006.1, upd h_y_v v4.toNatClampNeg r49008.1, upd h_z_v v4.toNatClampNeg r49010.1, v4 + 1, ls, rfl, lv_sub hl [1, 2, 3, 0] rfl, hP, hD, hS, hf⟩
      · have hf := kp_p c6 hf
        refine lv_aload_n hx hb dX1_fill_27 rfl (lv_at hl 0 rfl) ?_
        obtain ⟨r8, hr8, hf⟩ := kp_b hf
        have hPc := hP.sub (ws' := [(h, .inr (1, [.ref h_sort, .ref h_x, .ref h_y, .ref h_z, .int h_count, .int 0, .int ((-1))])), (h_sort, .inl (cA 0, 40, .inl h_sort_v)), (h_x, .inl (cA 0, 40, .inl h_x_v)), (h_y, .inl (cA 0, 40, .inl h_y_v)), (h_z, .inl (cA 0, 40, .inl h_z_v))]) [0, 2, 3, 4, 5] rfl
        have hDc := hD.sub (ws' := [(h, .inr (1, [.ref h_sort, .ref h_x, .ref h_y, .ref h_z, .int h_count, .int 0, .int ((-1))])), (h_sort, .inl (cA 0, 40, .inl h_sort_v)), (h_x, .inl (cA 0, 40, .inl h_x_v)), (h_y, .inl (cA 0, 40, .inl h_y_v)), (h_z, .inl (cA 0, 40, .inl h_z_v))]) [0, 2, 3, 4, 5] (by decide) rfl
        have hFc := va_free (wc := [(h, .inr (1, [.ref h_sort, .ref h_x, .ref h_y, .ref h_z, .int h_count, .int 0, .int ((-1))])), (h_sort, .inl (cA 0, 40, .inl h_sort_v)), (h_x, .inl (cA 0, 40, .inl h_x_v)), (h_y, .inl (cA 0, 40, .inl h_y_v)), (h_z, .inl (cA 0, 40, .inl h_z_v))]) hD hS hA [0, 2, 3, 4, 5] rfl
        refine va_callv (va_runV (As := []) (rest := []) ⟨hx, hb, hml, hown, hts⟩ (c_X1_fillWithNought l dC dI cA tt h h_sort h_x h_y h_z H.size h_count 0 ((-1)) h_sort_v h_x_v h_y_v h_z_v r8 hr8) (cwV 0 hts (kq_gV tw_157 tw_159 tw_0 tw_23 tw_160) rfl rfl rfl (by decide +kernel) ⟨Nat.le_of_ble_eq_true rfl, Nat.le_of_ble_eq_true rfl⟩) ⟨kq_blind, va_recv hK hP (ci := 1) (q0 := 0) rfl rfl, kq_pre hG hZ hS hPc hDc hFc⟩ rfl rfl hl.1 rfl (lv_room (Nat.le_of_ble_eq_true rfl)) dX1_fill_28 ⟨Nat.le_of_ble_eq_true rfl, Nat.le_of_ble_eq_true rfl⟩) hS (fun q _ h => hFc q h) hFc (fun u t H1 locs ht hvm hw hB hz1 hk1 hS => ?_)
        obtain ⟨hP1, hD1⟩ := hB
        rw [ht] at hP1
        obtain ⟨hP, hD⟩ := va_join (wr := [(p2, .inr (0, [.long p2_state]))]) (w1 := [(h, .inr (1, [.ref h_sort, .ref h_x, .ref h_y, .ref h_z, .int r8.1, .int 0, .int ((-1))])), (h_sort, .inl (cA 0, 40, .inl r8.2.1)), (h_x, .inl (cA 0, 40, .inl r8.2.2.1)), (h_y, .inl (cA 0, 40, .inl r8.2.2.2.1)), (h_z, .inl (cA 0, 40, .inl r8.2.2.2.2))]) hP hD [0, 2, 3, 4, 5] [1] rfl rfl (by decide) (by decide) hk1 hFc hP1 hD1
        have hP : va_P (dC, dI) vwCl [(h, .inr (1, [.ref h_sort, .ref h_x, .ref h_y, .ref h_z, .int r8.1, .int 0, .int ((-1))])), (p2, .inr (0, [.long p2_state])), (h_sort, .inl (cA 0, 40, .inl r8.2.1)), (h_x, .inl (cA 0, 40, .inl r8.2.2.1)), (h_y, .inl (cA 0, 40, .inl r8.2.2.2.1)), (h_z, .inl (cA 0, 40, .inl r8.2.2.2.2))] H1 := hP.sub [1, 0, 2, 3, 4, 5] rfl
        have hD : va_D A [(h, .inr (1, [.ref h_sort, .ref h_x, .ref h_y, .ref h_z, .int r8.1, .int 0, .int ((-1))])), (p2, .inr (0, [.long p2_state])), (h_sort, .inl (cA 0, 40, .inl r8.2.1)), (h_x, .inl (cA 0, 40, .inl r8.2.2.1)), (h_y, .inl (cA 0, 40, .inl r8.2.2.2.1)), (h_z, .inl (cA 0, 40, .inl r8.2.2.2.2))] := hD.sub [1, 0, 2, 3, 4, 5] (by decide) rfl
        generalize H1 = H at hP hS ⊢
        have eo := Option.some.inj hf
        subst eo
        exact W.vret hx hb hr (fun t ht hW => ⟨⟨(), rfl, trivial, kq_mk ht hP hD⟩, hS.F ht⟩) hS.2.2 dX1_fill_31

def f_X1_has (h_count : Int32) (p0 : Int32) : Option (Int32) :=
    (if p0 < 0 then
    some 0
    else
    (if h_count ≤ p0 then
    some 0
    else
    some 1))
set_option maxHeartbeats 4000000 in
set_option maxRecDepth 100000 in
theorem c_X1_has (l : Launch) (dC : Nat → ClassId) (dI : Nat → Nat → Nat) (cA : Nat → ClassId) (tt : Nat → Nat) (h h_sort h_x h_y h_z : Nat) (sz : Nat) (h_count : Int32) (h_fault : Int32) (h_faultPart : Int32) (p0 : Int32) (o : Int32) (hf : f_X1_has h_count p0 = some o) : Met l yX1_has wX1_has ({ frames := 0, cells := 0, slots := 0, locals := 0 }) (kq_Pc dC dI cA tt [.ref h, .int p0] [(h, .inr (1, [.ref h_sort, .ref h_x, .ref h_y, .ref h_z, .int h_count, .int h_fault, .int h_faultPart]))] sz) (va_Qi (fun r (_ : Unit) => r = o) (fun _ t => kq_B dC dI [(h, .inr (1, [.ref h_sort, .ref h_x, .ref h_y, .ref h_z, .int h_count, .int h_fault, .int h_faultPart]))] (va_A [(h, .inr (1, [.ref h_sort, .ref h_x, .ref h_y, .ref h_z, .int h_count, .int h_fault, .int h_faultPart]))] sz) t) (va_A [(h, .inr (1, [.ref h_sort, .ref h_x, .ref h_y, .ref h_z, .int h_count, .int h_fault, .int h_faultPart]))] sz)) 0 0 (va_A [(h, .inr (1, [.ref h_sort, .ref h_x, .ref h_y, .ref h_z, .int h_count, .int h_fault, .int h_faultPart]))] sz) := by
  refine Met.ofW (cc := cX1_has) (maxL := 2) (ret := (some .boolean)) (by decide) rfl ?_
  intro p e s m args below meth c s₁ B hml hv
  obtain ⟨rfl, hsz, hP, hD0, hG, hZ⟩ := hv
  have hx := B.exec
  have hb := B.bytes
  have hr := B.returns
  have hts : ∀ w ∈ kq_T, w.before _ s = true := fun w h => atoms_spec (ws := wX1_has) B.pre w (List.mem_cons_of_mem _ h)
  have hown : s.vm.findClass RX1 = some m.cls := findClass_of_methodNamed B.named
  have hlocks := B.notSynchronized
  have hK := hG.1
  subst hsz
  have hD := hD0.self (sz := s.heap.size)
  generalize hAe : va_A [(h, .inr (1, [.ref h_sort, .ref h_x, .ref h_y, .ref h_z, .int h_count, .int h_fault, .int h_faultPart]))] s.heap.size = A at hD hZ ⊢
  have hA : ∀ q : Nat, s.heap.size ≤ q → A q := fun q h => by rw [← hAe]; exact Or.inr h
  have hl := lv_entry [.ref h, .int p0] (n := 2) (Nat.le_of_ble_eq_true rfl)
  rw [lg_entry_eq]
  generalize (lg_sl [.ref h, .int p0] ++ List.replicate (2 - (lg_sl [.ref h, .int p0]).length) Slot.unset).toArray = ls at hl ⊢
  have hl : lv_has ls 2 [(0, .ref h), (1, .int p0)] := hl
  obtain ⟨H, hHe⟩ : ∃ H : Heap, H = s.heap := ⟨_, rfl⟩
  have hP : va_P (dC, dI) vwCl [(h, .inr (1, [.ref h_sort, .ref h_x, .ref h_y, .ref h_z, .int h_count, .int h_fault, .int h_faultPart]))] H := by rw [hHe]; exact hP
  have hS : va_S A s.heap H [] := by rw [hHe]; exact va_S.rf
  rw [← hHe]
  unfold f_X1_has at hf
  refine lv_iload_n hx hb dX1_has_0 rfl (lv_at hl 1 rfl) ?_
  refine lv_if_lt (tgt := 16) hx hb dX1_has_1 (by decide) (fun c1 => ?_) (fun c1 => ?_)
  · have hf := kp_p c1 hf
    refine lv_iconst (v := 0) hx hb dX1_has_16 (by decide) ?_
    have eo := Option.some.inj hf
    subst eo
    exact W.zret (v := 0) hx hb hr rfl (fun t ht hW => ⟨⟨_, (), rfl, rfl, kq_mk ht hP hD⟩, hS.F ht⟩) hS.2.2 dX1_has_17
  · have hf := kp_n c1 hf
    refine lv_iload_n hx hb dX1_has_4 rfl (lv_at hl 1 rfl) ?_
    refine lv_aload_n hx hb dX1_has_5 rfl (lv_at hl 0 rfl) ?_
    refine va_get (D := (dC, dI)) (ci := 1) (v := .int h_count) (C := RX1) (T := TX1) (N := 7) hx hb hts iwX1 hown hK hP 0 rfl rfl 4 (by decide) (hts _ tw_64) (fun _ h9 => h9) rfl dX1_has_6 ?_
    refine lv_icmp_ge (tgt := 16) hx hb dX1_has_9 (by decide) (fun c2 => ?_) (fun c2 => ?_)
    · have hf := kp_p c2 hf
      refine lv_iconst (v := 0) hx hb dX1_has_16 (by decide) ?_
      have eo := Option.some.inj hf
      subst eo
      exact W.zret (v := 0) hx hb hr rfl (fun t ht hW => ⟨⟨_, (), rfl, rfl, kq_mk ht hP hD⟩, hS.F ht⟩) hS.2.2 dX1_has_17
    · have hf := kp_n c2 hf
      refine lv_iconst (v := 1) hx hb dX1_has_12 (by decide) ?_
      refine lv_goto (tgt := 17) hx hb dX1_has_13 (by decide) ?_
      have eo := Option.some.inj hf
      subst eo
      exact W.zret (v := 1) hx hb hr rfl (fun t ht hW => ⟨⟨_, (), rfl, rfl, kq_mk ht hP hD⟩, hS.F ht⟩) hS.2.2 dX1_has_17

def f_X1_number (h_sort_v : Nat → Int32) (h_x_v : Nat → Int32) (h_y_v : Nat → Int32) (h_z_v : Nat → Int32) (p0 : Int32) (p1 : Int32) : Option (Int32) :=
    (if p1 = 0 then
    if p0 < 0 ∨ 40 ≤ p0.toNatClampNeg then none else
    some (h_sort_v p0.toNatClampNeg)
    else
    (if p1 = 1 then
    if p0 < 0 ∨ 40 ≤ p0.toNatClampNeg then none else
    some (h_x_v p0.toNatClampNeg)
    else
    (if p1 = 2 then
    if p0 < 0 ∨ 40 ≤ p0.toNatClampNeg then none else
    some (h_y_v p0.toNatClampNeg)
    else
    if p0 < 0 ∨ 40 ≤ p0.toNatClampNeg then none else
    some (h_z_v p0.toNatClampNeg))))
set_option maxHeartbeats 4000000 in
set_option maxRecDepth 100000 in
theorem c_X1_number (l : Launch) (dC : Nat → ClassId) (dI : Nat → Nat → Nat) (cA : Nat → ClassId) (tt : Nat → Nat) (h h_sort h_x h_y h_z : Nat) (sz : Nat) (h_count : Int32) (h_fault : Int32) (h_faultPart : Int32) (h_sort_v : Nat → Int32) (h_x_v : Nat → Int32) (h_y_v : Nat → Int32) (h_z_v : Nat → Int32) (p0 : Int32) (p1 : Int32) (o : Int32) (hf : f_X1_number h_sort_v h_x_v h_y_v h_z_v p0 p1 = some o) : Met l yX1_number wX1_number ({ frames := 0, cells := 0, slots := 0, locals := 0 }) (kq_Pc dC dI cA tt [.ref h, .int p0, .int p1] [(h, .inr (1, [.ref h_sort, .ref h_x, .ref h_y, .ref h_z, .int h_count, .int h_fault, .int h_faultPart])), (h_sort, .inl (cA 0, 40, .inl h_sort_v)), (h_x, .inl (cA 0, 40, .inl h_x_v)), (h_y, .inl (cA 0, 40, .inl h_y_v)), (h_z, .inl (cA 0, 40, .inl h_z_v))] sz) (va_Qi (fun r (_ : Unit) => r = o) (fun _ t => kq_B dC dI [(h, .inr (1, [.ref h_sort, .ref h_x, .ref h_y, .ref h_z, .int h_count, .int h_fault, .int h_faultPart])), (h_sort, .inl (cA 0, 40, .inl h_sort_v)), (h_x, .inl (cA 0, 40, .inl h_x_v)), (h_y, .inl (cA 0, 40, .inl h_y_v)), (h_z, .inl (cA 0, 40, .inl h_z_v))] (va_A [(h, .inr (1, [.ref h_sort, .ref h_x, .ref h_y, .ref h_z, .int h_count, .int h_fault, .int h_faultPart])), (h_sort, .inl (cA 0, 40, .inl h_sort_v)), (h_x, .inl (cA 0, 40, .inl h_x_v)), (h_y, .inl (cA 0, 40, .inl h_y_v)), (h_z, .inl (cA 0, 40, .inl h_z_v))] sz) t) (va_A [(h, .inr (1, [.ref h_sort, .ref h_x, .ref h_y, .ref h_z, .int h_count, .int h_fault, .int h_faultPart])), (h_sort, .inl (cA 0, 40, .inl h_sort_v)), (h_x, .inl (cA 0, 40, .inl h_x_v)), (h_y, .inl (cA 0, 40, .inl h_y_v)), (h_z, .inl (cA 0, 40, .inl h_z_v))] sz)) 0 0 (va_A [(h, .inr (1, [.ref h_sort, .ref h_x, .ref h_y, .ref h_z, .int h_count, .int h_fault, .int h_faultPart])), (h_sort, .inl (cA 0, 40, .inl h_sort_v)), (h_x, .inl (cA 0, 40, .inl h_x_v)), (h_y, .inl (cA 0, 40, .inl h_y_v)), (h_z, .inl (cA 0, 40, .inl h_z_v))] sz) := by
  refine Met.ofW (cc := cX1_number) (maxL := 3) (ret := (some .int)) (by decide) rfl ?_
  intro p e s m args below meth c s₁ B hml hv
  obtain ⟨rfl, hsz, hP, hD0, hG, hZ⟩ := hv
  have hx := B.exec
  have hb := B.bytes
  have hr := B.returns
  have hts : ∀ w ∈ kq_T, w.before _ s = true := fun w h => atoms_spec (ws := wX1_number) B.pre w (List.mem_cons_of_mem _ h)
  have hown : s.vm.findClass RX1 = some m.cls := findClass_of_methodNamed B.named
  have hlocks := B.notSynchronized
  have hK := hG.1
  subst hsz
  have hD := hD0.self (sz := s.heap.size)
  generalize hAe : va_A [(h, .inr (1, [.ref h_sort, .ref h_x, .ref h_y, .ref h_z, .int h_count, .int h_fault, .int h_faultPart])), (h_sort, .inl (cA 0, 40, .inl h_sort_v)), (h_x, .inl (cA 0, 40, .inl h_x_v)), (h_y, .inl (cA 0, 40, .inl h_y_v)), (h_z, .inl (cA 0, 40, .inl h_z_v))] s.heap.size = A at hD hZ ⊢
  have hA : ∀ q : Nat, s.heap.size ≤ q → A q := fun q h => by rw [← hAe]; exact Or.inr h
  have hl := lv_entry [.ref h, .int p0, .int p1] (n := 3) (Nat.le_of_ble_eq_true rfl)
  rw [lg_entry_eq]
  generalize (lg_sl [.ref h, .int p0, .int p1] ++ List.replicate (3 - (lg_sl [.ref h, .int p0, .int p1]).length) Slot.unset).toArray = ls at hl ⊢
  have hl : lv_has ls 3 [(0, .ref h), (1, .int p0), (2, .int p1)] := hl
  obtain ⟨H, hHe⟩ : ∃ H : Heap, H = s.heap := ⟨_, rfl⟩
  have hP : va_P (dC, dI) vwCl [(h, .inr (1, [.ref h_sort, .ref h_x, .ref h_y, .ref h_z, .int h_count, .int h_fault, .int h_faultPart])), (h_sort, .inl (cA 0, 40, .inl h_sort_v)), (h_x, .inl (cA 0, 40, .inl h_x_v)), (h_y, .inl (cA 0, 40, .inl h_y_v)), (h_z, .inl (cA 0, 40, .inl h_z_v))] H := by rw [hHe]; exact hP
  have hS : va_S A s.heap H [] := by rw [hHe]; exact va_S.rf
  rw [← hHe]
  unfold f_X1_number at hf
  refine lv_iload_n hx hb dX1_number_0 rfl (lv_at hl 2 rfl) ?_
  by_cases c1 : p1 = 0
  · have hf := kp_p c1 hf
    refine lv_tableIn (tgt := 28) hx hb dX1_number_1 (by rw [c1]; decide) (by rw [c1]; decide) (by rw [c1]; rfl) (by decide) ?_
    refine lv_aload_n hx hb dX1_number_28 rfl (lv_at hl 0 rfl) ?_
    refine va_get (D := (dC, dI)) (ci := 1) (v := .ref h_sort) (C := RX1) (T := TX1) (N := 7) hx hb hts iwX1 hown hK hP 0 rfl rfl 0 (by decide) (hts _ tw_58) (fun _ h9 => h9) rfl dX1_number_29 ?_
    refine lv_iload_n hx hb dX1_number_32 rfl (lv_at hl 1 rfl) ?_
    obtain ⟨hq2, hf⟩ := kp_t hf
    refine va_iald hx hb hK hP 1 0 rfl rfl hq2 dX1_number_33 ?_
    have eo := Option.some.inj hf
    subst eo
    exact W.iret (v := h_sort_v p0.toNatClampNeg) hx hb hr (fun t ht hW => ⟨⟨_, (), rfl, rfl, kq_mk ht hP hD⟩, hS.F ht⟩) hS.2.2 dX1_number_34
  · have hf := kp_n c1 hf
    by_cases c3 : p1 = 1
    · have hf := kp_p c3 hf
      refine lv_tableIn (tgt := 35) hx hb dX1_number_1 (by rw [c3]; decide) (by rw [c3]; decide) (by rw [c3]; rfl) (by decide) ?_
      refine lv_aload_n hx hb dX1_number_35 rfl (lv_at hl 0 rfl) ?_
      refine va_get (D := (dC, dI)) (ci := 1) (v := .ref h_x) (C := RX1) (T := TX1) (N := 7) hx hb hts iwX1 hown hK hP 0 rfl rfl 1 (by decide) (hts _ tw_60) (fun _ h9 => h9) rfl dX1_number_36 ?_
      refine lv_iload_n hx hb dX1_number_39 rfl (lv_at hl 1 rfl) ?_
      obtain ⟨hq4, hf⟩ := kp_t hf
      refine va_iald hx hb hK hP 2 0 rfl rfl hq4 dX1_number_40 ?_
      have eo := Option.some.inj hf
      subst eo
      exact W.iret (v := h_x_v p0.toNatClampNeg) hx hb hr (fun t ht hW => ⟨⟨_, (), rfl, rfl, kq_mk ht hP hD⟩, hS.F ht⟩) hS.2.2 dX1_number_41
    · have hf := kp_n c3 hf
      by_cases c5 : p1 = 2
      · have hf := kp_p c5 hf
        refine lv_tableIn (tgt := 42) hx hb dX1_number_1 (by rw [c5]; decide) (by rw [c5]; decide) (by rw [c5]; rfl) (by decide) ?_
        refine lv_aload_n hx hb dX1_number_42 rfl (lv_at hl 0 rfl) ?_
        refine va_get (D := (dC, dI)) (ci := 1) (v := .ref h_y) (C := RX1) (T := TX1) (N := 7) hx hb hts iwX1 hown hK hP 0 rfl rfl 2 (by decide) (hts _ tw_61) (fun _ h9 => h9) rfl dX1_number_43 ?_
        refine lv_iload_n hx hb dX1_number_46 rfl (lv_at hl 1 rfl) ?_
        obtain ⟨hq6, hf⟩ := kp_t hf
        refine va_iald hx hb hK hP 3 0 rfl rfl hq6 dX1_number_47 ?_
        have eo := Option.some.inj hf
        subst eo
        exact W.iret (v := h_y_v p0.toNatClampNeg) hx hb hr (fun t ht hW => ⟨⟨_, (), rfl, rfl, kq_mk ht hP hD⟩, hS.F ht⟩) hS.2.2 dX1_number_48
      · have hf := kp_n c5 hf
        refine lv_tableOut (tgt := 49) hx hb dX1_number_1 (by have gc1 := lv_neT c1 (a := 0) (by decide); have gc3 := lv_neT c3 (a := 1) (by decide); have gc5 := lv_neT c5 (a := 2) (by decide); omega) (by decide) ?_
        refine lv_aload_n hx hb dX1_number_49 rfl (lv_at hl 0 rfl) ?_
        refine va_get (D := (dC, dI)) (ci := 1) (v := .ref h_z) (C := RX1) (T := TX1) (N := 7) hx hb hts iwX1 hown hK hP 0 rfl rfl 3 (by decide) (hts _ tw_62) (fun _ h9 => h9) rfl dX1_number_50 ?_
        refine lv_iload_n hx hb dX1_number_53 rfl (lv_at hl 1 rfl) ?_
        obtain ⟨hq7, hf⟩ := kp_t hf
        refine va_iald hx hb hK hP 4 0 rfl rfl hq7 dX1_number_54 ?_
        have eo := Option.some.inj hf
        subst eo
        exact W.iret (v := h_z_v p0.toNatClampNeg) hx hb hr (fun t ht hW => ⟨⟨_, (), rfl, rfl, kq_mk ht hP hD⟩, hS.F ht⟩) hS.2.2 dX1_number_55

def f_X1_hasEvenSum_L4 (h_count : Int32) (h_z_v : Nat → Int32) : Nat → Int32 → Int32 → Option (Int32)
  | 0, _, _ => none
  | n4 + 1, v1, v2 =>
    (if h_count ≤ v2 then
    (if (v1 - v1 / 2 * 2) = 0 then
    some 1
    else
    some 0)
    else
    if v2 < 0 ∨ 40 ≤ v2.toNatClampNeg then none else
    f_X1_hasEvenSum_L4 h_count h_z_v n4 (v1 + (h_z_v v2.toNatClampNeg)) (v2 + 1))
theorem e_X1_hasEvenSum_L4 (h_count : Int32) (h_z_v : Nat → Int32) (n4 : Nat) (v1 : Int32) (v2 : Int32) : f_X1_hasEvenSum_L4 h_count h_z_v (n4 + 1) v1 v2 =
    ((if h_count ≤ v2 then
    (if (v1 - v1 / 2 * 2) = 0 then
    some 1
    else
    some 0)
    else
    if v2 < 0 ∨ 40 ≤ v2.toNatClampNeg then none else
    f_X1_hasEvenSum_L4 h_count h_z_v n4 (v1 + (h_z_v v2.toNatClampNeg)) (v2 + 1))) := rfl
def f_X1_hasEvenSum (h_count : Int32) (h_z_v : Nat → Int32) : Option (Int32) :=
    f_X1_hasEvenSum_L4 h_count h_z_v 64 0 0
set_option maxHeartbeats 4000000 in
set_option maxRecDepth 100000 in
theorem c_X1_hasEvenSum (l : Launch) (dC : Nat → ClassId) (dI : Nat → Nat → Nat) (cA : Nat → ClassId) (tt : Nat → Nat) (h h_z h_sort h_x h_y : Nat) (sz : Nat) (h_count : Int32) (h_fault : Int32) (h_faultPart : Int32) (h_z_v : Nat → Int32) (o : Int32) (hf : f_X1_hasEvenSum h_count h_z_v = some o) : Met l yX1_hasEvenSum wX1_hasEvenSum ({ frames := 0, cells := 0, slots := 0, locals := 0 }) (kq_Pc dC dI cA tt [.ref h] [(h, .inr (1, [.ref h_sort, .ref h_x, .ref h_y, .ref h_z, .int h_count, .int h_fault, .int h_faultPart])), (h_z, .inl (cA 0, 40, .inl h_z_v))] sz) (va_Qi (fun r (_ : Unit) => r = o) (fun _ t => kq_B dC dI [(h, .inr (1, [.ref h_sort, .ref h_x, .ref h_y, .ref h_z, .int h_count, .int h_fault, .int h_faultPart])), (h_z, .inl (cA 0, 40, .inl h_z_v))] (va_A [(h, .inr (1, [.ref h_sort, .ref h_x, .ref h_y, .ref h_z, .int h_count, .int h_fault, .int h_faultPart])), (h_z, .inl (cA 0, 40, .inl h_z_v))] sz) t) (va_A [(h, .inr (1, [.ref h_sort, .ref h_x, .ref h_y, .ref h_z, .int h_count, .int h_fault, .int h_faultPart])), (h_z, .inl (cA 0, 40, .inl h_z_v))] sz)) 0 0 (va_A [(h, .inr (1, [.ref h_sort, .ref h_x, .ref h_y, .ref h_z, .int h_count, .int h_fault, .int h_faultPart])), (h_z, .inl (cA 0, 40, .inl h_z_v))] sz) := by
  refine Met.ofW (cc := cX1_hasEvenSum) (maxL := 3) (ret := (some .boolean)) (by decide) rfl ?_
  intro p e s m args below meth c s₁ B hml hv
  obtain ⟨rfl, hsz, hP, hD0, hG, hZ⟩ := hv
  have hx := B.exec
  have hb := B.bytes
  have hr := B.returns
  have hts : ∀ w ∈ kq_T, w.before _ s = true := fun w h => atoms_spec (ws := wX1_hasEvenSum) B.pre w (List.mem_cons_of_mem _ h)
  have hown : s.vm.findClass RX1 = some m.cls := findClass_of_methodNamed B.named
  have hlocks := B.notSynchronized
  have hK := hG.1
  subst hsz
  have hD := hD0.self (sz := s.heap.size)
  generalize hAe : va_A [(h, .inr (1, [.ref h_sort, .ref h_x, .ref h_y, .ref h_z, .int h_count, .int h_fault, .int h_faultPart])), (h_z, .inl (cA 0, 40, .inl h_z_v))] s.heap.size = A at hD hZ ⊢
  have hA : ∀ q : Nat, s.heap.size ≤ q → A q := fun q h => by rw [← hAe]; exact Or.inr h
  have hl := lv_entry [.ref h] (n := 3) (Nat.le_of_ble_eq_true rfl)
  rw [lg_entry_eq]
  generalize (lg_sl [.ref h] ++ List.replicate (3 - (lg_sl [.ref h]).length) Slot.unset).toArray = ls at hl ⊢
  have hl : lv_has ls 3 [(0, .ref h)] := hl
  obtain ⟨H, hHe⟩ : ∃ H : Heap, H = s.heap := ⟨_, rfl⟩
  have hP : va_P (dC, dI) vwCl [(h, .inr (1, [.ref h_sort, .ref h_x, .ref h_y, .ref h_z, .int h_count, .int h_fault, .int h_faultPart])), (h_z, .inl (cA 0, 40, .inl h_z_v))] H := by rw [hHe]; exact hP
  have hS : va_S A s.heap H [] := by rw [hHe]; exact va_S.rf
  rw [← hHe]
  unfold f_X1_hasEvenSum at hf
  refine lv_iconst (v := 0) hx hb dX1_hasEvenSum_0 (by decide) ?_
  refine lv_istore_n (lv' := [(1, .int 0), (0, .ref h)]) hx hb dX1_hasEvenSum_1 rfl hl (by decide) rfl (fun ls hl => ?_)
  refine lv_iconst (v := 0) hx hb dX1_hasEvenSum_2 (by decide) ?_
  refine lv_istore_n (lv' := [(2, .int 0), (1, .int 0), (0, .ref h)]) hx hb dX1_hasEvenSum_3 rfl hl (by decide) rfl (fun ls hl => ?_)
  refine kq_ind (fun n H locs g => ∃ (v1 : Int32) (v2 : Int32) (ls : Array Slot), g = F0 m 4 ls [] ∧ lv_has ls 3 [(0, .ref h), (1, .int v1), (2, .int v2)] ∧ va_P (dC, dI) vwCl [(h, .inr (1, [.ref h_sort, .ref h_x, .ref h_y, .ref h_z, .int h_count, .int h_fault, .int h_faultPart])), (h_z, .inl (cA 0, 40, .inl h_z_v))] H ∧ va_D A [(h, .inr (1, [.ref h_sort, .ref h_x, .ref h_y, .ref h_z, .int h_count, .int h_fault, .int h_faultPart])), (h_z, .inl (cA 0, 40, .inl h_z_v))] ∧ va_S A s.heap H locs ∧ f_X1_hasEvenSum_L4 h_count h_z_v n v1 v2 = some o) (fun H locs g h => ?_) (fun n4 ih4 H locs g h => ?_) 64 _ _ _ ⟨0, 0, ls, rfl, lv_sub hl [2, 1, 0] rfl, hP, hD, hS, hf⟩
  · obtain ⟨v1, v2, ls, -, -, -, -, -, hf⟩ := h
    have hf : (none : Option (Int32)) = some o := hf
    cases hf
  · obtain ⟨v1, v2, ls, rfl, hl, hP, hD, hS, hf⟩ := h
    have hf := (e_X1_hasEvenSum_L4 h_count h_z_v n4 v1 v2).symm.trans hf
    refine lv_iload_n hx hb dX1_hasEvenSum_4 rfl (lv_at hl 2 rfl) ?_
    refine lv_aload_n hx hb dX1_hasEvenSum_5 rfl (lv_at hl 0 rfl) ?_
    refine va_get (D := (dC, dI)) (ci := 1) (v := .int h_count) (C := RX1) (T := TX1) (N := 7) hx hb hts iwX1 hown hK hP 0 rfl rfl 4 (by decide) (hts _ tw_64) (fun _ h9 => h9) rfl dX1_hasEvenSum_6 ?_
    refine lv_icmp_ge (tgt := 27) hx hb dX1_hasEvenSum_9 (by decide) (fun c5001 => ?_) (fun c5001 => ?_)
    · have hf := kp_p c5001 hf
      refine lv_iload_n hx hb dX1_hasEvenSum_27 rfl (lv_at hl 1 rfl) ?_
      refine lv_iconst (v := 2) hx hb dX1_hasEvenSum_28 (by decide) ?_
      refine lv_irem hx hb dX1_hasEvenSum_29 (by decide) ?_
      refine lv_if_ne (tgt := 37) hx hb dX1_hasEvenSum_30 (by decide) (fun c5002 => ?_) (fun c5002 => ?_)
      · have hf := kp_n c5002 hf
        refine lv_iconst (v := 0) hx hb dX1_hasEvenSum_37 (by decide) ?_
        have eo := Option.some.inj hf
        subst eo
        exact W.zret (v := 0) hx hb hr rfl (fun t ht hW => ⟨⟨_, (), rfl, rfl, kq_mk ht hP hD⟩, hS.F ht⟩) hS.2.2 dX1_hasEvenSum_38
      · have hf := kp_p c5002 hf
        refine lv_iconst (v := 1) hx hb dX1_hasEvenSum_33 (by decide) ?_
        refine lv_goto (tgt := 38) hx hb dX1_hasEvenSum_34 (by decide) ?_
        have eo := Option.some.inj hf
        subst eo
        exact W.zret (v := 1) hx hb hr rfl (fun t ht hW => ⟨⟨_, (), rfl, rfl, kq_mk ht hP hD⟩, hS.F ht⟩) hS.2.2 dX1_hasEvenSum_38
    · have hf := kp_n c5001 hf
      refine lv_iload_n hx hb dX1_hasEvenSum_12 rfl (lv_at hl 1 rfl) ?_
      refine lv_aload_n hx hb dX1_hasEvenSum_13 rfl (lv_at hl 0 rfl) ?_
      refine va_get (D := (dC, dI)) (ci := 1) (v := .ref h_z) (C := RX1) (T := TX1) (N := 7) hx hb hts iwX1 hown hK hP 0 rfl rfl 3 (by decide) (hts _ tw_62) (fun _ h9 => h9) rfl dX1_hasEvenSum_14 ?_
      refine lv_iload_n hx hb dX1_hasEvenSum_17 rfl (lv_at hl 2 rfl) ?_
      obtain ⟨hq5003, hf⟩ := kp_t hf
      refine va_iald hx hb hK hP 1 0 rfl rfl hq5003 dX1_hasEvenSum_18 ?_
      refine lv_iadd hx hb dX1_hasEvenSum_19 ?_
      refine lv_istore_n (lv' := [(1, .int (v1 + (h_z_v v2.toNatClampNeg))), (0, .ref h), (2, .int v2)]) hx hb dX1_hasEvenSum_20 rfl hl (by decide) rfl (fun ls hl => ?_)
      refine lv_iinc (v := v2 + 1) (lv' := [(2, .int (v2 + 1)), (1, .int (v1 + (h_z_v v2.toNatClampNeg))), (0, .ref h)]) hx hb dX1_hasEvenSum_21 hl (k := 2) rfl rfl (by decide) rfl (fun ls hl => ?_)
      refine lv_goto (tgt := 4) hx hb dX1_hasEvenSum_24 (by decide) ?_
      exact ih4 _ _ _ ⟨v1 + (h_z_v v2.toNatClampNeg), v2 + 1, ls, rfl, lv_sub hl [2, 1, 0] rfl, hP, hD, hS, hf⟩

def f_X1_equalTo_L26 (h_count : Int32) (h_fault : Int32) (p0_count : Int32) (p0_fault : Int32) (h_sort_v : Nat → Int32) (h_x_v : Nat → Int32) (h_y_v : Nat → Int32) (h_z_v : Nat → Int32) (p0_sort_v : Nat → Int32) (p0_x_v : Nat → Int32) (p0_y_v : Nat → Int32) (p0_z_v : Nat → Int32) : Nat → Int32 → Option (Int32)
  | 0, _ => none
  | n26 + 1, v2 =>
    (if h_count ≤ v2 then
    some 1
    else
    if v2 < 0 ∨ 40 ≤ v2.toNatClampNeg then none else
    (if (h_sort_v v2.toNatClampNeg) = (p0_sort_v v2.toNatClampNeg) then
    (if (h_x_v v2.toNatClampNeg) = (p0_x_v v2.toNatClampNeg) then
    (if (h_y_v v2.toNatClampNeg) = (p0_y_v v2.toNatClampNeg) then
    (if (h_z_v v2.toNatClampNeg) = (p0_z_v v2.toNatClampNeg) then
    f_X1_equalTo_L26 h_count h_fault p0_count p0_fault h_sort_v h_x_v h_y_v h_z_v p0_sort_v p0_x_v p0_y_v p0_z_v n26 (v2 + 1)
    else
    some 0)
    else
    some 0)
    else
    some 0)
    else
    some 0))
theorem e_X1_equalTo_L26 (h_count : Int32) (h_fault : Int32) (p0_count : Int32) (p0_fault : Int32) (h_sort_v : Nat → Int32) (h_x_v : Nat → Int32) (h_y_v : Nat → Int32) (h_z_v : Nat → Int32) (p0_sort_v : Nat → Int32) (p0_x_v : Nat → Int32) (p0_y_v : Nat → Int32) (p0_z_v : Nat → Int32) (n26 : Nat) (v2 : Int32) : f_X1_equalTo_L26 h_count h_fault p0_count p0_fault h_sort_v h_x_v h_y_v h_z_v p0_sort_v p0_x_v p0_y_v p0_z_v (n26 + 1) v2 =
    ((if h_count ≤ v2 then
    some 1
    else
    if v2 < 0 ∨ 40 ≤ v2.toNatClampNeg then none else
    (if (h_sort_v v2.toNatClampNeg) = (p0_sort_v v2.toNatClampNeg) then
    (if (h_x_v v2.toNatClampNeg) = (p0_x_v v2.toNatClampNeg) then
    (if (h_y_v v2.toNatClampNeg) = (p0_y_v v2.toNatClampNeg) then
    (if (h_z_v v2.toNatClampNeg) = (p0_z_v v2.toNatClampNeg) then
    f_X1_equalTo_L26 h_count h_fault p0_count p0_fault h_sort_v h_x_v h_y_v h_z_v p0_sort_v p0_x_v p0_y_v p0_z_v n26 (v2 + 1)
    else
    some 0)
    else
    some 0)
    else
    some 0)
    else
    some 0))) := rfl
def f_X1_equalTo (h_count : Int32) (h_fault : Int32) (p0_count : Int32) (p0_fault : Int32) (h_sort_v : Nat → Int32) (h_x_v : Nat → Int32) (h_y_v : Nat → Int32) (h_z_v : Nat → Int32) (p0_sort_v : Nat → Int32) (p0_x_v : Nat → Int32) (p0_y_v : Nat → Int32) (p0_z_v : Nat → Int32) : Option (Int32) :=
    (if h_count = p0_count then
    (if h_fault = p0_fault then
    f_X1_equalTo_L26 h_count h_fault p0_count p0_fault h_sort_v h_x_v h_y_v h_z_v p0_sort_v p0_x_v p0_y_v p0_z_v 64 0
    else
    some 0)
    else
    some 0)
set_option maxHeartbeats 4000000 in
set_option maxRecDepth 100000 in
theorem c_X1_equalTo (l : Launch) (dC : Nat → ClassId) (dI : Nat → Nat → Nat) (cA : Nat → ClassId) (tt : Nat → Nat) (h p0 h_sort h_x h_y h_z p0_sort p0_x p0_y p0_z : Nat) (sz : Nat) (h_count : Int32) (h_fault : Int32) (h_faultPart : Int32) (p0_count : Int32) (p0_fault : Int32) (p0_faultPart : Int32) (h_sort_v : Nat → Int32) (h_x_v : Nat → Int32) (h_y_v : Nat → Int32) (h_z_v : Nat → Int32) (p0_sort_v : Nat → Int32) (p0_x_v : Nat → Int32) (p0_y_v : Nat → Int32) (p0_z_v : Nat → Int32) (o : Int32) (hf : f_X1_equalTo h_count h_fault p0_count p0_fault h_sort_v h_x_v h_y_v h_z_v p0_sort_v p0_x_v p0_y_v p0_z_v = some o) : Met l yX1_equalTo wX1_equalTo ({ frames := 0, cells := 0, slots := 0, locals := 0 }) (kq_Pc dC dI cA tt [.ref h, .ref p0] [(h, .inr (1, [.ref h_sort, .ref h_x, .ref h_y, .ref h_z, .int h_count, .int h_fault, .int h_faultPart])), (p0, .inr (1, [.ref p0_sort, .ref p0_x, .ref p0_y, .ref p0_z, .int p0_count, .int p0_fault, .int p0_faultPart])), (h_sort, .inl (cA 0, 40, .inl h_sort_v)), (h_x, .inl (cA 0, 40, .inl h_x_v)), (h_y, .inl (cA 0, 40, .inl h_y_v)), (h_z, .inl (cA 0, 40, .inl h_z_v)), (p0_sort, .inl (cA 0, 40, .inl p0_sort_v)), (p0_x, .inl (cA 0, 40, .inl p0_x_v)), (p0_y, .inl (cA 0, 40, .inl p0_y_v)), (p0_z, .inl (cA 0, 40, .inl p0_z_v))] sz) (va_Qi (fun r (_ : Unit) => r = o) (fun _ t => kq_B dC dI [(h, .inr (1, [.ref h_sort, .ref h_x, .ref h_y, .ref h_z, .int h_count, .int h_fault, .int h_faultPart])), (p0, .inr (1, [.ref p0_sort, .ref p0_x, .ref p0_y, .ref p0_z, .int p0_count, .int p0_fault, .int p0_faultPart])), (h_sort, .inl (cA 0, 40, .inl h_sort_v)), (h_x, .inl (cA 0, 40, .inl h_x_v)), (h_y, .inl (cA 0, 40, .inl h_y_v)), (h_z, .inl (cA 0, 40, .inl h_z_v)), (p0_sort, .inl (cA 0, 40, .inl p0_sort_v)), (p0_x, .inl (cA 0, 40, .inl p0_x_v)), (p0_y, .inl (cA 0, 40, .inl p0_y_v)), (p0_z, .inl (cA 0, 40, .inl p0_z_v))] (va_A [(h, .inr (1, [.ref h_sort, .ref h_x, .ref h_y, .ref h_z, .int h_count, .int h_fault, .int h_faultPart])), (p0, .inr (1, [.ref p0_sort, .ref p0_x, .ref p0_y, .ref p0_z, .int p0_count, .int p0_fault, .int p0_faultPart])), (h_sort, .inl (cA 0, 40, .inl h_sort_v)), (h_x, .inl (cA 0, 40, .inl h_x_v)), (h_y, .inl (cA 0, 40, .inl h_y_v)), (h_z, .inl (cA 0, 40, .inl h_z_v)), (p0_sort, .inl (cA 0, 40, .inl p0_sort_v)), (p0_x, .inl (cA 0, 40, .inl p0_x_v)), (p0_y, .inl (cA 0, 40, .inl p0_y_v)), (p0_z, .inl (cA 0, 40, .inl p0_z_v))] sz) t) (va_A [(h, .inr (1, [.ref h_sort, .ref h_x, .ref h_y, .ref h_z, .int h_count, .int h_fault, .int h_faultPart])), (p0, .inr (1, [.ref p0_sort, .ref p0_x, .ref p0_y, .ref p0_z, .int p0_count, .int p0_fault, .int p0_faultPart])), (h_sort, .inl (cA 0, 40, .inl h_sort_v)), (h_x, .inl (cA 0, 40, .inl h_x_v)), (h_y, .inl (cA 0, 40, .inl h_y_v)), (h_z, .inl (cA 0, 40, .inl h_z_v)), (p0_sort, .inl (cA 0, 40, .inl p0_sort_v)), (p0_x, .inl (cA 0, 40, .inl p0_x_v)), (p0_y, .inl (cA 0, 40, .inl p0_y_v)), (p0_z, .inl (cA 0, 40, .inl p0_z_v))] sz)) 0 0 (va_A [(h, .inr (1, [.ref h_sort, .ref h_x, .ref h_y, .ref h_z, .int h_count, .int h_fault, .int h_faultPart])), (p0, .inr (1, [.ref p0_sort, .ref p0_x, .ref p0_y, .ref p0_z, .int p0_count, .int p0_fault, .int p0_faultPart])), (h_sort, .inl (cA 0, 40, .inl h_sort_v)), (h_x, .inl (cA 0, 40, .inl h_x_v)), (h_y, .inl (cA 0, 40, .inl h_y_v)), (h_z, .inl (cA 0, 40, .inl h_z_v)), (p0_sort, .inl (cA 0, 40, .inl p0_sort_v)), (p0_x, .inl (cA 0, 40, .inl p0_x_v)), (p0_y, .inl (cA 0, 40, .inl p0_y_v)), (p0_z, .inl (cA 0, 40, .inl p0_z_v))] sz) := by
  refine Met.ofW (cc := cX1_equalTo) (maxL := 3) (ret := (some .boolean)) (by decide) rfl ?_
  intro p e s m args below meth c s₁ B hml hv
  obtain ⟨rfl, hsz, hP, hD0, hG, hZ⟩ := hv
  have hx := B.exec
  have hb := B.bytes
  have hr := B.returns
  have hts : ∀ w ∈ kq_T, w.before _ s = true := fun w h => atoms_spec (ws := wX1_equalTo) B.pre w (List.mem_cons_of_mem _ h)
  have hown : s.vm.findClass RX1 = some m.cls := findClass_of_methodNamed B.named
  have hlocks := B.notSynchronized
  have hK := hG.1
  subst hsz
  have hD := hD0.self (sz := s.heap.size)
  generalize hAe : va_A [(h, .inr (1, [.ref h_sort, .ref h_x, .ref h_y, .ref h_z, .int h_count, .int h_fault, .int h_faultPart])), (p0, .inr (1, [.ref p0_sort, .ref p0_x, .ref p0_y, .ref p0_z, .int p0_count, .int p0_fault, .int p0_faultPart])), (h_sort, .inl (cA 0, 40, .inl h_sort_v)), (h_x, .inl (cA 0, 40, .inl h_x_v)), (h_y, .inl (cA 0, 40, .inl h_y_v)), (h_z, .inl (cA 0, 40, .inl h_z_v)), (p0_sort, .inl (cA 0, 40, .inl p0_sort_v)), (p0_x, .inl (cA 0, 40, .inl p0_x_v)), (p0_y, .inl (cA 0, 40, .inl p0_y_v)), (p0_z, .inl (cA 0, 40, .inl p0_z_v))] s.heap.size = A at hD hZ ⊢
  have hA : ∀ q : Nat, s.heap.size ≤ q → A q := fun q h => by rw [← hAe]; exact Or.inr h
  have hl := lv_entry [.ref h, .ref p0] (n := 3) (Nat.le_of_ble_eq_true rfl)
  rw [lg_entry_eq]
  generalize (lg_sl [.ref h, .ref p0] ++ List.replicate (3 - (lg_sl [.ref h, .ref p0]).length) Slot.unset).toArray = ls at hl ⊢
  have hl : lv_has ls 3 [(0, .ref h), (1, .ref p0)] := hl
  obtain ⟨H, hHe⟩ : ∃ H : Heap, H = s.heap := ⟨_, rfl⟩
  have hP : va_P (dC, dI) vwCl [(h, .inr (1, [.ref h_sort, .ref h_x, .ref h_y, .ref h_z, .int h_count, .int h_fault, .int h_faultPart])), (p0, .inr (1, [.ref p0_sort, .ref p0_x, .ref p0_y, .ref p0_z, .int p0_count, .int p0_fault, .int p0_faultPart])), (h_sort, .inl (cA 0, 40, .inl h_sort_v)), (h_x, .inl (cA 0, 40, .inl h_x_v)), (h_y, .inl (cA 0, 40, .inl h_y_v)), (h_z, .inl (cA 0, 40, .inl h_z_v)), (p0_sort, .inl (cA 0, 40, .inl p0_sort_v)), (p0_x, .inl (cA 0, 40, .inl p0_x_v)), (p0_y, .inl (cA 0, 40, .inl p0_y_v)), (p0_z, .inl (cA 0, 40, .inl p0_z_v))] H := by rw [hHe]; exact hP
  have hS : va_S A s.heap H [] := by rw [hHe]; exact va_S.rf
  rw [← hHe]
  unfold f_X1_equalTo at hf
  refine lv_aload_n hx hb dX1_equalTo_0 rfl (lv_at hl 0 rfl) ?_
  refine va_get (D := (dC, dI)) (ci := 1) (v := .int h_count) (C := RX1) (T := TX1) (N := 7) hx hb hts iwX1 hown hK hP 0 rfl rfl 4 (by decide) (hts _ tw_64) (fun _ h9 => h9) rfl dX1_equalTo_1 ?_
  refine lv_aload_n hx hb dX1_equalTo_4 rfl (lv_at hl 1 rfl) ?_
  refine va_get (D := (dC, dI)) (ci := 1) (v := .int p0_count) (C := RX1) (T := TX1) (N := 7) hx hb hts iwX1 hown hK hP 1 rfl rfl 4 (by decide) (hts _ tw_64) (fun _ h9 => h9) rfl dX1_equalTo_5 ?_
  refine lv_icmp_ne (tgt := 22) hx hb dX1_equalTo_8 (by decide) (fun c1 => ?_) (fun c1 => ?_)
  · have hf := kp_n c1 hf
    refine lv_iconst (v := 0) hx hb dX1_equalTo_22 (by decide) ?_
    have eo := Option.some.inj hf
    subst eo
    exact W.zret (v := 0) hx hb hr rfl (fun t ht hW => ⟨⟨_, (), rfl, rfl, kq_mk ht hP hD⟩, hS.F ht⟩) hS.2.2 dX1_equalTo_23
  · have hf := kp_p c1 hf
    refine lv_aload_n hx hb dX1_equalTo_11 rfl (lv_at hl 0 rfl) ?_
    refine va_get (D := (dC, dI)) (ci := 1) (v := .int h_fault) (C := RX1) (T := TX1) (N := 7) hx hb hts iwX1 hown hK hP 0 rfl rfl 5 (by decide) (hts _ tw_67) (fun _ h9 => h9) rfl dX1_equalTo_12 ?_
    refine lv_aload_n hx hb dX1_equalTo_15 rfl (lv_at hl 1 rfl) ?_
    refine va_get (D := (dC, dI)) (ci := 1) (v := .int p0_fault) (C := RX1) (T := TX1) (N := 7) hx hb hts iwX1 hown hK hP 1 rfl rfl 5 (by decide) (hts _ tw_67) (fun _ h9 => h9) rfl dX1_equalTo_16 ?_
    refine lv_icmp_eq (tgt := 24) hx hb dX1_equalTo_19 (by decide) (fun c2 => ?_) (fun c2 => ?_)
    · have hf := kp_p c2 hf
      refine lv_iconst (v := 0) hx hb dX1_equalTo_24 (by decide) ?_
      refine lv_istore_n (lv' := [(2, .int 0), (0, .ref h), (1, .ref p0)]) hx hb dX1_equalTo_25 rfl hl (by decide) rfl (fun ls hl => ?_)
      refine kq_ind (fun n H locs g => ∃ (v2 : Int32) (ls : Array Slot), g = F0 m 26 ls [] ∧ lv_has ls 3 [(0, .ref h), (1, .ref p0), (2, .int v2)] ∧ va_P (dC, dI) vwCl [(h, .inr (1, [.ref h_sort, .ref h_x, .ref h_y, .ref h_z, .int h_count, .int h_fault, .int h_faultPart])), (p0, .inr (1, [.ref p0_sort, .ref p0_x, .ref p0_y, .ref p0_z, .int p0_count, .int p0_fault, .int p0_faultPart])), (h_sort, .inl (cA 0, 40, .inl h_sort_v)), (h_x, .inl (cA 0, 40, .inl h_x_v)), (h_y, .inl (cA 0, 40, .inl h_y_v)), (h_z, .inl (cA 0, 40, .inl h_z_v)), (p0_sort, .inl (cA 0, 40, .inl p0_sort_v)), (p0_x, .inl (cA 0, 40, .inl p0_x_v)), (p0_y, .inl (cA 0, 40, .inl p0_y_v)), (p0_z, .inl (cA 0, 40, .inl p0_z_v))] H ∧ va_D A [(h, .inr (1, [.ref h_sort, .ref h_x, .ref h_y, .ref h_z, .int h_count, .int h_fault, .int h_faultPart])), (p0, .inr (1, [.ref p0_sort, .ref p0_x, .ref p0_y, .ref p0_z, .int p0_count, .int p0_fault, .int p0_faultPart])), (h_sort, .inl (cA 0, 40, .inl h_sort_v)), (h_x, .inl (cA 0, 40, .inl h_x_v)), (h_y, .inl (cA 0, 40, .inl h_y_v)), (h_z, .inl (cA 0, 40, .inl h_z_v)), (p0_sort, .inl (cA 0, 40, .inl p0_sort_v)), (p0_x, .inl (cA 0, 40, .inl p0_x_v)), (p0_y, .inl (cA 0, 40, .inl p0_y_v)), (p0_z, .inl (cA 0, 40, .inl p0_z_v))] ∧ va_S A s.heap H locs ∧ f_X1_equalTo_L26 h_count h_fault p0_count p0_fault h_sort_v h_x_v h_y_v h_z_v p0_sort_v p0_x_v p0_y_v p0_z_v n v2 = some o) (fun H locs g h => ?_) (fun n26 ih26 H locs g h => ?_) 64 _ _ _ ⟨0, ls, rfl, lv_sub hl [1, 2, 0] rfl, hP, hD, hS, hf⟩
      · obtain ⟨v2, ls, -, -, -, -, -, hf⟩ := h
        have hf : (none : Option (Int32)) = some o := hf
        cases hf
      · obtain ⟨v2, ls, rfl, hl, hP, hD, hS, hf⟩ := h
        have hf := (e_X1_equalTo_L26 h_count h_fault p0_count p0_fault h_sort_v h_x_v h_y_v h_z_v p0_sort_v p0_x_v p0_y_v p0_z_v n26 v2).symm.trans hf
        refine lv_iload_n hx hb dX1_equalTo_26 rfl (lv_at hl 2 rfl) ?_
        refine lv_aload_n hx hb dX1_equalTo_27 rfl (lv_at hl 0 rfl) ?_
        refine va_get (D := (dC, dI)) (ci := 1) (v := .int h_count) (C := RX1) (T := TX1) (N := 7) hx hb hts iwX1 hown hK hP 0 rfl rfl 4 (by decide) (hts _ tw_64) (fun _ h9 => h9) rfl dX1_equalTo_28 ?_
        refine lv_icmp_ge (tgt := 102) hx hb dX1_equalTo_31 (by decide) (fun c27001 => ?_) (fun c27001 => ?_)
        · have hf := kp_p c27001 hf
          refine lv_iconst (v := 1) hx hb dX1_equalTo_102 (by decide) ?_
          have eo := Option.some.inj hf
          subst eo
          exact W.zret (v := 1) hx hb hr rfl (fun t ht hW => ⟨⟨_, (), rfl, rfl, kq_mk ht hP hD⟩, hS.F ht⟩) hS.2.2 dX1_equalTo_103
        · have hf := kp_n c27001 hf
          refine lv_aload_n hx hb dX1_equalTo_34 rfl (lv_at hl 0 rfl) ?_
          refine va_get (D := (dC, dI)) (ci := 1) (v := .ref h_sort) (C := RX1) (T := TX1) (N := 7) hx hb hts iwX1 hown hK hP 0 rfl rfl 0 (by decide) (hts _ tw_58) (fun _ h9 => h9) rfl dX1_equalTo_35 ?_
          refine lv_iload_n hx hb dX1_equalTo_38 rfl (lv_at hl 2 rfl) ?_
          obtain ⟨hq27002, hf⟩ := kp_t hf
          refine va_iald hx hb hK hP 2 0 rfl rfl hq27002 dX1_equalTo_39 ?_
          refine lv_aload_n hx hb dX1_equalTo_40 rfl (lv_at hl 1 rfl) ?_
          refine va_get (D := (dC, dI)) (ci := 1) (v := .ref p0_sort) (C := RX1) (T := TX1) (N := 7) hx hb hts iwX1 hown hK hP 1 rfl rfl 0 (by decide) (hts _ tw_58) (fun _ h9 => h9) rfl dX1_equalTo_41 ?_
          refine lv_iload_n hx hb dX1_equalTo_44 rfl (lv_at hl 2 rfl) ?_
          refine va_iald hx hb hK hP 6 0 rfl rfl hq27002 dX1_equalTo_45 ?_
          refine lv_icmp_ne (tgt := 94) hx hb dX1_equalTo_46 (by decide) (fun c27004 => ?_) (fun c27004 => ?_)
          · have hf := kp_n c27004 hf
            refine lv_iconst (v := 0) hx hb dX1_equalTo_94 (by decide) ?_
            have eo := Option.some.inj hf
            subst eo
            exact W.zret (v := 0) hx hb hr rfl (fun t ht hW => ⟨⟨_, (), rfl, rfl, kq_mk ht hP hD⟩, hS.F ht⟩) hS.2.2 dX1_equalTo_95
          · have hf := kp_p c27004 hf
            refine lv_aload_n hx hb dX1_equalTo_49 rfl (lv_at hl 0 rfl) ?_
            refine va_get (D := (dC, dI)) (ci := 1) (v := .ref h_x) (C := RX1) (T := TX1) (N := 7) hx hb hts iwX1 hown hK hP 0 rfl rfl 1 (by decide) (hts _ tw_60) (fun _ h9 => h9) rfl dX1_equalTo_50 ?_
            refine lv_iload_n hx hb dX1_equalTo_53 rfl (lv_at hl 2 rfl) ?_
            refine va_iald hx hb hK hP 3 0 rfl rfl hq27002 dX1_equalTo_54 ?_
            refine lv_aload_n hx hb dX1_equalTo_55 rfl (lv_at hl 1 rfl) ?_
            refine va_get (D := (dC, dI)) (ci := 1) (v := .ref p0_x) (C := RX1) (T := TX1) (N := 7) hx hb hts iwX1 hown hK hP 1 rfl rfl 1 (by decide) (hts _ tw_60) (fun _ h9 => h9) rfl dX1_equalTo_56 ?_
            refine lv_iload_n hx hb dX1_equalTo_59 rfl (lv_at hl 2 rfl) ?_
            refine va_iald hx hb hK hP 7 0 rfl rfl hq27002 dX1_equalTo_60 ?_
            refine lv_icmp_ne (tgt := 94) hx hb dX1_equalTo_61 (by decide) (fun c27007 => ?_) (fun c27007 => ?_)
            · have hf := kp_n c27007 hf
              refine lv_iconst (v := 0) hx hb dX1_equalTo_94 (by decide) ?_
              have eo := Option.some.inj hf
              subst eo
              exact W.zret (v := 0) hx hb hr rfl (fun t ht hW => ⟨⟨_, (), rfl, rfl, kq_mk ht hP hD⟩, hS.F ht⟩) hS.2.2 dX1_equalTo_95
            · have hf := kp_p c27007 hf
              refine lv_aload_n hx hb dX1_equalTo_64 rfl (lv_at hl 0 rfl) ?_
              refine va_get (D := (dC, dI)) (ci := 1) (v := .ref h_y) (C := RX1) (T := TX1) (N := 7) hx hb hts iwX1 hown hK hP 0 rfl rfl 2 (by decide) (hts _ tw_61) (fun _ h9 => h9) rfl dX1_equalTo_65 ?_
              refine lv_iload_n hx hb dX1_equalTo_68 rfl (lv_at hl 2 rfl) ?_
              refine va_iald hx hb hK hP 4 0 rfl rfl hq27002 dX1_equalTo_69 ?_
              refine lv_aload_n hx hb dX1_equalTo_70 rfl (lv_at hl 1 rfl) ?_
              refine va_get (D := (dC, dI)) (ci := 1) (v := .ref p0_y) (C := RX1) (T := TX1) (N := 7) hx hb hts iwX1 hown hK hP 1 rfl rfl 2 (by decide) (hts _ tw_61) (fun _ h9 => h9) rfl dX1_equalTo_71 ?_
              refine lv_iload_n hx hb dX1_equalTo_74 rfl (lv_at hl 2 rfl) ?_
              refine va_iald hx hb hK hP 8 0 rfl rfl hq27002 dX1_equalTo_75 ?_
              refine lv_icmp_ne (tgt := 94) hx hb dX1_equalTo_76 (by decide) (fun c27010 => ?_) (fun c27010 => ?_)
              · have hf := kp_n c27010 hf
                refine lv_iconst (v := 0) hx hb dX1_equalTo_94 (by decide) ?_
                have eo := Option.some.inj hf
                subst eo
                exact W.zret (v := 0) hx hb hr rfl (fun t ht hW => ⟨⟨_, (), rfl, rfl, kq_mk ht hP hD⟩, hS.F ht⟩) hS.2.2 dX1_equalTo_95
              · have hf := kp_p c27010 hf
                refine lv_aload_n hx hb dX1_equalTo_79 rfl (lv_at hl 0 rfl) ?_
                refine va_get (D := (dC, dI)) (ci := 1) (v := .ref h_z) (C := RX1) (T := TX1) (N := 7) hx hb hts iwX1 hown hK hP 0 rfl rfl 3 (by decide) (hts _ tw_62) (fun _ h9 => h9) rfl dX1_equalTo_80 ?_
                refine lv_iload_n hx hb dX1_equalTo_83 rfl (lv_at hl 2 rfl) ?_
                refine va_iald hx hb hK hP 5 0 rfl rfl hq27002 dX1_equalTo_84 ?_
                refine lv_aload_n hx hb dX1_equalTo_85 rfl (lv_at hl 1 rfl) ?_
                refine va_get (D := (dC, dI)) (ci := 1) (v := .ref p0_z) (C := RX1) (T := TX1) (N := 7) hx hb hts iwX1 hown hK hP 1 rfl rfl 3 (by decide) (hts _ tw_62) (fun _ h9 => h9) rfl dX1_equalTo_86 ?_
                refine lv_iload_n hx hb dX1_equalTo_89 rfl (lv_at hl 2 rfl) ?_
                refine va_iald hx hb hK hP 9 0 rfl rfl hq27002 dX1_equalTo_90 ?_
                refine lv_icmp_eq (tgt := 96) hx hb dX1_equalTo_91 (by decide) (fun c27013 => ?_) (fun c27013 => ?_)
                · have hf := kp_p c27013 hf
                  refine lv_iinc (v := v2 + 1) (lv' := [(2, .int (v2 + 1)), (0, .ref h), (1, .ref p0)]) hx hb dX1_equalTo_96 hl (k := 2) rfl rfl (by decide) rfl (fun ls hl => ?_)
                  refine lv_goto (tgt := 26) hx hb dX1_equalTo_99 (by decide) ?_
                  exact ih26 _ _ _ ⟨v2 + 1, ls, rfl, lv_sub hl [1, 2, 0] rfl, hP, hD, hS, hf⟩
                · have hf := kp_n c27013 hf
                  refine lv_iconst (v := 0) hx hb dX1_equalTo_94 (by decide) ?_
                  have eo := Option.some.inj hf
                  subst eo
                  exact W.zret (v := 0) hx hb hr rfl (fun t ht hW => ⟨⟨_, (), rfl, rfl, kq_mk ht hP hD⟩, hS.F ht⟩) hS.2.2 dX1_equalTo_95
    · have hf := kp_n c2 hf
      refine lv_iconst (v := 0) hx hb dX1_equalTo_22 (by decide) ?_
      have eo := Option.some.inj hf
      subst eo
      exact W.zret (v := 0) hx hb hr rfl (fun t ht hW => ⟨⟨_, (), rfl, rfl, kq_mk ht hP hD⟩, hS.F ht⟩) hS.2.2 dX1_equalTo_23
