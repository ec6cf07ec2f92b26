
set_option maxHeartbeats 4000000 in
set_option maxRecDepth 100000 in
theorem c_X5_init (l : Launch) (dC : Nat → ClassId) (dI : Nat → Nat → Nat) (cA : Nat → ClassId) (tt : Nat → Nat) (h : Nat) (sz : Nat) (p0 : Int64) : Met l yX5_init wX5_init ({ frames := 1, cells := 10, slots := 2193, locals := 20 }) (kq_Pc dC dI cA tt [.ref h, .long p0] [(h, .inr (5, [.int 0, .long 0, .long 0, .null, .null, .null, .null, .null, .null, .null, .null, .int 0, .null, .null, .int 0]))] sz) (va_Qv (fun _ : Nat × Nat × Nat × Nat × Nat × Nat × Nat × Nat × Nat × Nat => True) (fun u t => kq_B dC dI [(h, .inr (5, [.int 0, .long p0, .long p0, .ref u.1, .ref u.2.1, .ref u.2.2.1, .ref u.2.2.2.1, .ref u.2.2.2.2.1, .ref u.2.2.2.2.2.1, .ref u.2.2.2.2.2.2.1, .ref u.2.2.2.2.2.2.2.1, .int 0, .ref u.2.2.2.2.2.2.2.2.1, .ref u.2.2.2.2.2.2.2.2.2, .int 0])), (u.1, .inl (cA 0, 3, .inl (fun _ => 0))), (u.2.1, .inl (cA 0, 120, .inl (fun _ => 0))), (u.2.2.1, .inl (cA 2, 120, .inr (.inl (fun _ => 0)))), (u.2.2.2.1, .inl (cA 2, 120, .inr (.inl (fun _ => 0)))), (u.2.2.2.2.1, .inl (cA 2, 120, .inr (.inl (fun _ => 0)))), (u.2.2.2.2.2.1, .inl (cA 0, 3, .inl (fun _ => 0))), (u.2.2.2.2.2.2.1, .inl (cA 0, 3, .inl (fun _ => 0))), (u.2.2.2.2.2.2.2.1, .inl (cA 0, 40, .inl (fun _ => 0))), (u.2.2.2.2.2.2.2.2.1, .inl (cA 1, 64, .inl (fun _ => 0))), (u.2.2.2.2.2.2.2.2.2, .inl (cA 3, 1600, .inl (fun _ => 0)))] (va_A [(h, .inr (5, [.int 0, .long 0, .long 0, .null, .null, .null, .null, .null, .null, .null, .null, .int 0, .null, .null, .int 0]))] sz) t) (va_A [(h, .inr (5, [.int 0, .long 0, .long 0, .null, .null, .null, .null, .null, .null, .null, .null, .int 0, .null, .null, .int 0]))] sz)) 10 2193 (va_A [(h, .inr (5, [.int 0, .long 0, .long 0, .null, .null, .null, .null, .null, .null, .null, .null, .int 0, .null, .null, .int 0]))] sz) := by
  refine Met.ofW (cc := cX5_init) (maxL := 3) (ret := none) (by decide) rfl ?_
  intro p e s m args below meth c s₁ B hml hv
  obtain ⟨rfl, hsz, hP, hD0, hG, hZ⟩ := hv
  have hx := B.exec
  have hb := B.bytes
  have hr := B.returns
  have hts : ∀ w ∈ kq_T, w.before _ s = true := fun w h => atoms_spec (ws := wX5_init) B.pre w (List.mem_cons_of_mem _ h)
  have hown : s.vm.findClass RX5 = some m.cls := findClass_of_methodNamed B.named
  have hlocks := B.notSynchronized
  have hK := hG.1
  subst hsz
  have hD := hD0.self (sz := s.heap.size)
  generalize hAe : va_A [(h, .inr (5, [.int 0, .long 0, .long 0, .null, .null, .null, .null, .null, .null, .null, .null, .int 0, .null, .null, .int 0]))] s.heap.size = A at hD hZ ⊢
  have hA : ∀ q : Nat, s.heap.size ≤ q → A q := fun q h => by rw [← hAe]; exact Or.inr h
  have hl := lv_entry [.ref h, .long p0] (n := 3) (Nat.le_of_ble_eq_true rfl)
  rw [lg_entry_eq]
  generalize (lg_sl [.ref h, .long p0] ++ List.replicate (3 - (lg_sl [.ref h, .long p0]).length) Slot.unset).toArray = ls at hl ⊢
  have hl : lv_has ls 3 [(0, .ref h), (1, .long p0)] := hl
  obtain ⟨H, hHe⟩ : ∃ H : Heap, H = s.heap := ⟨_, rfl⟩
  have hP : va_P (dC, dI) vwCl [(h, .inr (5, [.int 0, .long 0, .long 0, .null, .null, .null, .null, .null, .null, .null, .null, .int 0, .null, .null, .int 0]))] H := by rw [hHe]; exact hP
  have hS : va_S A s.heap H [] := by rw [hHe]; exact va_S.rf
  rw [← hHe]
  have hin : meth.name = "<init>" := (name_of_methodNamed B.named B.method).1
  refine lv_aload_n hx hb dX5_init_0 rfl (lv_at hl 0 rfl) ?_
  refine W.objInit hx hb hown (hts _ tw_334) (hts _ tw_34) (hts _ tw_35) rfl (by rw [hml]; exact hl.1) rfl dX5_init_1 (Nat.le_of_ble_eq_true rfl) (Nat.le_of_ble_eq_true rfl) ?_
  refine W.eq (g2 := F0 m 4 ls []) rfl ?_
  refine lv_aload_n hx hb dX5_init_4 rfl (lv_at hl 0 rfl) ?_
  refine lv_iconst (v := 3) hx hb dX5_init_5 (by decide) ?_
  refine va_newa (atype := .int) (a0 := (3, .inl (fun _ => 0))) (N' := 3) hx hb (hts _ tw_87) (ty := .int) rfl hK hP hD hS hA (fun _ => rfl) (by decide) (by decide) (by decide) (Nat.le_of_ble_eq_true rfl) (Nat.le_of_ble_eq_true rfl) dX5_init_6 (fun n6 cn6 H hK9 hP hD hS => ?_)
  rw [kq_same hK9 4 0 rfl rfl] at hP hD
  have hP : va_P (dC, dI) vwCl [(h, .inr (5, [.int 0, .long 0, .long 0, .null, .null, .null, .null, .null, .null, .null, .null, .int 0, .null, .null, .int 0])), (n6, .inl (cA 0, 3, .inl (fun _ => 0)))] H := hP
  have hD : va_D A [(h, .inr (5, [.int 0, .long 0, .long 0, .null, .null, .null, .null, .null, .null, .null, .null, .int 0, .null, .null, .int 0])), (n6, .inl (cA 0, 3, .inl (fun _ => 0)))] := hD
  refine W.widen (k := 1) (n := 3) (by omega) (by omega) ?_
  refine va_putF (D := (dC, dI)) (ci := 5) (v := .ref n6) (ty := (.array .int)) (C := RX5) (T := TX5) (N := 15) hx hb hts iwX5 tyX5 tyX5_ok nmX5 hown hK hP hD hS 0 rfl rfl 3 (by decide) (hts _ tw_338) (fun _ h9 => h9) rfl hin rfl (by decide +kernel) rfl rfl (Nat.le_of_ble_eq_true rfl) dX5_init_8 (fun H locs hP hD hS => ?_)
  have hP : va_P (dC, dI) vwCl [(h, .inr (5, [.int 0, .long 0, .long 0, .ref n6, .null, .null, .null, .null, .null, .null, .null, .int 0, .null, .null, .int 0])), (n6, .inl (cA 0, 3, .inl (fun _ => 0)))] H := hP
  have hD : va_D A [(h, .inr (5, [.int 0, .long 0, .long 0, .ref n6, .null, .null, .null, .null, .null, .null, .null, .int 0, .null, .null, .int 0])), (n6, .inl (cA 0, 3, .inl (fun _ => 0)))] := hD
  refine lv_aload_n hx hb dX5_init_11 rfl (lv_at hl 0 rfl) ?_
  refine lv_bipush (v := 120) hx hb dX5_init_12 (by decide) ?_
  refine va_newa (atype := .int) (a0 := (120, .inl (fun _ => 0))) (N' := 120) hx hb (hts _ tw_87) (ty := .int) rfl hK hP hD hS hA (fun _ => rfl) (by decide) (by decide) (by decide) (Nat.le_of_ble_eq_true rfl) (Nat.le_of_ble_eq_true rfl) dX5_init_14 (fun n14 cn14 H hK9 hP hD hS => ?_)
  rw [kq_same hK9 4 0 rfl rfl] at hP hD
  have hP : va_P (dC, dI) vwCl [(h, .inr (5, [.int 0, .long 0, .long 0, .ref n6, .null, .null, .null, .null, .null, .null, .null, .int 0, .null, .null, .int 0])), (n6, .inl (cA 0, 3, .inl (fun _ => 0))), (n14, .inl (cA 0, 120, .inl (fun _ => 0)))] H := hP
  have hD : va_D A [(h, .inr (5, [.int 0, .long 0, .long 0, .ref n6, .null, .null, .null, .null, .null, .null, .null, .int 0, .null, .null, .int 0])), (n6, .inl (cA 0, 3, .inl (fun _ => 0))), (n14, .inl (cA 0, 120, .inl (fun _ => 0)))] := hD
  refine W.widen (k := 2) (n := 123) (by omega) (by omega) ?_
  refine va_putF (D := (dC, dI)) (ci := 5) (v := .ref n14) (ty := (.array .int)) (C := RX5) (T := TX5) (N := 15) hx hb hts iwX5 tyX5 tyX5_ok nmX5 hown hK hP hD hS 0 rfl rfl 4 (by decide) (hts _ tw_339) (fun _ h9 => h9) rfl hin rfl (by decide +kernel) rfl rfl (Nat.le_of_ble_eq_true rfl) dX5_init_16 (fun H locs hP hD hS => ?_)
  have hP : va_P (dC, dI) vwCl [(h, .inr (5, [.int 0, .long 0, .long 0, .ref n6, .ref n14, .null, .null, .null, .null, .null, .null, .int 0, .null, .null, .int 0])), (n6, .inl (cA 0, 3, .inl (fun _ => 0))), (n14, .inl (cA 0, 120, .inl (fun _ => 0)))] H := hP
  have hD : va_D A [(h, .inr (5, [.int 0, .long 0, .long 0, .ref n6, .ref n14, .null, .null, .null, .null, .null, .null, .int 0, .null, .null, .int 0])), (n6, .inl (cA 0, 3, .inl (fun _ => 0))), (n14, .inl (cA 0, 120, .inl (fun _ => 0)))] := hD
  refine lv_aload_n hx hb dX5_init_19 rfl (lv_at hl 0 rfl) ?_
  refine lv_bipush (v := 120) hx hb dX5_init_20 (by decide) ?_
  refine va_newa (atype := .long) (a0 := (120, .inr (.inl (fun _ => 0)))) (N' := 120) hx hb (hts _ tw_381) (ty := .long) rfl hK hP hD hS hA (fun _ => rfl) (by decide) (by decide) (by decide) (Nat.le_of_ble_eq_true rfl) (Nat.le_of_ble_eq_true rfl) dX5_init_22 (fun n22 cn22 H hK9 hP hD hS => ?_)
  rw [kq_same hK9 4 2 rfl rfl] at hP hD
  have hP : va_P (dC, dI) vwCl [(h, .inr (5, [.int 0, .long 0, .long 0, .ref n6, .ref n14, .null, .null, .null, .null, .null, .null, .int 0, .null, .null, .int 0])), (n6, .inl (cA 0, 3, .inl (fun _ => 0))), (n14, .inl (cA 0, 120, .inl (fun _ => 0))), (n22, .inl (cA 2, 120, .inr (.inl (fun _ => 0))))] H := hP
  have hD : va_D A [(h, .inr (5, [.int 0, .long 0, .long 0, .ref n6, .ref n14, .null, .null, .null, .null, .null, .null, .int 0, .null, .null, .int 0])), (n6, .inl (cA 0, 3, .inl (fun _ => 0))), (n14, .inl (cA 0, 120, .inl (fun _ => 0))), (n22, .inl (cA 2, 120, .inr (.inl (fun _ => 0))))] := hD
  refine W.widen (k := 3) (n := 243) (by omega) (by omega) ?_
  refine va_putF (D := (dC, dI)) (ci := 5) (v := .ref n22) (ty := (.array .long)) (C := RX5) (T := TX5) (N := 15) hx hb hts iwX5 tyX5 tyX5_ok nmX5 hown hK hP hD hS 0 rfl rfl 5 (by decide) (hts _ tw_340) (fun _ h9 => h9) rfl hin rfl (by decide +kernel) rfl rfl (Nat.le_of_ble_eq_true rfl) dX5_init_24 (fun H locs hP hD hS => ?_)
  have hP : va_P (dC, dI) vwCl [(h, .inr (5, [.int 0, .long 0, .long 0, .ref n6, .ref n14, .ref n22, .null, .null, .null, .null, .null, .int 0, .null, .null, .int 0])), (n6, .inl (cA 0, 3, .inl (fun _ => 0))), (n14, .inl (cA 0, 120, .inl (fun _ => 0))), (n22, .inl (cA 2, 120, .inr (.inl (fun _ => 0))))] H := hP
  have hD : va_D A [(h, .inr (5, [.int 0, .long 0, .long 0, .ref n6, .ref n14, .ref n22, .null, .null, .null, .null, .null, .int 0, .null, .null, .int 0])), (n6, .inl (cA 0, 3, .inl (fun _ => 0))), (n14, .inl (cA 0, 120, .inl (fun _ => 0))), (n22, .inl (cA 2, 120, .inr (.inl (fun _ => 0))))] := hD
  refine lv_aload_n hx hb dX5_init_27 rfl (lv_at hl 0 rfl) ?_
  refine lv_bipush (v := 120) hx hb dX5_init_28 (by decide) ?_
  refine va_newa (atype := .long) (a0 := (120, .inr (.inl (fun _ => 0)))) (N' := 120) hx hb (hts _ tw_381) (ty := .long) rfl hK hP hD hS hA (fun _ => rfl) (by decide) (by decide) (by decide) (Nat.le_of_ble_eq_true rfl) (Nat.le_of_ble_eq_true rfl) dX5_init_30 (fun n30 cn30 H hK9 hP hD hS => ?_)
  rw [kq_same hK9 4 2 rfl rfl] at hP hD
  have hP : va_P (dC, dI) vwCl [(h, .inr (5, [.int 0, .long 0, .long 0, .ref n6, .ref n14, .ref n22, .null, .null, .null, .null, .null, .int 0, .null, .null, .int 0])), (n6, .inl (cA 0, 3, .inl (fun _ => 0))), (n14, .inl (cA 0, 120, .inl (fun _ => 0))), (n22, .inl (cA 2, 120, .inr (.inl (fun _ => 0)))), (n30, .inl (cA 2, 120, .inr (.inl (fun _ => 0))))] H := hP
  have hD : va_D A [(h, .inr (5, [.int 0, .long 0, .long 0, .ref n6, .ref n14, .ref n22, .null, .null, .null, .null, .null, .int 0, .null, .null, .int 0])), (n6, .inl (cA 0, 3, .inl (fun _ => 0))), (n14, .inl (cA 0, 120, .inl (fun _ => 0))), (n22, .inl (cA 2, 120, .inr (.inl (fun _ => 0)))), (n30, .inl (cA 2, 120, .inr (.inl (fun _ => 0))))] := hD
  refine W.widen (k := 4) (n := 363) (by omega) (by omega) ?_
  refine va_putF (D := (dC, dI)) (ci := 5) (v := .ref n30) (ty := (.array .long)) (C := RX5) (T := TX5) (N := 15) hx hb hts iwX5 tyX5 tyX5_ok nmX5 hown hK hP hD hS 0 rfl rfl 6 (by decide) (hts _ tw_341) (fun _ h9 => h9) rfl hin rfl (by decide +kernel) rfl rfl (Nat.le_of_ble_eq_true rfl) dX5_init_32 (fun H locs hP hD hS => ?_)
  have hP : va_P (dC, dI) vwCl [(h, .inr (5, [.int 0, .long 0, .long 0, .ref n6, .ref n14, .ref n22, .ref n30, .null, .null, .null, .null, .int 0, .null, .null, .int 0])), (n6, .inl (cA 0, 3, .inl (fun _ => 0))), (n14, .inl (cA 0, 120, .inl (fun _ => 0))), (n22, .inl (cA 2, 120, .inr (.inl (fun _ => 0)))), (n30, .inl (cA 2, 120, .inr (.inl (fun _ => 0))))] H := hP
  have hD : va_D A [(h, .inr (5, [.int 0, .long 0, .long 0, .ref n6, .ref n14, .ref n22, .ref n30, .null, .null, .null, .null, .int 0, .null, .null, .int 0])), (n6, .inl (cA 0, 3, .inl (fun _ => 0))), (n14, .inl (cA 0, 120, .inl (fun _ => 0))), (n22, .inl (cA 2, 120, .inr (.inl (fun _ => 0)))), (n30, .inl (cA 2, 120, .inr (.inl (fun _ => 0))))] := hD
  refine lv_aload_n hx hb dX5_init_35 rfl (lv_at hl 0 rfl) ?_
  refine lv_bipush (v := 120) hx hb dX5_init_36 (by decide) ?_
  refine va_newa (atype := .long) (a0 := (120, .inr (.inl (fun _ => 0)))) (N' := 120) hx hb (hts _ tw_381) (ty := .long) rfl hK hP hD hS hA (fun _ => rfl) (by decide) (by decide) (by decide) (Nat.le_of_ble_eq_true rfl) (Nat.le_of_ble_eq_true rfl) dX5_init_38 (fun n38 cn38 H hK9 hP hD hS => ?_)
  rw [kq_same hK9 4 2 rfl rfl] at hP hD
  have hP : va_P (dC, dI) vwCl [(h, .inr (5, [.int 0, .long 0, .long 0, .ref n6, .ref n14, .ref n22, .ref n30, .null, .null, .null, .null, .int 0, .null, .null, .int 0])), (n6, .inl (cA 0, 3, .inl (fun _ => 0))), (n14, .inl (cA 0, 120, .inl (fun _ => 0))), (n22, .inl (cA 2, 120, .inr (.inl (fun _ => 0)))), (n30, .inl (cA 2, 120, .inr (.inl (fun _ => 0)))), (n38, .inl (cA 2, 120, .inr (.inl (fun _ => 0))))] H := hP
  have hD : va_D A [(h, .inr (5, [.int 0, .long 0, .long 0, .ref n6, .ref n14, .ref n22, .ref n30, .null, .null, .null, .null, .int 0, .null, .null, .int 0])), (n6, .inl (cA 0, 3, .inl (fun _ => 0))), (n14, .inl (cA 0, 120, .inl (fun _ => 0))), (n22, .inl (cA 2, 120, .inr (.inl (fun _ => 0)))), (n30, .inl (cA 2, 120, .inr (.inl (fun _ => 0)))), (n38, .inl (cA 2, 120, .inr (.inl (fun _ => 0))))] := hD
  refine W.widen (k := 5) (n := 483) (by omega) (by omega) ?_
  refine va_putF (D := (dC, dI)) (ci := 5) (v := .ref n38) (ty := (.array .long)) (C := RX5) (T := TX5) (N := 15) hx hb hts iwX5 tyX5 tyX5_ok nmX5 hown hK hP hD hS 0 rfl rfl 7 (by decide) (hts _ tw_342) (fun _ h9 => h9) rfl hin rfl (by decide +kernel) rfl rfl (Nat.le_of_ble_eq_true rfl) dX5_init_40 (fun H locs hP hD hS => ?_)
  have hP : va_P (dC, dI) vwCl [(h, .inr (5, [.int 0, .long 0, .long 0, .ref n6, .ref n14, .ref n22, .ref n30, .ref n38, .null, .null, .null, .int 0, .null, .null, .int 0])), (n6, .inl (cA 0, 3, .inl (fun _ => 0))), (n14, .inl (cA 0, 120, .inl (fun _ => 0))), (n22, .inl (cA 2, 120, .inr (.inl (fun _ => 0)))), (n30, .inl (cA 2, 120, .inr (.inl (fun _ => 0)))), (n38, .inl (cA 2, 120, .inr (.inl (fun _ => 0))))] H := hP
  have hD : va_D A [(h, .inr (5, [.int 0, .long 0, .long 0, .ref n6, .ref n14, .ref n22, .ref n30, .ref n38, .null, .null, .null, .int 0, .null, .null, .int 0])), (n6, .inl (cA 0, 3, .inl (fun _ => 0))), (n14, .inl (cA 0, 120, .inl (fun _ => 0))), (n22, .inl (cA 2, 120, .inr (.inl (fun _ => 0)))), (n30, .inl (cA 2, 120, .inr (.inl (fun _ => 0)))), (n38, .inl (cA 2, 120, .inr (.inl (fun _ => 0))))] := hD
  refine lv_aload_n hx hb dX5_init_43 rfl (lv_at hl 0 rfl) ?_
  refine lv_iconst (v := 3) hx hb dX5_init_44 (by decide) ?_
  refine va_newa (atype := .int) (a0 := (3, .inl (fun _ => 0))) (N' := 3) hx hb (hts _ tw_87) (ty := .int) rfl hK hP hD hS hA (fun _ => rfl) (by decide) (by decide) (by decide) (Nat.le_of_ble_eq_true rfl) (Nat.le_of_ble_eq_true rfl) dX5_init_45 (fun n45 cn45 H hK9 hP hD hS => ?_)
  rw [kq_same hK9 4 0 rfl rfl] at hP hD
  have hP : va_P (dC, dI) vwCl [(h, .inr (5, [.int 0, .long 0, .long 0, .ref n6, .ref n14, .ref n22, .ref n30, .ref n38, .null, .null, .null, .int 0, .null, .null, .int 0])), (n6, .inl (cA 0, 3, .inl (fun _ => 0))), (n14, .inl (cA 0, 120, .inl (fun _ => 0))), (n22, .inl (cA 2, 120, .inr (.inl (fun _ => 0)))), (n30, .inl (cA 2, 120, .inr (.inl (fun _ => 0)))), (n38, .inl (cA 2, 120, .inr (.inl (fun _ => 0)))), (n45, .inl (cA 0, 3, .inl (fun _ => 0)))] H := hP
  have hD : va_D A [(h, .inr (5, [.int 0, .long 0, .long 0, .ref n6, .ref n14, .ref n22, .ref n30, .ref n38, .null, .null, .null, .int 0, .null, .null, .int 0])), (n6, .inl (cA 0, 3, .inl (fun _ => 0))), (n14, .inl (cA 0, 120, .inl (fun _ => 0))), (n22, .inl (cA 2, 120, .inr (.inl (fun _ => 0)))), (n30, .inl (cA 2, 120, .inr (.inl (fun _ => 0)))), (n38, .inl (cA 2, 120, .inr (.inl (fun _ => 0)))), (n45, .inl (cA 0, 3, .inl (fun _ => 0)))] := hD
  refine W.widen (k := 6) (n := 486) (by omega) (by omega) ?_
  refine va_putF (D := (dC, dI)) (ci := 5) (v := .ref n45) (ty := (.array .int)) (C := RX5) (T := TX5) (N := 15) hx hb hts iwX5 tyX5 tyX5_ok nmX5 hown hK hP hD hS 0 rfl rfl 8 (by decide) (hts _ tw_343) (fun _ h9 => h9) rfl hin rfl (by decide +kernel) rfl rfl (Nat.le_of_ble_eq_true rfl) dX5_init_47 (fun H locs hP hD hS => ?_)
  have hP : va_P (dC, dI) vwCl [(h, .inr (5, [.int 0, .long 0, .long 0, .ref n6, .ref n14, .ref n22, .ref n30, .ref n38, .ref n45, .null, .null, .int 0, .null, .null, .int 0])), (n6, .inl (cA 0, 3, .inl (fun _ => 0))), (n14, .inl (cA 0, 120, .inl (fun _ => 0))), (n22, .inl (cA 2, 120, .inr (.inl (fun _ => 0)))), (n30, .inl (cA 2, 120, .inr (.inl (fun _ => 0)))), (n38, .inl (cA 2, 120, .inr (.inl (fun _ => 0)))), (n45, .inl (cA 0, 3, .inl (fun _ => 0)))] H := hP
  have hD : va_D A [(h, .inr (5, [.int 0, .long 0, .long 0, .ref n6, .ref n14, .ref n22, .ref n30, .ref n38, .ref n45, .null, .null, .int 0, .null, .null, .int 0])), (n6, .inl (cA 0, 3, .inl (fun _ => 0))), (n14, .inl (cA 0, 120, .inl (fun _ => 0))), (n22, .inl (cA 2, 120, .inr (.inl (fun _ => 0)))), (n30, .inl (cA 2, 120, .inr (.inl (fun _ => 0)))), (n38, .inl (cA 2, 120, .inr (.inl (fun _ => 0)))), (n45, .inl (cA 0, 3, .inl (fun _ => 0)))] := hD
  refine lv_aload_n hx hb dX5_init_50 rfl (lv_at hl 0 rfl) ?_
  refine lv_iconst (v := 3) hx hb dX5_init_51 (by decide) ?_
  refine va_newa (atype := .int) (a0 := (3, .inl (fun _ => 0))) (N' := 3) hx hb (hts _ tw_87) (ty := .int) rfl hK hP hD hS hA (fun _ => rfl) (by decide) (by decide) (by decide) (Nat.le_of_ble_eq_true rfl) (Nat.le_of_ble_eq_true rfl) dX5_init_52 (fun n52 cn52 H hK9 hP hD hS => ?_)
  rw [kq_same hK9 4 0 rfl rfl] at hP hD
  have hP : va_P (dC, dI) vwCl [(h, .inr (5, [.int 0, .long 0, .long 0, .ref n6, .ref n14, .ref n22, .ref n30, .ref n38, .ref n45, .null, .null, .int 0, .null, .null, .int 0])), (n6, .inl (cA 0, 3, .inl (fun _ => 0))), (n14, .inl (cA 0, 120, .inl (fun _ => 0))), (n22, .inl (cA 2, 120, .inr (.inl (fun _ => 0)))), (n30, .inl (cA 2, 120, .inr (.inl (fun _ => 0)))), (n38, .inl (cA 2, 120, .inr (.inl (fun _ => 0)))), (n45, .inl (cA 0, 3, .inl (fun _ => 0))), (n52, .inl (cA 0, 3, .inl (fun _ => 0)))] H := hP
  have hD : va_D A [(h, .inr (5, [.int 0, .long 0, .long 0, .ref n6, .ref n14, .ref n22, .ref n30, .ref n38, .ref n45, .null, .null, .int 0, .null, .null, .int 0])), (n6, .inl (cA 0, 3, .inl (fun _ => 0))), (n14, .inl (cA 0, 120, .inl (fun _ => 0))), (n22, .inl (cA 2, 120, .inr (.inl (fun _ => 0)))), (n30, .inl (cA 2, 120, .inr (.inl (fun _ => 0)))), (n38, .inl (cA 2, 120, .inr (.inl (fun _ => 0)))), (n45, .inl (cA 0, 3, .inl (fun _ => 0))), (n52, .inl (cA 0, 3, .inl (fun _ => 0)))] := hD
  refine W.widen (k := 7) (n := 489) (by omega) (by omega) ?_
  refine va_putF (D := (dC, dI)) (ci := 5) (v := .ref n52) (ty := (.array .int)) (C := RX5) (T := TX5) (N := 15) hx hb hts iwX5 tyX5 tyX5_ok nmX5 hown hK hP hD hS 0 rfl rfl 9 (by decide) (hts _ tw_344) (fun _ h9 => h9) rfl hin rfl (by decide +kernel) rfl rfl (Nat.le_of_ble_eq_true rfl) dX5_init_54 (fun H locs hP hD hS => ?_)
  have hP : va_P (dC, dI) vwCl [(h, .inr (5, [.int 0, .long 0, .long 0, .ref n6, .ref n14, .ref n22, .ref n30, .ref n38, .ref n45, .ref n52, .null, .int 0, .null, .null, .int 0])), (n6, .inl (cA 0, 3, .inl (fun _ => 0))), (n14, .inl (cA 0, 120, .inl (fun _ => 0))), (n22, .inl (cA 2, 120, .inr (.inl (fun _ => 0)))), (n30, .inl (cA 2, 120, .inr (.inl (fun _ => 0)))), (n38, .inl (cA 2, 120, .inr (.inl (fun _ => 0)))), (n45, .inl (cA 0, 3, .inl (fun _ => 0))), (n52, .inl (cA 0, 3, .inl (fun _ => 0)))] H := hP
  have hD : va_D A [(h, .inr (5, [.int 0, .long 0, .long 0, .ref n6, .ref n14, .ref n22, .ref n30, .ref n38, .ref n45, .ref n52, .null, .int 0, .null, .null, .int 0])), (n6, .inl (cA 0, 3, .inl (fun _ => 0))), (n14, .inl (cA 0, 120, .inl (fun _ => 0))), (n22, .inl (cA 2, 120, .inr (.inl (fun _ => 0)))), (n30, .inl (cA 2, 120, .inr (.inl (fun _ => 0)))), (n38, .inl (cA 2, 120, .inr (.inl (fun _ => 0)))), (n45, .inl (cA 0, 3, .inl (fun _ => 0))), (n52, .inl (cA 0, 3, .inl (fun _ => 0)))] := hD
  refine lv_aload_n hx hb dX5_init_57 rfl (lv_at hl 0 rfl) ?_
  refine lv_bipush (v := 40) hx hb dX5_init_58 (by decide) ?_
  refine va_newa (atype := .int) (a0 := (40, .inl (fun _ => 0))) (N' := 40) hx hb (hts _ tw_87) (ty := .int) rfl hK hP hD hS hA (fun _ => rfl) (by decide) (by decide) (by decide) (Nat.le_of_ble_eq_true rfl) (Nat.le_of_ble_eq_true rfl) dX5_init_60 (fun n60 cn60 H hK9 hP hD hS => ?_)
  rw [kq_same hK9 4 0 rfl rfl] at hP hD
  have hP : va_P (dC, dI) vwCl [(h, .inr (5, [.int 0, .long 0, .long 0, .ref n6, .ref n14, .ref n22, .ref n30, .ref n38, .ref n45, .ref n52, .null, .int 0, .null, .null, .int 0])), (n6, .inl (cA 0, 3, .inl (fun _ => 0))), (n14, .inl (cA 0, 120, .inl (fun _ => 0))), (n22, .inl (cA 2, 120, .inr (.inl (fun _ => 0)))), (n30, .inl (cA 2, 120, .inr (.inl (fun _ => 0)))), (n38, .inl (cA 2, 120, .inr (.inl (fun _ => 0)))), (n45, .inl (cA 0, 3, .inl (fun _ => 0))), (n52, .inl (cA 0, 3, .inl (fun _ => 0))), (n60, .inl (cA 0, 40, .inl (fun _ => 0)))] H := hP
  have hD : va_D A [(h, .inr (5, [.int 0, .long 0, .long 0, .ref n6, .ref n14, .ref n22, .ref n30, .ref n38, .ref n45, .ref n52, .null, .int 0, .null, .null, .int 0])), (n6, .inl (cA 0, 3, .inl (fun _ => 0))), (n14, .inl (cA 0, 120, .inl (fun _ => 0))), (n22, .inl (cA 2, 120, .inr (.inl (fun _ => 0)))), (n30, .inl (cA 2, 120, .inr (.inl (fun _ => 0)))), (n38, .inl (cA 2, 120, .inr (.inl (fun _ => 0)))), (n45, .inl (cA 0, 3, .inl (fun _ => 0))), (n52, .inl (cA 0, 3, .inl (fun _ => 0))), (n60, .inl (cA 0, 40, .inl (fun _ => 0)))] := hD
  refine W.widen (k := 8) (n := 529) (by omega) (by omega) ?_
  refine va_putF (D := (dC, dI)) (ci := 5) (v := .ref n60) (ty := (.array .int)) (C := RX5) (T := TX5) (N := 15) hx hb hts iwX5 tyX5 tyX5_ok nmX5 hown hK hP hD hS 0 rfl rfl 10 (by decide) (hts _ tw_345) (fun _ h9 => h9) rfl hin rfl (by decide +kernel) rfl rfl (Nat.le_of_ble_eq_true rfl) dX5_init_62 (fun H locs hP hD hS => ?_)
  have hP : va_P (dC, dI) vwCl [(h, .inr (5, [.int 0, .long 0, .long 0, .ref n6, .ref n14, .ref n22, .ref n30, .ref n38, .ref n45, .ref n52, .ref n60, .int 0, .null, .null, .int 0])), (n6, .inl (cA 0, 3, .inl (fun _ => 0))), (n14, .inl (cA 0, 120, .inl (fun _ => 0))), (n22, .inl (cA 2, 120, .inr (.inl (fun _ => 0)))), (n30, .inl (cA 2, 120, .inr (.inl (fun _ => 0)))), (n38, .inl (cA 2, 120, .inr (.inl (fun _ => 0)))), (n45, .inl (cA 0, 3, .inl (fun _ => 0))), (n52, .inl (cA 0, 3, .inl (fun _ => 0))), (n60, .inl (cA 0, 40, .inl (fun _ => 0)))] H := hP
  have hD : va_D A [(h, .inr (5, [.int 0, .long 0, .long 0, .ref n6, .ref n14, .ref n22, .ref n30, .ref n38, .ref n45, .ref n52, .ref n60, .int 0, .null, .null, .int 0])), (n6, .inl (cA 0, 3, .inl (fun _ => 0))), (n14, .inl (cA 0, 120, .inl (fun _ => 0))), (n22, .inl (cA 2, 120, .inr (.inl (fun _ => 0)))), (n30, .inl (cA 2, 120, .inr (.inl (fun _ => 0)))), (n38, .inl (cA 2, 120, .inr (.inl (fun _ => 0)))), (n45, .inl (cA 0, 3, .inl (fun _ => 0))), (n52, .inl (cA 0, 3, .inl (fun _ => 0))), (n60, .inl (cA 0, 40, .inl (fun _ => 0)))] := hD
  refine lv_aload_n hx hb dX5_init_65 rfl (lv_at hl 0 rfl) ?_
  refine lv_bipush (v := 64) hx hb dX5_init_66 (by decide) ?_
  refine va_newa (atype := .boolean) (a0 := (64, .inl (fun _ => 0))) (N' := 64) hx hb (hts _ tw_98) (ty := .boolean) rfl hK hP hD hS hA (fun _ => rfl) (by decide) (by decide) (by decide) (Nat.le_of_ble_eq_true rfl) (Nat.le_of_ble_eq_true rfl) dX5_init_68 (fun n68 cn68 H hK9 hP hD hS => ?_)
  rw [kq_same hK9 4 1 rfl rfl] at hP hD
  have hP : va_P (dC, dI) vwCl [(h, .inr (5, [.int 0, .long 0, .long 0, .ref n6, .ref n14, .ref n22, .ref n30, .ref n38, .ref n45, .ref n52, .ref n60, .int 0, .null, .null, .int 0])), (n6, .inl (cA 0, 3, .inl (fun _ => 0))), (n14, .inl (cA 0, 120, .inl (fun _ => 0))), (n22, .inl (cA 2, 120, .inr (.inl (fun _ => 0)))), (n30, .inl (cA 2, 120, .inr (.inl (fun _ => 0)))), (n38, .inl (cA 2, 120, .inr (.inl (fun _ => 0)))), (n45, .inl (cA 0, 3, .inl (fun _ => 0))), (n52, .inl (cA 0, 3, .inl (fun _ => 0))), (n60, .inl (cA 0, 40, .inl (fun _ => 0))), (n68, .inl (cA 1, 64, .inl (fun _ => 0)))] H := hP
  have hD : va_D A [(h, .inr (5, [.int 0, .long 0, .long 0, .ref n6, .ref n14, .ref n22, .ref n30, .ref n38, .ref n45, .ref n52, .ref n60, .int 0, .null, .null, .int 0])), (n6, .inl (cA 0, 3, .inl (fun _ => 0))), (n14, .inl (cA 0, 120, .inl (fun _ => 0))), (n22, .inl (cA 2, 120, .inr (.inl (fun _ => 0)))), (n30, .inl (cA 2, 120, .inr (.inl (fun _ => 0)))), (n38, .inl (cA 2, 120, .inr (.inl (fun _ => 0)))), (n45, .inl (cA 0, 3, .inl (fun _ => 0))), (n52, .inl (cA 0, 3, .inl (fun _ => 0))), (n60, .inl (cA 0, 40, .inl (fun _ => 0))), (n68, .inl (cA 1, 64, .inl (fun _ => 0)))] := hD
  refine W.widen (k := 9) (n := 593) (by omega) (by omega) ?_
  refine va_putF (D := (dC, dI)) (ci := 5) (v := .ref n68) (ty := (.array .boolean)) (C := RX5) (T := TX5) (N := 15) hx hb hts iwX5 tyX5 tyX5_ok nmX5 hown hK hP hD hS 0 rfl rfl 12 (by decide) (hts _ tw_347) (fun _ h9 => h9) rfl hin rfl (by decide +kernel) rfl rfl (Nat.le_of_ble_eq_true rfl) dX5_init_70 (fun H locs hP hD hS => ?_)
  have hP : va_P (dC, dI) vwCl [(h, .inr (5, [.int 0, .long 0, .long 0, .ref n6, .ref n14, .ref n22, .ref n30, .ref n38, .ref n45, .ref n52, .ref n60, .int 0, .ref n68, .null, .int 0])), (n6, .inl (cA 0, 3, .inl (fun _ => 0))), (n14, .inl (cA 0, 120, .inl (fun _ => 0))), (n22, .inl (cA 2, 120, .inr (.inl (fun _ => 0)))), (n30, .inl (cA 2, 120, .inr (.inl (fun _ => 0)))), (n38, .inl (cA 2, 120, .inr (.inl (fun _ => 0)))), (n45, .inl (cA 0, 3, .inl (fun _ => 0))), (n52, .inl (cA 0, 3, .inl (fun _ => 0))), (n60, .inl (cA 0, 40, .inl (fun _ => 0))), (n68, .inl (cA 1, 64, .inl (fun _ => 0)))] H := hP
  have hD : va_D A [(h, .inr (5, [.int 0, .long 0, .long 0, .ref n6, .ref n14, .ref n22, .ref n30, .ref n38, .ref n45, .ref n52, .ref n60, .int 0, .ref n68, .null, .int 0])), (n6, .inl (cA 0, 3, .inl (fun _ => 0))), (n14, .inl (cA 0, 120, .inl (fun _ => 0))), (n22, .inl (cA 2, 120, .inr (.inl (fun _ => 0)))), (n30, .inl (cA 2, 120, .inr (.inl (fun _ => 0)))), (n38, .inl (cA 2, 120, .inr (.inl (fun _ => 0)))), (n45, .inl (cA 0, 3, .inl (fun _ => 0))), (n52, .inl (cA 0, 3, .inl (fun _ => 0))), (n60, .inl (cA 0, 40, .inl (fun _ => 0))), (n68, .inl (cA 1, 64, .inl (fun _ => 0)))] := hD
  refine lv_aload_n hx hb dX5_init_73 rfl (lv_at hl 0 rfl) ?_
  refine lv_sipush (v := 1600) hx hb dX5_init_74 (by decide) ?_
  refine va_newa (atype := .byte) (a0 := (1600, .inl (fun _ => 0))) (N' := 1600) hx hb (hts _ tw_382) (ty := .byte) rfl hK hP hD hS hA (fun _ => rfl) (by decide) (by decide) (by decide) (Nat.le_of_ble_eq_true rfl) (Nat.le_of_ble_eq_true rfl) dX5_init_77 (fun n77 cn77 H hK9 hP hD hS => ?_)
  rw [kq_same hK9 4 3 rfl rfl] at hP hD
  have hP : va_P (dC, dI) vwCl [(h, .inr (5, [.int 0, .long 0, .long 0, .ref n6, .ref n14, .ref n22, .ref n30, .ref n38, .ref n45, .ref n52, .ref n60, .int 0, .ref n68, .null, .int 0])), (n6, .inl (cA 0, 3, .inl (fun _ => 0))), (n14, .inl (cA 0, 120, .inl (fun _ => 0))), (n22, .inl (cA 2, 120, .inr (.inl (fun _ => 0)))), (n30, .inl (cA 2, 120, .inr (.inl (fun _ => 0)))), (n38, .inl (cA 2, 120, .inr (.inl (fun _ => 0)))), (n45, .inl (cA 0, 3, .inl (fun _ => 0))), (n52, .inl (cA 0, 3, .inl (fun _ => 0))), (n60, .inl (cA 0, 40, .inl (fun _ => 0))), (n68, .inl (cA 1, 64, .inl (fun _ => 0))), (n77, .inl (cA 3, 1600, .inl (fun _ => 0)))] H := hP
  have hD : va_D A [(h, .inr (5, [.int 0, .long 0, .long 0, .ref n6, .ref n14, .ref n22, .ref n30, .ref n38, .ref n45, .ref n52, .ref n60, .int 0, .ref n68, .null, .int 0])), (n6, .inl (cA 0, 3, .inl (fun _ => 0))), (n14, .inl (cA 0, 120, .inl (fun _ => 0))), (n22, .inl (cA 2, 120, .inr (.inl (fun _ => 0)))), (n30, .inl (cA 2, 120, .inr (.inl (fun _ => 0)))), (n38, .inl (cA 2, 120, .inr (.inl (fun _ => 0)))), (n45, .inl (cA 0, 3, .inl (fun _ => 0))), (n52, .inl (cA 0, 3, .inl (fun _ => 0))), (n60, .inl (cA 0, 40, .inl (fun _ => 0))), (n68, .inl (cA 1, 64, .inl (fun _ => 0))), (n77, .inl (cA 3, 1600, .inl (fun _ => 0)))] := hD
  refine W.widen (k := 10) (n := 2193) (by omega) (by omega) ?_
  refine va_putF (D := (dC, dI)) (ci := 5) (v := .ref n77) (ty := (.array .byte)) (C := RX5) (T := TX5) (N := 15) hx hb hts iwX5 tyX5 tyX5_ok nmX5 hown hK hP hD hS 0 rfl rfl 13 (by decide) (hts _ tw_348) (fun _ h9 => h9) rfl hin rfl (by decide +kernel) rfl rfl (Nat.le_of_ble_eq_true rfl) dX5_init_79 (fun H locs hP hD hS => ?_)
  have hP : va_P (dC, dI) vwCl [(h, .inr (5, [.int 0, .long 0, .long 0, .ref n6, .ref n14, .ref n22, .ref n30, .ref n38, .ref n45, .ref n52, .ref n60, .int 0, .ref n68, .ref n77, .int 0])), (n6, .inl (cA 0, 3, .inl (fun _ => 0))), (n14, .inl (cA 0, 120, .inl (fun _ => 0))), (n22, .inl (cA 2, 120, .inr (.inl (fun _ => 0)))), (n30, .inl (cA 2, 120, .inr (.inl (fun _ => 0)))), (n38, .inl (cA 2, 120, .inr (.inl (fun _ => 0)))), (n45, .inl (cA 0, 3, .inl (fun _ => 0))), (n52, .inl (cA 0, 3, .inl (fun _ => 0))), (n60, .inl (cA 0, 40, .inl (fun _ => 0))), (n68, .inl (cA 1, 64, .inl (fun _ => 0))), (n77, .inl (cA 3, 1600, .inl (fun _ => 0)))] H := hP
  have hD : va_D A [(h, .inr (5, [.int 0, .long 0, .long 0, .ref n6, .ref n14, .ref n22, .ref n30, .ref n38, .ref n45, .ref n52, .ref n60, .int 0, .ref n68, .ref n77, .int 0])), (n6, .inl (cA 0, 3, .inl (fun _ => 0))), (n14, .inl (cA 0, 120, .inl (fun _ => 0))), (n22, .inl (cA 2, 120, .inr (.inl (fun _ => 0)))), (n30, .inl (cA 2, 120, .inr (.inl (fun _ => 0)))), (n38, .inl (cA 2, 120, .inr (.inl (fun _ => 0)))), (n45, .inl (cA 0, 3, .inl (fun _ => 0))), (n52, .inl (cA 0, 3, .inl (fun _ => 0))), (n60, .inl (cA 0, 40, .inl (fun _ => 0))), (n68, .inl (cA 1, 64, .inl (fun _ => 0))), (n77, .inl (cA 3, 1600, .inl (fun _ => 0)))] := hD
  refine lv_aload_n hx hb dX5_init_82 rfl (lv_at hl 0 rfl) ?_
  refine lv_lload_n hx hb dX5_init_83 rfl (lv_at hl 1 rfl) ?_
  refine va_putF (D := (dC, dI)) (ci := 5) (v := .long p0) (ty := (.long)) (C := RX5) (T := TX5) (N := 15) hx hb hts iwX5 tyX5 tyX5_ok nmX5 hown hK hP hD hS 0 rfl rfl 1 (by decide) (hts _ tw_336) (fun _ h9 => h9) rfl hin rfl (by decide +kernel) rfl rfl (Nat.le_of_ble_eq_true rfl) dX5_init_84 (fun H locs hP hD hS => ?_)
  have hP : va_P (dC, dI) vwCl [(h, .inr (5, [.int 0, .long p0, .long 0, .ref n6, .ref n14, .ref n22, .ref n30, .ref n38, .ref n45, .ref n52, .ref n60, .int 0, .ref n68, .ref n77, .int 0])), (n6, .inl (cA 0, 3, .inl (fun _ => 0))), (n14, .inl (cA 0, 120, .inl (fun _ => 0))), (n22, .inl (cA 2, 120, .inr (.inl (fun _ => 0)))), (n30, .inl (cA 2, 120, .inr (.inl (fun _ => 0)))), (n38, .inl (cA 2, 120, .inr (.inl (fun _ => 0)))), (n45, .inl (cA 0, 3, .inl (fun _ => 0))), (n52, .inl (cA 0, 3, .inl (fun _ => 0))), (n60, .inl (cA 0, 40, .inl (fun _ => 0))), (n68, .inl (cA 1, 64, .inl (fun _ => 0))), (n77, .inl (cA 3, 1600, .inl (fun _ => 0)))] H := hP
  have hD : va_D A [(h, .inr (5, [.int 0, .long p0, .long 0, .ref n6, .ref n14, .ref n22, .ref n30, .ref n38, .ref n45, .ref n52, .ref n60, .int 0, .ref n68, .ref n77, .int 0])), (n6, .inl (cA 0, 3, .inl (fun _ => 0))), (n14, .inl (cA 0, 120, .inl (fun _ => 0))), (n22, .inl (cA 2, 120, .inr (.inl (fun _ => 0)))), (n30, .inl (cA 2, 120, .inr (.inl (fun _ => 0)))), (n38, .inl (cA 2, 120, .inr (.inl (fun _ => 0)))), (n45, .inl (cA 0, 3, .inl (fun _ => 0))), (n52, .inl (cA 0, 3, .inl (fun _ => 0))), (n60, .inl (cA 0, 40, .inl (fun _ => 0))), (n68, .inl (cA 1, 64, .inl (fun _ => 0))), (n77, .inl (cA 3, 1600, .inl (fun _ => 0)))] := hD
  refine lv_aload_n hx hb dX5_init_87 rfl (lv_at hl 0 rfl) ?_
  refine lv_lload_n hx hb dX5_init_88 rfl (lv_at hl 1 rfl) ?_
  refine va_put (D := (dC, dI)) (ci := 5) (v := .long p0) (ty := (.long)) (C := RX5) (T := TX5) (N := 15) hx hb hts iwX5 tyX5 tyX5_ok nmX5 hown hK hP hD hS 0 rfl rfl 2 (by decide) (hts _ tw_337) (fun _ h9 => h9) rfl (by decide +kernel) rfl rfl (Nat.le_of_ble_eq_true rfl) dX5_init_89 (fun H locs hP hD hS => ?_)
  have hP : va_P (dC, dI) vwCl [(h, .inr (5, [.int 0, .long p0, .long p0, .ref n6, .ref n14, .ref n22, .ref n30, .ref n38, .ref n45, .ref n52, .ref n60, .int 0, .ref n68, .ref n77, .int 0])), (n6, .inl (cA 0, 3, .inl (fun _ => 0))), (n14, .inl (cA 0, 120, .inl (fun _ => 0))), (n22, .inl (cA 2, 120, .inr (.inl (fun _ => 0)))), (n30, .inl (cA 2, 120, .inr (.inl (fun _ => 0)))), (n38, .inl (cA 2, 120, .inr (.inl (fun _ => 0)))), (n45, .inl (cA 0, 3, .inl (fun _ => 0))), (n52, .inl (cA 0, 3, .inl (fun _ => 0))), (n60, .inl (cA 0, 40, .inl (fun _ => 0))), (n68, .inl (cA 1, 64, .inl (fun _ => 0))), (n77, .inl (cA 3, 1600, .inl (fun _ => 0)))] H := hP
  have hD : va_D A [(h, .inr (5, [.int 0, .long p0, .long p0, .ref n6, .ref n14, .ref n22, .ref n30, .ref n38, .ref n45, .ref n52, .ref n60, .int 0, .ref n68, .ref n77, .int 0])), (n6, .inl (cA 0, 3, .inl (fun _ => 0))), (n14, .inl (cA 0, 120, .inl (fun _ => 0))), (n22, .inl (cA 2, 120, .inr (.inl (fun _ => 0)))), (n30, .inl (cA 2, 120, .inr (.inl (fun _ => 0)))), (n38, .inl (cA 2, 120, .inr (.inl (fun _ => 0)))), (n45, .inl (cA 0, 3, .inl (fun _ => 0))), (n52, .inl (cA 0, 3, .inl (fun _ => 0))), (n60, .inl (cA 0, 40, .inl (fun _ => 0))), (n68, .inl (cA 1, 64, .inl (fun _ => 0))), (n77, .inl (cA 3, 1600, .inl (fun _ => 0)))] := hD
  refine W.widen (k := 10) (n := 2193) (by omega) (by omega) ?_
  exact W.vret hx hb hr (fun t ht hW => ⟨⟨(n6, n14, n22, n30, n38, n45, n52, n60, n68, n77), rfl, trivial, kq_mk ht hP hD⟩, hS.F ht⟩) hS.2.2 dX5_init_92

def f_X5_next (h_state : Int64) (p0 : Int32) : Option (Int32 × Int64) :=
    if p0.toInt64 = 0 then none else
    some (((((((6364136223846793005 * h_state) + 1442695040888963407).toUInt64 >>> ((33 : Int32).toInt64.toUInt64 &&& Int64.toUInt64 63)).toInt64) - ((((6364136223846793005 * h_state) + 1442695040888963407).toUInt64 >>> ((33 : Int32).toInt64.toUInt64 &&& Int64.toUInt64 63)).toInt64) / p0.toInt64 * p0.toInt64).toInt32, (6364136223846793005 * h_state) + 1442695040888963407))
set_option maxHeartbeats 4000000 in
set_option maxRecDepth 100000 in
theorem c_X5_next (l : Launch) (dC : Nat → ClassId) (dI : Nat → Nat → Nat) (cA : Nat → ClassId) (tt : Nat → Nat) (h h_many h_sort h_x h_y h_z h_fault h_faultAt h_left h_stays h_text : Nat) (sz : Nat) (h_code : Int32) (h_seed : Int64) (h_state : Int64) (h_lefts : Int32) (h_size : Int32) (p0 : Int32) (o : Int32 × Int64) (hf : f_X5_next h_state p0 = some o) : Met l yX5_next wX5_next ({ frames := 0, cells := 0, slots := 0, locals := 0 }) (kq_Pc dC dI cA tt [.ref h, .int p0] [(h, .inr (5, [.int h_code, .long h_seed, .long h_state, .ref h_many, .ref h_sort, .ref h_x, .ref h_y, .ref h_z, .ref h_fault, .ref h_faultAt, .ref h_left, .int h_lefts, .ref h_stays, .ref h_text, .int h_size]))] sz) (va_Qi (fun r (_ : Unit) => r = o.1) (fun _ t => kq_B dC dI [(h, .inr (5, [.int h_code, .long h_seed, .long o.2, .ref h_many, .ref h_sort, .ref h_x, .ref h_y, .ref h_z, .ref h_fault, .ref h_faultAt, .ref h_left, .int h_lefts, .ref h_stays, .ref h_text, .int h_size]))] (va_A [(h, .inr (5, [.int h_code, .long h_seed, .long h_state, .ref h_many, .ref h_sort, .ref h_x, .ref h_y, .ref h_z, .ref h_fault, .ref h_faultAt, .ref h_left, .int h_lefts, .ref h_stays, .ref h_text, .int h_size]))] sz) t) (va_A [(h, .inr (5, [.int h_code, .long h_seed, .long h_state, .ref h_many, .ref h_sort, .ref h_x, .ref h_y, .ref h_z, .ref h_fault, .ref h_faultAt, .ref h_left, .int h_lefts, .ref h_stays, .ref h_text, .int h_size]))] sz)) 0 0 (va_A [(h, .inr (5, [.int h_code, .long h_seed, .long h_state, .ref h_many, .ref h_sort, .ref h_x, .ref h_y, .ref h_z, .ref h_fault, .ref h_faultAt, .ref h_left, .int h_lefts, .ref h_stays, .ref h_text, .int h_size]))] sz) := by
  refine Met.ofW (cc := cX5_next) (maxL := 2) (ret := (some .int)) (by decide) rfl ?_
  intro p e s m args below meth c s₁ B hml hv
  obtain ⟨rfl, hsz, hP, hD0, hG, hZ⟩ := hv
  have hx := B.exec
  have hb := B.bytes
  have hr := B.returns
  have hts : ∀ w ∈ kq_T, w.before _ s = true := fun w h => atoms_spec (ws := wX5_next) B.pre w (List.mem_cons_of_mem _ h)
  have hown : s.vm.findClass RX5 = some m.cls := findClass_of_methodNamed B.named
  have hlocks := B.notSynchronized
  have hK := hG.1
  subst hsz
  have hD := hD0.self (sz := s.heap.size)
  generalize hAe : va_A [(h, .inr (5, [.int h_code, .long h_seed, .long h_state, .ref h_many, .ref h_sort, .ref h_x, .ref h_y, .ref h_z, .ref h_fault, .ref h_faultAt, .ref h_left, .int h_lefts, .ref h_stays, .ref h_text, .int h_size]))] s.heap.size = A at hD hZ ⊢
  have hA : ∀ q : Nat, s.heap.size ≤ q → A q := fun q h => by rw [← hAe]; exact Or.inr h
  have hl := lv_entry [.ref h, .int p0] (n := 2) (Nat.le_of_ble_eq_true rfl)
  rw [lg_entry_eq]
  generalize (lg_sl [.ref h, .int p0] ++ List.replicate (2 - (lg_sl [.ref h, .int p0]).length) Slot.unset).toArray = ls at hl ⊢
  have hl : lv_has ls 2 [(0, .ref h), (1, .int p0)] := hl
  obtain ⟨H, hHe⟩ : ∃ H : Heap, H = s.heap := ⟨_, rfl⟩
  have hP : va_P (dC, dI) vwCl [(h, .inr (5, [.int h_code, .long h_seed, .long h_state, .ref h_many, .ref h_sort, .ref h_x, .ref h_y, .ref h_z, .ref h_fault, .ref h_faultAt, .ref h_left, .int h_lefts, .ref h_stays, .ref h_text, .int h_size]))] H := by rw [hHe]; exact hP
  have hS : va_S A s.heap H [] := by rw [hHe]; exact va_S.rf
  rw [← hHe]
  unfold f_X5_next at hf
  refine lv_aload_n hx hb dX5_next_0 rfl (lv_at hl 0 rfl) ?_
  refine lv_ldc2 (v := 6364136223846793005) hx hb hown (hts _ tw_398) dX5_next_1 ?_
  refine lv_aload_n hx hb dX5_next_4 rfl (lv_at hl 0 rfl) ?_
  refine va_get (D := (dC, dI)) (ci := 5) (v := .long h_state) (C := RX5) (T := TX5) (N := 15) hx hb hts iwX5 hown hK hP 0 rfl rfl 2 (by decide) (hts _ tw_337) (fun _ h9 => h9) rfl dX5_next_5 ?_
  refine lv_lmul hx hb dX5_next_8 ?_
  refine lv_ldc2 (v := 1442695040888963407) hx hb hown (hts _ tw_399) dX5_next_9 ?_
  refine lv_ladd hx hb dX5_next_12 ?_
  refine va_put (D := (dC, dI)) (ci := 5) (v := .long ((6364136223846793005 * h_state) + 1442695040888963407)) (ty := (.long)) (C := RX5) (T := TX5) (N := 15) hx hb hts iwX5 tyX5 tyX5_ok nmX5 hown hK hP hD hS 0 rfl rfl 2 (by decide) (hts _ tw_337) (fun _ h9 => h9) rfl (by decide +kernel) rfl rfl (Nat.le_of_ble_eq_true rfl) dX5_next_13 (fun H locs hP hD hS => ?_)
  have hP : va_P (dC, dI) vwCl [(h, .inr (5, [.int h_code, .long h_seed, .long ((6364136223846793005 * h_state) + 1442695040888963407), .ref h_many, .ref h_sort, .ref h_x, .ref h_y, .ref h_z, .ref h_fault, .ref h_faultAt, .ref h_left, .int h_lefts, .ref h_stays, .ref h_text, .int h_size]))] H := hP
  have hD : va_D A [(h, .inr (5, [.int h_code, .long h_seed, .long ((6364136223846793005 * h_state) + 1442695040888963407), .ref h_many, .ref h_sort, .ref h_x, .ref h_y, .ref h_z, .ref h_fault, .ref h_faultAt, .ref h_left, .int h_lefts, .ref h_stays, .ref h_text, .int h_size]))] := hD
  refine lv_aload_n hx hb dX5_next_16 rfl (lv_at hl 0 rfl) ?_
  refine va_get (D := (dC, dI)) (ci := 5) (v := .long ((6364136223846793005 * h_state) + 1442695040888963407)) (C := RX5) (T := TX5) (N := 15) hx hb hts iwX5 hown hK hP 0 rfl rfl 2 (by decide) (hts _ tw_337) (fun _ h9 => h9) rfl dX5_next_17 ?_
  refine lv_bipush (v := 33) hx hb dX5_next_20 (by decide) ?_
  refine lv_lushr hx hb dX5_next_22 rfl ?_
  refine lv_iload_n hx hb dX5_next_23 rfl (lv_at hl 1 rfl) ?_
  refine lv_i2l hx hb dX5_next_24 rfl ?_
  obtain ⟨hq1, hf⟩ := kp_t hf
  refine lv_lrem hx hb dX5_next_25 hq1 ?_
  refine lv_l2i hx hb dX5_next_26 rfl ?_
  have eo := Option.some.inj hf
  subst eo
  exact W.iret (v := (((((6364136223846793005 * h_state) + 1442695040888963407).toUInt64 >>> ((33 : Int32).toInt64.toUInt64 &&& Int64.toUInt64 63)).toInt64) - ((((6364136223846793005 * h_state) + 1442695040888963407).toUInt64 >>> ((33 : Int32).toInt64.toUInt64 &&& Int64.toUInt64 63)).toInt64) / p0.toInt64 * p0.toInt64).toInt32) hx hb hr (fun t ht hW => ⟨⟨_, (), rfl, rfl, kq_mk ht hP hD⟩, hS.F ht⟩) hS.2.2 dX5_next_27

def f_X5_sortsOf (p0 : Int32) : Option (Int32) :=
    (if p0 = 0 then
    some 4
    else
    (if p0 = 4 then
    some 4
    else
    (if p0 = 1 then
    some 3
    else
    (if p0 = 2 then
    some 5
    else
    (if p0 = 3 then
    some 6
    else
    some 7)))))
set_option maxHeartbeats 4000000 in
set_option maxRecDepth 100000 in
theorem c_X5_sortsOf (l : Launch) (dC : Nat → ClassId) (dI : Nat → Nat → Nat) (cA : Nat → ClassId) (tt : Nat → Nat) (sz : Nat) (p0 : Int32) (o : Int32) (hf : f_X5_sortsOf p0 = some o) : Met l yX5_sortsOf wX5_sortsOf ({ frames := 0, cells := 0, slots := 0, locals := 0 }) (kq_Pc dC dI cA tt [.int p0] [] sz) (va_Qi (fun r (_ : Unit) => r = o) (fun _ t => kq_B dC dI [] (va_A [] sz) t) (va_A [] sz)) 0 0 (va_A [] sz) := by
  refine Met.ofW (cc := cX5_sortsOf) (maxL := 1) (ret := (some .int)) (by decide) rfl ?_
  intro p e s m args below meth c s₁ B hml hv
  obtain ⟨rfl, hsz, hP, hD0, hG, hZ⟩ := hv
  have hx := B.exec
  have hb := B.bytes
  have hr := B.returns
  have hts : ∀ w ∈ kq_T, w.before _ s = true := fun w h => atoms_spec (ws := wX5_sortsOf) B.pre w (List.mem_cons_of_mem _ h)
  have hown : s.vm.findClass RX5 = some m.cls := findClass_of_methodNamed B.named
  have hlocks := B.notSynchronized
  have hK := hG.1
  subst hsz
  have hD := hD0.self (sz := s.heap.size)
  generalize hAe : va_A [] s.heap.size = A at hD hZ ⊢
  have hA : ∀ q : Nat, s.heap.size ≤ q → A q := fun q h => by rw [← hAe]; exact Or.inr h
  have hl := lv_entry [.int p0] (n := 1) (Nat.le_of_ble_eq_true rfl)
  rw [lg_entry_eq]
  generalize (lg_sl [.int p0] ++ List.replicate (1 - (lg_sl [.int p0]).length) Slot.unset).toArray = ls at hl ⊢
  have hl : lv_has ls 1 [(0, .int p0)] := hl
  obtain ⟨H, hHe⟩ : ∃ H : Heap, H = s.heap := ⟨_, rfl⟩
  have hP : va_P (dC, dI) vwCl [] H := by rw [hHe]; exact hP
  have hS : va_S A s.heap H [] := by rw [hHe]; exact va_S.rf
  rw [← hHe]
  unfold f_X5_sortsOf at hf
  refine lv_iload_n hx hb dX5_sortsOf_0 rfl (lv_at hl 0 rfl) ?_
  refine lv_if_eq (tgt := 9) hx hb dX5_sortsOf_1 (by decide) (fun c1 => ?_) (fun c1 => ?_)
  · have hf := kp_p c1 hf
    refine lv_iconst (v := 4) hx hb dX5_sortsOf_9 (by decide) ?_
    refine lv_goto (tgt := 43) hx hb dX5_sortsOf_10 (by decide) ?_
    have eo := Option.some.inj hf
    subst eo
    exact W.iret (v := 4) hx hb hr (fun t ht hW => ⟨⟨_, (), rfl, rfl, kq_mk ht hP hD⟩, hS.F ht⟩) hS.2.2 dX5_sortsOf_43
  · have hf := kp_n c1 hf
    refine lv_iload_n hx hb dX5_sortsOf_4 rfl (lv_at hl 0 rfl) ?_
    refine lv_iconst (v := 4) hx hb dX5_sortsOf_5 (by decide) ?_
    refine lv_icmp_ne (tgt := 13) hx hb dX5_sortsOf_6 (by decide) (fun c2 => ?_) (fun c2 => ?_)
    · have hf := kp_n c2 hf
      refine lv_iload_n hx hb dX5_sortsOf_13 rfl (lv_at hl 0 rfl) ?_
      refine lv_iconst (v := 1) hx hb dX5_sortsOf_14 (by decide) ?_
      refine lv_icmp_ne (tgt := 22) hx hb dX5_sortsOf_15 (by decide) (fun c3 => ?_) (fun c3 => ?_)
      · have hf := kp_n c3 hf
        refine lv_iload_n hx hb dX5_sortsOf_22 rfl (lv_at hl 0 rfl) ?_
        refine lv_iconst (v := 2) hx hb dX5_sortsOf_23 (by decide) ?_
        refine lv_icmp_ne (tgt := 31) hx hb dX5_sortsOf_24 (by decide) (fun c4 => ?_) (fun c4 => ?_)
        · have hf := kp_n c4 hf
          refine lv_iload_n hx hb dX5_sortsOf_31 rfl (lv_at hl 0 rfl) ?_
          refine lv_iconst (v := 3) hx hb dX5_sortsOf_32 (by decide) ?_
          refine lv_icmp_ne (tgt := 41) hx hb dX5_sortsOf_33 (by decide) (fun c5 => ?_) (fun c5 => ?_)
          · have hf := kp_n c5 hf
            refine lv_bipush (v := 7) hx hb dX5_sortsOf_41 (by decide) ?_
            have eo := Option.some.inj hf
            subst eo
            exact W.iret (v := 7) hx hb hr (fun t ht hW => ⟨⟨_, (), rfl, rfl, kq_mk ht hP hD⟩, hS.F ht⟩) hS.2.2 dX5_sortsOf_43
          · have hf := kp_p c5 hf
            refine lv_bipush (v := 6) hx hb dX5_sortsOf_36 (by decide) ?_
            refine lv_goto (tgt := 43) hx hb dX5_sortsOf_38 (by decide) ?_
            have eo := Option.some.inj hf
            subst eo
            exact W.iret (v := 6) hx hb hr (fun t ht hW => ⟨⟨_, (), rfl, rfl, kq_mk ht hP hD⟩, hS.F ht⟩) hS.2.2 dX5_sortsOf_43
        · have hf := kp_p c4 hf
          refine lv_iconst (v := 5) hx hb dX5_sortsOf_27 (by decide) ?_
          refine lv_goto (tgt := 43) hx hb dX5_sortsOf_28 (by decide) ?_
          have eo := Option.some.inj hf
          subst eo
          exact W.iret (v := 5) hx hb hr (fun t ht hW => ⟨⟨_, (), rfl, rfl, kq_mk ht hP hD⟩, hS.F ht⟩) hS.2.2 dX5_sortsOf_43
      · have hf := kp_p c3 hf
        refine lv_iconst (v := 3) hx hb dX5_sortsOf_18 (by decide) ?_
        refine lv_goto (tgt := 43) hx hb dX5_sortsOf_19 (by decide) ?_
        have eo := Option.some.inj hf
        subst eo
        exact W.iret (v := 3) hx hb hr (fun t ht hW => ⟨⟨_, (), rfl, rfl, kq_mk ht hP hD⟩, hS.F ht⟩) hS.2.2 dX5_sortsOf_43
    · have hf := kp_p c2 hf
      refine lv_iconst (v := 4) hx hb dX5_sortsOf_9 (by decide) ?_
      refine lv_goto (tgt := 43) hx hb dX5_sortsOf_10 (by decide) ?_
      have eo := Option.some.inj hf
      subst eo
      exact W.iret (v := 4) hx hb hr (fun t ht hW => ⟨⟨_, (), rfl, rfl, kq_mk ht hP hD⟩, hS.F ht⟩) hS.2.2 dX5_sortsOf_43

def f_X5_faultsOf (p0 : Int32) : Option (Int32) :=
    (if p0 = 0 then
    some 3
    else
    (if p0 = 3 then
    some 3
    else
    (if p0 = 1 then
    some 2
    else
    (if p0 = 5 then
    some 2
    else
    (if p0 = 2 then
    some 4
    else
    some 5)))))
set_option maxHeartbeats 4000000 in
set_option maxRecDepth 100000 in
theorem c_X5_faultsOf (l : Launch) (dC : Nat → ClassId) (dI : Nat → Nat → Nat) (cA : Nat → ClassId) (tt : Nat → Nat) (sz : Nat) (p0 : Int32) (o : Int32) (hf : f_X5_faultsOf p0 = some o) : Met l yX5_faultsOf wX5_faultsOf ({ frames := 0, cells := 0, slots := 0, locals := 0 }) (kq_Pc dC dI cA tt [.int p0] [] sz) (va_Qi (fun r (_ : Unit) => r = o) (fun _ t => kq_B dC dI [] (va_A [] sz) t) (va_A [] sz)) 0 0 (va_A [] sz) := by
  refine Met.ofW (cc := cX5_faultsOf) (maxL := 1) (ret := (some .int)) (by decide) rfl ?_
  intro p e s m args below meth c s₁ B hml hv
  obtain ⟨rfl, hsz, hP, hD0, hG, hZ⟩ := hv
  have hx := B.exec
  have hb := B.bytes
  have hr := B.returns
  have hts : ∀ w ∈ kq_T, w.before _ s = true := fun w h => atoms_spec (ws := wX5_faultsOf) B.pre w (List.mem_cons_of_mem _ h)
  have hown : s.vm.findClass RX5 = some m.cls := findClass_of_methodNamed B.named
  have hlocks := B.notSynchronized
  have hK := hG.1
  subst hsz
  have hD := hD0.self (sz := s.heap.size)
  generalize hAe : va_A [] s.heap.size = A at hD hZ ⊢
  have hA : ∀ q : Nat, s.heap.size ≤ q → A q := fun q h => by rw [← hAe]; exact Or.inr h
  have hl := lv_entry [.int p0] (n := 1) (Nat.le_of_ble_eq_true rfl)
  rw [lg_entry_eq]
  generalize (lg_sl [.int p0] ++ List.replicate (1 - (lg_sl [.int p0]).length) Slot.unset).toArray = ls at hl ⊢
  have hl : lv_has ls 1 [(0, .int p0)] := hl
  obtain ⟨H, hHe⟩ : ∃ H : Heap, H = s.heap := ⟨_, rfl⟩
  have hP : va_P (dC, dI) vwCl [] H := by rw [hHe]; exact hP
  have hS : va_S A s.heap H [] := by rw [hHe]; exact va_S.rf
  rw [← hHe]
  unfold f_X5_faultsOf at hf
  refine lv_iload_n hx hb dX5_faultsOf_0 rfl (lv_at hl 0 rfl) ?_
  refine lv_if_eq (tgt := 9) hx hb dX5_faultsOf_1 (by decide) (fun c1 => ?_) (fun c1 => ?_)
  · have hf := kp_p c1 hf
    refine lv_iconst (v := 3) hx hb dX5_faultsOf_9 (by decide) ?_
    refine lv_goto (tgt := 37) hx hb dX5_faultsOf_10 (by decide) ?_
    have eo := Option.some.inj hf
    subst eo
    exact W.iret (v := 3) hx hb hr (fun t ht hW => ⟨⟨_, (), rfl, rfl, kq_mk ht hP hD⟩, hS.F ht⟩) hS.2.2 dX5_faultsOf_37
  · have hf := kp_n c1 hf
    refine lv_iload_n hx hb dX5_faultsOf_4 rfl (lv_at hl 0 rfl) ?_
    refine lv_iconst (v := 3) hx hb dX5_faultsOf_5 (by decide) ?_
    refine lv_icmp_ne (tgt := 13) hx hb dX5_faultsOf_6 (by decide) (fun c2 => ?_) (fun c2 => ?_)
    · have hf := kp_n c2 hf
      refine lv_iload_n hx hb dX5_faultsOf_13 rfl (lv_at hl 0 rfl) ?_
      refine lv_iconst (v := 1) hx hb dX5_faultsOf_14 (by decide) ?_
      refine lv_icmp_eq (tgt := 23) hx hb dX5_faultsOf_15 (by decide) (fun c3 => ?_) (fun c3 => ?_)
      · have hf := kp_p c3 hf
        refine lv_iconst (v := 2) hx hb dX5_faultsOf_23 (by decide) ?_
        refine lv_goto (tgt := 37) hx hb dX5_faultsOf_24 (by decide) ?_
        have eo := Option.some.inj hf
        subst eo
        exact W.iret (v := 2) hx hb hr (fun t ht hW => ⟨⟨_, (), rfl, rfl, kq_mk ht hP hD⟩, hS.F ht⟩) hS.2.2 dX5_faultsOf_37
      · have hf := kp_n c3 hf
        refine lv_iload_n hx hb dX5_faultsOf_18 rfl (lv_at hl 0 rfl) ?_
        refine lv_iconst (v := 5) hx hb dX5_faultsOf_19 (by decide) ?_
        refine lv_icmp_ne (tgt := 27) hx hb dX5_faultsOf_20 (by decide) (fun c4 => ?_) (fun c4 => ?_)
        · have hf := kp_n c4 hf
          refine lv_iload_n hx hb dX5_faultsOf_27 rfl (lv_at hl 0 rfl) ?_
          refine lv_iconst (v := 2) hx hb dX5_faultsOf_28 (by decide) ?_
          refine lv_icmp_ne (tgt := 36) hx hb dX5_faultsOf_29 (by decide) (fun c5 => ?_) (fun c5 => ?_)
          · have hf := kp_n c5 hf
            refine lv_iconst (v := 5) hx hb dX5_faultsOf_36 (by decide) ?_
            have eo := Option.some.inj hf
            subst eo
            exact W.iret (v := 5) hx hb hr (fun t ht hW => ⟨⟨_, (), rfl, rfl, kq_mk ht hP hD⟩, hS.F ht⟩) hS.2.2 dX5_faultsOf_37
          · have hf := kp_p c5 hf
            refine lv_iconst (v := 4) hx hb dX5_faultsOf_32 (by decide) ?_
            refine lv_goto (tgt := 37) hx hb dX5_faultsOf_33 (by decide) ?_
            have eo := Option.some.inj hf
            subst eo
            exact W.iret (v := 4) hx hb hr (fun t ht hW => ⟨⟨_, (), rfl, rfl, kq_mk ht hP hD⟩, hS.F ht⟩) hS.2.2 dX5_faultsOf_37
        · have hf := kp_p c4 hf
          refine lv_iconst (v := 2) hx hb dX5_faultsOf_23 (by decide) ?_
          refine lv_goto (tgt := 37) hx hb dX5_faultsOf_24 (by decide) ?_
          have eo := Option.some.inj hf
          subst eo
          exact W.iret (v := 2) hx hb hr (fun t ht hW => ⟨⟨_, (), rfl, rfl, kq_mk ht hP hD⟩, hS.F ht⟩) hS.2.2 dX5_faultsOf_37
    · have hf := kp_p c2 hf
      refine lv_iconst (v := 3) hx hb dX5_faultsOf_9 (by decide) ?_
      refine lv_goto (tgt := 37) hx hb dX5_faultsOf_10 (by decide) ?_
      have eo := Option.some.inj hf
      subst eo
      exact W.iret (v := 3) hx hb hr (fun t ht hW => ⟨⟨_, (), rfl, rfl, kq_mk ht hP hD⟩, hS.F ht⟩) hS.2.2 dX5_faultsOf_37

def f_X5_none (p0 : Int32) (p1 : Int32) : Option (Int32) :=
    (if p0 < 0 then
    some 1
    else
    (if 5 < p0 then
    some 1
    else
    (if p1 < 0 then
    some 1
    else
    (if p1 ≤ 20 then
    some 0
    else
    some 1))))
set_option maxHeartbeats 4000000 in
set_option maxRecDepth 100000 in
theorem c_X5_none (l : Launch) (dC : Nat → ClassId) (dI : Nat → Nat → Nat) (cA : Nat → ClassId) (tt : Nat → Nat) (sz : Nat) (p0 : Int32) (p1 : Int32) (o : Int32) (hf : f_X5_none p0 p1 = some o) : Met l yX5_none wX5_none ({ frames := 0, cells := 0, slots := 0, locals := 0 }) (kq_Pc dC dI cA tt [.int p0, .int p1] [] sz) (va_Qi (fun r (_ : Unit) => r = o) (fun _ t => kq_B dC dI [] (va_A [] sz) t) (va_A [] sz)) 0 0 (va_A [] sz) := by
  refine Met.ofW (cc := cX5_none) (maxL := 2) (ret := (some .boolean)) (by decide) rfl ?_
  intro p e s m args below meth c s₁ B hml hv
  obtain ⟨rfl, hsz, hP, hD0, hG, hZ⟩ := hv
  have hx := B.exec
  have hb := B.bytes
  have hr := B.returns
  have hts : ∀ w ∈ kq_T, w.before _ s = true := fun w h => atoms_spec (ws := wX5_none) B.pre w (List.mem_cons_of_mem _ h)
  have hown : s.vm.findClass RX5 = some m.cls := findClass_of_methodNamed B.named
  have hlocks := B.notSynchronized
  have hK := hG.1
  subst hsz
  have hD := hD0.self (sz := s.heap.size)
  generalize hAe : va_A [] s.heap.size = A at hD hZ ⊢
  have hA : ∀ q : Nat, s.heap.size ≤ q → A q := fun q h => by rw [← hAe]; exact Or.inr h
  have hl := lv_entry [.int p0, .int p1] (n := 2) (Nat.le_of_ble_eq_true rfl)
  rw [lg_entry_eq]
  generalize (lg_sl [.int p0, .int p1] ++ List.replicate (2 - (lg_sl [.int p0, .int p1]).length) Slot.unset).toArray = ls at hl ⊢
  have hl : lv_has ls 2 [(0, .int p0), (1, .int p1)] := hl
  obtain ⟨H, hHe⟩ : ∃ H : Heap, H = s.heap := ⟨_, rfl⟩
  have hP : va_P (dC, dI) vwCl [] H := by rw [hHe]; exact hP
  have hS : va_S A s.heap H [] := by rw [hHe]; exact va_S.rf
  rw [← hHe]
  unfold f_X5_none at hf
  refine lv_iload_n hx hb dX5_none_0 rfl (lv_at hl 0 rfl) ?_
  refine lv_if_lt (tgt := 19) hx hb dX5_none_1 (by decide) (fun c1 => ?_) (fun c1 => ?_)
  · have hf := kp_p c1 hf
    refine lv_iconst (v := 1) hx hb dX5_none_19 (by decide) ?_
    refine lv_goto (tgt := 24) hx hb dX5_none_20 (by decide) ?_
    have eo := Option.some.inj hf
    subst eo
    exact W.zret (v := 1) hx hb hr rfl (fun t ht hW => ⟨⟨_, (), rfl, rfl, kq_mk ht hP hD⟩, hS.F ht⟩) hS.2.2 dX5_none_24
  · have hf := kp_n c1 hf
    refine lv_iload_n hx hb dX5_none_4 rfl (lv_at hl 0 rfl) ?_
    refine lv_iconst (v := 5) hx hb dX5_none_5 (by decide) ?_
    refine lv_icmp_gt (tgt := 19) hx hb dX5_none_6 (by decide) (fun c2 => ?_) (fun c2 => ?_)
    · have hf := kp_p c2 hf
      refine lv_iconst (v := 1) hx hb dX5_none_19 (by decide) ?_
      refine lv_goto (tgt := 24) hx hb dX5_none_20 (by decide) ?_
      have eo := Option.some.inj hf
      subst eo
      exact W.zret (v := 1) hx hb hr rfl (fun t ht hW => ⟨⟨_, (), rfl, rfl, kq_mk ht hP hD⟩, hS.F ht⟩) hS.2.2 dX5_none_24
    · have hf := kp_n c2 hf
      refine lv_iload_n hx hb dX5_none_9 rfl (lv_at hl 1 rfl) ?_
      refine lv_if_lt (tgt := 19) hx hb dX5_none_10 (by decide) (fun c3 => ?_) (fun c3 => ?_)
      · have hf := kp_p c3 hf
        refine lv_iconst (v := 1) hx hb dX5_none_19 (by decide) ?_
        refine lv_goto (tgt := 24) hx hb dX5_none_20 (by decide) ?_
        have eo := Option.some.inj hf
        subst eo
        exact W.zret (v := 1) hx hb hr rfl (fun t ht hW => ⟨⟨_, (), rfl, rfl, kq_mk ht hP hD⟩, hS.F ht⟩) hS.2.2 dX5_none_24
      · have hf := kp_n c3 hf
        refine lv_iload_n hx hb dX5_none_13 rfl (lv_at hl 1 rfl) ?_
        refine lv_bipush (v := 20) hx hb dX5_none_14 (by decide) ?_
        refine lv_icmp_le (tgt := 23) hx hb dX5_none_16 (by decide) (fun c4 => ?_) (fun c4 => ?_)
        · have hf := kp_p c4 hf
          refine lv_iconst (v := 0) hx hb dX5_none_23 (by decide) ?_
          have eo := Option.some.inj hf
          subst eo
          exact W.zret (v := 0) hx hb hr rfl (fun t ht hW => ⟨⟨_, (), rfl, rfl, kq_mk ht hP hD⟩, hS.F ht⟩) hS.2.2 dX5_none_24
        · have hf := kp_n c4 hf
          refine lv_iconst (v := 1) hx hb dX5_none_19 (by decide) ?_
          refine lv_goto (tgt := 24) hx hb dX5_none_20 (by decide) ?_
          have eo := Option.some.inj hf
          subst eo
          exact W.zret (v := 1) hx hb hr rfl (fun t ht hW => ⟨⟨_, (), rfl, rfl, kq_mk ht hP hD⟩, hS.F ht⟩) hS.2.2 dX5_none_24

def f_X5_drawX (h_state : Int64) (h_sort_v : Nat → Int32) (h_x_v : Nat → Int64) (p0 : Int32) (p1 : Int32) (p2 : Int32) : Option (Int64 × Int64) :=
    (if p0 = 1 then
    (f_X5_next h_state 8).bind fun r2 =>
    some ((8 * r2.1.toInt64, r2.2))
    else
    (if p0 = 2 then
    (if p1 = 0 then
    (f_X5_next h_state 16).bind fun r7 =>
    some (((0 + 1) + r7.1.toInt64, r7.2))
    else
    if (p2 - 1) < 0 ∨ 120 ≤ (p2 - 1).toNatClampNeg then none else
    (f_X5_next h_state 16).bind fun r6 =>
    some ((((h_x_v (p2 - 1).toNatClampNeg) + 1) + r6.1.toInt64, r6.2)))
    else
    (if p0 = 3 then
    (f_X5_next h_state (p1 + 1)).bind fun r9 =>
    some ((r9.1.toInt64, r9.2))
    else
    (if p0 = 4 then
    (f_X5_next h_state 256).bind fun r11 =>
    some ((r11.1.toInt64, r11.2))
    else
    (if p0 = 5 then
    (f_X5_next h_state 4).bind fun r13 =>
    if p2 < 0 ∨ 120 ≤ p2.toNatClampNeg then none else
    some (((16 * r13.1.toInt64) + ((h_sort_v p2.toNatClampNeg).toInt64), r13.2))
    else
    (f_X5_next h_state (p1 + 1)).bind fun r15 =>
    some ((r15.1.toInt64, r15.2)))))))
set_option maxHeartbeats 4000000 in
set_option maxRecDepth 100000 in
theorem c_X5_drawX (l : Launch) (dC : Nat → ClassId) (dI : Nat → Nat → Nat) (cA : Nat → ClassId) (tt : Nat → Nat) (h h_sort h_x h_many h_y h_z h_fault h_faultAt h_left h_stays h_text : Nat) (sz : Nat) (h_code : Int32) (h_seed : Int64) (h_state : Int64) (h_lefts : Int32) (h_size : Int32) (h_sort_v : Nat → Int32) (h_x_v : Nat → Int64) (p0 : Int32) (p1 : Int32) (p2 : Int32) (o : Int64 × Int64) (hf : f_X5_drawX h_state h_sort_v h_x_v p0 p1 p2 = some o) : Met l yX5_drawX wX5_drawX ({ frames := 1, cells := 0, slots := 0, locals := 21 }) (kq_Pc dC dI cA tt [.ref h, .int p0, .int p1, .int p2] [(h, .inr (5, [.int h_code, .long h_seed, .long h_state, .ref h_many, .ref h_sort, .ref h_x, .ref h_y, .ref h_z, .ref h_fault, .ref h_faultAt, .ref h_left, .int h_lefts, .ref h_stays, .ref h_text, .int h_size])), (h_sort, .inl (cA 0, 120, .inl h_sort_v)), (h_x, .inl (cA 2, 120, .inr (.inl h_x_v)))] sz) (va_Ql (fun r (_ : Unit) => r = o.1) (fun _ t => kq_B dC dI [(h, .inr (5, [.int h_code, .long h_seed, .long o.2, .ref h_many, .ref h_sort, .ref h_x, .ref h_y, .ref h_z, .ref h_fault, .ref h_faultAt, .ref h_left, .int h_lefts, .ref h_stays, .ref h_text, .int h_size])), (h_sort, .inl (cA 0, 120, .inl h_sort_v)), (h_x, .inl (cA 2, 120, .inr (.inl h_x_v)))] (va_A [(h, .inr (5, [.int h_code, .long h_seed, .long h_state, .ref h_many, .ref h_sort, .ref h_x, .ref h_y, .ref h_z, .ref h_fault, .ref h_faultAt, .ref h_left, .int h_lefts, .ref h_stays, .ref h_text, .int h_size])), (h_sort, .inl (cA 0, 120, .inl h_sort_v)), (h_x, .inl (cA 2, 120, .inr (.inl h_x_v)))] sz) t) (va_A [(h, .inr (5, [.int h_code, .long h_seed, .long h_state, .ref h_many, .ref h_sort, .ref h_x, .ref h_y, .ref h_z, .ref h_fault, .ref h_faultAt, .ref h_left, .int h_lefts, .ref h_stays, .ref h_text, .int h_size])), (h_sort, .inl (cA 0, 120, .inl h_sort_v)), (h_x, .inl (cA 2, 120, .inr (.inl h_x_v)))] sz)) 0 0 (va_A [(h, .inr (5, [.int h_code, .long h_seed, .long h_state, .ref h_many, .ref h_sort, .ref h_x, .ref h_y, .ref h_z, .ref h_fault, .ref h_faultAt, .ref h_left, .int h_lefts, .ref h_stays, .ref h_text, .int h_size])), (h_sort, .inl (cA 0, 120, .inl h_sort_v)), (h_x, .inl (cA 2, 120, .inr (.inl h_x_v)))] sz) := by
  refine Met.ofW (cc := cX5_drawX) (maxL := 4) (ret := (some .long)) (by decide) rfl ?_
  intro p e s m args below meth c s₁ B hml hv
  obtain ⟨rfl, hsz, hP, hD0, hG, hZ⟩ := hv
  have hx := B.exec
  have hb := B.bytes
  have hr := B.returns
  have hts : ∀ w ∈ kq_T, w.before _ s = true := fun w h => atoms_spec (ws := wX5_drawX) B.pre w (List.mem_cons_of_mem _ h)
  have hown : s.vm.findClass RX5 = some m.cls := findClass_of_methodNamed B.named
  have hlocks := B.notSynchronized
  have hK := hG.1
  subst hsz
  have hD := hD0.self (sz := s.heap.size)
  generalize hAe : va_A [(h, .inr (5, [.int h_code, .long h_seed, .long h_state, .ref h_many, .ref h_sort, .ref h_x, .ref h_y, .ref h_z, .ref h_fault, .ref h_faultAt, .ref h_left, .int h_lefts, .ref h_stays, .ref h_text, .int h_size])), (h_sort, .inl (cA 0, 120, .inl h_sort_v)), (h_x, .inl (cA 2, 120, .inr (.inl h_x_v)))] s.heap.size = A at hD hZ ⊢
  have hA : ∀ q : Nat, s.heap.size ≤ q → A q := fun q h => by rw [← hAe]; exact Or.inr h
  have hl := lv_entry [.ref h, .int p0, .int p1, .int p2] (n := 4) (Nat.le_of_ble_eq_true rfl)
  rw [lg_entry_eq]
  generalize (lg_sl [.ref h, .int p0, .int p1, .int p2] ++ List.replicate (4 - (lg_sl [.ref h, .int p0, .int p1, .int p2]).length) Slot.unset).toArray = ls at hl ⊢
  have hl : lv_has ls 4 [(0, .ref h), (1, .int p0), (2, .int p1), (3, .int p2)] := hl
  obtain ⟨H, hHe⟩ : ∃ H : Heap, H = s.heap := ⟨_, rfl⟩
  have hP : va_P (dC, dI) vwCl [(h, .inr (5, [.int h_code, .long h_seed, .long h_state, .ref h_many, .ref h_sort, .ref h_x, .ref h_y, .ref h_z, .ref h_fault, .ref h_faultAt, .ref h_left, .int h_lefts, .ref h_stays, .ref h_text, .int h_size])), (h_sort, .inl (cA 0, 120, .inl h_sort_v)), (h_x, .inl (cA 2, 120, .inr (.inl h_x_v)))] H := by rw [hHe]; exact hP
  have hS : va_S A s.heap H [] := by rw [hHe]; exact va_S.rf
  rw [← hHe]
  unfold f_X5_drawX at hf
  refine lv_iload_n hx hb dX5_drawX_0 rfl (lv_at hl 1 rfl) ?_
  by_cases c1 : p0 = 1
  · have hf := kp_p c1 hf
    refine lv_tableIn (tgt := 36) hx hb dX5_drawX_1 (by rw [c1]; decide) (by rw [c1]; decide) (by rw [c1]; rfl) (by decide) ?_
    refine lv_ldc2 (v := 8) hx hb hown (hts _ tw_407) dX5_drawX_36 ?_
    refine lv_aload_n hx hb dX5_drawX_39 rfl (lv_at hl 0 rfl) ?_
    refine lv_bipush (v := 8) hx hb dX5_drawX_40 (by decide) ?_
    obtain ⟨r2, hr2, hf⟩ := kp_b hf
    have hPc := hP.sub (ws' := [(h, .inr (5, [.int h_code, .long h_seed, .long h_state, .ref h_many, .ref h_sort, .ref h_x, .ref h_y, .ref h_z, .ref h_fault, .ref h_faultAt, .ref h_left, .int h_lefts, .ref h_stays, .ref h_text, .int h_size]))]) [0] rfl
    have hDc := hD.sub (ws' := [(h, .inr (5, [.int h_code, .long h_seed, .long h_state, .ref h_many, .ref h_sort, .ref h_x, .ref h_y, .ref h_z, .ref h_fault, .ref h_faultAt, .ref h_left, .int h_lefts, .ref h_stays, .ref h_text, .int h_size]))]) [0] (by decide) rfl
    have hFc := va_free (wc := [(h, .inr (5, [.int h_code, .long h_seed, .long h_state, .ref h_many, .ref h_sort, .ref h_x, .ref h_y, .ref h_z, .ref h_fault, .ref h_faultAt, .ref h_left, .int h_lefts, .ref h_stays, .ref h_text, .int h_size]))]) hD hS hA [0] rfl
    refine va_calli (va_runV (As := [.int 8]) (rest := [.long 8]) ⟨hx, hb, hml, hown, hts⟩ (c_X5_next l dC dI cA tt h h_many h_sort h_x h_y h_z h_fault h_faultAt h_left h_stays h_text H.size h_code h_seed h_state h_lefts h_size 8 r2 hr2) (cwV 1 hts (kq_gV tw_394 tw_396 tw_12 tw_25 tw_397) rfl rfl rfl (by decide +kernel) ⟨Nat.le_of_ble_eq_true rfl, Nat.le_of_ble_eq_true rfl⟩) ⟨kq_blind, va_recv hK hP (ci := 5) (q0 := 0) rfl rfl, kq_pre hG hZ hS hPc hDc hFc⟩ rfl rfl hl.1 rfl (lv_room (Nat.le_of_ble_eq_true rfl)) dX5_drawX_42 ⟨Nat.le_of_ble_eq_true rfl, Nat.le_of_ble_eq_true rfl⟩) hS (fun q _ h => hFc q h) hFc (fun rv u t H1 locs ht hvm hw hB hz1 hk1 hS => ?_)
    obtain ⟨hP1, hD1⟩ := hB
    rw [ht] at hP1
    have hw := hw.symm
    subst hw
    obtain ⟨hP, hD⟩ := va_join (wr := [(h_sort, .inl (cA 0, 120, .inl h_sort_v)), (h_x, .inl (cA 2, 120, .inr (.inl h_x_v)))]) (w1 := [(h, .inr (5, [.int h_code, .long h_seed, .long r2.2, .ref h_many, .ref h_sort, .ref h_x, .ref h_y, .ref h_z, .ref h_fault, .ref h_faultAt, .ref h_left, .int h_lefts, .ref h_stays, .ref h_text, .int h_size]))]) hP hD [0] [1, 2] rfl rfl (by decide) (by decide) hk1 hFc hP1 hD1
    have hP : va_P (dC, dI) vwCl [(h, .inr (5, [.int h_code, .long h_seed, .long r2.2, .ref h_many, .ref h_sort, .ref h_x, .ref h_y, .ref h_z, .ref h_fault, .ref h_faultAt, .ref h_left, .int h_lefts, .ref h_stays, .ref h_text, .int h_size])), (h_sort, .inl (cA 0, 120, .inl h_sort_v)), (h_x, .inl (cA 2, 120, .inr (.inl h_x_v)))] H1 := hP.sub [2, 0, 1] rfl
    have hD : va_D A [(h, .inr (5, [.int h_code, .long h_seed, .long r2.2, .ref h_many, .ref h_sort, .ref h_x, .ref h_y, .ref h_z, .ref h_fault, .ref h_faultAt, .ref h_left, .int h_lefts, .ref h_stays, .ref h_text, .int h_size])), (h_sort, .inl (cA 0, 120, .inl h_sort_v)), (h_x, .inl (cA 2, 120, .inr (.inl h_x_v)))] := hD.sub [2, 0, 1] (by decide) rfl
    generalize H1 = H at hP hS ⊢
    refine lv_i2l hx hb dX5_drawX_45 rfl ?_
    refine lv_lmul hx hb dX5_drawX_46 ?_
    have eo := Option.some.inj hf
    subst eo
    exact W.lret (v := 8 * r2.1.toInt64) hx hb hr (fun t ht hW => ⟨⟨_, (), rfl, rfl, kq_mk ht hP hD⟩, hS.F ht⟩) hS.2.2 dX5_drawX_47
  · have hf := kp_n c1 hf
    by_cases c3 : p0 = 2
    · have hf := kp_p c3 hf
      refine lv_tableIn (tgt := 48) hx hb dX5_drawX_1 (by rw [c3]; decide) (by rw [c3]; decide) (by rw [c3]; rfl) (by decide) ?_
      refine lv_iload_n hx hb dX5_drawX_48 rfl (lv_at hl 2 rfl) ?_
      refine lv_if_ne (tgt := 56) hx hb dX5_drawX_49 (by decide) (fun c4 => ?_) (fun c4 => ?_)
      · have hf := kp_n c4 hf
        refine lv_aload_n hx hb dX5_drawX_56 rfl (lv_at hl 0 rfl) ?_
        refine va_get (D := (dC, dI)) (ci := 5) (v := .ref h_x) (C := RX5) (T := TX5) (N := 15) hx hb hts iwX5 hown hK hP 0 rfl rfl 5 (by decide) (hts _ tw_340) (fun _ h9 => h9) rfl dX5_drawX_57 ?_
        refine lv_iload_n hx hb dX5_drawX_60 rfl (lv_at hl 3 rfl) ?_
        refine lv_iconst (v := 1) hx hb dX5_drawX_61 (by decide) ?_
        refine lv_isub hx hb dX5_drawX_62 ?_
        obtain ⟨hq5, hf⟩ := kp_t hf
        refine va_lald hx hb hK hP 2 2 rfl rfl hq5 dX5_drawX_63 ?_
        refine lv_lconst (v := 1) hx hb dX5_drawX_64 (by decide) ?_
        refine lv_ladd hx hb dX5_drawX_65 ?_
        refine lv_aload_n hx hb dX5_drawX_66 rfl (lv_at hl 0 rfl) ?_
        refine lv_bipush (v := 16) hx hb dX5_drawX_67 (by decide) ?_
        obtain ⟨r6, hr6, hf⟩ := kp_b hf
        have hPc := hP.sub (ws' := [(h, .inr (5, [.int h_code, .long h_seed, .long h_state, .ref h_many, .ref h_sort, .ref h_x, .ref h_y, .ref h_z, .ref h_fault, .ref h_faultAt, .ref h_left, .int h_lefts, .ref h_stays, .ref h_text, .int h_size]))]) [0] rfl
        have hDc := hD.sub (ws' := [(h, .inr (5, [.int h_code, .long h_seed, .long h_state, .ref h_many, .ref h_sort, .ref h_x, .ref h_y, .ref h_z, .ref h_fault, .ref h_faultAt, .ref h_left, .int h_lefts, .ref h_stays, .ref h_text, .int h_size]))]) [0] (by decide) rfl
        have hFc := va_free (wc := [(h, .inr (5, [.int h_code, .long h_seed, .long h_state, .ref h_many, .ref h_sort, .ref h_x, .ref h_y, .ref h_z, .ref h_fault, .ref h_faultAt, .ref h_left, .int h_lefts, .ref h_stays, .ref h_text, .int h_size]))]) hD hS hA [0] rfl
        refine va_calli (va_runV (As := [.int 16]) (rest := [.long ((h_x_v (p2 - 1).toNatClampNeg) + 1)]) ⟨hx, hb, hml, hown, hts⟩ (c_X5_next l dC dI cA tt h h_many h_sort h_x h_y h_z h_fault h_faultAt h_left h_stays h_text H.size h_code h_seed h_state h_lefts h_size 16 r6 hr6) (cwV 1 hts (kq_gV tw_394 tw_396 tw_12 tw_25 tw_397) rfl rfl rfl (by decide +kernel) ⟨Nat.le_of_ble_eq_true rfl, Nat.le_of_ble_eq_true rfl⟩) ⟨kq_blind, va_recv hK hP (ci := 5) (q0 := 0) rfl rfl, kq_pre hG hZ hS hPc hDc hFc⟩ rfl rfl hl.1 rfl (lv_room (Nat.le_of_ble_eq_true rfl)) dX5_drawX_69 ⟨Nat.le_of_ble_eq_true rfl, Nat.le_of_ble_eq_true rfl⟩) hS (fun q _ h => hFc q h) hFc (fun rv u t H1 locs ht hvm hw hB hz1 hk1 hS => ?_)
        obtain ⟨hP1, hD1⟩ := hB
        rw [ht] at hP1
        have hw := hw.symm
        subst hw
        obtain ⟨hP, hD⟩ := va_join (wr := [(h_sort, .inl (cA 0, 120, .inl h_sort_v)), (h_x, .inl (cA 2, 120, .inr (.inl h_x_v)))]) (w1 := [(h, .inr (5, [.int h_code, .long h_seed, .long r6.2, .ref h_many, .ref h_sort, .ref h_x, .ref h_y, .ref h_z, .ref h_fault, .ref h_faultAt, .ref h_left, .int h_lefts, .ref h_stays, .ref h_text, .int h_size]))]) hP hD [0] [1, 2] rfl rfl (by decide) (by decide) hk1 hFc hP1 hD1
        have hP : va_P (dC, dI) vwCl [(h, .inr (5, [.int h_code, .long h_seed, .long r6.2, .ref h_many, .ref h_sort, .ref h_x, .ref h_y, .ref h_z, .ref h_fault, .ref h_faultAt, .ref h_left, .int h_lefts, .ref h_stays, .ref h_text, .int h_size])), (h_sort, .inl (cA 0, 120, .inl h_sort_v)), (h_x, .inl (cA 2, 120, .inr (.inl h_x_v)))] H1 := hP.sub [2, 0, 1] rfl
        have hD : va_D A [(h, .inr (5, [.int h_code, .long h_seed, .long r6.2, .ref h_many, .ref h_sort, .ref h_x, .ref h_y, .ref h_z, .ref h_fault, .ref h_faultAt, .ref h_left, .int h_lefts, .ref h_stays, .ref h_text, .int h_size])), (h_sort, .inl (cA 0, 120, .inl h_sort_v)), (h_x, .inl (cA 2, 120, .inr (.inl h_x_v)))] := hD.sub [2, 0, 1] (by decide) rfl
        generalize H1 = H at hP hS ⊢
        refine lv_i2l hx hb dX5_drawX_72 rfl ?_
        refine lv_ladd hx hb dX5_drawX_73 ?_
        have eo := Option.some.inj hf
        subst eo
        exact W.lret (v := ((h_x_v (p2 - 1).toNatClampNeg) + 1) + r6.1.toInt64) hx hb hr (fun t ht hW => ⟨⟨_, (), rfl, rfl, kq_mk ht hP hD⟩, hS.F ht⟩) hS.2.2 dX5_drawX_74
      · have hf := kp_p c4 hf
        refine lv_lconst (v := 0) hx hb dX5_drawX_52 (by decide) ?_
        refine lv_goto (tgt := 64) hx hb dX5_drawX_53 (by decide) ?_
        refine lv_lconst (v := 1) hx hb dX5_drawX_64 (by decide) ?_
        refine lv_ladd hx hb dX5_drawX_65 ?_
        refine lv_aload_n hx hb dX5_drawX_66 rfl (lv_at hl 0 rfl) ?_
        refine lv_bipush (v := 16) hx hb dX5_drawX_67 (by decide) ?_
        obtain ⟨r7, hr7, hf⟩ := kp_b hf
        have hPc := hP.sub (ws' := [(h, .inr (5, [.int h_code, .long h_seed, .long h_state, .ref h_many, .ref h_sort, .ref h_x, .ref h_y, .ref h_z, .ref h_fault, .ref h_faultAt, .ref h_left, .int h_lefts, .ref h_stays, .ref h_text, .int h_size]))]) [0] rfl
        have hDc := hD.sub (ws' := [(h, .inr (5, [.int h_code, .long h_seed, .long h_state, .ref h_many, .ref h_sort, .ref h_x, .ref h_y, .ref h_z, .ref h_fault, .ref h_faultAt, .ref h_left, .int h_lefts, .ref h_stays, .ref h_text, .int h_size]))]) [0] (by decide) rfl
        have hFc := va_free (wc := [(h, .inr (5, [.int h_code, .long h_seed, .long h_state, .ref h_many, .ref h_sort, .ref h_x, .ref h_y, .ref h_z, .ref h_fault, .ref h_faultAt, .ref h_left, .int h_lefts, .ref h_stays, .ref h_text, .int h_size]))]) hD hS hA [0] rfl
        refine va_calli (va_runV (As := [.int 16]) (rest := [.long (0 + 1)]) ⟨hx, hb, hml, hown, hts⟩ (c_X5_next l dC dI cA tt h h_many h_sort h_x h_y h_z h_fault h_faultAt h_left h_stays h_text H.size h_code h_seed h_state h_lefts h_size 16 r7 hr7) (cwV 1 hts (kq_gV tw_394 tw_396 tw_12 tw_25 tw_397) rfl rfl rfl (by decide +kernel) ⟨Nat.le_of_ble_eq_true rfl, Nat.le_of_ble_eq_true rfl⟩) ⟨kq_blind, va_recv hK hP (ci := 5) (q0 := 0) rfl rfl, kq_pre hG hZ hS hPc hDc hFc⟩ rfl rfl hl.1 rfl (lv_room (Nat.le_of_ble_eq_true rfl)) dX5_drawX_69 ⟨Nat.le_of_ble_eq_true rfl, Nat.le_of_ble_eq_true rfl⟩) hS (fun q _ h => hFc q h) hFc (fun rv u t H1 locs ht hvm hw hB hz1 hk1 hS => ?_)
        obtain ⟨hP1, hD1⟩ := hB
        rw [ht] at hP1
        have hw := hw.symm
        subst hw
        obtain ⟨hP, hD⟩ := va_join (wr := [(h_sort, .inl (cA 0, 120, .inl h_sort_v)), (h_x, .inl (cA 2, 120, .inr (.inl h_x_v)))]) (w1 := [(h, .inr (5, [.int h_code, .long h_seed, .long r7.2, .ref h_many, .ref h_sort, .ref h_x, .ref h_y, .ref h_z, .ref h_fault, .ref h_faultAt, .ref h_left, .int h_lefts, .ref h_stays, .ref h_text, .int h_size]))]) hP hD [0] [1, 2] rfl rfl (by decide) (by decide) hk1 hFc hP1 hD1
        have hP : va_P (dC, dI) vwCl [(h, .inr (5, [.int h_code, .long h_seed, .long r7.2, .ref h_many, .ref h_sort, .ref h_x, .ref h_y, .ref h_z, .ref h_fault, .ref h_faultAt, .ref h_left, .int h_lefts, .ref h_stays, .ref h_text, .int h_size])), (h_sort, .inl (cA 0, 120, .inl h_sort_v)), (h_x, .inl (cA 2, 120, .inr (.inl h_x_v)))] H1 := hP.sub [2, 0, 1] rfl
        have hD : va_D A [(h, .inr (5, [.int h_code, .long h_seed, .long r7.2, .ref h_many, .ref h_sort, .ref h_x, .ref h_y, .ref h_z, .ref h_fault, .ref h_faultAt, .ref h_left, .int h_lefts, .ref h_stays, .ref h_text, .int h_size])), (h_sort, .inl (cA 0, 120, .inl h_sort_v)), (h_x, .inl (cA 2, 120, .inr (.inl h_x_v)))] := hD.sub [2, 0, 1] (by decide) rfl
        generalize H1 = H at hP hS ⊢
        refine lv_i2l hx hb dX5_drawX_72 rfl ?_
        refine lv_ladd hx hb dX5_drawX_73 ?_
        have eo := Option.some.inj hf
        subst eo
        exact W.lret (v := (0 + 1) + r7.1.toInt64) hx hb hr (fun t ht hW => ⟨⟨_, (), rfl, rfl, kq_mk ht hP hD⟩, hS.F ht⟩) hS.2.2 dX5_drawX_74
    · have hf := kp_n c3 hf
      by_cases c8 : p0 = 3
      · have hf := kp_p c8 hf
        refine lv_tableIn (tgt := 103) hx hb dX5_drawX_1 (by rw [c8]; decide) (by rw [c8]; decide) (by rw [c8]; rfl) (by decide) ?_
        refine lv_aload_n hx hb dX5_drawX_103 rfl (lv_at hl 0 rfl) ?_
        refine lv_iload_n hx hb dX5_drawX_104 rfl (lv_at hl 2 rfl) ?_
        refine lv_iconst (v := 1) hx hb dX5_drawX_105 (by decide) ?_
        refine lv_iadd hx hb dX5_drawX_106 ?_
        obtain ⟨r9, hr9, hf⟩ := kp_b hf
        have hPc := hP.sub (ws' := [(h, .inr (5, [.int h_code, .long h_seed, .long h_state, .ref h_many, .ref h_sort, .ref h_x, .ref h_y, .ref h_z, .ref h_fault, .ref h_faultAt, .ref h_left, .int h_lefts, .ref h_stays, .ref h_text, .int h_size]))]) [0] rfl
        have hDc := hD.sub (ws' := [(h, .inr (5, [.int h_code, .long h_seed, .long h_state, .ref h_many, .ref h_sort, .ref h_x, .ref h_y, .ref h_z, .ref h_fault, .ref h_faultAt, .ref h_left, .int h_lefts, .ref h_stays, .ref h_text, .int h_size]))]) [0] (by decide) rfl
        have hFc := va_free (wc := [(h, .inr (5, [.int h_code, .long h_seed, .long h_state, .ref h_many, .ref h_sort, .ref h_x, .ref h_y, .ref h_z, .ref h_fault, .ref h_faultAt, .ref h_left, .int h_lefts, .ref h_stays, .ref h_text, .int h_size]))]) hD hS hA [0] rfl
        refine va_calli (va_runV (As := [.int (p1 + 1)]) (rest := []) ⟨hx, hb, hml, hown, hts⟩ (c_X5_next l dC dI cA tt h h_many h_sort h_x h_y h_z h_fault h_faultAt h_left h_stays h_text H.size h_code h_seed h_state h_lefts h_size (p1 + 1) r9 hr9) (cwV 1 hts (kq_gV tw_394 tw_396 tw_12 tw_25 tw_397) rfl rfl rfl (by decide +kernel) ⟨Nat.le_of_ble_eq_true rfl, Nat.le_of_ble_eq_true rfl⟩) ⟨kq_blind, va_recv hK hP (ci := 5) (q0 := 0) rfl rfl, kq_pre hG hZ hS hPc hDc hFc⟩ rfl rfl hl.1 rfl (lv_room (Nat.le_of_ble_eq_true rfl)) dX5_drawX_107 ⟨Nat.le_of_ble_eq_true rfl, Nat.le_of_ble_eq_true rfl⟩) hS (fun q _ h => hFc q h) hFc (fun rv u t H1 locs ht hvm hw hB hz1 hk1 hS => ?_)
        obtain ⟨hP1, hD1⟩ := hB
        rw [ht] at hP1
        have hw := hw.symm
        subst hw
        obtain ⟨hP, hD⟩ := va_join (wr := [(h_sort, .inl (cA 0, 120, .inl h_sort_v)), (h_x, .inl (cA 2, 120, .inr (.inl h_x_v)))]) (w1 := [(h, .inr (5, [.int h_code, .long h_seed, .long r9.2, .ref h_many, .ref h_sort, .ref h_x, .ref h_y, .ref h_z, .ref h_fault, .ref h_faultAt, .ref h_left, .int h_lefts, .ref h_stays, .ref h_text, .int h_size]))]) hP hD [0] [1, 2] rfl rfl (by decide) (by decide) hk1 hFc hP1 hD1
        have hP : va_P (dC, dI) vwCl [(h, .inr (5, [.int h_code, .long h_seed, .long r9.2, .ref h_many, .ref h_sort, .ref h_x, .ref h_y, .ref h_z, .ref h_fault, .ref h_faultAt, .ref h_left, .int h_lefts, .ref h_stays, .ref h_text, .int h_size])), (h_sort, .inl (cA 0, 120, .inl h_sort_v)), (h_x, .inl (cA 2, 120, .inr (.inl h_x_v)))] H1 := hP.sub [2, 0, 1] rfl
        have hD : va_D A [(h, .inr (5, [.int h_code, .long h_seed, .long r9.2, .ref h_many, .ref h_sort, .ref h_x, .ref h_y, .ref h_z, .ref h_fault, .ref h_faultAt, .ref h_left, .int h_lefts, .ref h_stays, .ref h_text, .int h_size])), (h_sort, .inl (cA 0, 120, .inl h_sort_v)), (h_x, .inl (cA 2, 120, .inr (.inl h_x_v)))] := hD.sub [2, 0, 1] (by decide) rfl
        generalize H1 = H at hP hS ⊢
        refine lv_i2l hx hb dX5_drawX_110 rfl ?_
        have eo := Option.some.inj hf
        subst eo
        exact W.lret (v := r9.1.toInt64) hx hb hr (fun t ht hW => ⟨⟨_, (), rfl, rfl, kq_mk ht hP hD⟩, hS.F ht⟩) hS.2.2 dX5_drawX_111
      · have hf := kp_n c8 hf
        by_cases c10 : p0 = 4
        · have hf := kp_p c10 hf
          refine lv_tableIn (tgt := 75) hx hb dX5_drawX_1 (by rw [c10]; decide) (by rw [c10]; decide) (by rw [c10]; rfl) (by decide) ?_
          refine lv_aload_n hx hb dX5_drawX_75 rfl (lv_at hl 0 rfl) ?_
          refine lv_sipush (v := 256) hx hb dX5_drawX_76 (by decide) ?_
          obtain ⟨r11, hr11, hf⟩ := kp_b hf
          have hPc := hP.sub (ws' := [(h, .inr (5, [.int h_code, .long h_seed, .long h_state, .ref h_many, .ref h_sort, .ref h_x, .ref h_y, .ref h_z, .ref h_fault, .ref h_faultAt, .ref h_left, .int h_lefts, .ref h_stays, .ref h_text, .int h_size]))]) [0] rfl
          have hDc := hD.sub (ws' := [(h, .inr (5, [.int h_code, .long h_seed, .long h_state, .ref h_many, .ref h_sort, .ref h_x, .ref h_y, .ref h_z, .ref h_fault, .ref h_faultAt, .ref h_left, .int h_lefts, .ref h_stays, .ref h_text, .int h_size]))]) [0] (by decide) rfl
          have hFc := va_free (wc := [(h, .inr (5, [.int h_code, .long h_seed, .long h_state, .ref h_many, .ref h_sort, .ref h_x, .ref h_y, .ref h_z, .ref h_fault, .ref h_faultAt, .ref h_left, .int h_lefts, .ref h_stays, .ref h_text, .int h_size]))]) hD hS hA [0] rfl
          refine va_calli (va_runV (As := [.int 256]) (rest := []) ⟨hx, hb, hml, hown, hts⟩ (c_X5_next l dC dI cA tt h h_many h_sort h_x h_y h_z h_fault h_faultAt h_left h_stays h_text H.size h_code h_seed h_state h_lefts h_size 256 r11 hr11) (cwV 1 hts (kq_gV tw_394 tw_396 tw_12 tw_25 tw_397) rfl rfl rfl (by decide +kernel) ⟨Nat.le_of_ble_eq_true rfl, Nat.le_of_ble_eq_true rfl⟩) ⟨kq_blind, va_recv hK hP (ci := 5) (q0 := 0) rfl rfl, kq_pre hG hZ hS hPc hDc hFc⟩ rfl rfl hl.1 rfl (lv_room (Nat.le_of_ble_eq_true rfl)) dX5_drawX_79 ⟨Nat.le_of_ble_eq_true rfl, Nat.le_of_ble_eq_true rfl⟩) hS (fun q _ h => hFc q h) hFc (fun rv u t H1 locs ht hvm hw hB hz1 hk1 hS => ?_)
          obtain ⟨hP1, hD1⟩ := hB
          rw [ht] at hP1
          have hw := hw.symm
          subst hw
          obtain ⟨hP, hD⟩ := va_join (wr := [(h_sort, .inl (cA 0, 120, .inl h_sort_v)), (h_x, .inl (cA 2, 120, .inr (.inl h_x_v)))]) (w1 := [(h, .inr (5, [.int h_code, .long h_seed, .long r11.2, .ref h_many, .ref h_sort, .ref h_x, .ref h_y, .ref h_z, .ref h_fault, .ref h_faultAt, .ref h_left, .int h_lefts, .ref h_stays, .ref h_text, .int h_size]))]) hP hD [0] [1, 2] rfl rfl (by decide) (by decide) hk1 hFc hP1 hD1
          have hP : va_P (dC, dI) vwCl [(h, .inr (5, [.int h_code, .long h_seed, .long r11.2, .ref h_many, .ref h_sort, .ref h_x, .ref h_y, .ref h_z, .ref h_fault, .ref h_faultAt, .ref h_left, .int h_lefts, .ref h_stays, .ref h_text, .int h_size])), (h_sort, .inl (cA 0, 120, .inl h_sort_v)), (h_x, .inl (cA 2, 120, .inr (.inl h_x_v)))] H1 := hP.sub [2, 0, 1] rfl
          have hD : va_D A [(h, .inr (5, [.int h_code, .long h_seed, .long r11.2, .ref h_many, .ref h_sort, .ref h_x, .ref h_y, .ref h_z, .ref h_fault, .ref h_faultAt, .ref h_left, .int h_lefts, .ref h_stays, .ref h_text, .int h_size])), (h_sort, .inl (cA 0, 120, .inl h_sort_v)), (h_x, .inl (cA 2, 120, .inr (.inl h_x_v)))] := hD.sub [2, 0, 1] (by decide) rfl
          generalize H1 = H at hP hS ⊢
          refine lv_i2l hx hb dX5_drawX_82 rfl ?_
          have eo := Option.some.inj hf
          subst eo
          exact W.lret (v := r11.1.toInt64) hx hb hr (fun t ht hW => ⟨⟨_, (), rfl, rfl, kq_mk ht hP hD⟩, hS.F ht⟩) hS.2.2 dX5_drawX_83
        · have hf := kp_n c10 hf
          by_cases c12 : p0 = 5
          · have hf := kp_p c12 hf
            refine lv_tableIn (tgt := 84) hx hb dX5_drawX_1 (by rw [c12]; decide) (by rw [c12]; decide) (by rw [c12]; rfl) (by decide) ?_
            refine lv_ldc2 (v := 16) hx hb hown (hts _ tw_408) dX5_drawX_84 ?_
            refine lv_aload_n hx hb dX5_drawX_87 rfl (lv_at hl 0 rfl) ?_
            refine lv_iconst (v := 4) hx hb dX5_drawX_88 (by decide) ?_
            obtain ⟨r13, hr13, hf⟩ := kp_b hf
            have hPc := hP.sub (ws' := [(h, .inr (5, [.int h_code, .long h_seed, .long h_state, .ref h_many, .ref h_sort, .ref h_x, .ref h_y, .ref h_z, .ref h_fault, .ref h_faultAt, .ref h_left, .int h_lefts, .ref h_stays, .ref h_text, .int h_size]))]) [0] rfl
            have hDc := hD.sub (ws' := [(h, .inr (5, [.int h_code, .long h_seed, .long h_state, .ref h_many, .ref h_sort, .ref h_x, .ref h_y, .ref h_z, .ref h_fault, .ref h_faultAt, .ref h_left, .int h_lefts, .ref h_stays, .ref h_text, .int h_size]))]) [0] (by decide) rfl
            have hFc := va_free (wc := [(h, .inr (5, [.int h_code, .long h_seed, .long h_state, .ref h_many, .ref h_sort, .ref h_x, .ref h_y, .ref h_z, .ref h_fault, .ref h_faultAt, .ref h_left, .int h_lefts, .ref h_stays, .ref h_text, .int h_size]))]) hD hS hA [0] rfl
            refine va_calli (va_runV (As := [.int 4]) (rest := [.long 16]) ⟨hx, hb, hml, hown, hts⟩ (c_X5_next l dC dI cA tt h h_many h_sort h_x h_y h_z h_fault h_faultAt h_left h_stays h_text H.size h_code h_seed h_state h_lefts h_size 4 r13 hr13) (cwV 1 hts (kq_gV tw_394 tw_396 tw_12 tw_25 tw_397) rfl rfl rfl (by decide +kernel) ⟨Nat.le_of_ble_eq_true rfl, Nat.le_of_ble_eq_true rfl⟩) ⟨kq_blind, va_recv hK hP (ci := 5) (q0 := 0) rfl rfl, kq_pre hG hZ hS hPc hDc hFc⟩ rfl rfl hl.1 rfl (lv_room (Nat.le_of_ble_eq_true rfl)) dX5_drawX_89 ⟨Nat.le_of_ble_eq_true rfl, Nat.le_of_ble_eq_true rfl⟩) hS (fun q _ h => hFc q h) hFc (fun rv u t H1 locs ht hvm hw hB hz1 hk1 hS => ?_)
            obtain ⟨hP1, hD1⟩ := hB
            rw [ht] at hP1
            have hw := hw.symm
            subst hw
            obtain ⟨hP, hD⟩ := va_join (wr := [(h_sort, .inl (cA 0, 120, .inl h_sort_v)), (h_x, .inl (cA 2, 120, .inr (.inl h_x_v)))]) (w1 := [(h, .inr (5, [.int h_code, .long h_seed, .long r13.2, .ref h_many, .ref h_sort, .ref h_x, .ref h_y, .ref h_z, .ref h_fault, .ref h_faultAt, .ref h_left, .int h_lefts, .ref h_stays, .ref h_text, .int h_size]))]) hP hD [0] [1, 2] rfl rfl (by decide) (by decide) hk1 hFc hP1 hD1
            have hP : va_P (dC, dI) vwCl [(h, .inr (5, [.int h_code, .long h_seed, .long r13.2, .ref h_many, .ref h_sort, .ref h_x, .ref h_y, .ref h_z, .ref h_fault, .ref h_faultAt, .ref h_left, .int h_lefts, .ref h_stays, .ref h_text, .int h_size])), (h_sort, .inl (cA 0, 120, .inl h_sort_v)), (h_x, .inl (cA 2, 120, .inr (.inl h_x_v)))] H1 := hP.sub [2, 0, 1] rfl
            have hD : va_D A [(h, .inr (5, [.int h_code, .long h_seed, .long r13.2, .ref h_many, .ref h_sort, .ref h_x, .ref h_y, .ref h_z, .ref h_fault, .ref h_faultAt, .ref h_left, .int h_lefts, .ref h_stays, .ref h_text, .int h_size])), (h_sort, .inl (cA 0, 120, .inl h_sort_v)), (h_x, .inl (cA 2, 120, .inr (.inl h_x_v)))] := hD.sub [2, 0, 1] (by decide) rfl
            generalize H1 = H at hP hS ⊢
            refine lv_i2l hx hb dX5_drawX_92 rfl ?_
            refine lv_lmul hx hb dX5_drawX_93 ?_
            refine lv_aload_n hx hb dX5_drawX_94 rfl (lv_at hl 0 rfl) ?_
            refine va_get (D := (dC, dI)) (ci := 5) (v := .ref h_sort) (C := RX5) (T := TX5) (N := 15) hx hb hts iwX5 hown hK hP 0 rfl rfl 4 (by decide) (hts _ tw_339) (fun _ h9 => h9) rfl dX5_drawX_95 ?_
            refine lv_iload_n hx hb dX5_drawX_98 rfl (lv_at hl 3 rfl) ?_
            obtain ⟨hq14, hf⟩ := kp_t hf
            refine va_iald hx hb hK hP 1 0 rfl rfl hq14 dX5_drawX_99 ?_
            refine lv_i2l hx hb dX5_drawX_100 rfl ?_
            refine lv_ladd hx hb dX5_drawX_101 ?_
            have eo := Option.some.inj hf
            subst eo
            exact W.lret (v := (16 * r13.1.toInt64) + ((h_sort_v p2.toNatClampNeg).toInt64)) hx hb hr (fun t ht hW => ⟨⟨_, (), rfl, rfl, kq_mk ht hP hD⟩, hS.F ht⟩) hS.2.2 dX5_drawX_102
          · have hf := kp_n c12 hf
            refine lv_tableOut (tgt := 103) hx hb dX5_drawX_1 (by have gc1 := lv_neT c1 (a := 1) (by decide); have gc3 := lv_neT c3 (a := 2) (by decide); have gc8 := lv_neT c8 (a := 3) (by decide); have gc10 := lv_neT c10 (a := 4) (by decide); have gc12 := lv_neT c12 (a := 5) (by decide); omega) (by decide) ?_
            refine lv_aload_n hx hb dX5_drawX_103 rfl (lv_at hl 0 rfl) ?_
            refine lv_iload_n hx hb dX5_drawX_104 rfl (lv_at hl 2 rfl) ?_
            refine lv_iconst (v := 1) hx hb dX5_drawX_105 (by decide) ?_
            refine lv_iadd hx hb dX5_drawX_106 ?_
            obtain ⟨r15, hr15, hf⟩ := kp_b hf
            have hPc := hP.sub (ws' := [(h, .inr (5, [.int h_code, .long h_seed, .long h_state, .ref h_many, .ref h_sort, .ref h_x, .ref h_y, .ref h_z, .ref h_fault, .ref h_faultAt, .ref h_left, .int h_lefts, .ref h_stays, .ref h_text, .int h_size]))]) [0] rfl
            have hDc := hD.sub (ws' := [(h, .inr (5, [.int h_code, .long h_seed, .long h_state, .ref h_many, .ref h_sort, .ref h_x, .ref h_y, .ref h_z, .ref h_fault, .ref h_faultAt, .ref h_left, .int h_lefts, .ref h_stays, .ref h_text, .int h_size]))]) [0] (by decide) rfl
            have hFc := va_free (wc := [(h, .inr (5, [.int h_code, .long h_seed, .long h_state, .ref h_many, .ref h_sort, .ref h_x, .ref h_y, .ref h_z, .ref h_fault, .ref h_faultAt, .ref h_left, .int h_lefts, .ref h_stays, .ref h_text, .int h_size]))]) hD hS hA [0] rfl
            refine va_calli (va_runV (As := [.int (p1 + 1)]) (rest := []) ⟨hx, hb, hml, hown, hts⟩ (c_X5_next l dC dI cA tt h h_many h_sort h_x h_y h_z h_fault h_faultAt h_left h_stays h_text H.size h_code h_seed h_state h_lefts h_size (p1 + 1) r15 hr15) (cwV 1 hts (kq_gV tw_394 tw_396 tw_12 tw_25 tw_397) rfl rfl rfl (by decide +kernel) ⟨Nat.le_of_ble_eq_true rfl, Nat.le_of_ble_eq_true rfl⟩) ⟨kq_blind, va_recv hK hP (ci := 5) (q0 := 0) rfl rfl, kq_pre hG hZ hS hPc hDc hFc⟩ rfl rfl hl.1 rfl (lv_room (Nat.le_of_ble_eq_true rfl)) dX5_drawX_107 ⟨Nat.le_of_ble_eq_true rfl, Nat.le_of_ble_eq_true rfl⟩) hS (fun q _ h => hFc q h) hFc (fun rv u t H1 locs ht hvm hw hB hz1 hk1 hS => ?_)
            obtain ⟨hP1, hD1⟩ := hB
            rw [ht] at hP1
            have hw := hw.symm
            subst hw
            obtain ⟨hP, hD⟩ := va_join (wr := [(h_sort, .inl (cA 0, 120, .inl h_sort_v)), (h_x, .inl (cA 2, 120, .inr (.inl h_x_v)))]) (w1 := [(h, .inr (5, [.int h_code, .long h_seed, .long r15.2, .ref h_many, .ref h_sort, .ref h_x, .ref h_y, .ref h_z, .ref h_fault, .ref h_faultAt, .ref h_left, .int h_lefts, .ref h_stays, .ref h_text, .int h_size]))]) hP hD [0] [1, 2] rfl rfl (by decide) (by decide) hk1 hFc hP1 hD1
            have hP : va_P (dC, dI) vwCl [(h, .inr (5, [.int h_code, .long h_seed, .long r15.2, .ref h_many, .ref h_sort, .ref h_x, .ref h_y, .ref h_z, .ref h_fault, .ref h_faultAt, .ref h_left, .int h_lefts, .ref h_stays, .ref h_text, .int h_size])), (h_sort, .inl (cA 0, 120, .inl h_sort_v)), (h_x, .inl (cA 2, 120, .inr (.inl h_x_v)))] H1 := hP.sub [2, 0, 1] rfl
            have hD : va_D A [(h, .inr (5, [.int h_code, .long h_seed, .long r15.2, .ref h_many, .ref h_sort, .ref h_x, .ref h_y, .ref h_z, .ref h_fault, .ref h_faultAt, .ref h_left, .int h_lefts, .ref h_stays, .ref h_text, .int h_size])), (h_sort, .inl (cA 0, 120, .inl h_sort_v)), (h_x, .inl (cA 2, 120, .inr (.inl h_x_v)))] := hD.sub [2, 0, 1] (by decide) rfl
            generalize H1 = H at hP hS ⊢
            refine lv_i2l hx hb dX5_drawX_110 rfl ?_
            have eo := Option.some.inj hf
            subst eo
            exact W.lret (v := r15.1.toInt64) hx hb hr (fun t ht hW => ⟨⟨_, (), rfl, rfl, kq_mk ht hP hD⟩, hS.F ht⟩) hS.2.2 dX5_drawX_111

def f_X5_drawAll_L86 (p0 : Int32) (p1 : Int32) (p2 : Int32) : Nat → Int64 → (Nat → Int32) → (Nat → Int32) → (Nat → Int64) → (Nat → Int64) → (Nat → Int64) → (Nat → Int32) → (Nat → Int32) → Int32 → Int32 → Int32 → Option (Int64 × (Nat → Int32) × (Nat → Int32) × (Nat → Int64) × (Nat → Int64) × (Nat → Int64) × (Nat → Int32) × (Nat → Int32))
  | 0, _, _, _, _, _, _, _, _, _, _, _ => none
  | n86 + 1, h_state, h_many_v, h_sort_v, h_x_v, h_y_v, h_z_v, h_fault_v, h_faultAt_v, v4, v5, v6 =>
    (if v5 ≤ v6 then
    (f_X5_faultsOf p1).bind fun r87002 =>
    (f_X5_next h_state (2 * r87002)).bind fun r87003 =>
    (f_X5_faultsOf p1).bind fun r87004 =>
    (if 0 ≤ (r87003.1 - r87004) then
    if p0 < 0 ∨ 3 ≤ p0.toNatClampNeg then none else
    (f_X5_next r87003.2 v5).bind fun r87007 =>
    (if (r87003.1 - r87004) = 0 then
    if (v4 + ((upd h_faultAt_v p0.toNatClampNeg r87007.1) p0.toNatClampNeg)) < 0 ∨ 120 ≤ (v4 + ((upd h_faultAt_v p0.toNatClampNeg r87007.1) p0.toNatClampNeg)).toNatClampNeg then none else
    some ((r87007.2, h_many_v, h_sort_v, vp_updL h_x_v (v4 + ((upd h_faultAt_v p0.toNatClampNeg r87007.1) p0.toNatClampNeg)).toNatClampNeg ((h_x_v (v4 + ((upd h_faultAt_v p0.toNatClampNeg r87007.1) p0.toNatClampNeg)).toNatClampNeg) + 1000), h_y_v, h_z_v, upd h_fault_v p0.toNatClampNeg ((r87003.1 - r87004) + 1), upd h_faultAt_v p0.toNatClampNeg r87007.1))
    else
    (if (r87003.1 - r87004) = 1 then
    if (v4 + ((upd h_faultAt_v p0.toNatClampNeg r87007.1) p0.toNatClampNeg)) < 0 ∨ 120 ≤ (v4 + ((upd h_faultAt_v p0.toNatClampNeg r87007.1) p0.toNatClampNeg)).toNatClampNeg then none else
    some ((r87007.2, h_many_v, h_sort_v, h_x_v, vp_updL h_y_v (v4 + ((upd h_faultAt_v p0.toNatClampNeg r87007.1) p0.toNatClampNeg)).toNatClampNeg (((-1)) - (h_y_v (v4 + ((upd h_faultAt_v p0.toNatClampNeg r87007.1) p0.toNatClampNeg)).toNatClampNeg)), h_z_v, upd h_fault_v p0.toNatClampNeg ((r87003.1 - r87004) + 1), upd h_faultAt_v p0.toNatClampNeg r87007.1))
    else
    (if (r87003.1 - r87004) = 2 then
    if (v4 + ((upd h_faultAt_v p0.toNatClampNeg r87007.1) p0.toNatClampNeg)) < 0 ∨ 120 ≤ (v4 + ((upd h_faultAt_v p0.toNatClampNeg r87007.1) p0.toNatClampNeg)).toNatClampNeg then none else
    some ((r87007.2, h_many_v, h_sort_v, h_x_v, h_y_v, vp_updL h_z_v (v4 + ((upd h_faultAt_v p0.toNatClampNeg r87007.1) p0.toNatClampNeg)).toNatClampNeg ((h_z_v (v4 + ((upd h_faultAt_v p0.toNatClampNeg r87007.1) p0.toNatClampNeg)).toNatClampNeg) + 1000), upd h_fault_v p0.toNatClampNeg ((r87003.1 - r87004) + 1), upd h_faultAt_v p0.toNatClampNeg r87007.1))
    else
    (if (r87003.1 - r87004) = 3 then
    (f_X5_sortsOf p1).bind fun r87017 =>
    if (v4 + ((upd h_faultAt_v p0.toNatClampNeg r87007.1) p0.toNatClampNeg)) < 0 ∨ 120 ≤ (v4 + ((upd h_faultAt_v p0.toNatClampNeg r87007.1) p0.toNatClampNeg)).toNatClampNeg then none else
    some ((r87007.2, h_many_v, upd h_sort_v (v4 + ((upd h_faultAt_v p0.toNatClampNeg r87007.1) p0.toNatClampNeg)).toNatClampNeg r87017, h_x_v, h_y_v, h_z_v, upd h_fault_v p0.toNatClampNeg ((r87003.1 - r87004) + 1), upd h_faultAt_v p0.toNatClampNeg r87007.1))
    else
    if (v4 + ((upd h_faultAt_v p0.toNatClampNeg r87007.1) p0.toNatClampNeg)) < 0 ∨ 120 ≤ (v4 + ((upd h_faultAt_v p0.toNatClampNeg r87007.1) p0.toNatClampNeg)).toNatClampNeg then none else
    some ((r87007.2, h_many_v, h_sort_v, vp_updL h_x_v (v4 + ((upd h_faultAt_v p0.toNatClampNeg r87007.1) p0.toNatClampNeg)).toNatClampNeg 0, vp_updL h_y_v (v4 + ((upd h_faultAt_v p0.toNatClampNeg r87007.1) p0.toNatClampNeg)).toNatClampNeg 0, vp_updL h_z_v (v4 + ((upd h_faultAt_v p0.toNatClampNeg r87007.1) p0.toNatClampNeg)).toNatClampNeg 0, upd h_fault_v p0.toNatClampNeg ((r87003.1 - r87004) + 1), upd h_faultAt_v p0.toNatClampNeg r87007.1))))))
    else
    some ((r87003.2, h_many_v, h_sort_v, h_x_v, h_y_v, h_z_v, h_fault_v, h_faultAt_v)))
    else
    (f_X5_sortsOf p1).bind fun r87025 =>
    (f_X5_next h_state r87025).bind fun r87026 =>
    if (v4 + v6) < 0 ∨ 120 ≤ (v4 + v6).toNatClampNeg then none else
    (f_X5_drawX r87026.2 (upd h_sort_v (v4 + v6).toNatClampNeg r87026.1) h_x_v p1 v6 (v4 + v6)).bind fun r87028 =>
    (if p1 = 0 then
    (if ((upd h_sort_v (v4 + v6).toNatClampNeg r87026.1) (v4 + v6).toNatClampNeg) = 3 then
    (if (lg_cmp ((vp_updL h_x_v (v4 + v6).toNatClampNeg r87028.1) (v4 + v6).toNatClampNeg) v6.toInt64) = 0 then
    (f_X5_next r87028.2 1000).bind fun r87049 =>
    f_X5_drawAll_L86 p0 p1 p2 n86 r87049.2 h_many_v (upd h_sort_v (v4 + v6).toNatClampNeg r87026.1) (vp_updL h_x_v (v4 + v6).toNatClampNeg r87028.1) (vp_updL h_y_v (v4 + v6).toNatClampNeg 0) (vp_updL h_z_v (v4 + v6).toNatClampNeg r87049.1.toInt64) h_fault_v h_faultAt_v v4 v5 (v6 + 1)
    else
    if (v4 + (((vp_updL h_x_v (v4 + v6).toNatClampNeg r87028.1) (v4 + v6).toNatClampNeg).toInt32)) < 0 ∨ 120 ≤ (v4 + (((vp_updL h_x_v (v4 + v6).toNatClampNeg r87028.1) (v4 + v6).toNatClampNeg).toInt32)).toNatClampNeg then none else
    (f_X5_next r87028.2 1000).bind fun r87046 =>
    f_X5_drawAll_L86 p0 p1 p2 n86 r87046.2 h_many_v (upd h_sort_v (v4 + v6).toNatClampNeg r87026.1) (vp_updL h_x_v (v4 + v6).toNatClampNeg r87028.1) (vp_updL h_y_v (v4 + v6).toNatClampNeg (h_y_v (v4 + (((vp_updL h_x_v (v4 + v6).toNatClampNeg r87028.1) (v4 + v6).toNatClampNeg).toInt32)).toNatClampNeg)) (vp_updL h_z_v (v4 + v6).toNatClampNeg r87046.1.toInt64) h_fault_v h_faultAt_v v4 v5 (v6 + 1))
    else
    (f_X5_next r87028.2 64).bind fun r87037 =>
    (f_X5_next r87037.2 1000).bind fun r87039 =>
    f_X5_drawAll_L86 p0 p1 p2 n86 r87039.2 h_many_v (upd h_sort_v (v4 + v6).toNatClampNeg r87026.1) (vp_updL h_x_v (v4 + v6).toNatClampNeg r87028.1) (vp_updL h_y_v (v4 + v6).toNatClampNeg r87037.1.toInt64) (vp_updL h_z_v (v4 + v6).toNatClampNeg r87039.1.toInt64) h_fault_v h_faultAt_v v4 v5 (v6 + 1))
    else
    (f_X5_next r87028.2 64).bind fun r87031 =>
    (f_X5_next r87031.2 1000).bind fun r87033 =>
    f_X5_drawAll_L86 p0 p1 p2 n86 r87033.2 h_many_v (upd h_sort_v (v4 + v6).toNatClampNeg r87026.1) (vp_updL h_x_v (v4 + v6).toNatClampNeg r87028.1) (vp_updL h_y_v (v4 + v6).toNatClampNeg r87031.1.toInt64) (vp_updL h_z_v (v4 + v6).toNatClampNeg r87033.1.toInt64) h_fault_v h_faultAt_v v4 v5 (v6 + 1)))
theorem e_X5_drawAll_L86 (p0 : Int32) (p1 : Int32) (p2 : Int32) (n86 : Nat) (h_state : Int64) (h_many_v : Nat → Int32) (h_sort_v : Nat → Int32) (h_x_v : Nat → Int64) (h_y_v : Nat → Int64) (h_z_v : Nat → Int64) (h_fault_v : Nat → Int32) (h_faultAt_v : Nat → Int32) (v4 : Int32) (v5 : Int32) (v6 : Int32) : f_X5_drawAll_L86 p0 p1 p2 (n86 + 1) h_state h_many_v h_sort_v h_x_v h_y_v h_z_v h_fault_v h_faultAt_v v4 v5 v6 =
    ((if v5 ≤ v6 then
    (f_X5_faultsOf p1).bind fun r87002 =>
    (f_X5_next h_state (2 * r87002)).bind fun r87003 =>
    (f_X5_faultsOf p1).bind fun r87004 =>
    (if 0 ≤ (r87003.1 - r87004) then
    if p0 < 0 ∨ 3 ≤ p0.toNatClampNeg then none else
    (f_X5_next r87003.2 v5).bind fun r87007 =>
    (if (r87003.1 - r87004) = 0 then
    if (v4 + ((upd h_faultAt_v p0.toNatClampNeg r87007.1) p0.toNatClampNeg)) < 0 ∨ 120 ≤ (v4 + ((upd h_faultAt_v p0.toNatClampNeg r87007.1) p0.toNatClampNeg)).toNatClampNeg then none else
    some ((r87007.2, h_many_v, h_sort_v, vp_updL h_x_v (v4 + ((upd h_faultAt_v p0.toNatClampNeg r87007.1) p0.toNatClampNeg)).toNatClampNeg ((h_x_v (v4 + ((upd h_faultAt_v p0.toNatClampNeg r87007.1) p0.toNatClampNeg)).toNatClampNeg) + 1000), h_y_v, h_z_v, upd h_fault_v p0.toNatClampNeg ((r87003.1 - r87004) + 1), upd h_faultAt_v p0.toNatClampNeg r87007.1))
    else
    (if (r87003.1 - r87004) = 1 then
    if (v4 + ((upd h_faultAt_v p0.toNatClampNeg r87007.1) p0.toNatClampNeg)) < 0 ∨ 120 ≤ (v4 + ((upd h_faultAt_v p0.toNatClampNeg r87007.1) p0.toNatClampNeg)).toNatClampNeg then none else
    some ((r87007.2, h_many_v, h_sort_v, h_x_v, vp_updL h_y_v (v4 + ((upd h_faultAt_v p0.toNatClampNeg r87007.1) p0.toNatClampNeg)).toNatClampNeg (((-1)) - (h_y_v (v4 + ((upd h_faultAt_v p0.toNatClampNeg r87007.1) p0.toNatClampNeg)).toNatClampNeg)), h_z_v, upd h_fault_v p0.toNatClampNeg ((r87003.1 - r87004) + 1), upd h_faultAt_v p0.toNatClampNeg r87007.1))
    else
    (if (r87003.1 - r87004) = 2 then
    if (v4 + ((upd h_faultAt_v p0.toNatClampNeg r87007.1) p0.toNatClampNeg)) < 0 ∨ 120 ≤ (v4 + ((upd h_faultAt_v p0.toNatClampNeg r87007.1) p0.toNatClampNeg)).toNatClampNeg then none else
    some ((r87007.2, h_many_v, h_sort_v, h_x_v, h_y_v, vp_updL h_z_v (v4 + ((upd h_faultAt_v p0.toNatClampNeg r87007.1) p0.toNatClampNeg)).toNatClampNeg ((h_z_v (v4 + ((upd h_faultAt_v p0.toNatClampNeg r87007.1) p0.toNatClampNeg)).toNatClampNeg) + 1000), upd h_fault_v p0.toNatClampNeg ((r87003.1 - r87004) + 1), upd h_faultAt_v p0.toNatClampNeg r87007.1))
    else
    (if (r87003.1 - r87004) = 3 then
    (f_X5_sortsOf p1).bind fun r87017 =>
    if (v4 + ((upd h_faultAt_v p0.toNatClampNeg r87007.1) p0.toNatClampNeg)) < 0 ∨ 120 ≤ (v4 + ((upd h_faultAt_v p0.toNatClampNeg r87007.1) p0.toNatClampNeg)).toNatClampNeg then none else
    some ((r87007.2, h_many_v, upd h_sort_v (v4 + ((upd h_faultAt_v p0.toNatClampNeg r87007.1) p0.toNatClampNeg)).toNatClampNeg r87017, h_x_v, h_y_v, h_z_v, upd h_fault_v p0.toNatClampNeg ((r87003.1 - r87004) + 1), upd h_faultAt_v p0.toNatClampNeg r87007.1))
    else
    if (v4 + ((upd h_faultAt_v p0.toNatClampNeg r87007.1) p0.toNatClampNeg)) < 0 ∨ 120 ≤ (v4 + ((upd h_faultAt_v p0.toNatClampNeg r87007.1) p0.toNatClampNeg)).toNatClampNeg then none else
    some ((r87007.2, h_many_v, h_sort_v, vp_updL h_x_v (v4 + ((upd h_faultAt_v p0.toNatClampNeg r87007.1) p0.toNatClampNeg)).toNatClampNeg 0, vp_updL h_y_v (v4 + ((upd h_faultAt_v p0.toNatClampNeg r87007.1) p0.toNatClampNeg)).toNatClampNeg 0, vp_updL h_z_v (v4 + ((upd h_faultAt_v p0.toNatClampNeg r87007.1) p0.toNatClampNeg)).toNatClampNeg 0, upd h_fault_v p0.toNatClampNeg ((r87003.1 - r87004) + 1), upd h_faultAt_v p0.toNatClampNeg r87007.1))))))
    else
    some ((r87003.2, h_many_v, h_sort_v, h_x_v, h_y_v, h_z_v, h_fault_v, h_faultAt_v)))
    else
    (f_X5_sortsOf p1).bind fun r87025 =>
    (f_X5_next h_state r87025).bind fun r87026 =>
    if (v4 + v6) < 0 ∨ 120 ≤ (v4 + v6).toNatClampNeg then none else
    (f_X5_drawX r87026.2 (upd h_sort_v (v4 + v6).toNatClampNeg r87026.1) h_x_v p1 v6 (v4 + v6)).bind fun r87028 =>
    (if p1 = 0 then
    (if ((upd h_sort_v (v4 + v6).toNatClampNeg r87026.1) (v4 + v6).toNatClampNeg) = 3 then
    (if (lg_cmp ((vp_updL h_x_v (v4 + v6).toNatClampNeg r87028.1) (v4 + v6).toNatClampNeg) v6.toInt64) = 0 then
    (f_X5_next r87028.2 1000).bind fun r87049 =>
    f_X5_drawAll_L86 p0 p1 p2 n86 r87049.2 h_many_v (upd h_sort_v (v4 + v6).toNatClampNeg r87026.1) (vp_updL h_x_v (v4 + v6).toNatClampNeg r87028.1) (vp_updL h_y_v (v4 + v6).toNatClampNeg 0) (vp_updL h_z_v (v4 + v6).toNatClampNeg r87049.1.toInt64) h_fault_v h_faultAt_v v4 v5 (v6 + 1)
    else
    if (v4 + (((vp_updL h_x_v (v4 + v6).toNatClampNeg r87028.1) (v4 + v6).toNatClampNeg).toInt32)) < 0 ∨ 120 ≤ (v4 + (((vp_updL h_x_v (v4 + v6).toNatClampNeg r87028.1) (v4 + v6).toNatClampNeg).toInt32)).toNatClampNeg then none else
    (f_X5_next r87028.2 1000).bind fun r87046 =>
    f_X5_drawAll_L86 p0 p1 p2 n86 r87046.2 h_many_v (upd h_sort_v (v4 + v6).toNatClampNeg r87026.1) (vp_updL h_x_v (v4 + v6).toNatClampNeg r87028.1) (vp_updL h_y_v (v4 + v6).toNatClampNeg (h_y_v (v4 + (((vp_updL h_x_v (v4 + v6).toNatClampNeg r87028.1) (v4 + v6).toNatClampNeg).toInt32)).toNatClampNeg)) (vp_updL h_z_v (v4 + v6).toNatClampNeg r87046.1.toInt64) h_fault_v h_faultAt_v v4 v5 (v6 + 1))
    else
    (f_X5_next r87028.2 64).bind fun r87037 =>
    (f_X5_next r87037.2 1000).bind fun r87039 =>
    f_X5_drawAll_L86 p0 p1 p2 n86 r87039.2 h_many_v (upd h_sort_v (v4 + v6).toNatClampNeg r87026.1) (vp_updL h_x_v (v4 + v6).toNatClampNeg r87028.1) (vp_updL h_y_v (v4 + v6).toNatClampNeg r87037.1.toInt64) (vp_updL h_z_v (v4 + v6).toNatClampNeg r87039.1.toInt64) h_fault_v h_faultAt_v v4 v5 (v6 + 1))
    else
    (f_X5_next r87028.2 64).bind fun r87031 =>
    (f_X5_next r87031.2 1000).bind fun r87033 =>
    f_X5_drawAll_L86 p0 p1 p2 n86 r87033.2 h_many_v (upd h_sort_v (v4 + v6).toNatClampNeg r87026.1) (vp_updL h_x_v (v4 + v6).toNatClampNeg r87028.1) (vp_updL h_y_v (v4 + v6).toNatClampNeg r87031.1.toInt64) (vp_updL h_z_v (v4 + v6).toNatClampNeg r87033.1.toInt64) h_fault_v h_faultAt_v v4 v5 (v6 + 1)))) := rfl
def f_X5_drawAll (h_state : Int64) (h_many_v : Nat → Int32) (h_sort_v : Nat → Int32) (h_x_v : Nat → Int64) (h_y_v : Nat → Int64) (h_z_v : Nat → Int64) (h_fault_v : Nat → Int32) (h_faultAt_v : Nat → Int32) (p0 : Int32) (p1 : Int32) (p2 : Int32) : Option (Int64 × (Nat → Int32) × (Nat → Int32) × (Nat → Int64) × (Nat → Int64) × (Nat → Int64) × (Nat → Int32) × (Nat → Int32)) :=
    if p0 < 0 ∨ 3 ≤ p0.toNatClampNeg then none else
    if (40 * p0) < 0 ∨ 120 ≤ (40 * p0).toNatClampNeg then none else
    (if p2 = 0 then
    some ((h_state, upd h_many_v p0.toNatClampNeg 1, upd h_sort_v (40 * p0).toNatClampNeg 0, vp_updL h_x_v (40 * p0).toNatClampNeg 0, vp_updL h_y_v (40 * p0).toNatClampNeg 0, vp_updL h_z_v (40 * p0).toNatClampNeg 0, upd h_fault_v p0.toNatClampNeg 0, upd h_faultAt_v p0.toNatClampNeg ((-1))))
    else
    (f_X5_next h_state (p2 + 1)).bind fun r9 =>
    f_X5_drawAll_L86 p0 p1 p2 64 r9.2 (upd (upd h_many_v p0.toNatClampNeg 1) p0.toNatClampNeg (p2 + r9.1)) (upd h_sort_v (40 * p0).toNatClampNeg 0) (vp_updL h_x_v (40 * p0).toNatClampNeg 0) (vp_updL h_y_v (40 * p0).toNatClampNeg 0) (vp_updL h_z_v (40 * p0).toNatClampNeg 0) (upd h_fault_v p0.toNatClampNeg 0) (upd h_faultAt_v p0.toNatClampNeg ((-1))) (40 * p0) (p2 + r9.1) 0)
set_option maxHeartbeats 4000000 in
set_option maxRecDepth 100000 in
theorem c_X5_drawAll (l : Launch) (dC : Nat → ClassId) (dI : Nat → Nat → Nat) (cA : Nat → ClassId) (tt : Nat → Nat) (h h_many h_sort h_x h_y h_z h_fault h_faultAt h_left h_stays h_text : Nat) (sz : Nat) (h_code : Int32) (h_seed : Int64) (h_state : Int64) (h_lefts : Int32) (h_size : Int32) (h_many_v : Nat → Int32) (h_sort_v : Nat → Int32) (h_x_v : Nat → Int64) (h_y_v : Nat → Int64) (h_z_v : Nat → Int64) (h_fault_v : Nat → Int32) (h_faultAt_v : Nat → Int32) (p0 : Int32) (p1 : Int32) (p2 : Int32) (o : Int64 × (Nat → Int32) × (Nat → Int32) × (Nat → Int64) × (Nat → Int64) × (Nat → Int64) × (Nat → Int32) × (Nat → Int32)) (hf : f_X5_drawAll h_state h_many_v h_sort_v h_x_v h_y_v h_z_v h_fault_v h_faultAt_v p0 p1 p2 = some o) : Met l yX5_drawAll wX5_drawAll ({ frames := 2, cells := 0, slots := 0, locals := 44 }) (kq_Pc dC dI cA tt [.ref h, .int p0, .int p1, .int p2] [(h, .inr (5, [.int h_code, .long h_seed, .long h_state, .ref h_many, .ref h_sort, .ref h_x, .ref h_y, .ref h_z, .ref h_fault, .ref h_faultAt, .ref h_left, .int h_lefts, .ref h_stays, .ref h_text, .int h_size])), (h_many, .inl (cA 0, 3, .inl h_many_v)), (h_sort, .inl (cA 0, 120, .inl h_sort_v)), (h_x, .inl (cA 2, 120, .inr (.inl h_x_v))), (h_y, .inl (cA 2, 120, .inr (.inl h_y_v))), (h_z, .inl (cA 2, 120, .inr (.inl h_z_v))), (h_fault, .inl (cA 0, 3, .inl h_fault_v)), (h_faultAt, .inl (cA 0, 3, .inl h_faultAt_v))] sz) (va_Qv (fun _ : Unit => True) (fun _ t => kq_B dC dI [(h, .inr (5, [.int h_code, .long h_seed, .long o.1, .ref h_many, .ref h_sort, .ref h_x, .ref h_y, .ref h_z, .ref h_fault, .ref h_faultAt, .ref h_left, .int h_lefts, .ref h_stays, .ref h_text, .int h_size])), (h_many, .inl (cA 0, 3, .inl o.2.1)), (h_sort, .inl (cA 0, 120, .inl o.2.2.1)), (h_x, .inl (cA 2, 120, .inr (.inl o.2.2.2.1))), (h_y, .inl (cA 2, 120, .inr (.inl o.2.2.2.2.1))), (h_z, .inl (cA 2, 120, .inr (.inl o.2.2.2.2.2.1))), (h_fault, .inl (cA 0, 3, .inl o.2.2.2.2.2.2.1)), (h_faultAt, .inl (cA 0, 3, .inl o.2.2.2.2.2.2.2))] (va_A [(h, .inr (5, [.int h_code, .long h_seed, .long h_state, .ref h_many, .ref h_sort, .ref h_x, .ref h_y, .ref h_z, .ref h_fault, .ref h_faultAt, .ref h_left, .int h_lefts, .ref h_stays, .ref h_text, .int h_size])), (h_many, .inl (cA 0, 3, .inl h_many_v)), (h_sort, .inl (cA 0, 120, .inl h_sort_v)), (h_x, .inl (cA 2, 120, .inr (.inl h_x_v))), (h_y, .inl (cA 2, 120, .inr (.inl h_y_v))), (h_z, .inl (cA 2, 120, .inr (.inl h_z_v))), (h_fault, .inl (cA 0, 3, .inl h_fault_v)), (h_faultAt, .inl (cA 0, 3, .inl h_faultAt_v))] sz) t) (va_A [(h, .inr (5, [.int h_code, .long h_seed, .long h_state, .ref h_many, .ref h_sort, .ref h_x, .ref h_y, .ref h_z, .ref h_fault, .ref h_faultAt, .ref h_left, .int h_lefts, .ref h_stays, .ref h_text, .int h_size])), (h_many, .inl (cA 0, 3, .inl h_many_v)), (h_sort, .inl (cA 0, 120, .inl h_sort_v)), (h_x, .inl (cA 2, 120, .inr (.inl h_x_v))), (h_y, .inl (cA 2, 120, .inr (.inl h_y_v))), (h_z, .inl (cA 2, 120, .inr (.inl h_z_v))), (h_fault, .inl (cA 0, 3, .inl h_fault_v)), (h_faultAt, .inl (cA 0, 3, .inl h_faultAt_v))] sz)) 0 0 (va_A [(h, .inr (5, [.int h_code, .long h_seed, .long h_state, .ref h_many, .ref h_sort, .ref h_x, .ref h_y, .ref h_z, .ref h_fault, .ref h_faultAt, .ref h_left, .int h_lefts, .ref h_stays, .ref h_text, .int h_size])), (h_many, .inl (cA 0, 3, .inl h_many_v)), (h_sort, .inl (cA 0, 120, .inl h_sort_v)), (h_x, .inl (cA 2, 120, .inr (.inl h_x_v))), (h_y, .inl (cA 2, 120, .inr (.inl h_y_v))), (h_z, .inl (cA 2, 120, .inr (.inl h_z_v))), (h_fault, .inl (cA 0, 3, .inl h_fault_v)), (h_faultAt, .inl (cA 0, 3, .inl h_faultAt_v))] sz) := by
  refine Met.ofW (cc := cX5_drawAll) (maxL := 8) (ret := none) (by decide) rfl ?_
  intro p e s m args below meth c s₁ B hml hv
  obtain ⟨rfl, hsz, hP, hD0, hG, hZ⟩ := hv
  have hx := B.exec
  have hb := B.bytes
  have hr := B.returns
  have hts : ∀ w ∈ kq_T, w.before _ s = true := fun w h => atoms_spec (ws := wX5_drawAll) B.pre w (List.mem_cons_of_mem _ h)
  have hown : s.vm.findClass RX5 = some m.cls := findClass_of_methodNamed B.named
  have hlocks := B.notSynchronized
  have hK := hG.1
  subst hsz
  have hD := hD0.self (sz := s.heap.size)
  generalize hAe : va_A [(h, .inr (5, [.int h_code, .long h_seed, .long h_state, .ref h_many, .ref h_sort, .ref h_x, .ref h_y, .ref h_z, .ref h_fault, .ref h_faultAt, .ref h_left, .int h_lefts, .ref h_stays, .ref h_text, .int h_size])), (h_many, .inl (cA 0, 3, .inl h_many_v)), (h_sort, .inl (cA 0, 120, .inl h_sort_v)), (h_x, .inl (cA 2, 120, .inr (.inl h_x_v))), (h_y, .inl (cA 2, 120, .inr (.inl h_y_v))), (h_z, .inl (cA 2, 120, .inr (.inl h_z_v))), (h_fault, .inl (cA 0, 3, .inl h_fault_v)), (h_faultAt, .inl (cA 0, 3, .inl h_faultAt_v))] s.heap.size = A at hD hZ ⊢
  have hA : ∀ q : Nat, s.heap.size ≤ q → A q := fun q h => by rw [← hAe]; exact Or.inr h
  have hl := lv_entry [.ref h, .int p0, .int p1, .int p2] (n := 8) (Nat.le_of_ble_eq_true rfl)
  rw [lg_entry_eq]
  generalize (lg_sl [.ref h, .int p0, .int p1, .int p2] ++ List.replicate (8 - (lg_sl [.ref h, .int p0, .int p1, .int p2]).length) Slot.unset).toArray = ls at hl ⊢
  have hl : lv_has ls 8 [(0, .ref h), (1, .int p0), (2, .int p1), (3, .int p2)] := hl
  obtain ⟨H, hHe⟩ : ∃ H : Heap, H = s.heap := ⟨_, rfl⟩
  have hP : va_P (dC, dI) vwCl [(h, .inr (5, [.int h_code, .long h_seed, .long h_state, .ref h_many, .ref h_sort, .ref h_x, .ref h_y, .ref h_z, .ref h_fault, .ref h_faultAt, .ref h_left, .int h_lefts, .ref h_stays, .ref h_text, .int h_size])), (h_many, .inl (cA 0, 3, .inl h_many_v)), (h_sort, .inl (cA 0, 120, .inl h_sort_v)), (h_x, .inl (cA 2, 120, .inr (.inl h_x_v))), (h_y, .inl (cA 2, 120, .inr (.inl h_y_v))), (h_z, .inl (cA 2, 120, .inr (.inl h_z_v))), (h_fault, .inl (cA 0, 3, .inl h_fault_v)), (h_faultAt, .inl (cA 0, 3, .inl h_faultAt_v))] H := by rw [hHe]; exact hP
  have hS : va_S A s.heap H [] := by rw [hHe]; exact va_S.rf
  rw [← hHe]
  unfold f_X5_drawAll at hf
  refine lv_bipush (v := 40) hx hb dX5_drawAll_0 (by decide) ?_
  refine lv_iload_n hx hb dX5_drawAll_2 rfl (lv_at hl 1 rfl) ?_
  refine lv_imul hx hb dX5_drawAll_3 ?_
  refine lv_istore (lv' := [(4, .int (40 * p0)), (0, .ref h), (1, .int p0), (2, .int p1), (3, .int p2)]) hx hb dX5_drawAll_4 hl (by decide) rfl (fun ls hl => ?_)
  refine lv_aload_n hx hb dX5_drawAll_6 rfl (lv_at hl 1 rfl) ?_
  refine va_get (D := (dC, dI)) (ci := 5) (v := .ref h_fault) (C := RX5) (T := TX5) (N := 15) hx hb hts iwX5 hown hK hP 0 rfl rfl 8 (by decide) (hts _ tw_343) (fun _ h9 => h9) rfl dX5_drawAll_7 ?_
  refine lv_iload_n hx hb dX5_drawAll_10 rfl (lv_at hl 2 rfl) ?_
  refine lv_iconst (v := 0) hx hb dX5_drawAll_11 (by decide) ?_
  obtain ⟨hq1, hf⟩ := kp_t hf
  refine va_iast hx hb hK hP hD hS 6 0 rfl rfl hq1 dX5_drawAll_12 (fun H locs hP hD hS => ?_)
  have hP : va_P (dC, dI) vwCl [(h, .inr (5, [.int h_code, .long h_seed, .long h_state, .ref h_many, .ref h_sort, .ref h_x, .ref h_y, .ref h_z, .ref h_fault, .ref h_faultAt, .ref h_left, .int h_lefts, .ref h_stays, .ref h_text, .int h_size])), (h_many, .inl (cA 0, 3, .inl h_many_v)), (h_sort, .inl (cA 0, 120, .inl h_sort_v)), (h_x, .inl (cA 2, 120, .inr (.inl h_x_v))), (h_y, .inl (cA 2, 120, .inr (.inl h_y_v))), (h_z, .inl (cA 2, 120, .inr (.inl h_z_v))), (h_fault, .inl (cA 0, 3, .inl (upd h_fault_v p0.toNatClampNeg 0))), (h_faultAt, .inl (cA 0, 3, .inl h_faultAt_v))] H := hP
  have hD : va_D A [(h, .inr (5, [.int h_code, .long h_seed, .long h_state, .ref h_many, .ref h_sort, .ref h_x, .ref h_y, .ref h_z, .ref h_fault, .ref h_faultAt, .ref h_left, .int h_lefts, .ref h_stays, .ref h_text, .int h_size])), (h_many, .inl (cA 0, 3, .inl h_many_v)), (h_sort, .inl (cA 0, 120, .inl h_sort_v)), (h_x, .inl (cA 2, 120, .inr (.inl h_x_v))), (h_y, .inl (cA 2, 120, .inr (.inl h_y_v))), (h_z, .inl (cA 2, 120, .inr (.inl h_z_v))), (h_fault, .inl (cA 0, 3, .inl (upd h_fault_v p0.toNatClampNeg 0))), (h_faultAt, .inl (cA 0, 3, .inl h_faultAt_v))] := hD
  refine lv_aload_n hx hb dX5_drawAll_13 rfl (lv_at hl 1 rfl) ?_
  refine va_get (D := (dC, dI)) (ci := 5) (v := .ref h_faultAt) (C := RX5) (T := TX5) (N := 15) hx hb hts iwX5 hown hK hP 0 rfl rfl 9 (by decide) (hts _ tw_344) (fun _ h9 => h9) rfl dX5_drawAll_14 ?_
  refine lv_iload_n hx hb dX5_drawAll_17 rfl (lv_at hl 2 rfl) ?_
  refine lv_iconst (v := (-1)) hx hb dX5_drawAll_18 (by decide) ?_
  refine va_iast hx hb hK hP hD hS 7 0 rfl rfl hq1 dX5_drawAll_19 (fun H locs hP hD hS => ?_)
  have hP : va_P (dC, dI) vwCl [(h, .inr (5, [.int h_code, .long h_seed, .long h_state, .ref h_many, .ref h_sort, .ref h_x, .ref h_y, .ref h_z, .ref h_fault, .ref h_faultAt, .ref h_left, .int h_lefts, .ref h_stays, .ref h_text, .int h_size])), (h_many, .inl (cA 0, 3, .inl h_many_v)), (h_sort, .inl (cA 0, 120, .inl h_sort_v)), (h_x, .inl (cA 2, 120, .inr (.inl h_x_v))), (h_y, .inl (cA 2, 120, .inr (.inl h_y_v))), (h_z, .inl (cA 2, 120, .inr (.inl h_z_v))), (h_fault, .inl (cA 0, 3, .inl (upd h_fault_v p0.toNatClampNeg 0))), (h_faultAt, .inl (cA 0, 3, .inl (upd h_faultAt_v p0.toNatClampNeg ((-1)))))] H := hP
  have hD : va_D A [(h, .inr (5, [.int h_code, .long h_seed, .long h_state, .ref h_many, .ref h_sort, .ref h_x, .ref h_y, .ref h_z, .ref h_fault, .ref h_faultAt, .ref h_left, .int h_lefts, .ref h_stays, .ref h_text, .int h_size])), (h_many, .inl (cA 0, 3, .inl h_many_v)), (h_sort, .inl (cA 0, 120, .inl h_sort_v)), (h_x, .inl (cA 2, 120, .inr (.inl h_x_v))), (h_y, .inl (cA 2, 120, .inr (.inl h_y_v))), (h_z, .inl (cA 2, 120, .inr (.inl h_z_v))), (h_fault, .inl (cA 0, 3, .inl (upd h_fault_v p0.toNatClampNeg 0))), (h_faultAt, .inl (cA 0, 3, .inl (upd h_faultAt_v p0.toNatClampNeg ((-1)))))] := hD
  refine lv_aload_n hx hb dX5_drawAll_20 rfl (lv_at hl 1 rfl) ?_
  refine va_get (D := (dC, dI)) (ci := 5) (v := .ref h_many) (C := RX5) (T := TX5) (N := 15) hx hb hts iwX5 hown hK hP 0 rfl rfl 3 (by decide) (hts _ tw_338) (fun _ h9 => h9) rfl dX5_drawAll_21 ?_
  refine lv_iload_n hx hb dX5_drawAll_24 rfl (lv_at hl 2 rfl) ?_
  refine lv_iconst (v := 1) hx hb dX5_drawAll_25 (by decide) ?_
  refine va_iast hx hb hK hP hD hS 1 0 rfl rfl hq1 dX5_drawAll_26 (fun H locs hP hD hS => ?_)
  have hP : va_P (dC, dI) vwCl [(h, .inr (5, [.int h_code, .long h_seed, .long h_state, .ref h_many, .ref h_sort, .ref h_x, .ref h_y, .ref h_z, .ref h_fault, .ref h_faultAt, .ref h_left, .int h_lefts, .ref h_stays, .ref h_text, .int h_size])), (h_many, .inl (cA 0, 3, .inl (upd h_many_v p0.toNatClampNeg 1))), (h_sort, .inl (cA 0, 120, .inl h_sort_v)), (h_x, .inl (cA 2, 120, .inr (.inl h_x_v))), (h_y, .inl (cA 2, 120, .inr (.inl h_y_v))), (h_z, .inl (cA 2, 120, .inr (.inl h_z_v))), (h_fault, .inl (cA 0, 3, .inl (upd h_fault_v p0.toNatClampNeg 0))), (h_faultAt, .inl (cA 0, 3, .inl (upd h_faultAt_v p0.toNatClampNeg ((-1)))))] H := hP
  have hD : va_D A [(h, .inr (5, [.int h_code, .long h_seed, .long h_state, .ref h_many, .ref h_sort, .ref h_x, .ref h_y, .ref h_z, .ref h_fault, .ref h_faultAt, .ref h_left, .int h_lefts, .ref h_stays, .ref h_text, .int h_size])), (h_many, .inl (cA 0, 3, .inl (upd h_many_v p0.toNatClampNeg 1))), (h_sort, .inl (cA 0, 120, .inl h_sort_v)), (h_x, .inl (cA 2, 120, .inr (.inl h_x_v))), (h_y, .inl (cA 2, 120, .inr (.inl h_y_v))), (h_z, .inl (cA 2, 120, .inr (.inl h_z_v))), (h_fault, .inl (cA 0, 3, .inl (upd h_fault_v p0.toNatClampNeg 0))), (h_faultAt, .inl (cA 0, 3, .inl (upd h_faultAt_v p0.toNatClampNeg ((-1)))))] := hD
  refine lv_aload_n hx hb dX5_drawAll_27 rfl (lv_at hl 1 rfl) ?_
  refine va_get (D := (dC, dI)) (ci := 5) (v := .ref h_sort) (C := RX5) (T := TX5) (N := 15) hx hb hts iwX5 hown hK hP 0 rfl rfl 4 (by decide) (hts _ tw_339) (fun _ h9 => h9) rfl dX5_drawAll_28 ?_
  refine lv_iload hx hb dX5_drawAll_31 (lv_at hl 0 rfl) ?_
  refine lv_iconst (v := 0) hx hb dX5_drawAll_33 (by decide) ?_
  obtain ⟨hq4, hf⟩ := kp_t hf
  refine va_iast hx hb hK hP hD hS 2 0 rfl rfl hq4 dX5_drawAll_34 (fun H locs hP hD hS => ?_)
  have hP : va_P (dC, dI) vwCl [(h, .inr (5, [.int h_code, .long h_seed, .long h_state, .ref h_many, .ref h_sort, .ref h_x, .ref h_y, .ref h_z, .ref h_fault, .ref h_faultAt, .ref h_left, .int h_lefts, .ref h_stays, .ref h_text, .int h_size])), (h_many, .inl (cA 0, 3, .inl (upd h_many_v p0.toNatClampNeg 1))), (h_sort, .inl (cA 0, 120, .inl (upd h_sort_v (40 * p0).toNatClampNeg 0))), (h_x, .inl (cA 2, 120, .inr (.inl h_x_v))), (h_y, .inl (cA 2, 120, .inr (.inl h_y_v))), (h_z, .inl (cA 2, 120, .inr (.inl h_z_v))), (h_fault, .inl (cA 0, 3, .inl (upd h_fault_v p0.toNatClampNeg 0))), (h_faultAt, .inl (cA 0, 3, .inl (upd h_faultAt_v p0.toNatClampNeg ((-1)))))] H := hP
  have hD : va_D A [(h, .inr (5, [.int h_code, .long h_seed, .long h_state, .ref h_many, .ref h_sort, .ref h_x, .ref h_y, .ref h_z, .ref h_fault, .ref h_faultAt, .ref h_left, .int h_lefts, .ref h_stays, .ref h_text, .int h_size])), (h_many, .inl (cA 0, 3, .inl (upd h_many_v p0.toNatClampNeg 1))), (h_sort, .inl (cA 0, 120, .inl (upd h_sort_v (40 * p0).toNatClampNeg 0))), (h_x, .inl (cA 2, 120, .inr (.inl h_x_v))), (h_y, .inl (cA 2, 120, .inr (.inl h_y_v))), (h_z, .inl (cA 2, 120, .inr (.inl h_z_v))), (h_fault, .inl (cA 0, 3, .inl (upd h_fault_v p0.toNatClampNeg 0))), (h_faultAt, .inl (cA 0, 3, .inl (upd h_faultAt_v p0.toNatClampNeg ((-1)))))] := hD
  refine lv_aload_n hx hb dX5_drawAll_35 rfl (lv_at hl 1 rfl) ?_
  refine va_get (D := (dC, dI)) (ci := 5) (v := .ref h_x) (C := RX5) (T := TX5) (N := 15) hx hb hts iwX5 hown hK hP 0 rfl rfl 5 (by decide) (hts _ tw_340) (fun _ h9 => h9) rfl dX5_drawAll_36 ?_
  refine lv_iload hx hb dX5_drawAll_39 (lv_at hl 0 rfl) ?_
  refine lv_lconst (v := 0) hx hb dX5_drawAll_41 (by decide) ?_
  refine va_last hx hb hK hP hD hS 3 2 rfl rfl hq4 dX5_drawAll_42 (fun H locs hP hD hS => ?_)
  have hP : va_P (dC, dI) vwCl [(h, .inr (5, [.int h_code, .long h_seed, .long h_state, .ref h_many, .ref h_sort, .ref h_x, .ref h_y, .ref h_z, .ref h_fault, .ref h_faultAt, .ref h_left, .int h_lefts, .ref h_stays, .ref h_text, .int h_size])), (h_many, .inl (cA 0, 3, .inl (upd h_many_v p0.toNatClampNeg 1))), (h_sort, .inl (cA 0, 120, .inl (upd h_sort_v (40 * p0).toNatClampNeg 0))), (h_x, .inl (cA 2, 120, .inr (.inl (vp_updL h_x_v (40 * p0).toNatClampNeg 0)))), (h_y, .inl (cA 2, 120, .inr (.inl h_y_v))), (h_z, .inl (cA 2, 120, .inr (.inl h_z_v))), (h_fault, .inl (cA 0, 3, .inl (upd h_fault_v p0.toNatClampNeg 0))), (h_faultAt, .inl (cA 0, 3, .inl (upd h_faultAt_v p0.toNatClampNeg ((-1)))))] H := hP
  have hD : va_D A [(h, .inr (5, [.int h_code, .long h_seed, .long h_state, .ref h_many, .ref h_sort, .ref h_x, .ref h_y, .ref h_z, .ref h_fault, .ref h_faultAt, .ref h_left, .int h_lefts, .ref h_stays, .ref h_text, .int h_size])), (h_many, .inl (cA 0, 3, .inl (upd h_many_v p0.toNatClampNeg 1))), (h_sort, .inl (cA 0, 120, .inl (upd h_sort_v (40 * p0).toNatClampNeg 0))), (h_x, .inl (cA 2, 120, .inr (.inl (vp_updL h_x_v (40 * p0).toNatClampNeg 0)))), (h_y, .inl (cA 2, 120, .inr (.inl h_y_v))), (h_z, .inl (cA 2, 120, .inr (.inl h_z_v))), (h_fault, .inl (cA 0, 3, .inl (upd h_fault_v p0.toNatClampNeg 0))), (h_faultAt, .inl (cA 0, 3, .inl (upd h_faultAt_v p0.toNatClampNeg ((-1)))))] := hD
  refine lv_aload_n hx hb dX5_drawAll_43 rfl (lv_at hl 1 rfl) ?_
  refine va_get (D := (dC, dI)) (ci := 5) (v := .ref h_y) (C := RX5) (T := TX5) (N := 15) hx hb hts iwX5 hown hK hP 0 rfl rfl 6 (by decide) (hts _ tw_341) (fun _ h9 => h9) rfl dX5_drawAll_44 ?_
  refine lv_iload hx hb dX5_drawAll_47 (lv_at hl 0 rfl) ?_
  refine lv_lconst (v := 0) hx hb dX5_drawAll_49 (by decide) ?_
  refine va_last hx hb hK hP hD hS 4 2 rfl rfl hq4 dX5_drawAll_50 (fun H locs hP hD hS => ?_)
  have hP : va_P (dC, dI) vwCl [(h, .inr (5, [.int h_code, .long h_seed, .long h_state, .ref h_many, .ref h_sort, .ref h_x, .ref h_y, .ref h_z, .ref h_fault, .ref h_faultAt, .ref h_left, .int h_lefts, .ref h_stays, .ref h_text, .int h_size])), (h_many, .inl (cA 0, 3, .inl (upd h_many_v p0.toNatClampNeg 1))), (h_sort, .inl (cA 0, 120, .inl (upd h_sort_v (40 * p0).toNatClampNeg 0))), (h_x, .inl (cA 2, 120, .inr (.inl (vp_updL h_x_v (40 * p0).toNatClampNeg 0)))), (h_y, .inl (cA 2, 120, .inr (.inl (vp_updL h_y_v (40 * p0).toNatClampNeg 0)))), (h_z, .inl (cA 2, 120, .inr (.inl h_z_v))), (h_fault, .inl (cA 0, 3, .inl (upd h_fault_v p0.toNatClampNeg 0))), (h_faultAt, .inl (cA 0, 3, .inl (upd h_faultAt_v p0.toNatClampNeg ((-1)))))] H := hP
  have hD : va_D A [(h, .inr (5, [.int h_code, .long h_seed, .long h_state, .ref h_many, .ref h_sort, .ref h_x, .ref h_y, .ref h_z, .ref h_fault, .ref h_faultAt, .ref h_left, .int h_lefts, .ref h_stays, .ref h_text, .int h_size])), (h_many, .inl (cA 0, 3, .inl (upd h_many_v p0.toNatClampNeg 1))), (h_sort, .inl (cA 0, 120, .inl (upd h_sort_v (40 * p0).toNatClampNeg 0))), (h_x, .inl (cA 2, 120, .inr (.inl (vp_updL h_x_v (40 * p0).toNatClampNeg 0)))), (h_y, .inl (cA 2, 120, .inr (.inl (vp_updL h_y_v (40 * p0).toNatClampNeg 0)))), (h_z, .inl (cA 2, 120, .inr (.inl h_z_v))), (h_fault, .inl (cA 0, 3, .inl (upd h_fault_v p0.toNatClampNeg 0))), (h_faultAt, .inl (cA 0, 3, .inl (upd h_faultAt_v p0.toNatClampNeg ((-1)))))] := hD
  refine lv_aload_n hx hb dX5_drawAll_51 rfl (lv_at hl 1 rfl) ?_
  refine va_get (D := (dC, dI)) (ci := 5) (v := .ref h_z) (C := RX5) (T := TX5) (N := 15) hx hb hts iwX5 hown hK hP 0 rfl rfl 7 (by decide) (hts _ tw_342) (fun _ h9 => h9) rfl dX5_drawAll_52 ?_
  refine lv_iload hx hb dX5_drawAll_55 (lv_at hl 0 rfl) ?_
  refine lv_lconst (v := 0) hx hb dX5_drawAll_57 (by decide) ?_
  refine va_last hx hb hK hP hD hS 5 2 rfl rfl hq4 dX5_drawAll_58 (fun H locs hP hD hS => ?_)
  have hP : va_P (dC, dI) vwCl [(h, .inr (5, [.int h_code, .long h_seed, .long h_state, .ref h_many, .ref h_sort, .ref h_x, .ref h_y, .ref h_z, .ref h_fault, .ref h_faultAt, .ref h_left, .int h_lefts, .ref h_stays, .ref h_text, .int h_size])), (h_many, .inl (cA 0, 3, .inl (upd h_many_v p0.toNatClampNeg 1))), (h_sort, .inl (cA 0, 120, .inl (upd h_sort_v (40 * p0).toNatClampNeg 0))), (h_x, .inl (cA 2, 120, .inr (.inl (vp_updL h_x_v (40 * p0).toNatClampNeg 0)))), (h_y, .inl (cA 2, 120, .inr (.inl (vp_updL h_y_v (40 * p0).toNatClampNeg 0)))), (h_z, .inl (cA 2, 120, .inr (.inl (vp_updL h_z_v (40 * p0).toNatClampNeg 0)))), (h_fault, .inl (cA 0, 3, .inl (upd h_fault_v p0.toNatClampNeg 0))), (h_faultAt, .inl (cA 0, 3, .inl (upd h_faultAt_v p0.toNatClampNeg ((-1)))))] H := hP
  have hD : va_D A [(h, .inr (5, [.int h_code, .long h_seed, .long h_state, .ref h_many, .ref h_sort, .ref h_x, .ref h_y, .ref h_z, .ref h_fault, .ref h_faultAt, .ref h_left, .int h_lefts, .ref h_stays, .ref h_text, .int h_size])), (h_many, .inl (cA 0, 3, .inl (upd h_many_v p0.toNatClampNeg 1))), (h_sort, .inl (cA 0, 120, .inl (upd h_sort_v (40 * p0).toNatClampNeg 0))), (h_x, .inl (cA 2, 120, .inr (.inl (vp_updL h_x_v (40 * p0).toNatClampNeg 0)))), (h_y, .inl (cA 2, 120, .inr (.inl (vp_updL h_y_v (40 * p0).toNatClampNeg 0)))), (h_z, .inl (cA 2, 120, .inr (.inl (vp_updL h_z_v (40 * p0).toNatClampNeg 0)))), (h_fault, .inl (cA 0, 3, .inl (upd h_fault_v p0.toNatClampNeg 0))), (h_faultAt, .inl (cA 0, 3, .inl (upd h_faultAt_v p0.toNatClampNeg ((-1)))))] := hD
  refine lv_iload_n hx hb dX5_drawAll_59 rfl (lv_at hl 4 rfl) ?_
  refine lv_if_ne (tgt := 64) hx hb dX5_drawAll_60 (by decide) (fun c8 => ?_) (fun c8 => ?_)
  · have hf := kp_n c8 hf
    refine lv_iload_n hx hb dX5_drawAll_64 rfl (lv_at hl 4 rfl) ?_
    refine lv_aload_n hx hb dX5_drawAll_65 rfl (lv_at hl 1 rfl) ?_
    refine lv_iload_n hx hb dX5_drawAll_66 rfl (lv_at hl 4 rfl) ?_
    refine lv_iconst (v := 1) hx hb dX5_drawAll_67 (by decide) ?_
    refine lv_iadd hx hb dX5_drawAll_68 ?_
    obtain ⟨r9, hr9, hf⟩ := kp_b hf
    have hPc := hP.sub (ws' := [(h, .inr (5, [.int h_code, .long h_seed, .long h_state, .ref h_many, .ref h_sort, .ref h_x, .ref h_y, .ref h_z, .ref h_fault, .ref h_faultAt, .ref h_left, .int h_lefts, .ref h_stays, .ref h_text, .int h_size]))]) [0] rfl
    have hDc := hD.sub (ws' := [(h, .inr (5, [.int h_code, .long h_seed, .long h_state, .ref h_many, .ref h_sort, .ref h_x, .ref h_y, .ref h_z, .ref h_fault, .ref h_faultAt, .ref h_left, .int h_lefts, .ref h_stays, .ref h_text, .int h_size]))]) [0] (by decide) rfl
    have hFc := va_free (wc := [(h, .inr (5, [.int h_code, .long h_seed, .long h_state, .ref h_many, .ref h_sort, .ref h_x, .ref h_y, .ref h_z, .ref h_fault, .ref h_faultAt, .ref h_left, .int h_lefts, .ref h_stays, .ref h_text, .int h_size]))]) hD hS hA [0] rfl
    refine va_calli (va_runV (As := [.int (p2 + 1)]) (rest := [.int p2]) ⟨hx, hb, hml, hown, hts⟩ (c_X5_next l dC dI cA tt h h_many h_sort h_x h_y h_z h_fault h_faultAt h_left h_stays h_text H.size h_code h_seed h_state h_lefts h_size (p2 + 1) r9 hr9) (cwV 1 hts (kq_gV tw_394 tw_396 tw_12 tw_25 tw_397) rfl rfl rfl (by decide +kernel) ⟨Nat.le_of_ble_eq_true rfl, Nat.le_of_ble_eq_true rfl⟩) ⟨kq_blind, va_recv hK hP (ci := 5) (q0 := 0) rfl rfl, kq_pre hG hZ hS hPc hDc hFc⟩ rfl rfl hl.1 rfl (lv_room (Nat.le_of_ble_eq_true rfl)) dX5_drawAll_69 ⟨Nat.le_of_ble_eq_true rfl, Nat.le_of_ble_eq_true rfl⟩) hS (fun q _ h => hFc q h) hFc (fun rv u t H1 locs ht hvm hw hB hz1 hk1 hS => ?_)
    obtain ⟨hP1, hD1⟩ := hB
    rw [ht] at hP1
    have hw := hw.symm
    subst hw
    obtain ⟨hP, hD⟩ := va_join (wr := [(h_many, .inl (cA 0, 3, .inl (upd h_many_v p0.toNatClampNeg 1))), (h_sort, .inl (cA 0, 120, .inl (upd h_sort_v (40 * p0).toNatClampNeg 0))), (h_x, .inl (cA 2, 120, .inr (.inl (vp_updL h_x_v (40 * p0).toNatClampNeg 0)))), (h_y, .inl (cA 2, 120, .inr (.inl (vp_updL h_y_v (40 * p0).toNatClampNeg 0)))), (h_z, .inl (cA 2, 120, .inr (.inl (vp_updL h_z_v (40 * p0).toNatClampNeg 0)))), (h_fault, .inl (cA 0, 3, .inl (upd h_fault_v p0.toNatClampNeg 0))), (h_faultAt, .inl (cA 0, 3, .inl (upd h_faultAt_v p0.toNatClampNeg ((-1)))))]) (w1 := [(h, .inr (5, [.int h_code, .long h_seed, .long r9.2, .ref h_many, .ref h_sort, .ref h_x, .ref h_y, .ref h_z, .ref h_fault, .ref h_faultAt, .ref h_left, .int h_lefts, .ref h_stays, .ref h_text, .int h_size]))]) hP hD [0] [1, 2, 3, 4, 5, 6, 7] rfl rfl (by decide) (by decide) hk1 hFc hP1 hD1
    have hP : va_P (dC, dI) vwCl [(h, .inr (5, [.int h_code, .long h_seed, .long r9.2, .ref h_many, .ref h_sort, .ref h_x, .ref h_y, .ref h_z, .ref h_fault, .ref h_faultAt, .ref h_left, .int h_lefts, .ref h_stays, .ref h_text, .int h_size])), (h_many, .inl (cA 0, 3, .inl (upd h_many_v p0.toNatClampNeg 1))), (h_sort, .inl (cA 0, 120, .inl (upd h_sort_v (40 * p0).toNatClampNeg 0))), (h_x, .inl (cA 2, 120, .inr (.inl (vp_updL h_x_v (40 * p0).toNatClampNeg 0)))), (h_y, .inl (cA 2, 120, .inr (.inl (vp_updL h_y_v (40 * p0).toNatClampNeg 0)))), (h_z, .inl (cA 2, 120, .inr (.inl (vp_updL h_z_v (40 * p0).toNatClampNeg 0)))), (h_fault, .inl (cA 0, 3, .inl (upd h_fault_v p0.toNatClampNeg 0))), (h_faultAt, .inl (cA 0, 3, .inl (upd h_faultAt_v p0.toNatClampNeg ((-1)))))] H1 := hP.sub [7, 0, 1, 2, 3, 4, 5, 6] rfl
    have hD : va_D A [(h, .inr (5, [.int h_code, .long h_seed, .long r9.2, .ref h_many, .ref h_sort, .ref h_x, .ref h_y, .ref h_z, .ref h_fault, .ref h_faultAt, .ref h_left, .int h_lefts, .ref h_stays, .ref h_text, .int h_size])), (h_many, .inl (cA 0, 3, .inl (upd h_many_v p0.toNatClampNeg 1))), (h_sort, .inl (cA 0, 120, .inl (upd h_sort_v (40 * p0).toNatClampNeg 0))), (h_x, .inl (cA 2, 120, .inr (.inl (vp_updL h_x_v (40 * p0).toNatClampNeg 0)))), (h_y, .inl (cA 2, 120, .inr (.inl (vp_updL h_y_v (40 * p0).toNatClampNeg 0)))), (h_z, .inl (cA 2, 120, .inr (.inl (vp_updL h_z_v (40 * p0).toNatClampNeg 0)))), (h_fault, .inl (cA 0, 3, .inl (upd h_fault_v p0.toNatClampNeg 0))), (h_faultAt, .inl (cA 0, 3, .inl (upd h_faultAt_v p0.toNatClampNeg ((-1)))))] := hD.sub [7, 0, 1, 2, 3, 4, 5, 6] (by decide) rfl
    generalize H1 = H at hP hS ⊢
    refine lv_iadd hx hb dX5_drawAll_72 ?_
    refine lv_istore (lv' := [(5, .int (p2 + r9.1)), (4, .int (40 * p0)), (0, .ref h), (1, .int p0), (2, .int p1), (3, .int p2)]) hx hb dX5_drawAll_73 hl (by decide) rfl (fun ls hl => ?_)
    refine lv_aload_n hx hb dX5_drawAll_75 rfl (lv_at hl 2 rfl) ?_
    refine va_get (D := (dC, dI)) (ci := 5) (v := .ref h_many) (C := RX5) (T := TX5) (N := 15) hx hb hts iwX5 hown hK hP 0 rfl rfl 3 (by decide) (hts _ tw_338) (fun _ h9 => h9) rfl dX5_drawAll_76 ?_
    refine lv_iload_n hx hb dX5_drawAll_79 rfl (lv_at hl 3 rfl) ?_
    refine lv_iload hx hb dX5_drawAll_80 (lv_at hl 0 rfl) ?_
    refine va_iast hx hb hK hP hD hS 1 0 rfl rfl hq1 dX5_drawAll_82 (fun H locs hP hD hS => ?_)
    have hP : va_P (dC, dI) vwCl [(h, .inr (5, [.int h_code, .long h_seed, .long r9.2, .ref h_many, .ref h_sort, .ref h_x, .ref h_y, .ref h_z, .ref h_fault, .ref h_faultAt, .ref h_left, .int h_lefts, .ref h_stays, .ref h_text, .int h_size])), (h_many, .inl (cA 0, 3, .inl (upd (upd h_many_v p0.toNatClampNeg 1) p0.toNatClampNeg (p2 + r9.1)))), (h_sort, .inl (cA 0, 120, .inl (upd h_sort_v (40 * p0).toNatClampNeg 0))), (h_x, .inl (cA 2, 120, .inr (.inl (vp_updL h_x_v (40 * p0).toNatClampNeg 0)))), (h_y, .inl (cA 2, 120, .inr (.inl (vp_updL h_y_v (40 * p0).toNatClampNeg 0)))), (h_z, .inl (cA 2, 120, .inr (.inl (vp_updL h_z_v (40 * p0).toNatClampNeg 0)))), (h_fault, .inl (cA 0, 3, .inl (upd h_fault_v p0.toNatClampNeg 0))), (h_faultAt, .inl (cA 0, 3, .inl (upd h_faultAt_v p0.toNatClampNeg ((-1)))))] H := hP
    have hD : va_D A [(h, .inr (5, [.int h_code, .long h_seed, .long r9.2, .ref h_many, .ref h_sort, .ref h_x, .ref h_y, .ref h_z, .ref h_fault, .ref h_faultAt, .ref h_left, .int h_lefts, .ref h_stays, .ref h_text, .int h_size])), (h_many, .inl (cA 0, 3, .inl (upd (upd h_many_v p0.toNatClampNeg 1) p0.toNatClampNeg (p2 + r9.1)))), (h_sort, .inl (cA 0, 120, .inl (upd h_sort_v (40 * p0).toNatClampNeg 0))), (h_x, .inl (cA 2, 120, .inr (.inl (vp_updL h_x_v (40 * p0).toNatClampNeg 0)))), (h_y, .inl (cA 2, 120, .inr (.inl (vp_updL h_y_v (40 * p0).toNatClampNeg 0)))), (h_z, .inl (cA 2, 120, .inr (.inl (vp_updL h_z_v (40 * p0).toNatClampNeg 0)))), (h_fault, .inl (cA 0, 3, .inl (upd h_fault_v p0.toNatClampNeg 0))), (h_faultAt, .inl (cA 0, 3, .inl (upd h_faultAt_v p0.toNatClampNeg ((-1)))))] := hD
    refine lv_iconst (v := 0) hx hb dX5_drawAll_83 (by decide) ?_
    refine lv_istore (lv' := [(6, .int 0), (5, .int (p2 + r9.1)), (4, .int (40 * p0)), (0, .ref h), (1, .int p0), (2, .int p1), (3, .int p2)]) hx hb dX5_drawAll_84 hl (by decide) rfl (fun ls hl => ?_)
    refine kq_ind (fun n H locs g => ∃ (h_state : Int64) (h_many_v : Nat → Int32) (h_sort_v : Nat → Int32) (h_x_v : Nat → Int64) (h_y_v : Nat → Int64) (h_z_v : Nat → Int64) (h_fault_v : Nat → Int32) (h_faultAt_v : Nat → Int32) (v4 : Int32) (v5 : Int32) (v6 : Int32) (ls : Array Slot), g = F0 m 86 ls [] ∧ lv_has ls 8 [(0, .ref h), (1, .int p0), (2, .int p1), (4, .int v4), (5, .int v5), (6, .int v6)] ∧ va_P (dC, dI) vwCl [(h, .inr (5, [.int h_code, .long h_seed, .long h_state, .ref h_many, .ref h_sort, .ref h_x, .ref h_y, .ref h_z, .ref h_fault, .ref h_faultAt, .ref h_left, .int h_lefts, .ref h_stays, .ref h_text, .int h_size])), (h_many, .inl (cA 0, 3, .inl h_many_v)), (h_sort, .inl (cA 0, 120, .inl h_sort_v)), (h_x, .inl (cA 2, 120, .inr (.inl h_x_v))), (h_y, .inl (cA 2, 120, .inr (.inl h_y_v))), (h_z, .inl (cA 2, 120, .inr (.inl h_z_v))), (h_fault, .inl (cA 0, 3, .inl h_fault_v)), (h_faultAt, .inl (cA 0, 3, .inl h_faultAt_v))] H ∧ va_D A [(h, .inr (5, [.int h_code, .long h_seed, .long h_state, .ref h_many, .ref h_sort, .ref h_x, .ref h_y, .ref h_z, .ref h_fault, .ref h_faultAt, .ref h_left, .int h_lefts, .ref h_stays, .ref h_text, .int h_size])), (h_many, .inl (cA 0, 3, .inl h_many_v)), (h_sort, .inl (cA 0, 120, .inl h_sort_v)), (h_x, .inl (cA 2, 120, .inr (.inl h_x_v))), (h_y, .inl (cA 2, 120, .inr (.inl h_y_v))), (h_z, .inl (cA 2, 120, .inr (.inl h_z_v))), (h_fault, .inl (cA 0, 3, .inl h_fault_v)), (h_faultAt, .inl (cA 0, 3, .inl h_faultAt_v))] ∧ va_S A s.heap H locs ∧ f_X5_drawAll_L86 p0 p1 p2 n h_state h_many_v h_sort_v h_x_v h_y_v h_z_v h_fault_v h_faultAt_v v4 v5 v6 = some o) (fun H locs g h => ?_) (fun n86 ih86 H locs g h => ?_) 64 _ _ _ ⟨r9.2, upd (upd h_many_v p0.toNatClampNeg 1) p0.toNatClampNeg (p2 + r9.1), upd h_sort_v (40 * p0).toNatClampNeg 0, vp_updL h_x_v (40 * p0).toNatClampNeg 0, vp_updL h_y_v (40 * p0).toNatClampNeg 0, vp_updL h_z_v (40 * p0).toNatClampNeg 0, upd h_fault_v p0.toNatClampNeg 0, upd h_faultAt_v p0.toNatClampNeg ((-1)), 40 * p0, p2 + r9.1, 0, ls, rfl, lv_sub hl [3, 4, 5, 2, 1, 0] rfl, hP, hD, hS, hf⟩
    · obtain ⟨h_state, h_many_v, h_sort_v, h_x_v, h_y_v, h_z_v, h_fault_v, h_faultAt_v, v4, v5, v6, ls, -, -, -, -, -, hf⟩ := h
      have hf : (none : Option (Int64 × (Nat → Int32) × (Nat → Int32) × (Nat → Int64) × (Nat → Int64) × (Nat → Int64) × (Nat → Int32) × (Nat → Int32))) = some o := hf
      cases hf
    · obtain ⟨h_state, h_many_v, h_sort_v, h_x_v, h_y_v, h_z_v, h_fault_v, h_faultAt_v, v4, v5, v6, ls, rfl, hl, hP, hD, hS, hf⟩ := h
      have hf := (e_X5_drawAll_L86 p0 p1 p2 n86 h_state h_many_v h_sort_v h_x_v h_y_v h_z_v h_fault_v h_faultAt_v v4 v5 v6).symm.trans hf
      refine lv_iload hx hb dX5_drawAll_86 (lv_at hl 5 rfl) ?_
      refine lv_iload hx hb dX5_drawAll_88 (lv_at hl 4 rfl) ?_
      refine lv_icmp_ge (tgt := 225) hx hb dX5_drawAll_90 (by decide) (fun c87001 => ?_) (fun c87001 => ?_)
      · have hf := kp_p c87001 hf
        refine lv_aload_n hx hb dX5_drawAll_225 rfl (lv_at hl 0 rfl) ?_
        refine lv_iconst (v := 2) hx hb dX5_drawAll_226 (by decide) ?_
        refine lv_iload_n hx hb dX5_drawAll_227 rfl (lv_at hl 2 rfl) ?_
        obtain ⟨r87002, hr87002, hf⟩ := kp_b hf
        have hPc := hP.sub (ws' := []) [] rfl
        have hDc := hD.sub (ws' := []) [] (by decide) rfl
        have hFc := va_free (wc := []) hD hS hA [] rfl
        refine va_calli (va_runS (As := [.int p1]) (rest := [.int 2, .ref h]) ⟨hx, hb, hml, hown, hts⟩ (c_X5_faultsOf l dC dI cA tt H.size p1 r87002 hr87002) (va_cwS 1 hts (kq_gS tw_409 tw_410 tw_25 tw_411) rfl rfl rfl (by decide +kernel) ⟨Nat.le_of_ble_eq_true rfl, Nat.le_of_ble_eq_true rfl⟩) ⟨kq_blind, kq_pre hG hZ hS hPc hDc hFc⟩ rfl rfl hl.1 rfl (lv_room (Nat.le_of_ble_eq_true rfl)) dX5_drawAll_228 ⟨Nat.le_of_ble_eq_true rfl, Nat.le_of_ble_eq_true rfl⟩) hS (fun q _ h => hFc q h) hFc (fun rv u t H1 locs ht hvm hw hB hz1 hk1 hS => ?_)
        obtain ⟨hP1, hD1⟩ := hB
        rw [ht] at hP1
        have hw := hw.symm
        subst hw
        obtain ⟨hP, hD⟩ := va_join (wr := [(h, .inr (5, [.int h_code, .long h_seed, .long h_state, .ref h_many, .ref h_sort, .ref h_x, .ref h_y, .ref h_z, .ref h_fault, .ref h_faultAt, .ref h_left, .int h_lefts, .ref h_stays, .ref h_text, .int h_size])), (h_many, .inl (cA 0, 3, .inl h_many_v)), (h_sort, .inl (cA 0, 120, .inl h_sort_v)), (h_x, .inl (cA 2, 120, .inr (.inl h_x_v))), (h_y, .inl (cA 2, 120, .inr (.inl h_y_v))), (h_z, .inl (cA 2, 120, .inr (.inl h_z_v))), (h_fault, .inl (cA 0, 3, .inl h_fault_v)), (h_faultAt, .inl (cA 0, 3, .inl h_faultAt_v))]) (w1 := []) hP hD [] [0, 1, 2, 3, 4, 5, 6, 7] rfl rfl (by decide) (by decide) hk1 hFc hP1 hD1
        have hP : va_P (dC, dI) vwCl [(h, .inr (5, [.int h_code, .long h_seed, .long h_state, .ref h_many, .ref h_sort, .ref h_x, .ref h_y, .ref h_z, .ref h_fault, .ref h_faultAt, .ref h_left, .int h_lefts, .ref h_stays, .ref h_text, .int h_size])), (h_many, .inl (cA 0, 3, .inl h_many_v)), (h_sort, .inl (cA 0, 120, .inl h_sort_v)), (h_x, .inl (cA 2, 120, .inr (.inl h_x_v))), (h_y, .inl (cA 2, 120, .inr (.inl h_y_v))), (h_z, .inl (cA 2, 120, .inr (.inl h_z_v))), (h_fault, .inl (cA 0, 3, .inl h_fault_v)), (h_faultAt, .inl (cA 0, 3, .inl h_faultAt_v))] H1 := hP.sub [0, 1, 2, 3, 4, 5, 6, 7] rfl
        have hD : va_D A [(h, .inr (5, [.int h_code, .long h_seed, .long h_state, .ref h_many, .ref h_sort, .ref h_x, .ref h_y, .ref h_z, .ref h_fault, .ref h_faultAt, .ref h_left, .int h_lefts, .ref h_stays, .ref h_text, .int h_size])), (h_many, .inl (cA 0, 3, .inl h_many_v)), (h_sort, .inl (cA 0, 120, .inl h_sort_v)), (h_x, .inl (cA 2, 120, .inr (.inl h_x_v))), (h_y, .inl (cA 2, 120, .inr (.inl h_y_v))), (h_z, .inl (cA 2, 120, .inr (.inl h_z_v))), (h_fault, .inl (cA 0, 3, .inl h_fault_v)), (h_faultAt, .inl (cA 0, 3, .inl h_faultAt_v))] := hD.sub [0, 1, 2, 3, 4, 5, 6, 7] (by decide) rfl
        generalize H1 = H at hP hS ⊢
        refine lv_imul hx hb dX5_drawAll_231 ?_
        obtain ⟨r87003, hr87003, hf⟩ := kp_b hf
        have hPc := hP.sub (ws' := [(h, .inr (5, [.int h_code, .long h_seed, .long h_state, .ref h_many, .ref h_sort, .ref h_x, .ref h_y, .ref h_z, .ref h_fault, .ref h_faultAt, .ref h_left, .int h_lefts, .ref h_stays, .ref h_text, .int h_size]))]) [0] rfl
        have hDc := hD.sub (ws' := [(h, .inr (5, [.int h_code, .long h_seed, .long h_state, .ref h_many, .ref h_sort, .ref h_x, .ref h_y, .ref h_z, .ref h_fault, .ref h_faultAt, .ref h_left, .int h_lefts, .ref h_stays, .ref h_text, .int h_size]))]) [0] (by decide) rfl
        have hFc := va_free (wc := [(h, .inr (5, [.int h_code, .long h_seed, .long h_state, .ref h_many, .ref h_sort, .ref h_x, .ref h_y, .ref h_z, .ref h_fault, .ref h_faultAt, .ref h_left, .int h_lefts, .ref h_stays, .ref h_text, .int h_size]))]) hD hS hA [0] rfl
        refine va_calli (va_runV (As := [.int (2 * r87002)]) (rest := []) ⟨hx, hb, hml, hown, hts⟩ (c_X5_next l dC dI cA tt h h_many h_sort h_x h_y h_z h_fault h_faultAt h_left h_stays h_text H.size h_code h_seed h_state h_lefts h_size (2 * r87002) r87003 hr87003) (cwV 1 hts (kq_gV tw_394 tw_396 tw_12 tw_25 tw_397) rfl rfl rfl (by decide +kernel) ⟨Nat.le_of_ble_eq_true rfl, Nat.le_of_ble_eq_true rfl⟩) ⟨kq_blind, va_recv hK hP (ci := 5) (q0 := 0) rfl rfl, kq_pre hG hZ hS hPc hDc hFc⟩ rfl rfl hl.1 rfl (lv_room (Nat.le_of_ble_eq_true rfl)) dX5_drawAll_232 ⟨Nat.le_of_ble_eq_true rfl, Nat.le_of_ble_eq_true rfl⟩) hS (fun q _ h => hFc q h) hFc (fun rv u t H1 locs ht hvm hw hB hz1 hk1 hS => ?_)
        obtain ⟨hP1, hD1⟩ := hB
        rw [ht] at hP1
        have hw := hw.symm
        subst hw
        obtain ⟨hP, hD⟩ := va_join (wr := [(h_many, .inl (cA 0, 3, .inl h_many_v)), (h_sort, .inl (cA 0, 120, .inl h_sort_v)), (h_x, .inl (cA 2, 120, .inr (.inl h_x_v))), (h_y, .inl (cA 2, 120, .inr (.inl h_y_v))), (h_z, .inl (cA 2, 120, .inr (.inl h_z_v))), (h_fault, .inl (cA 0, 3, .inl h_fault_v)), (h_faultAt, .inl (cA 0, 3, .inl h_faultAt_v))]) (w1 := [(h, .inr (5, [.int h_code, .long h_seed, .long r87003.2, .ref h_many, .ref h_sort, .ref h_x, .ref h_y, .ref h_z, .ref h_fault, .ref h_faultAt, .ref h_left, .int h_lefts, .ref h_stays, .ref h_text, .int h_size]))]) hP hD [0] [1, 2, 3, 4, 5, 6, 7] rfl rfl (by decide) (by decide) hk1 hFc hP1 hD1
        have hP : va_P (dC, dI) vwCl [(h, .inr (5, [.int h_code, .long h_seed, .long r87003.2, .ref h_many, .ref h_sort, .ref h_x, .ref h_y, .ref h_z, .ref h_fault, .ref h_faultAt, .ref h_left, .int h_lefts, .ref h_stays, .ref h_text, .int h_size])), (h_many, .inl (cA 0, 3, .inl h_many_v)), (h_sort, .inl (cA 0, 120, .inl h_sort_v)), (h_x, .inl (cA 2, 120, .inr (.inl h_x_v))), (h_y, .inl (cA 2, 120, .inr (.inl h_y_v))), (h_z, .inl (cA 2, 120, .inr (.inl h_z_v))), (h_fault, .inl (cA 0, 3, .inl h_fault_v)), (h_faultAt, .inl (cA 0, 3, .inl h_faultAt_v))] H1 := hP.sub [7, 0, 1, 2, 3, 4, 5, 6] rfl
        have hD : va_D A [(h, .inr (5, [.int h_code, .long h_seed, .long r87003.2, .ref h_many, .ref h_sort, .ref h_x, .ref h_y, .ref h_z, .ref h_fault, .ref h_faultAt, .ref h_left, .int h_lefts, .ref h_stays, .ref h_text, .int h_size])), (h_many, .inl (cA 0, 3, .inl h_many_v)), (h_sort, .inl (cA 0, 120, .inl h_sort_v)), (h_x, .inl (cA 2, 120, .inr (.inl h_x_v))), (h_y, .inl (cA 2, 120, .inr (.inl h_y_v))), (h_z, .inl (cA 2, 120, .inr (.inl h_z_v))), (h_fault, .inl (cA 0, 3, .inl h_fault_v)), (h_faultAt, .inl (cA 0, 3, .inl h_faultAt_v))] := hD.sub [7, 0, 1, 2, 3, 4, 5, 6] (by decide) rfl
        generalize H1 = H at hP hS ⊢
        refine lv_iload_n hx hb dX5_drawAll_235 rfl (lv_at hl 2 rfl) ?_
        obtain ⟨r87004, hr87004, hf⟩ := kp_b hf
        have hPc := hP.sub (ws' := []) [] rfl
        have hDc := hD.sub (ws' := []) [] (by decide) rfl
        have hFc := va_free (wc := []) hD hS hA [] rfl
        refine va_calli (va_runS (As := [.int p1]) (rest := [.int r87003.1]) ⟨hx, hb, hml, hown, hts⟩ (c_X5_faultsOf l dC dI cA tt H.size p1 r87004 hr87004) (va_cwS 1 hts (kq_gS tw_409 tw_410 tw_25 tw_411) rfl rfl rfl (by decide +kernel) ⟨Nat.le_of_ble_eq_true rfl, Nat.le_of_ble_eq_true rfl⟩) ⟨kq_blind, kq_pre hG hZ hS hPc hDc hFc⟩ rfl rfl hl.1 rfl (lv_room (Nat.le_of_ble_eq_true rfl)) dX5_drawAll_236 ⟨Nat.le_of_ble_eq_true rfl, Nat.le_of_ble_eq_true rfl⟩) hS (fun q _ h => hFc q h) hFc (fun rv u t H1 locs ht hvm hw hB hz1 hk1 hS => ?_)
        obtain ⟨hP1, hD1⟩ := hB
        rw [ht] at hP1
        have hw := hw.symm
        subst hw
        obtain ⟨hP, hD⟩ := va_join (wr := [(h, .inr (5, [.int h_code, .long h_seed, .long r87003.2, .ref h_many, .ref h_sort, .ref h_x, .ref h_y, .ref h_z, .ref h_fault, .ref h_faultAt, .ref h_left, .int h_lefts, .ref h_stays, .ref h_text, .int h_size])), (h_many, .inl (cA 0, 3, .inl h_many_v)), (h_sort, .inl (cA 0, 120, .inl h_sort_v)), (h_x, .inl (cA 2, 120, .inr (.inl h_x_v))), (h_y, .inl (cA 2, 120, .inr (.inl h_y_v))), (h_z, .inl (cA 2, 120, .inr (.inl h_z_v))), (h_fault, .inl (cA 0, 3, .inl h_fault_v)), (h_faultAt, .inl (cA 0, 3, .inl h_faultAt_v))]) (w1 := []) hP hD [] [0, 1, 2, 3, 4, 5, 6, 7] rfl rfl (by decide) (by decide) hk1 hFc hP1 hD1
        have hP : va_P (dC, dI) vwCl [(h, .inr (5, [.int h_code, .long h_seed, .long r87003.2, .ref h_many, .ref h_sort, .ref h_x, .ref h_y, .ref h_z, .ref h_fault, .ref h_faultAt, .ref h_left, .int h_lefts, .ref h_stays, .ref h_text, .int h_size])), (h_many, .inl (cA 0, 3, .inl h_many_v)), (h_sort, .inl (cA 0, 120, .inl h_sort_v)), (h_x, .inl (cA 2, 120, .inr (.inl h_x_v))), (h_y, .inl (cA 2, 120, .inr (.inl h_y_v))), (h_z, .inl (cA 2, 120, .inr (.inl h_z_v))), (h_fault, .inl (cA 0, 3, .inl h_fault_v)), (h_faultAt, .inl (cA 0, 3, .inl h_faultAt_v))] H1 := hP.sub [0, 1, 2, 3, 4, 5, 6, 7] rfl
        have hD : va_D A [(h, .inr (5, [.int h_code, .long h_seed, .long r87003.2, .ref h_many, .ref h_sort, .ref h_x, .ref h_y, .ref h_z, .ref h_fault, .ref h_faultAt, .ref h_left, .int h_lefts, .ref h_stays, .ref h_text, .int h_size])), (h_many, .inl (cA 0, 3, .inl h_many_v)), (h_sort, .inl (cA 0, 120, .inl h_sort_v)), (h_x, .inl (cA 2, 120, .inr (.inl h_x_v))), (h_y, .inl (cA 2, 120, .inr (.inl h_y_v))), (h_z, .inl (cA 2, 120, .inr (.inl h_z_v))), (h_fault, .inl (cA 0, 3, .inl h_fault_v)), (h_faultAt, .inl (cA 0, 3, .inl h_faultAt_v))] := hD.sub [0, 1, 2, 3, 4, 5, 6, 7] (by decide) rfl
        generalize H1 = H at hP hS ⊢
        refine lv_isub hx hb dX5_drawAll_239 ?_
        refine lv_istore (lv' := [(6, .int (r87003.1 - r87004)), (0, .ref h), (1, .int p0), (2, .int p1), (4, .int v4), (5, .int v5)]) hx hb dX5_drawAll_240 hl (by decide) rfl (fun ls hl => ?_)
        refine lv_iload hx hb dX5_drawAll_242 (lv_at hl 0 rfl) ?_
        refine lv_if_ge (tgt := 248) hx hb dX5_drawAll_244 (by decide) (fun c87005 => ?_) (fun c87005 => ?_)
        · have hf := kp_p c87005 hf
          refine lv_aload_n hx hb dX5_drawAll_248 rfl (lv_at hl 1 rfl) ?_
          refine va_get (D := (dC, dI)) (ci := 5) (v := .ref h_fault) (C := RX5) (T := TX5) (N := 15) hx hb hts iwX5 hown hK hP 0 rfl rfl 8 (by decide) (hts _ tw_343) (fun _ h9 => h9) rfl dX5_drawAll_249 ?_
          refine lv_iload_n hx hb dX5_drawAll_252 rfl (lv_at hl 2 rfl) ?_
          refine lv_iload hx hb dX5_drawAll_253 (lv_at hl 0 rfl) ?_
          refine lv_iconst (v := 1) hx hb dX5_drawAll_255 (by decide) ?_
          refine lv_iadd hx hb dX5_drawAll_256 ?_
          obtain ⟨hq87006, hf⟩ := kp_t hf
          refine va_iast hx hb hK hP hD hS 6 0 rfl rfl hq87006 dX5_drawAll_257 (fun H locs hP hD hS => ?_)
          have hP : va_P (dC, dI) vwCl [(h, .inr (5, [.int h_code, .long h_seed, .long r87003.2, .ref h_many, .ref h_sort, .ref h_x, .ref h_y, .ref h_z, .ref h_fault, .ref h_faultAt, .ref h_left, .int h_lefts, .ref h_stays, .ref h_text, .int h_size])), (h_many, .inl (cA 0, 3, .inl h_many_v)), (h_sort, .inl (cA 0, 120, .inl h_sort_v)), (h_x, .inl (cA 2, 120, .inr (.inl h_x_v))), (h_y, .inl (cA 2, 120, .inr (.inl h_y_v))), (h_z, .inl (cA 2, 120, .inr (.inl h_z_v))), (h_fault, .inl (cA 0, 3, .inl (upd h_fault_v p0.toNatClampNeg ((r87003.1 - r87004) + 1)))), (h_faultAt, .inl (cA 0, 3, .inl h_faultAt_v))] H := hP
          have hD : va_D A [(h, .inr (5, [.int h_code, .long h_seed, .long r87003.2, .ref h_many, .ref h_sort, .ref h_x, .ref h_y, .ref h_z, .ref h_fault, .ref h_faultAt, .ref h_left, .int h_lefts, .ref h_stays, .ref h_text, .int h_size])), (h_many, .inl (cA 0, 3, .inl h_many_v)), (h_sort, .inl (cA 0, 120, .inl h_sort_v)), (h_x, .inl (cA 2, 120, .inr (.inl h_x_v))), (h_y, .inl (cA 2, 120, .inr (.inl h_y_v))), (h_z, .inl (cA 2, 120, .inr (.inl h_z_v))), (h_fault, .inl (cA 0, 3, .inl (upd h_fault_v p0.toNatClampNeg ((r87003.1 - r87004) + 1)))), (h_faultAt, .inl (cA 0, 3, .inl h_faultAt_v))] := hD
          refine lv_aload_n hx hb dX5_drawAll_258 rfl (lv_at hl 1 rfl) ?_
          refine va_get (D := (dC, dI)) (ci := 5) (v := .ref h_faultAt) (C := RX5) (T := TX5) (N := 15) hx hb hts iwX5 hown hK hP 0 rfl rfl 9 (by decide) (hts _ tw_344) (fun _ h9 => h9) rfl dX5_drawAll_259 ?_
          refine lv_iload_n hx hb dX5_drawAll_262 rfl (lv_at hl 2 rfl) ?_
          refine lv_aload_n hx hb dX5_drawAll_263 rfl (lv_at hl 1 rfl) ?_
          refine lv_iload hx hb dX5_drawAll_264 (lv_at hl 5 rfl) ?_
          obtain ⟨r87007, hr87007, hf⟩ := kp_b hf
          have hPc := hP.sub (ws' := [(h, .inr (5, [.int h_code, .long h_seed, .long r87003.2, .ref h_many, .ref h_sort, .ref h_x, .ref h_y, .ref h_z, .ref h_fault, .ref h_faultAt, .ref h_left, .int h_lefts, .ref h_stays, .ref h_text, .int h_size]))]) [0] rfl
          have hDc := hD.sub (ws' := [(h, .inr (5, [.int h_code, .long h_seed, .long r87003.2, .ref h_many, .ref h_sort, .ref h_x, .ref h_y, .ref h_z, .ref h_fault, .ref h_faultAt, .ref h_left, .int h_lefts, .ref h_stays, .ref h_text, .int h_size]))]) [0] (by decide) rfl
          have hFc := va_free (wc := [(h, .inr (5, [.int h_code, .long h_seed, .long r87003.2, .ref h_many, .ref h_sort, .ref h_x, .ref h_y, .ref h_z, .ref h_fault, .ref h_faultAt, .ref h_left, .int h_lefts, .ref h_stays, .ref h_text, .int h_size]))]) hD hS hA [0] rfl
          refine va_calli (va_runV (As := [.int v5]) (rest := [.int p0, .ref h_faultAt]) ⟨hx, hb, hml, hown, hts⟩ (c_X5_next l dC dI cA tt h h_many h_sort h_x h_y h_z h_fault h_faultAt h_left h_stays h_text H.size h_code h_seed r87003.2 h_lefts h_size v5 r87007 hr87007) (cwV 1 hts (kq_gV tw_394 tw_396 tw_12 tw_25 tw_397) rfl rfl rfl (by decide +kernel) ⟨Nat.le_of_ble_eq_true rfl, Nat.le_of_ble_eq_true rfl⟩) ⟨kq_blind, va_recv hK hP (ci := 5) (q0 := 0) rfl rfl, kq_pre hG hZ hS hPc hDc hFc⟩ rfl rfl hl.1 rfl (lv_room (Nat.le_of_ble_eq_true rfl)) dX5_drawAll_266 ⟨Nat.le_of_ble_eq_true rfl, Nat.le_of_ble_eq_true rfl⟩) hS (fun q _ h => hFc q h) hFc (fun rv u t H1 locs ht hvm hw hB hz1 hk1 hS => ?_)
          obtain ⟨hP1, hD1⟩ := hB
          rw [ht] at hP1
          have hw := hw.symm
          subst hw
          obtain ⟨hP, hD⟩ := va_join (wr := [(h_many, .inl (cA 0, 3, .inl h_many_v)), (h_sort, .inl (cA 0, 120, .inl h_sort_v)), (h_x, .inl (cA 2, 120, .inr (.inl h_x_v))), (h_y, .inl (cA 2, 120, .inr (.inl h_y_v))), (h_z, .inl (cA 2, 120, .inr (.inl h_z_v))), (h_fault, .inl (cA 0, 3, .inl (upd h_fault_v p0.toNatClampNeg ((r87003.1 - r87004) + 1)))), (h_faultAt, .inl (cA 0, 3, .inl h_faultAt_v))]) (w1 := [(h, .inr (5, [.int h_code, .long h_seed, .long r87007.2, .ref h_many, .ref h_sort, .ref h_x, .ref h_y, .ref h_z, .ref h_fault, .ref h_faultAt, .ref h_left, .int h_lefts, .ref h_stays, .ref h_text, .int h_size]))]) hP hD [0] [1, 2, 3, 4, 5, 6, 7] rfl rfl (by decide) (by decide) hk1 hFc hP1 hD1
          have hP : va_P (dC, dI) vwCl [(h, .inr (5, [.int h_code, .long h_seed, .long r87007.2, .ref h_many, .ref h_sort, .ref h_x, .ref h_y, .ref h_z, .ref h_fault, .ref h_faultAt, .ref h_left, .int h_lefts, .ref h_stays, .ref h_text, .int h_size])), (h_many, .inl (cA 0, 3, .inl h_many_v)), (h_sort, .inl (cA 0, 120, .inl h_sort_v)), (h_x, .inl (cA 2, 120, .inr (.inl h_x_v))), (h_y, .inl (cA 2, 120, .inr (.inl h_y_v))), (h_z, .inl (cA 2, 120, .inr (.inl h_z_v))), (h_fault, .inl (cA 0, 3, .inl (upd h_fault_v p0.toNatClampNeg ((r87003.1 - r87004) + 1)))), (h_faultAt, .inl (cA 0, 3, .inl h_faultAt_v))] H1 := hP.sub [7, 0, 1, 2, 3, 4, 5, 6] rfl
          have hD : va_D A [(h, .inr (5, [.int h_code, .long h_seed, .long r87007.2, .ref h_many, .ref h_sort, .ref h_x, .ref h_y, .ref h_z, .ref h_fault, .ref h_faultAt, .ref h_left, .int h_lefts, .ref h_stays, .ref h_text, .int h_size])), (h_many, .inl (cA 0, 3, .inl h_many_v)), (h_sort, .inl (cA 0, 120, .inl h_sort_v)), (h_x, .inl (cA 2, 120, .inr (.inl h_x_v))), (h_y, .inl (cA 2, 120, .inr (.inl h_y_v))), (h_z, .inl (cA 2, 120, .inr (.inl h_z_v))), (h_fault, .inl (cA 0, 3, .inl (upd h_fault_v p0.toNatClampNeg ((r87003.1 - r87004) + 1)))), (h_faultAt, .inl (cA 0, 3, .inl h_faultAt_v))] := hD.sub [7, 0, 1, 2, 3, 4, 5, 6] (by decide) rfl
          generalize H1 = H at hP hS ⊢
          refine va_iast hx hb hK hP hD hS 7 0 rfl rfl hq87006 dX5_drawAll_269 (fun H locs hP hD hS => ?_)
          have hP : va_P (dC, dI) vwCl [(h, .inr (5, [.int h_code, .long h_seed, .long r87007.2, .ref h_many, .ref h_sort, .ref h_x, .ref h_y, .ref h_z, .ref h_fault, .ref h_faultAt, .ref h_left, .int h_lefts, .ref h_stays, .ref h_text, .int h_size])), (h_many, .inl (cA 0, 3, .inl h_many_v)), (h_sort, .inl (cA 0, 120, .inl h_sort_v)), (h_x, .inl (cA 2, 120, .inr (.inl h_x_v))), (h_y, .inl (cA 2, 120, .inr (.inl h_y_v))), (h_z, .inl (cA 2, 120, .inr (.inl h_z_v))), (h_fault, .inl (cA 0, 3, .inl (upd h_fault_v p0.toNatClampNeg ((r87003.1 - r87004) + 1)))), (h_faultAt, .inl (cA 0, 3, .inl (upd h_faultAt_v p0.toNatClampNeg r87007.1)))] H := hP
          have hD : va_D A [(h, .inr (5, [.int h_code, .long h_seed, .long r87007.2, .ref h_many, .ref h_sort, .ref h_x, .ref h_y, .ref h_z, .ref h_fault, .ref h_faultAt, .ref h_left, .int h_lefts, .ref h_stays, .ref h_text, .int h_size])), (h_many, .inl (cA 0, 3, .inl h_many_v)), (h_sort, .inl (cA 0, 120, .inl h_sort_v)), (h_x, .inl (cA 2, 120, .inr (.inl h_x_v))), (h_y, .inl (cA 2, 120, .inr (.inl h_y_v))), (h_z, .inl (cA 2, 120, .inr (.inl h_z_v))), (h_fault, .inl (cA 0, 3, .inl (upd h_fault_v p0.toNatClampNeg ((r87003.1 - r87004) + 1)))), (h_faultAt, .inl (cA 0, 3, .inl (upd h_faultAt_v p0.toNatClampNeg r87007.1)))] := hD
          refine lv_iload hx hb dX5_drawAll_270 (lv_at hl 4 rfl) ?_
          refine lv_aload_n hx hb dX5_drawAll_272 rfl (lv_at hl 1 rfl) ?_
          refine va_get (D := (dC, dI)) (ci := 5) (v := .ref h_faultAt) (C := RX5) (T := TX5) (N := 15) hx hb hts iwX5 hown hK hP 0 rfl rfl 9 (by decide) (hts _ tw_344) (fun _ h9 => h9) rfl dX5_drawAll_273 ?_
          refine lv_iload_n hx hb dX5_drawAll_276 rfl (lv_at hl 2 rfl) ?_
          refine va_iald hx hb hK hP 7 0 rfl rfl hq87006 dX5_drawAll_277 ?_
          refine lv_iadd hx hb dX5_drawAll_278 ?_
          refine lv_istore (lv' := [(7, .int (v4 + ((upd h_faultAt_v p0.toNatClampNeg r87007.1) p0.toNatClampNeg))), (6, .int (r87003.1 - r87004)), (0, .ref h), (1, .int p0), (2, .int p1), (4, .int v4), (5, .int v5)]) hx hb dX5_drawAll_279 hl (by decide) rfl (fun ls hl => ?_)
          refine lv_iload hx hb dX5_drawAll_281 (lv_at hl 1 rfl) ?_
          refine lv_if_ne (tgt := 302) hx hb dX5_drawAll_283 (by decide) (fun c87010 => ?_) (fun c87010 => ?_)
          · have hf := kp_n c87010 hf
            refine lv_iload hx hb dX5_drawAll_302 (lv_at hl 1 rfl) ?_
            refine lv_iconst (v := 1) hx hb dX5_drawAll_304 (by decide) ?_
            refine lv_icmp_ne (tgt := 329) hx hb dX5_drawAll_305 (by decide) (fun c87011 => ?_) (fun c87011 => ?_)
            · have hf := kp_n c87011 hf
              refine lv_iload hx hb dX5_drawAll_329 (lv_at hl 1 rfl) ?_
              refine lv_iconst (v := 2) hx hb dX5_drawAll_331 (by decide) ?_
              refine lv_icmp_ne (tgt := 351) hx hb dX5_drawAll_332 (by decide) (fun c87012 => ?_) (fun c87012 => ?_)
              · have hf := kp_n c87012 hf
                refine lv_iload hx hb dX5_drawAll_351 (lv_at hl 1 rfl) ?_
                refine lv_iconst (v := 3) hx hb dX5_drawAll_353 (by decide) ?_
                refine lv_icmp_ne (tgt := 371) hx hb dX5_drawAll_354 (by decide) (fun c87013 => ?_) (fun c87013 => ?_)
                · have hf := kp_n c87013 hf
                  refine lv_aload_n hx hb dX5_drawAll_371 rfl (lv_at hl 2 rfl) ?_
                  refine va_get (D := (dC, dI)) (ci := 5) (v := .ref h_x) (C := RX5) (T := TX5) (N := 15) hx hb hts iwX5 hown hK hP 0 rfl rfl 5 (by decide) (hts _ tw_340) (fun _ h9 => h9) rfl dX5_drawAll_372 ?_
                  refine lv_iload hx hb dX5_drawAll_375 (lv_at hl 0 rfl) ?_
                  refine lv_lconst (v := 0) hx hb dX5_drawAll_377 (by decide) ?_
                  obtain ⟨hq87014, hf⟩ := kp_t hf
                  refine va_last hx hb hK hP hD hS 3 2 rfl rfl hq87014 dX5_drawAll_378 (fun H locs hP hD hS => ?_)
                  have hP : va_P (dC, dI) vwCl [(h, .inr (5, [.int h_code, .long h_seed, .long r87007.2, .ref h_many, .ref h_sort, .ref h_x, .ref h_y, .ref h_z, .ref h_fault, .ref h_faultAt, .ref h_left, .int h_lefts, .ref h_stays, .ref h_text, .int h_size])), (h_many, .inl (cA 0, 3, .inl h_many_v)), (h_sort, .inl (cA 0, 120, .inl h_sort_v)), (h_x, .inl (cA 2, 120, .inr (.inl (vp_updL h_x_v (v4 + ((upd h_faultAt_v p0.toNatClampNeg r87007.1) p0.toNatClampNeg)).toNatClampNeg 0)))), (h_y, .inl (cA 2, 120, .inr (.inl h_y_v))), (h_z, .inl (cA 2, 120, .inr (.inl h_z_v))), (h_fault, .inl (cA 0, 3, .inl (upd h_fault_v p0.toNatClampNeg ((r87003.1 - r87004) + 1)))), (h_faultAt, .inl (cA 0, 3, .inl (upd h_faultAt_v p0.toNatClampNeg r87007.1)))] H := hP
                  have hD : va_D A [(h, .inr (5, [.int h_code, .long h_seed, .long r87007.2, .ref h_many, .ref h_sort, .ref h_x, .ref h_y, .ref h_z, .ref h_fault, .ref h_faultAt, .ref h_left, .int h_lefts, .ref h_stays, .ref h_text, .int h_size])), (h_many, .inl (cA 0, 3, .inl h_many_v)), (h_sort, .inl (cA 0, 120, .inl h_sort_v)), (h_x, .inl (cA 2, 120, .inr (.inl (vp_updL h_x_v (v4 + ((upd h_faultAt_v p0.toNatClampNeg r87007.1) p0.toNatClampNeg)).toNatClampNeg 0)))), (h_y, .inl (cA 2, 120, .inr (.inl h_y_v))), (h_z, .inl (cA 2, 120, .inr (.inl h_z_v))), (h_fault, .inl (cA 0, 3, .inl (upd h_fault_v p0.toNatClampNeg ((r87003.1 - r87004) + 1)))), (h_faultAt, .inl (cA 0, 3, .inl (upd h_faultAt_v p0.toNatClampNeg r87007.1)))] := hD
                  refine lv_aload_n hx hb dX5_drawAll_379 rfl (lv_at hl 2 rfl) ?_
                  refine va_get (D := (dC, dI)) (ci := 5) (v := .ref h_y) (C := RX5) (T := TX5) (N := 15) hx hb hts iwX5 hown hK hP 0 rfl rfl 6 (by decide) (hts _ tw_341) (fun _ h9 => h9) rfl dX5_drawAll_380 ?_
                  refine lv_iload hx hb dX5_drawAll_383 (lv_at hl 0 rfl) ?_
                  refine lv_lconst (v := 0) hx hb dX5_drawAll_385 (by decide) ?_
                  refine va_last hx hb hK hP hD hS 4 2 rfl rfl hq87014 dX5_drawAll_386 (fun H locs hP hD hS => ?_)
                  have hP : va_P (dC, dI) vwCl [(h, .inr (5, [.int h_code, .long h_seed, .long r87007.2, .ref h_many, .ref h_sort, .ref h_x, .ref h_y, .ref h_z, .ref h_fault, .ref h_faultAt, .ref h_left, .int h_lefts, .ref h_stays, .ref h_text, .int h_size])), (h_many, .inl (cA 0, 3, .inl h_many_v)), (h_sort, .inl (cA 0, 120, .inl h_sort_v)), (h_x, .inl (cA 2, 120, .inr (.inl (vp_updL h_x_v (v4 + ((upd h_faultAt_v p0.toNatClampNeg r87007.1) p0.toNatClampNeg)).toNatClampNeg 0)))), (h_y, .inl (cA 2, 120, .inr (.inl (vp_updL h_y_v (v4 + ((upd h_faultAt_v p0.toNatClampNeg r87007.1) p0.toNatClampNeg)).toNatClampNeg 0)))), (h_z, .inl (cA 2, 120, .inr (.inl h_z_v))), (h_fault, .inl (cA 0, 3, .inl (upd h_fault_v p0.toNatClampNeg ((r87003.1 - r87004) + 1)))), (h_faultAt, .inl (cA 0, 3, .inl (upd h_faultAt_v p0.toNatClampNeg r87007.1)))] H := hP
                  have hD : va_D A [(h, .inr (5, [.int h_code, .long h_seed, .long r87007.2, .ref h_many, .ref h_sort, .ref h_x, .ref h_y, .ref h_z, .ref h_fault, .ref h_faultAt, .ref h_left, .int h_lefts, .ref h_stays, .ref h_text, .int h_size])), (h_many, .inl (cA 0, 3, .inl h_many_v)), (h_sort, .inl (cA 0, 120, .inl h_sort_v)), (h_x, .inl (cA 2, 120, .inr (.inl (vp_updL h_x_v (v4 + ((upd h_faultAt_v p0.toNatClampNeg r87007.1) p0.toNatClampNeg)).toNatClampNeg 0)))), (h_y, .inl (cA 2, 120, .inr (.inl (vp_updL h_y_v (v4 + ((upd h_faultAt_v p0.toNatClampNeg r87007.1) p0.toNatClampNeg)).toNatClampNeg 0)))), (h_z, .inl (cA 2, 120, .inr (.inl h_z_v))), (h_fault, .inl (cA 0, 3, .inl (upd h_fault_v p0.toNatClampNeg ((r87003.1 - r87004) + 1)))), (h_faultAt, .inl (cA 0, 3, .inl (upd h_faultAt_v p0.toNatClampNeg r87007.1)))] := hD
                  refine lv_aload_n hx hb dX5_drawAll_387 rfl (lv_at hl 2 rfl) ?_
                  refine va_get (D := (dC, dI)) (ci := 5) (v := .ref h_z) (C := RX5) (T := TX5) (N := 15) hx hb hts iwX5 hown hK hP 0 rfl rfl 7 (by decide) (hts _ tw_342) (fun _ h9 => h9) rfl dX5_drawAll_388 ?_
                  refine lv_iload hx hb dX5_drawAll_391 (lv_at hl 0 rfl) ?_
                  refine lv_lconst (v := 0) hx hb dX5_drawAll_393 (by decide) ?_
                  refine va_last hx hb hK hP hD hS 5 2 rfl rfl hq87014 dX5_drawAll_394 (fun H locs hP hD hS => ?_)
                  have hP : va_P (dC, dI) vwCl [(h, .inr (5, [.int h_code, .long h_seed, .long r87007.2, .ref h_many, .ref h_sort, .ref h_x, .ref h_y, .ref h_z, .ref h_fault, .ref h_faultAt, .ref h_left, .int h_lefts, .ref h_stays, .ref h_text, .int h_size])), (h_many, .inl (cA 0, 3, .inl h_many_v)), (h_sort, .inl (cA 0, 120, .inl h_sort_v)), (h_x, .inl (cA 2, 120, .inr (.inl (vp_updL h_x_v (v4 + ((upd h_faultAt_v p0.toNatClampNeg r87007.1) p0.toNatClampNeg)).toNatClampNeg 0)))), (h_y, .inl (cA 2, 120, .inr (.inl (vp_updL h_y_v (v4 + ((upd h_faultAt_v p0.toNatClampNeg r87007.1) p0.toNatClampNeg)).toNatClampNeg 0)))), (h_z, .inl (cA 2, 120, .inr (.inl (vp_updL h_z_v (v4 + ((upd h_faultAt_v p0.toNatClampNeg r87007.1) p0.toNatClampNeg)).toNatClampNeg 0)))), (h_fault, .inl (cA 0, 3, .inl (upd h_fault_v p0.toNatClampNeg ((r87003.1 - r87004) + 1)))), (h_faultAt, .inl (cA 0, 3, .inl (upd h_faultAt_v p0.toNatClampNeg r87007.1)))] H := hP
                  have hD : va_D A [(h, .inr (5, [.int h_code, .long h_seed, .long r87007.2, .ref h_many, .ref h_sort, .ref h_x, .ref h_y, .ref h_z, .ref h_fault, .ref h_faultAt, .ref h_left, .int h_lefts, .ref h_stays, .ref h_text, .int h_size])), (h_many, .inl (cA 0, 3, .inl h_many_v)), (h_sort, .inl (cA 0, 120, .inl h_sort_v)), (h_x, .inl (cA 2, 120, .inr (.inl (vp_updL h_x_v (v4 + ((upd h_faultAt_v p0.toNatClampNeg r87007.1) p0.toNatClampNeg)).toNatClampNeg 0)))), (h_y, .inl (cA 2, 120, .inr (.inl (vp_updL h_y_v (v4 + ((upd h_faultAt_v p0.toNatClampNeg r87007.1) p0.toNatClampNeg)).toNatClampNeg 0)))), (h_z, .inl (cA 2, 120, .inr (.inl (vp_updL h_z_v (v4 + ((upd h_faultAt_v p0.toNatClampNeg r87007.1) p0.toNatClampNeg)).toNatClampNeg 0)))), (h_fault, .inl (cA 0, 3, .inl (upd h_fault_v p0.toNatClampNeg ((r87003.1 - r87004) + 1)))), (h_faultAt, .inl (cA 0, 3, .inl (upd h_faultAt_v p0.toNatClampNeg r87007.1)))] := hD
                  have eo := Option.some.inj hf
                  subst eo
                  exact W.vret hx hb hr (fun t ht hW => ⟨⟨(), rfl, trivial, kq_mk ht hP hD⟩, hS.F ht⟩) hS.2.2 dX5_drawAll_395
                · have hf := kp_p c87013 hf
                  refine lv_aload_n hx hb dX5_drawAll_357 rfl (lv_at hl 2 rfl) ?_
                  refine va_get (D := (dC, dI)) (ci := 5) (v := .ref h_sort) (C := RX5) (T := TX5) (N := 15) hx hb hts iwX5 hown hK hP 0 rfl rfl 4 (by decide) (hts _ tw_339) (fun _ h9 => h9) rfl dX5_drawAll_358 ?_
                  refine lv_iload hx hb dX5_drawAll_361 (lv_at hl 0 rfl) ?_
                  refine lv_iload_n hx hb dX5_drawAll_363 rfl (lv_at hl 4 rfl) ?_
                  obtain ⟨r87017, hr87017, hf⟩ := kp_b hf
                  have hPc := hP.sub (ws' := []) [] rfl
                  have hDc := hD.sub (ws' := []) [] (by decide) rfl
                  have hFc := va_free (wc := []) hD hS hA [] rfl
                  refine va_calli (va_runS (As := [.int p1]) (rest := [.int (v4 + ((upd h_faultAt_v p0.toNatClampNeg r87007.1) p0.toNatClampNeg)), .ref h_sort]) ⟨hx, hb, hml, hown, hts⟩ (c_X5_sortsOf l dC dI cA tt H.size p1 r87017 hr87017) (va_cwS 1 hts (kq_gS tw_400 tw_401 tw_25 tw_402) rfl rfl rfl (by decide +kernel) ⟨Nat.le_of_ble_eq_true rfl, Nat.le_of_ble_eq_true rfl⟩) ⟨kq_blind, kq_pre hG hZ hS hPc hDc hFc⟩ rfl rfl hl.1 rfl (lv_room (Nat.le_of_ble_eq_true rfl)) dX5_drawAll_364 ⟨Nat.le_of_ble_eq_true rfl, Nat.le_of_ble_eq_true rfl⟩) hS (fun q _ h => hFc q h) hFc (fun rv u t H1 locs ht hvm hw hB hz1 hk1 hS => ?_)
                  obtain ⟨hP1, hD1⟩ := hB
                  rw [ht] at hP1
                  have hw := hw.symm
                  subst hw
                  obtain ⟨hP, hD⟩ := va_join (wr := [(h, .inr (5, [.int h_code, .long h_seed, .long r87007.2, .ref h_many, .ref h_sort, .ref h_x, .ref h_y, .ref h_z, .ref h_fault, .ref h_faultAt, .ref h_left, .int h_lefts, .ref h_stays, .ref h_text, .int h_size])), (h_many, .inl (cA 0, 3, .inl h_many_v)), (h_sort, .inl (cA 0, 120, .inl h_sort_v)), (h_x, .inl (cA 2, 120, .inr (.inl h_x_v))), (h_y, .inl (cA 2, 120, .inr (.inl h_y_v))), (h_z, .inl (cA 2, 120, .inr (.inl h_z_v))), (h_fault, .inl (cA 0, 3, .inl (upd h_fault_v p0.toNatClampNeg ((r87003.1 - r87004) + 1)))), (h_faultAt, .inl (cA 0, 3, .inl (upd h_faultAt_v p0.toNatClampNeg r87007.1)))]) (w1 := []) hP hD [] [0, 1, 2, 3, 4, 5, 6, 7] rfl rfl (by decide) (by decide) hk1 hFc hP1 hD1
                  have hP : va_P (dC, dI) vwCl [(h, .inr (5, [.int h_code, .long h_seed, .long r87007.2, .ref h_many, .ref h_sort, .ref h_x, .ref h_y, .ref h_z, .ref h_fault, .ref h_faultAt, .ref h_left, .int h_lefts, .ref h_stays, .ref h_text, .int h_size])), (h_many, .inl (cA 0, 3, .inl h_many_v)), (h_sort, .inl (cA 0, 120, .inl h_sort_v)), (h_x, .inl (cA 2, 120, .inr (.inl h_x_v))), (h_y, .inl (cA 2, 120, .inr (.inl h_y_v))), (h_z, .inl (cA 2, 120, .inr (.inl h_z_v))), (h_fault, .inl (cA 0, 3, .inl (upd h_fault_v p0.toNatClampNeg ((r87003.1 - r87004) + 1)))), (h_faultAt, .inl (cA 0, 3, .inl (upd h_faultAt_v p0.toNatClampNeg r87007.1)))] H1 := hP.sub [0, 1, 2, 3, 4, 5, 6, 7] rfl
                  have hD : va_D A [(h, .inr (5, [.int h_code, .long h_seed, .long r87007.2, .ref h_many, .ref h_sort, .ref h_x, .ref h_y, .ref h_z, .ref h_fault, .ref h_faultAt, .ref h_left, .int h_lefts, .ref h_stays, .ref h_text, .int h_size])), (h_many, .inl (cA 0, 3, .inl h_many_v)), (h_sort, .inl (cA 0, 120, .inl h_sort_v)), (h_x, .inl (cA 2, 120, .inr (.inl h_x_v))), (h_y, .inl (cA 2, 120, .inr (.inl h_y_v))), (h_z, .inl (cA 2, 120, .inr (.inl h_z_v))), (h_fault, .inl (cA 0, 3, .inl (upd h_fault_v p0.toNatClampNeg ((r87003.1 - r87004) + 1)))), (h_faultAt, .inl (cA 0, 3, .inl (upd h_faultAt_v p0.toNatClampNeg r87007.1)))] := hD.sub [0, 1, 2, 3, 4, 5, 6, 7] (by decide) rfl
                  generalize H1 = H at hP hS ⊢
                  obtain ⟨hq87018, hf⟩ := kp_t hf
                  refine va_iast hx hb hK hP hD hS 2 0 rfl rfl hq87018 dX5_drawAll_367 (fun H locs hP hD hS => ?_)
                  have hP : va_P (dC, dI) vwCl [(h, .inr (5, [.int h_code, .long h_seed, .long r87007.2, .ref h_many, .ref h_sort, .ref h_x, .ref h_y, .ref h_z, .ref h_fault, .ref h_faultAt, .ref h_left, .int h_lefts, .ref h_stays, .ref h_text, .int h_size])), (h_many, .inl (cA 0, 3, .inl h_many_v)), (h_sort, .inl (cA 0, 120, .inl (upd h_sort_v (v4 + ((upd h_faultAt_v p0.toNatClampNeg r87007.1) p0.toNatClampNeg)).toNatClampNeg r87017))), (h_x, .inl (cA 2, 120, .inr (.inl h_x_v))), (h_y, .inl (cA 2, 120, .inr (.inl h_y_v))), (h_z, .inl (cA 2, 120, .inr (.inl h_z_v))), (h_fault, .inl (cA 0, 3, .inl (upd h_fault_v p0.toNatClampNeg ((r87003.1 - r87004) + 1)))), (h_faultAt, .inl (cA 0, 3, .inl (upd h_faultAt_v p0.toNatClampNeg r87007.1)))] H := hP
                  have hD : va_D A [(h, .inr (5, [.int h_code, .long h_seed, .long r87007.2, .ref h_many, .ref h_sort, .ref h_x, .ref h_y, .ref h_z, .ref h_fault, .ref h_faultAt, .ref h_left, .int h_lefts, .ref h_stays, .ref h_text, .int h_size])), (h_many, .inl (cA 0, 3, .inl h_many_v)), (h_sort, .inl (cA 0, 120, .inl (upd h_sort_v (v4 + ((upd h_faultAt_v p0.toNatClampNeg r87007.1) p0.toNatClampNeg)).toNatClampNeg r87017))), (h_x, .inl (cA 2, 120, .inr (.inl h_x_v))), (h_y, .inl (cA 2, 120, .inr (.inl h_y_v))), (h_z, .inl (cA 2, 120, .inr (.inl h_z_v))), (h_fault, .inl (cA 0, 3, .inl (upd h_fault_v p0.toNatClampNeg ((r87003.1 - r87004) + 1)))), (h_faultAt, .inl (cA 0, 3, .inl (upd h_faultAt_v p0.toNatClampNeg r87007.1)))] := hD
                  refine lv_goto (tgt := 395) hx hb dX5_drawAll_368 (by decide) ?_
                  have eo := Option.some.inj hf
                  subst eo
                  exact W.vret hx hb hr (fun t ht hW => ⟨⟨(), rfl, trivial, kq_mk ht hP hD⟩, hS.F ht⟩) hS.2.2 dX5_drawAll_395
              · have hf := kp_p c87012 hf
                refine lv_aload_n hx hb dX5_drawAll_335 rfl (lv_at hl 2 rfl) ?_
                refine va_get (D := (dC, dI)) (ci := 5) (v := .ref h_z) (C := RX5) (T := TX5) (N := 15) hx hb hts iwX5 hown hK hP 0 rfl rfl 7 (by decide) (hts _ tw_342) (fun _ h9 => h9) rfl dX5_drawAll_336 ?_
                refine lv_iload hx hb dX5_drawAll_339 (lv_at hl 0 rfl) ?_
                refine lv_dup2_11 hx hb dX5_drawAll_341 rfl rfl ?_
                obtain ⟨hq87019, hf⟩ := kp_t hf
                refine va_lald hx hb hK hP 5 2 rfl rfl hq87019 dX5_drawAll_342 ?_
                refine lv_ldc2 (v := 1000) hx hb hown (hts _ tw_412) dX5_drawAll_343 ?_
                refine lv_ladd hx hb dX5_drawAll_346 ?_
                refine va_last hx hb hK hP hD hS 5 2 rfl rfl hq87019 dX5_drawAll_347 (fun H locs hP hD hS => ?_)
                have hP : va_P (dC, dI) vwCl [(h, .inr (5, [.int h_code, .long h_seed, .long r87007.2, .ref h_many, .ref h_sort, .ref h_x, .ref h_y, .ref h_z, .ref h_fault, .ref h_faultAt, .ref h_left, .int h_lefts, .ref h_stays, .ref h_text, .int h_size])), (h_many, .inl (cA 0, 3, .inl h_many_v)), (h_sort, .inl (cA 0, 120, .inl h_sort_v)), (h_x, .inl (cA 2, 120, .inr (.inl h_x_v))), (h_y, .inl (cA 2, 120, .inr (.inl h_y_v))), (h_z, .inl (cA 2, 120, .inr (.inl (vp_updL h_z_v (v4 + ((upd h_faultAt_v p0.toNatClampNeg r87007.1) p0.toNatClampNeg)).toNatClampNeg ((h_z_v (v4 + ((upd h_faultAt_v p0.toNatClampNeg r87007.1) p0.toNatClampNeg)).toNatClampNeg) + 1000))))), (h_fault, .inl (cA 0, 3, .inl (upd h_fault_v p0.toNatClampNeg ((r87003.1 - r87004) + 1)))), (h_faultAt, .inl (cA 0, 3, .inl (upd h_faultAt_v p0.toNatClampNeg r87007.1)))] H := hP
                have hD : va_D A [(h, .inr (5, [.int h_code, .long h_seed, .long r87007.2, .ref h_many, .ref h_sort, .ref h_x, .ref h_y, .ref h_z, .ref h_fault, .ref h_faultAt, .ref h_left, .int h_lefts, .ref h_stays, .ref h_text, .int h_size])), (h_many, .inl (cA 0, 3, .inl h_many_v)), (h_sort, .inl (cA 0, 120, .inl h_sort_v)), (h_x, .inl (cA 2, 120, .inr (.inl h_x_v))), (h_y, .inl (cA 2, 120, .inr (.inl h_y_v))), (h_z, .inl (cA 2, 120, .inr (.inl (vp_updL h_z_v (v4 + ((upd h_faultAt_v p0.toNatClampNeg r87007.1) p0.toNatClampNeg)).toNatClampNeg ((h_z_v (v4 + ((upd h_faultAt_v p0.toNatClampNeg r87007.1) p0.toNatClampNeg)).toNatClampNeg) + 1000))))), (h_fault, .inl (cA 0, 3, .inl (upd h_fault_v p0.toNatClampNeg ((r87003.1 - r87004) + 1)))), (h_faultAt, .inl (cA 0, 3, .inl (upd h_faultAt_v p0.toNatClampNeg r87007.1)))] := hD
                refine lv_goto (tgt := 395) hx hb dX5_drawAll_348 (by decide) ?_
                have eo := Option.some.inj hf
                subst eo
                exact W.vret hx hb hr (fun t ht hW => ⟨⟨(), rfl, trivial, kq_mk ht hP hD⟩, hS.F ht⟩) hS.2.2 dX5_drawAll_395
            · have hf := kp_p c87011 hf
              refine lv_aload_n hx hb dX5_drawAll_308 rfl (lv_at hl 2 rfl) ?_
              refine va_get (D := (dC, dI)) (ci := 5) (v := .ref h_y) (C := RX5) (T := TX5) (N := 15) hx hb hts iwX5 hown hK hP 0 rfl rfl 6 (by decide) (hts _ tw_341) (fun _ h9 => h9) rfl dX5_drawAll_309 ?_
              refine lv_iload hx hb dX5_drawAll_312 (lv_at hl 0 rfl) ?_
              refine lv_ldc2 (v := (-1)) hx hb hown (hts _ tw_413) dX5_drawAll_314 ?_
              refine lv_aload_n hx hb dX5_drawAll_317 rfl (lv_at hl 2 rfl) ?_
              refine va_get (D := (dC, dI)) (ci := 5) (v := .ref h_y) (C := RX5) (T := TX5) (N := 15) hx hb hts iwX5 hown hK hP 0 rfl rfl 6 (by decide) (hts _ tw_341) (fun _ h9 => h9) rfl dX5_drawAll_318 ?_
              refine lv_iload hx hb dX5_drawAll_321 (lv_at hl 0 rfl) ?_
              obtain ⟨hq87021, hf⟩ := kp_t hf
              refine va_lald hx hb hK hP 4 2 rfl rfl hq87021 dX5_drawAll_323 ?_
              refine lv_lsub hx hb dX5_drawAll_324 ?_
              refine va_last hx hb hK hP hD hS 4 2 rfl rfl hq87021 dX5_drawAll_325 (fun H locs hP hD hS => ?_)
              have hP : va_P (dC, dI) vwCl [(h, .inr (5, [.int h_code, .long h_seed, .long r87007.2, .ref h_many, .ref h_sort, .ref h_x, .ref h_y, .ref h_z, .ref h_fault, .ref h_faultAt, .ref h_left, .int h_lefts, .ref h_stays, .ref h_text, .int h_size])), (h_many, .inl (cA 0, 3, .inl h_many_v)), (h_sort, .inl (cA 0, 120, .inl h_sort_v)), (h_x, .inl (cA 2, 120, .inr (.inl h_x_v))), (h_y, .inl (cA 2, 120, .inr (.inl (vp_updL h_y_v (v4 + ((upd h_faultAt_v p0.toNatClampNeg r87007.1) p0.toNatClampNeg)).toNatClampNeg (((-1)) - (h_y_v (v4 + ((upd h_faultAt_v p0.toNatClampNeg r87007.1) p0.toNatClampNeg)).toNatClampNeg)))))), (h_z, .inl (cA 2, 120, .inr (.inl h_z_v))), (h_fault, .inl (cA 0, 3, .inl (upd h_fault_v p0.toNatClampNeg ((r87003.1 - r87004) + 1)))), (h_faultAt, .inl (cA 0, 3, .inl (upd h_faultAt_v p0.toNatClampNeg r87007.1)))] H := hP
              have hD : va_D A [(h, .inr (5, [.int h_code, .long h_seed, .long r87007.2, .ref h_many, .ref h_sort, .ref h_x, .ref h_y, .ref h_z, .ref h_fault, .ref h_faultAt, .ref h_left, .int h_lefts, .ref h_stays, .ref h_text, .int h_size])), (h_many, .inl (cA 0, 3, .inl h_many_v)), (h_sort, .inl (cA 0, 120, .inl h_sort_v)), (h_x, .inl (cA 2, 120, .inr (.inl h_x_v))), (h_y, .inl (cA 2, 120, .inr (.inl (vp_updL h_y_v (v4 + ((upd h_faultAt_v p0.toNatClampNeg r87007.1) p0.toNatClampNeg)).toNatClampNeg (((-1)) - (h_y_v (v4 + ((upd h_faultAt_v p0.toNatClampNeg r87007.1) p0.toNatClampNeg)).toNatClampNeg)))))), (h_z, .inl (cA 2, 120, .inr (.inl h_z_v))), (h_fault, .inl (cA 0, 3, .inl (upd h_fault_v p0.toNatClampNeg ((r87003.1 - r87004) + 1)))), (h_faultAt, .inl (cA 0, 3, .inl (upd h_faultAt_v p0.toNatClampNeg r87007.1)))] := hD
              refine lv_goto (tgt := 395) hx hb dX5_drawAll_326 (by decide) ?_
              have eo := Option.some.inj hf
              subst eo
              exact W.vret hx hb hr (fun t ht hW => ⟨⟨(), rfl, trivial, kq_mk ht hP hD⟩, hS.F ht⟩) hS.2.2 dX5_drawAll_395
          · have hf := kp_p c87010 hf
            refine lv_aload_n hx hb dX5_drawAll_286 rfl (lv_at hl 2 rfl) ?_
            refine va_get (D := (dC, dI)) (ci := 5) (v := .ref h_x) (C := RX5) (T := TX5) (N := 15) hx hb hts iwX5 hown hK hP 0 rfl rfl 5 (by decide) (hts _ tw_340) (fun _ h9 => h9) rfl dX5_drawAll_287 ?_
            refine lv_iload hx hb dX5_drawAll_290 (lv_at hl 0 rfl) ?_
            refine lv_dup2_11 hx hb dX5_drawAll_292 rfl rfl ?_
            obtain ⟨hq87023, hf⟩ := kp_t hf
            refine va_lald hx hb hK hP 3 2 rfl rfl hq87023 dX5_drawAll_293 ?_
            refine lv_ldc2 (v := 1000) hx hb hown (hts _ tw_412) dX5_drawAll_294 ?_
            refine lv_ladd hx hb dX5_drawAll_297 ?_
            refine va_last hx hb hK hP hD hS 3 2 rfl rfl hq87023 dX5_drawAll_298 (fun H locs hP hD hS => ?_)
            have hP : va_P (dC, dI) vwCl [(h, .inr (5, [.int h_code, .long h_seed, .long r87007.2, .ref h_many, .ref h_sort, .ref h_x, .ref h_y, .ref h_z, .ref h_fault, .ref h_faultAt, .ref h_left, .int h_lefts, .ref h_stays, .ref h_text, .int h_size])), (h_many, .inl (cA 0, 3, .inl h_many_v)), (h_sort, .inl (cA 0, 120, .inl h_sort_v)), (h_x, .inl (cA 2, 120, .inr (.inl (vp_updL h_x_v (v4 + ((upd h_faultAt_v p0.toNatClampNeg r87007.1) p0.toNatClampNeg)).toNatClampNeg ((h_x_v (v4 + ((upd h_faultAt_v p0.toNatClampNeg r87007.1) p0.toNatClampNeg)).toNatClampNeg) + 1000))))), (h_y, .inl (cA 2, 120, .inr (.inl h_y_v))), (h_z, .inl (cA 2, 120, .inr (.inl h_z_v))), (h_fault, .inl (cA 0, 3, .inl (upd h_fault_v p0.toNatClampNeg ((r87003.1 - r87004) + 1)))), (h_faultAt, .inl (cA 0, 3, .inl (upd h_faultAt_v p0.toNatClampNeg r87007.1)))] H := hP
            have hD : va_D A [(h, .inr (5, [.int h_code, .long h_seed, .long r87007.2, .ref h_many, .ref h_sort, .ref h_x, .ref h_y, .ref h_z, .ref h_fault, .ref h_faultAt, .ref h_left, .int h_lefts, .ref h_stays, .ref h_text, .int h_size])), (h_many, .inl (cA 0, 3, .inl h_many_v)), (h_sort, .inl (cA 0, 120, .inl h_sort_v)), (h_x, .inl (cA 2, 120, .inr (.inl (vp_updL h_x_v (v4 + ((upd h_faultAt_v p0.toNatClampNeg r87007.1) p0.toNatClampNeg)).toNatClampNeg ((h_x_v (v4 + ((upd h_faultAt_v p0.toNatClampNeg r87007.1) p0.toNatClampNeg)).toNatClampNeg) + 1000))))), (h_y, .inl (cA 2, 120, .inr (.inl h_y_v))), (h_z, .inl (cA 2, 120, .inr (.inl h_z_v))), (h_fault, .inl (cA 0, 3, .inl (upd h_fault_v p0.toNatClampNeg ((r87003.1 - r87004) + 1)))), (h_faultAt, .inl (cA 0, 3, .inl (upd h_faultAt_v p0.toNatClampNeg r87007.1)))] := hD
            refine lv_goto (tgt := 395) hx hb dX5_drawAll_299 (by decide) ?_
            have eo := Option.some.inj hf
            subst eo
            exact W.vret hx hb hr (fun t ht hW => ⟨⟨(), rfl, trivial, kq_mk ht hP hD⟩, hS.F ht⟩) hS.2.2 dX5_drawAll_395
        · have hf := kp_n c87005 hf
          have eo := Option.some.inj hf
          subst eo
          exact W.vret hx hb hr (fun t ht hW => ⟨⟨(), rfl, trivial, kq_mk ht hP hD⟩, hS.F ht⟩) hS.2.2 dX5_drawAll_247
      · have hf := kp_n c87001 hf
        refine lv_iload hx hb dX5_drawAll_93 (lv_at hl 3 rfl) ?_
        refine lv_iload hx hb dX5_drawAll_95 (lv_at hl 5 rfl) ?_
        refine lv_iadd hx hb dX5_drawAll_97 ?_
        refine lv_istore (lv' := [(7, .int (v4 + v6)), (0, .ref h), (1, .int p0), (2, .int p1), (4, .int v4), (5, .int v5), (6, .int v6)]) hx hb dX5_drawAll_98 hl (by decide) rfl (fun ls hl => ?_)
        refine lv_aload_n hx hb dX5_drawAll_100 rfl (lv_at hl 1 rfl) ?_
        refine va_get (D := (dC, dI)) (ci := 5) (v := .ref h_sort) (C := RX5) (T := TX5) (N := 15) hx hb hts iwX5 hown hK hP 0 rfl rfl 4 (by decide) (hts _ tw_339) (fun _ h9 => h9) rfl dX5_drawAll_101 ?_
        refine lv_iload hx hb dX5_drawAll_104 (lv_at hl 0 rfl) ?_
        refine lv_aload_n hx hb dX5_drawAll_106 rfl (lv_at hl 1 rfl) ?_
        refine lv_iload_n hx hb dX5_drawAll_107 rfl (lv_at hl 3 rfl) ?_
        obtain ⟨r87025, hr87025, hf⟩ := kp_b hf
        have hPc := hP.sub (ws' := []) [] rfl
        have hDc := hD.sub (ws' := []) [] (by decide) rfl
        have hFc := va_free (wc := []) hD hS hA [] rfl
        refine va_calli (va_runS (As := [.int p1]) (rest := [.ref h, .int (v4 + v6), .ref h_sort]) ⟨hx, hb, hml, hown, hts⟩ (c_X5_sortsOf l dC dI cA tt H.size p1 r87025 hr87025) (va_cwS 1 hts (kq_gS tw_400 tw_401 tw_25 tw_402) rfl rfl rfl (by decide +kernel) ⟨Nat.le_of_ble_eq_true rfl, Nat.le_of_ble_eq_true rfl⟩) ⟨kq_blind, kq_pre hG hZ hS hPc hDc hFc⟩ rfl rfl hl.1 rfl (lv_room (Nat.le_of_ble_eq_true rfl)) dX5_drawAll_108 ⟨Nat.le_of_ble_eq_true rfl, Nat.le_of_ble_eq_true rfl⟩) hS (fun q _ h => hFc q h) hFc (fun rv u t H1 locs ht hvm hw hB hz1 hk1 hS => ?_)
        obtain ⟨hP1, hD1⟩ := hB
        rw [ht] at hP1
        have hw := hw.symm
        subst hw
        obtain ⟨hP, hD⟩ := va_join (wr := [(h, .inr (5, [.int h_code, .long h_seed, .long h_state, .ref h_many, .ref h_sort, .ref h_x, .ref h_y, .ref h_z, .ref h_fault, .ref h_faultAt, .ref h_left, .int h_lefts, .ref h_stays, .ref h_text, .int h_size])), (h_many, .inl (cA 0, 3, .inl h_many_v)), (h_sort, .inl (cA 0, 120, .inl h_sort_v)), (h_x, .inl (cA 2, 120, .inr (.inl h_x_v))), (h_y, .inl (cA 2, 120, .inr (.inl h_y_v))), (h_z, .inl (cA 2, 120, .inr (.inl h_z_v))), (h_fault, .inl (cA 0, 3, .inl h_fault_v)), (h_faultAt, .inl (cA 0, 3, .inl h_faultAt_v))]) (w1 := []) hP hD [] [0, 1, 2, 3, 4, 5, 6, 7] rfl rfl (by decide) (by decide) hk1 hFc hP1 hD1
        have hP : va_P (dC, dI) vwCl [(h, .inr (5, [.int h_code, .long h_seed, .long h_state, .ref h_many, .ref h_sort, .ref h_x, .ref h_y, .ref h_z, .ref h_fault, .ref h_faultAt, .ref h_left, .int h_lefts, .ref h_stays, .ref h_text, .int h_size])), (h_many, .inl (cA 0, 3, .inl h_many_v)), (h_sort, .inl (cA 0, 120, .inl h_sort_v)), (h_x, .inl (cA 2, 120, .inr (.inl h_x_v))), (h_y, .inl (cA 2, 120, .inr (.inl h_y_v))), (h_z, .inl (cA 2, 120, .inr (.inl h_z_v))), (h_fault, .inl (cA 0, 3, .inl h_fault_v)), (h_faultAt, .inl (cA 0, 3, .inl h_faultAt_v))] H1 := hP.sub [0, 1, 2, 3, 4, 5, 6, 7] rfl
        have hD : va_D A [(h, .inr (5, [.int h_code, .long h_seed, .long h_state, .ref h_many, .ref h_sort, .ref h_x, .ref h_y, .ref h_z, .ref h_fault, .ref h_faultAt, .ref h_left, .int h_lefts, .ref h_stays, .ref h_text, .int h_size])), (h_many, .inl (cA 0, 3, .inl h_many_v)), (h_sort, .inl (cA 0, 120, .inl h_sort_v)), (h_x, .inl (cA 2, 120, .inr (.inl h_x_v))), (h_y, .inl (cA 2, 120, .inr (.inl h_y_v))), (h_z, .inl (cA 2, 120, .inr (.inl h_z_v))), (h_fault, .inl (cA 0, 3, .inl h_fault_v)), (h_faultAt, .inl (cA 0, 3, .inl h_faultAt_v))] := hD.sub [0, 1, 2, 3, 4, 5, 6, 7] (by decide) rfl
        generalize H1 = H at hP hS ⊢
        obtain ⟨r87026, hr87026, hf⟩ := kp_b hf
        have hPc := hP.sub (ws' := [(h, .inr (5, [.int h_code, .long h_seed, .long h_state, .ref h_many, .ref h_sort, .ref h_x, .ref h_y, .ref h_z, .ref h_fault, .ref h_faultAt, .ref h_left, .int h_lefts, .ref h_stays, .ref h_text, .int h_size]))]) [0] rfl
        have hDc := hD.sub (ws' := [(h, .inr (5, [.int h_code, .long h_seed, .long h_state, .ref h_many, .ref h_sort, .ref h_x, .ref h_y, .ref h_z, .ref h_fault, .ref h_faultAt, .ref h_left, .int h_lefts, .ref h_stays, .ref h_text, .int h_size]))]) [0] (by decide) rfl
        have hFc := va_free (wc := [(h, .inr (5, [.int h_code, .long h_seed, .long h_state, .ref h_many, .ref h_sort, .ref h_x, .ref h_y, .ref h_z, .ref h_fault, .ref h_faultAt, .ref h_left, .int h_lefts, .ref h_stays, .ref h_text, .int h_size]))]) hD hS hA [0] rfl
        refine va_calli (va_runV (As := [.int r87025]) (rest := [.int (v4 + v6), .ref h_sort]) ⟨hx, hb, hml, hown, hts⟩ (c_X5_next l dC dI cA tt h h_many h_sort h_x h_y h_z h_fault h_faultAt h_left h_stays h_text H.size h_code h_seed h_state h_lefts h_size r87025 r87026 hr87026) (cwV 1 hts (kq_gV tw_394 tw_396 tw_12 tw_25 tw_397) rfl rfl rfl (by decide +kernel) ⟨Nat.le_of_ble_eq_true rfl, Nat.le_of_ble_eq_true rfl⟩) ⟨kq_blind, va_recv hK hP (ci := 5) (q0 := 0) rfl rfl, kq_pre hG hZ hS hPc hDc hFc⟩ rfl rfl hl.1 rfl (lv_room (Nat.le_of_ble_eq_true rfl)) dX5_drawAll_111 ⟨Nat.le_of_ble_eq_true rfl, Nat.le_of_ble_eq_true rfl⟩) hS (fun q _ h => hFc q h) hFc (fun rv u t H1 locs ht hvm hw hB hz1 hk1 hS => ?_)
        obtain ⟨hP1, hD1⟩ := hB
        rw [ht] at hP1
        have hw := hw.symm
        subst hw
        obtain ⟨hP, hD⟩ := va_join (wr := [(h_many, .inl (cA 0, 3, .inl h_many_v)), (h_sort, .inl (cA 0, 120, .inl h_sort_v)), (h_x, .inl (cA 2, 120, .inr (.inl h_x_v))), (h_y, .inl (cA 2, 120, .inr (.inl h_y_v))), (h_z, .inl (cA 2, 120, .inr (.inl h_z_v))), (h_fault, .inl (cA 0, 3, .inl h_fault_v)), (h_faultAt, .inl (cA 0, 3, .inl h_faultAt_v))]) (w1 := [(h, .inr (5, [.int h_code, .long h_seed, .long r87026.2, .ref h_many, .ref h_sort, .ref h_x, .ref h_y, .ref h_z, .ref h_fault, .ref h_faultAt, .ref h_left, .int h_lefts, .ref h_stays, .ref h_text, .int h_size]))]) hP hD [0] [1, 2, 3, 4, 5, 6, 7] rfl rfl (by decide) (by decide) hk1 hFc hP1 hD1
        have hP : va_P (dC, dI) vwCl [(h, .inr (5, [.int h_code, .long h_seed, .long r87026.2, .ref h_many, .ref h_sort, .ref h_x, .ref h_y, .ref h_z, .ref h_fault, .ref h_faultAt, .ref h_left, .int h_lefts, .ref h_stays, .ref h_text, .int h_size])), (h_many, .inl (cA 0, 3, .inl h_many_v)), (h_sort, .inl (cA 0, 120, .inl h_sort_v)), (h_x, .inl (cA 2, 120, .inr (.inl h_x_v))), (h_y, .inl (cA 2, 120, .inr (.inl h_y_v))), (h_z, .inl (cA 2, 120, .inr (.inl h_z_v))), (h_fault, .inl (cA 0, 3, .inl h_fault_v)), (h_faultAt, .inl (cA 0, 3, .inl h_faultAt_v))] H1 := hP.sub [7, 0, 1, 2, 3, 4, 5, 6] rfl
        have hD : va_D A [(h, .inr (5, [.int h_code, .long h_seed, .long r87026.2, .ref h_many, .ref h_sort, .ref h_x, .ref h_y, .ref h_z, .ref h_fault, .ref h_faultAt, .ref h_left, .int h_lefts, .ref h_stays, .ref h_text, .int h_size])), (h_many, .inl (cA 0, 3, .inl h_many_v)), (h_sort, .inl (cA 0, 120, .inl h_sort_v)), (h_x, .inl (cA 2, 120, .inr (.inl h_x_v))), (h_y, .inl (cA 2, 120, .inr (.inl h_y_v))), (h_z, .inl (cA 2, 120, .inr (.inl h_z_v))), (h_fault, .inl (cA 0, 3, .inl h_fault_v)), (h_faultAt, .inl (cA 0, 3, .inl h_faultAt_v))] := hD.sub [7, 0, 1, 2, 3, 4, 5, 6] (by decide) rfl
        generalize H1 = H at hP hS ⊢
        obtain ⟨hq87027, hf⟩ := kp_t hf
        refine va_iast hx hb hK hP hD hS 2 0 rfl rfl hq87027 dX5_drawAll_114 (fun H locs hP hD hS => ?_)
        have hP : va_P (dC, dI) vwCl [(h, .inr (5, [.int h_code, .long h_seed, .long r87026.2, .ref h_many, .ref h_sort, .ref h_x, .ref h_y, .ref h_z, .ref h_fault, .ref h_faultAt, .ref h_left, .int h_lefts, .ref h_stays, .ref h_text, .int h_size])), (h_many, .inl (cA 0, 3, .inl h_many_v)), (h_sort, .inl (cA 0, 120, .inl (upd h_sort_v (v4 + v6).toNatClampNeg r87026.1))), (h_x, .inl (cA 2, 120, .inr (.inl h_x_v))), (h_y, .inl (cA 2, 120, .inr (.inl h_y_v))), (h_z, .inl (cA 2, 120, .inr (.inl h_z_v))), (h_fault, .inl (cA 0, 3, .inl h_fault_v)), (h_faultAt, .inl (cA 0, 3, .inl h_faultAt_v))] H := hP
        have hD : va_D A [(h, .inr (5, [.int h_code, .long h_seed, .long r87026.2, .ref h_many, .ref h_sort, .ref h_x, .ref h_y, .ref h_z, .ref h_fault, .ref h_faultAt, .ref h_left, .int h_lefts, .ref h_stays, .ref h_text, .int h_size])), (h_many, .inl (cA 0, 3, .inl h_many_v)), (h_sort, .inl (cA 0, 120, .inl (upd h_sort_v (v4 + v6).toNatClampNeg r87026.1))), (h_x, .inl (cA 2, 120, .inr (.inl h_x_v))), (h_y, .inl (cA 2, 120, .inr (.inl h_y_v))), (h_z, .inl (cA 2, 120, .inr (.inl h_z_v))), (h_fault, .inl (cA 0, 3, .inl h_fault_v)), (h_faultAt, .inl (cA 0, 3, .inl h_faultAt_v))] := hD
        refine lv_aload_n hx hb dX5_drawAll_115 rfl (lv_at hl 1 rfl) ?_
        refine va_get (D := (dC, dI)) (ci := 5) (v := .ref h_x) (C := RX5) (T := TX5) (N := 15) hx hb hts iwX5 hown hK hP 0 rfl rfl 5 (by decide) (hts _ tw_340) (fun _ h9 => h9) rfl dX5_drawAll_116 ?_
        refine lv_iload hx hb dX5_drawAll_119 (lv_at hl 0 rfl) ?_
        refine lv_aload_n hx hb dX5_drawAll_121 rfl (lv_at hl 1 rfl) ?_
        refine lv_iload_n hx hb dX5_drawAll_122 rfl (lv_at hl 3 rfl) ?_
        refine lv_iload hx hb dX5_drawAll_123 (lv_at hl 6 rfl) ?_
        refine lv_iload hx hb dX5_drawAll_125 (lv_at hl 0 rfl) ?_
        obtain ⟨r87028, hr87028, hf⟩ := kp_b hf
        have hPc := hP.sub (ws' := [(h, .inr (5, [.int h_code, .long h_seed, .long r87026.2, .ref h_many, .ref h_sort, .ref h_x, .ref h_y, .ref h_z, .ref h_fault, .ref h_faultAt, .ref h_left, .int h_lefts, .ref h_stays, .ref h_text, .int h_size])), (h_sort, .inl (cA 0, 120, .inl (upd h_sort_v (v4 + v6).toNatClampNeg r87026.1))), (h_x, .inl (cA 2, 120, .inr (.inl h_x_v)))]) [0, 2, 3] rfl
        have hDc := hD.sub (ws' := [(h, .inr (5, [.int h_code, .long h_seed, .long r87026.2, .ref h_many, .ref h_sort, .ref h_x, .ref h_y, .ref h_z, .ref h_fault, .ref h_faultAt, .ref h_left, .int h_lefts, .ref h_stays, .ref h_text, .int h_size])), (h_sort, .inl (cA 0, 120, .inl (upd h_sort_v (v4 + v6).toNatClampNeg r87026.1))), (h_x, .inl (cA 2, 120, .inr (.inl h_x_v)))]) [0, 2, 3] (by decide) rfl
        have hFc := va_free (wc := [(h, .inr (5, [.int h_code, .long h_seed, .long r87026.2, .ref h_many, .ref h_sort, .ref h_x, .ref h_y, .ref h_z, .ref h_fault, .ref h_faultAt, .ref h_left, .int h_lefts, .ref h_stays, .ref h_text, .int h_size])), (h_sort, .inl (cA 0, 120, .inl (upd h_sort_v (v4 + v6).toNatClampNeg r87026.1))), (h_x, .inl (cA 2, 120, .inr (.inl h_x_v)))]) hD hS hA [0, 2, 3] rfl
        refine va_calll (va_runV (As := [.int p1, .int v6, .int (v4 + v6)]) (rest := [.int (v4 + v6), .ref h_x]) ⟨hx, hb, hml, hown, hts⟩ (c_X5_drawX l dC dI cA tt h h_sort h_x h_many h_y h_z h_fault h_faultAt h_left h_stays h_text H.size h_code h_seed r87026.2 h_lefts h_size (upd h_sort_v (v4 + v6).toNatClampNeg r87026.1) h_x_v p1 v6 (v4 + v6) r87028 hr87028) (cwV 3 hts (kq_gV tw_403 tw_405 tw_13 tw_25 tw_406) rfl rfl rfl (by decide +kernel) ⟨Nat.le_of_ble_eq_true rfl, Nat.le_of_ble_eq_true rfl⟩) ⟨kq_blind, va_recv hK hP (ci := 5) (q0 := 0) rfl rfl, kq_pre hG hZ hS hPc hDc hFc⟩ rfl rfl hl.1 rfl (lv_room (Nat.le_of_ble_eq_true rfl)) dX5_drawAll_127 ⟨Nat.le_of_ble_eq_true rfl, Nat.le_of_ble_eq_true rfl⟩) hS (fun q _ h => hFc q h) hFc (fun rv u t H1 locs ht hvm hw hB hz1 hk1 hS => ?_)
        obtain ⟨hP1, hD1⟩ := hB
        rw [ht] at hP1
        have hw := hw.symm
        subst hw
        obtain ⟨hP, hD⟩ := va_join (wr := [(h_many, .inl (cA 0, 3, .inl h_many_v)), (h_y, .inl (cA 2, 120, .inr (.inl h_y_v))), (h_z, .inl (cA 2, 120, .inr (.inl h_z_v))), (h_fault, .inl (cA 0, 3, .inl h_fault_v)), (h_faultAt, .inl (cA 0, 3, .inl h_faultAt_v))]) (w1 := [(h, .inr (5, [.int h_code, .long h_seed, .long r87028.2, .ref h_many, .ref h_sort, .ref h_x, .ref h_y, .ref h_z, .ref h_fault, .ref h_faultAt, .ref h_left, .int h_lefts, .ref h_stays, .ref h_text, .int h_size])), (h_sort, .inl (cA 0, 120, .inl (upd h_sort_v (v4 + v6).toNatClampNeg r87026.1))), (h_x, .inl (cA 2, 120, .inr (.inl h_x_v)))]) hP hD [0, 2, 3] [1, 4, 5, 6, 7] rfl rfl (by decide) (by decide) hk1 hFc hP1 hD1
        have hP : va_P (dC, dI) vwCl [(h, .inr (5, [.int h_code, .long h_seed, .long r87028.2, .ref h_many, .ref h_sort, .ref h_x, .ref h_y, .ref h_z, .ref h_fault, .ref h_faultAt, .ref h_left, .int h_lefts, .ref h_stays, .ref h_text, .int h_size])), (h_many, .inl (cA 0, 3, .inl h_many_v)), (h_sort, .inl (cA 0, 120, .inl (upd h_sort_v (v4 + v6).toNatClampNeg r87026.1))), (h_x, .inl (cA 2, 120, .inr (.inl h_x_v))), (h_y, .inl (cA 2, 120, .inr (.inl h_y_v))), (h_z, .inl (cA 2, 120, .inr (.inl h_z_v))), (h_fault, .inl (cA 0, 3, .inl h_fault_v)), (h_faultAt, .inl (cA 0, 3, .inl h_faultAt_v))] H1 := hP.sub [5, 0, 6, 7, 1, 2, 3, 4] rfl
        have hD : va_D A [(h, .inr (5, [.int h_code, .long h_seed, .long r87028.2, .ref h_many, .ref h_sort, .ref h_x, .ref h_y, .ref h_z, .ref h_fault, .ref h_faultAt, .ref h_left, .int h_lefts, .ref h_stays, .ref h_text, .int h_size])), (h_many, .inl (cA 0, 3, .inl h_many_v)), (h_sort, .inl (cA 0, 120, .inl (upd h_sort_v (v4 + v6).toNatClampNeg r87026.1))), (h_x, .inl (cA 2, 120, .inr (.inl h_x_v))), (h_y, .inl (cA 2, 120, .inr (.inl h_y_v))), (h_z, .inl (cA 2, 120, .inr (.inl h_z_v))), (h_fault, .inl (cA 0, 3, .inl h_fault_v)), (h_faultAt, .inl (cA 0, 3, .inl h_faultAt_v))] := hD.sub [5, 0, 6, 7, 1, 2, 3, 4] (by decide) rfl
        generalize H1 = H at hP hS ⊢
        refine va_last hx hb hK hP hD hS 3 2 rfl rfl hq87027 dX5_drawAll_130 (fun H locs hP hD hS => ?_)
        have hP : va_P (dC, dI) vwCl [(h, .inr (5, [.int h_code, .long h_seed, .long r87028.2, .ref h_many, .ref h_sort, .ref h_x, .ref h_y, .ref h_z, .ref h_fault, .ref h_faultAt, .ref h_left, .int h_lefts, .ref h_stays, .ref h_text, .int h_size])), (h_many, .inl (cA 0, 3, .inl h_many_v)), (h_sort, .inl (cA 0, 120, .inl (upd h_sort_v (v4 + v6).toNatClampNeg r87026.1))), (h_x, .inl (cA 2, 120, .inr (.inl (vp_updL h_x_v (v4 + v6).toNatClampNeg r87028.1)))), (h_y, .inl (cA 2, 120, .inr (.inl h_y_v))), (h_z, .inl (cA 2, 120, .inr (.inl h_z_v))), (h_fault, .inl (cA 0, 3, .inl h_fault_v)), (h_faultAt, .inl (cA 0, 3, .inl h_faultAt_v))] H := hP
        have hD : va_D A [(h, .inr (5, [.int h_code, .long h_seed, .long r87028.2, .ref h_many, .ref h_sort, .ref h_x, .ref h_y, .ref h_z, .ref h_fault, .ref h_faultAt, .ref h_left, .int h_lefts, .ref h_stays, .ref h_text, .int h_size])), (h_many, .inl (cA 0, 3, .inl h_many_v)), (h_sort, .inl (cA 0, 120, .inl (upd h_sort_v (v4 + v6).toNatClampNeg r87026.1))), (h_x, .inl (cA 2, 120, .inr (.inl (vp_updL h_x_v (v4 + v6).toNatClampNeg r87028.1)))), (h_y, .inl (cA 2, 120, .inr (.inl h_y_v))), (h_z, .inl (cA 2, 120, .inr (.inl h_z_v))), (h_fault, .inl (cA 0, 3, .inl h_fault_v)), (h_faultAt, .inl (cA 0, 3, .inl h_faultAt_v))] := hD
        refine lv_iload_n hx hb dX5_drawAll_131 rfl (lv_at hl 3 rfl) ?_
        refine lv_if_ne (tgt := 190) hx hb dX5_drawAll_132 (by decide) (fun c87030 => ?_) (fun c87030 => ?_)
        · have hf := kp_n c87030 hf
          refine lv_aload_n hx hb dX5_drawAll_190 rfl (lv_at hl 1 rfl) ?_
          refine va_get (D := (dC, dI)) (ci := 5) (v := .ref h_y) (C := RX5) (T := TX5) (N := 15) hx hb hts iwX5 hown hK hP 0 rfl rfl 6 (by decide) (hts _ tw_341) (fun _ h9 => h9) rfl dX5_drawAll_191 ?_
          refine lv_iload hx hb dX5_drawAll_194 (lv_at hl 0 rfl) ?_
          refine lv_aload_n hx hb dX5_drawAll_196 rfl (lv_at hl 1 rfl) ?_
          refine lv_bipush (v := 64) hx hb dX5_drawAll_197 (by decide) ?_
          obtain ⟨r87031, hr87031, hf⟩ := kp_b hf
          have hPc := hP.sub (ws' := [(h, .inr (5, [.int h_code, .long h_seed, .long r87028.2, .ref h_many, .ref h_sort, .ref h_x, .ref h_y, .ref h_z, .ref h_fault, .ref h_faultAt, .ref h_left, .int h_lefts, .ref h_stays, .ref h_text, .int h_size]))]) [0] rfl
          have hDc := hD.sub (ws' := [(h, .inr (5, [.int h_code, .long h_seed, .long r87028.2, .ref h_many, .ref h_sort, .ref h_x, .ref h_y, .ref h_z, .ref h_fault, .ref h_faultAt, .ref h_left, .int h_lefts, .ref h_stays, .ref h_text, .int h_size]))]) [0] (by decide) rfl
          have hFc := va_free (wc := [(h, .inr (5, [.int h_code, .long h_seed, .long r87028.2, .ref h_many, .ref h_sort, .ref h_x, .ref h_y, .ref h_z, .ref h_fault, .ref h_faultAt, .ref h_left, .int h_lefts, .ref h_stays, .ref h_text, .int h_size]))]) hD hS hA [0] rfl
          refine va_calli (va_runV (As := [.int 64]) (rest := [.int (v4 + v6), .ref h_y]) ⟨hx, hb, hml, hown, hts⟩ (c_X5_next l dC dI cA tt h h_many h_sort h_x h_y h_z h_fault h_faultAt h_left h_stays h_text H.size h_code h_seed r87028.2 h_lefts h_size 64 r87031 hr87031) (cwV 1 hts (kq_gV tw_394 tw_396 tw_12 tw_25 tw_397) rfl rfl rfl (by decide +kernel) ⟨Nat.le_of_ble_eq_true rfl, Nat.le_of_ble_eq_true rfl⟩) ⟨kq_blind, va_recv hK hP (ci := 5) (q0 := 0) rfl rfl, kq_pre hG hZ hS hPc hDc hFc⟩ rfl rfl hl.1 rfl (lv_room (Nat.le_of_ble_eq_true rfl)) dX5_drawAll_199 ⟨Nat.le_of_ble_eq_true rfl, Nat.le_of_ble_eq_true rfl⟩) hS (fun q _ h => hFc q h) hFc (fun rv u t H1 locs ht hvm hw hB hz1 hk1 hS => ?_)
          obtain ⟨hP1, hD1⟩ := hB
          rw [ht] at hP1
          have hw := hw.symm
          subst hw
          obtain ⟨hP, hD⟩ := va_join (wr := [(h_many, .inl (cA 0, 3, .inl h_many_v)), (h_sort, .inl (cA 0, 120, .inl (upd h_sort_v (v4 + v6).toNatClampNeg r87026.1))), (h_x, .inl (cA 2, 120, .inr (.inl (vp_updL h_x_v (v4 + v6).toNatClampNeg r87028.1)))), (h_y, .inl (cA 2, 120, .inr (.inl h_y_v))), (h_z, .inl (cA 2, 120, .inr (.inl h_z_v))), (h_fault, .inl (cA 0, 3, .inl h_fault_v)), (h_faultAt, .inl (cA 0, 3, .inl h_faultAt_v))]) (w1 := [(h, .inr (5, [.int h_code, .long h_seed, .long r87031.2, .ref h_many, .ref h_sort, .ref h_x, .ref h_y, .ref h_z, .ref h_fault, .ref h_faultAt, .ref h_left, .int h_lefts, .ref h_stays, .ref h_text, .int h_size]))]) hP hD [0] [1, 2, 3, 4, 5, 6, 7] rfl rfl (by decide) (by decide) hk1 hFc hP1 hD1
          have hP : va_P (dC, dI) vwCl [(h, .inr (5, [.int h_code, .long h_seed, .long r87031.2, .ref h_many, .ref h_sort, .ref h_x, .ref h_y, .ref h_z, .ref h_fault, .ref h_faultAt, .ref h_left, .int h_lefts, .ref h_stays, .ref h_text, .int h_size])), (h_many, .inl (cA 0, 3, .inl h_many_v)), (h_sort, .inl (cA 0, 120, .inl (upd h_sort_v (v4 + v6).toNatClampNeg r87026.1))), (h_x, .inl (cA 2, 120, .inr (.inl (vp_updL h_x_v (v4 + v6).toNatClampNeg r87028.1)))), (h_y, .inl (cA 2, 120, .inr (.inl h_y_v))), (h_z, .inl (cA 2, 120, .inr (.inl h_z_v))), (h_fault, .inl (cA 0, 3, .inl h_fault_v)), (h_faultAt, .inl (cA 0, 3, .inl h_faultAt_v))] H1 := hP.sub [7, 0, 1, 2, 3, 4, 5, 6] rfl
          have hD : va_D A [(h, .inr (5, [.int h_code, .long h_seed, .long r87031.2, .ref h_many, .ref h_sort, .ref h_x, .ref h_y, .ref h_z, .ref h_fault, .ref h_faultAt, .ref h_left, .int h_lefts, .ref h_stays, .ref h_text, .int h_size])), (h_many, .inl (cA 0, 3, .inl h_many_v)), (h_sort, .inl (cA 0, 120, .inl (upd h_sort_v (v4 + v6).toNatClampNeg r87026.1))), (h_x, .inl (cA 2, 120, .inr (.inl (vp_updL h_x_v (v4 + v6).toNatClampNeg r87028.1)))), (h_y, .inl (cA 2, 120, .inr (.inl h_y_v))), (h_z, .inl (cA 2, 120, .inr (.inl h_z_v))), (h_fault, .inl (cA 0, 3, .inl h_fault_v)), (h_faultAt, .inl (cA 0, 3, .inl h_faultAt_v))] := hD.sub [7, 0, 1, 2, 3, 4, 5, 6] (by decide) rfl
          generalize H1 = H at hP hS ⊢
          refine lv_i2l hx hb dX5_drawAll_202 rfl ?_
          refine va_last hx hb hK hP hD hS 4 2 rfl rfl hq87027 dX5_drawAll_203 (fun H locs hP hD hS => ?_)
          have hP : va_P (dC, dI) vwCl [(h, .inr (5, [.int h_code, .long h_seed, .long r87031.2, .ref h_many, .ref h_sort, .ref h_x, .ref h_y, .ref h_z, .ref h_fault, .ref h_faultAt, .ref h_left, .int h_lefts, .ref h_stays, .ref h_text, .int h_size])), (h_many, .inl (cA 0, 3, .inl h_many_v)), (h_sort, .inl (cA 0, 120, .inl (upd h_sort_v (v4 + v6).toNatClampNeg r87026.1))), (h_x, .inl (cA 2, 120, .inr (.inl (vp_updL h_x_v (v4 + v6).toNatClampNeg r87028.1)))), (h_y, .inl (cA 2, 120, .inr (.inl (vp_updL h_y_v (v4 + v6).toNatClampNeg r87031.1.toInt64)))), (h_z, .inl (cA 2, 120, .inr (.inl h_z_v))), (h_fault, .inl (cA 0, 3, .inl h_fault_v)), (h_faultAt, .inl (cA 0, 3, .inl h_faultAt_v))] H := hP
          have hD : va_D A [(h, .inr (5, [.int h_code, .long h_seed, .long r87031.2, .ref h_many, .ref h_sort, .ref h_x, .ref h_y, .ref h_z, .ref h_fault, .ref h_faultAt, .ref h_left, .int h_lefts, .ref h_stays, .ref h_text, .int h_size])), (h_many, .inl (cA 0, 3, .inl h_many_v)), (h_sort, .inl (cA 0, 120, .inl (upd h_sort_v (v4 + v6).toNatClampNeg r87026.1))), (h_x, .inl (cA 2, 120, .inr (.inl (vp_updL h_x_v (v4 + v6).toNatClampNeg r87028.1)))), (h_y, .inl (cA 2, 120, .inr (.inl (vp_updL h_y_v (v4 + v6).toNatClampNeg r87031.1.toInt64)))), (h_z, .inl (cA 2, 120, .inr (.inl h_z_v))), (h_fault, .inl (cA 0, 3, .inl h_fault_v)), (h_faultAt, .inl (cA 0, 3, .inl h_faultAt_v))] := hD
          refine lv_aload_n hx hb dX5_drawAll_204 rfl (lv_at hl 1 rfl) ?_
          refine va_get (D := (dC, dI)) (ci := 5) (v := .ref h_z) (C := RX5) (T := TX5) (N := 15) hx hb hts iwX5 hown hK hP 0 rfl rfl 7 (by decide) (hts _ tw_342) (fun _ h9 => h9) rfl dX5_drawAll_205 ?_
          refine lv_iload hx hb dX5_drawAll_208 (lv_at hl 0 rfl) ?_
          refine lv_aload_n hx hb dX5_drawAll_210 rfl (lv_at hl 1 rfl) ?_
          refine lv_sipush (v := 1000) hx hb dX5_drawAll_211 (by decide) ?_
          obtain ⟨r87033, hr87033, hf⟩ := kp_b hf
          have hPc := hP.sub (ws' := [(h, .inr (5, [.int h_code, .long h_seed, .long r87031.2, .ref h_many, .ref h_sort, .ref h_x, .ref h_y, .ref h_z, .ref h_fault, .ref h_faultAt, .ref h_left, .int h_lefts, .ref h_stays, .ref h_text, .int h_size]))]) [0] rfl
          have hDc := hD.sub (ws' := [(h, .inr (5, [.int h_code, .long h_seed, .long r87031.2, .ref h_many, .ref h_sort, .ref h_x, .ref h_y, .ref h_z, .ref h_fault, .ref h_faultAt, .ref h_left, .int h_lefts, .ref h_stays, .ref h_text, .int h_size]))]) [0] (by decide) rfl
          have hFc := va_free (wc := [(h, .inr (5, [.int h_code, .long h_seed, .long r87031.2, .ref h_many, .ref h_sort, .ref h_x, .ref h_y, .ref h_z, .ref h_fault, .ref h_faultAt, .ref h_left, .int h_lefts, .ref h_stays, .ref h_text, .int h_size]))]) hD hS hA [0] rfl
          refine va_calli (va_runV (As := [.int 1000]) (rest := [.int (v4 + v6), .ref h_z]) ⟨hx, hb, hml, hown, hts⟩ (c_X5_next l dC dI cA tt h h_many h_sort h_x h_y h_z h_fault h_faultAt h_left h_stays h_text H.size h_code h_seed r87031.2 h_lefts h_size 1000 r87033 hr87033) (cwV 1 hts (kq_gV tw_394 tw_396 tw_12 tw_25 tw_397) rfl rfl rfl (by decide +kernel) ⟨Nat.le_of_ble_eq_true rfl, Nat.le_of_ble_eq_true rfl⟩) ⟨kq_blind, va_recv hK hP (ci := 5) (q0 := 0) rfl rfl, kq_pre hG hZ hS hPc hDc hFc⟩ rfl rfl hl.1 rfl (lv_room (Nat.le_of_ble_eq_true rfl)) dX5_drawAll_214 ⟨Nat.le_of_ble_eq_true rfl, Nat.le_of_ble_eq_true rfl⟩) hS (fun q _ h => hFc q h) hFc (fun rv u t H1 locs ht hvm hw hB hz1 hk1 hS => ?_)
          obtain ⟨hP1, hD1⟩ := hB
          rw [ht] at hP1
          have hw := hw.symm
          subst hw
          obtain ⟨hP, hD⟩ := va_join (wr := [(h_many, .inl (cA 0, 3, .inl h_many_v)), (h_sort, .inl (cA 0, 120, .inl (upd h_sort_v (v4 + v6).toNatClampNeg r87026.1))), (h_x, .inl (cA 2, 120, .inr (.inl (vp_updL h_x_v (v4 + v6).toNatClampNeg r87028.1)))), (h_y, .inl (cA 2, 120, .inr (.inl (vp_updL h_y_v (v4 + v6).toNatClampNeg r87031.1.toInt64)))), (h_z, .inl (cA 2, 120, .inr (.inl h_z_v))), (h_fault, .inl (cA 0, 3, .inl h_fault_v)), (h_faultAt, .inl (cA 0, 3, .inl h_faultAt_v))]) (w1 := [(h, .inr (5, [.int h_code, .long h_seed, .long r87033.2, .ref h_many, .ref h_sort, .ref h_x, .ref h_y, .ref h_z, .ref h_fault, .ref h_faultAt, .ref h_left, .int h_lefts, .ref h_stays, .ref h_text, .int h_size]))]) hP hD [0] [1, 2, 3, 4, 5, 6, 7] rfl rfl (by decide) (by decide) hk1 hFc hP1 hD1
          have hP : va_P (dC, dI) vwCl [(h, .inr (5, [.int h_code, .long h_seed, .long r87033.2, .ref h_many, .ref h_sort, .ref h_x, .ref h_y, .ref h_z, .ref h_fault, .ref h_faultAt, .ref h_left, .int h_lefts, .ref h_stays, .ref h_text, .int h_size])), (h_many, .inl (cA 0, 3, .inl h_many_v)), (h_sort, .inl (cA 0, 120, .inl (upd h_sort_v (v4 + v6).toNatClampNeg r87026.1))), (h_x, .inl (cA 2, 120, .inr (.inl (vp_updL h_x_v (v4 + v6).toNatClampNeg r87028.1)))), (h_y, .inl (cA 2, 120, .inr (.inl (vp_updL h_y_v (v4 + v6).toNatClampNeg r87031.1.toInt64)))), (h_z, .inl (cA 2, 120, .inr (.inl h_z_v))), (h_fault, .inl (cA 0, 3, .inl h_fault_v)), (h_faultAt, .inl (cA 0, 3, .inl h_faultAt_v))] H1 := hP.sub [7, 0, 1, 2, 3, 4, 5, 6] rfl
          have hD : va_D A [(h, .inr (5, [.int h_code, .long h_seed, .long r87033.2, .ref h_many, .ref h_sort, .ref h_x, .ref h_y, .ref h_z, .ref h_fault, .ref h_faultAt, .ref h_left, .int h_lefts, .ref h_stays, .ref h_text, .int h_size])), (h_many, .inl (cA 0, 3, .inl h_many_v)), (h_sort, .inl (cA 0, 120, .inl (upd h_sort_v (v4 + v6).toNatClampNeg r87026.1))), (h_x, .inl (cA 2, 120, .inr (.inl (vp_updL h_x_v (v4 + v6).toNatClampNeg r87028.1)))), (h_y, .inl (cA 2, 120, .inr (.inl (vp_updL h_y_v (v4 + v6).toNatClampNeg r87031.1.toInt64)))), (h_z, .inl (cA 2, 120, .inr (.inl h_z_v))), (h_fault, .inl (cA 0, 3, .inl h_fault_v)), (h_faultAt, .inl (cA 0, 3, .inl h_faultAt_v))] := hD.sub [7, 0, 1, 2, 3, 4, 5, 6] (by decide) rfl
          generalize H1 = H at hP hS ⊢
          refine lv_i2l hx hb dX5_drawAll_217 rfl ?_
          refine va_last hx hb hK hP hD hS 5 2 rfl rfl hq87027 dX5_drawAll_218 (fun H locs hP hD hS => ?_)
          have hP : va_P (dC, dI) vwCl [(h, .inr (5, [.int h_code, .long h_seed, .long r87033.2, .ref h_many, .ref h_sort, .ref h_x, .ref h_y, .ref h_z, .ref h_fault, .ref h_faultAt, .ref h_left, .int h_lefts, .ref h_stays, .ref h_text, .int h_size])), (h_many, .inl (cA 0, 3, .inl h_many_v)), (h_sort, .inl (cA 0, 120, .inl (upd h_sort_v (v4 + v6).toNatClampNeg r87026.1))), (h_x, .inl (cA 2, 120, .inr (.inl (vp_updL h_x_v (v4 + v6).toNatClampNeg r87028.1)))), (h_y, .inl (cA 2, 120, .inr (.inl (vp_updL h_y_v (v4 + v6).toNatClampNeg r87031.1.toInt64)))), (h_z, .inl (cA 2, 120, .inr (.inl (vp_updL h_z_v (v4 + v6).toNatClampNeg r87033.1.toInt64)))), (h_fault, .inl (cA 0, 3, .inl h_fault_v)), (h_faultAt, .inl (cA 0, 3, .inl h_faultAt_v))] H := hP
          have hD : va_D A [(h, .inr (5, [.int h_code, .long h_seed, .long r87033.2, .ref h_many, .ref h_sort, .ref h_x, .ref h_y, .ref h_z, .ref h_fault, .ref h_faultAt, .ref h_left, .int h_lefts, .ref h_stays, .ref h_text, .int h_size])), (h_many, .inl (cA 0, 3, .inl h_many_v)), (h_sort, .inl (cA 0, 120, .inl (upd h_sort_v (v4 + v6).toNatClampNeg r87026.1))), (h_x, .inl (cA 2, 120, .inr (.inl (vp_updL h_x_v (v4 + v6).toNatClampNeg r87028.1)))), (h_y, .inl (cA 2, 120, .inr (.inl (vp_updL h_y_v (v4 + v6).toNatClampNeg r87031.1.toInt64)))), (h_z, .inl (cA 2, 120, .inr (.inl (vp_updL h_z_v (v4 + v6).toNatClampNeg r87033.1.toInt64)))), (h_fault, .inl (cA 0, 3, .inl h_fault_v)), (h_faultAt, .inl (cA 0, 3, .inl h_faultAt_v))] := hD
          refine lv_iinc (v := v6 + 1) (lv' := [(6, .int (v6 + 1)), (7, .int (v4 + v6)), (0, .ref h), (1, .int p0), (2, .int p1), (4, .int v4), (5, .int v5)]) hx hb dX5_drawAll_219 hl (k := 6) rfl rfl (by decide) rfl (fun ls hl => ?_)
          refine lv_goto (tgt := 86) hx hb dX5_drawAll_222 (by decide) ?_
          exact ih86 _ _ _ ⟨r87033.2, h_many_v, upd h_sort_v (v4 + v6).toNatClampNeg r87026.1, vp_updL h_x_v (v4 + v6).toNatClampNeg r87028.1, vp_updL h_y_v (v4 + v6).toNatClampNeg r87031.1.toInt64, vp_updL h_z_v (v4 + v6).toNatClampNeg r87033.1.toInt64, h_fault_v, h_faultAt_v, v4, v5, v6 + 1, ls, rfl, lv_sub hl [2, 3, 4, 5, 6, 0] rfl, hP, hD, hS, hf⟩
        · have hf := kp_p c87030 hf
          refine lv_aload_n hx hb dX5_drawAll_135 rfl (lv_at hl 1 rfl) ?_
          refine va_get (D := (dC, dI)) (ci := 5) (v := .ref h_sort) (C := RX5) (T := TX5) (N := 15) hx hb hts iwX5 hown hK hP 0 rfl rfl 4 (by decide) (hts _ tw_339) (fun _ h9 => h9) rfl dX5_drawAll_136 ?_
          refine lv_iload hx hb dX5_drawAll_139 (lv_at hl 0 rfl) ?_
          refine va_iald hx hb hK hP 2 0 rfl rfl hq87027 dX5_drawAll_141 ?_
          refine lv_iconst (v := 3) hx hb dX5_drawAll_142 (by decide) ?_
          refine lv_icmp_ne (tgt := 190) hx hb dX5_drawAll_143 (by decide) (fun c87036 => ?_) (fun c87036 => ?_)
          · have hf := kp_n c87036 hf
            refine lv_aload_n hx hb dX5_drawAll_190 rfl (lv_at hl 1 rfl) ?_
            refine va_get (D := (dC, dI)) (ci := 5) (v := .ref h_y) (C := RX5) (T := TX5) (N := 15) hx hb hts iwX5 hown hK hP 0 rfl rfl 6 (by decide) (hts _ tw_341) (fun _ h9 => h9) rfl dX5_drawAll_191 ?_
            refine lv_iload hx hb dX5_drawAll_194 (lv_at hl 0 rfl) ?_
            refine lv_aload_n hx hb dX5_drawAll_196 rfl (lv_at hl 1 rfl) ?_
            refine lv_bipush (v := 64) hx hb dX5_drawAll_197 (by decide) ?_
            obtain ⟨r87037, hr87037, hf⟩ := kp_b hf
            have hPc := hP.sub (ws' := [(h, .inr (5, [.int h_code, .long h_seed, .long r87028.2, .ref h_many, .ref h_sort, .ref h_x, .ref h_y, .ref h_z, .ref h_fault, .ref h_faultAt, .ref h_left, .int h_lefts, .ref h_stays, .ref h_text, .int h_size]))]) [0] rfl
            have hDc := hD.sub (ws' := [(h, .inr (5, [.int h_code, .long h_seed, .long r87028.2, .ref h_many, .ref h_sort, .ref h_x, .ref h_y, .ref h_z, .ref h_fault, .ref h_faultAt, .ref h_left, .int h_lefts, .ref h_stays, .ref h_text, .int h_size]))]) [0] (by decide) rfl
            have hFc := va_free (wc := [(h, .inr (5, [.int h_code, .long h_seed, .long r87028.2, .ref h_many, .ref h_sort, .ref h_x, .ref h_y, .ref h_z, .ref h_fault, .ref h_faultAt, .ref h_left, .int h_lefts, .ref h_stays, .ref h_text, .int h_size]))]) hD hS hA [0] rfl
            refine va_calli (va_runV (As := [.int 64]) (rest := [.int (v4 + v6), .ref h_y]) ⟨hx, hb, hml, hown, hts⟩ (c_X5_next l dC dI cA tt h h_many h_sort h_x h_y h_z h_fault h_faultAt h_left h_stays h_text H.size h_code h_seed r87028.2 h_lefts h_size 64 r87037 hr87037) (cwV 1 hts (kq_gV tw_394 tw_396 tw_12 tw_25 tw_397) rfl rfl rfl (by decide +kernel) ⟨Nat.le_of_ble_eq_true rfl, Nat.le_of_ble_eq_true rfl⟩) ⟨kq_blind, va_recv hK hP (ci := 5) (q0 := 0) rfl rfl, kq_pre hG hZ hS hPc hDc hFc⟩ rfl rfl hl.1 rfl (lv_room (Nat.le_of_ble_eq_true rfl)) dX5_drawAll_199 ⟨Nat.le_of_ble_eq_true rfl, Nat.le_of_ble_eq_true rfl⟩) hS (fun q _ h => hFc q h) hFc (fun rv u t H1 locs ht hvm hw hB hz1 hk1 hS => ?_)
            obtain ⟨hP1, hD1⟩ := hB
            rw [ht] at hP1
            have hw := hw.symm
            subst hw
            obtain ⟨hP, hD⟩ := va_join (wr := [(h_many, .inl (cA 0, 3, .inl h_many_v)), (h_sort, .inl (cA 0, 120, .inl (upd h_sort_v (v4 + v6).toNatClampNeg r87026.1))), (h_x, .inl (cA 2, 120, .inr (.inl (vp_updL h_x_v (v4 + v6).toNatClampNeg r87028.1)))), (h_y, .inl (cA 2, 120, .inr (.inl h_y_v))), (h_z, .inl (cA 2, 120, .inr (.inl h_z_v))), (h_fault, .inl (cA 0, 3, .inl h_fault_v)), (h_faultAt, .inl (cA 0, 3, .inl h_faultAt_v))]) (w1 := [(h, .inr (5, [.int h_code, .long h_seed, .long r87037.2, .ref h_many, .ref h_sort, .ref h_x, .ref h_y, .ref h_z, .ref h_fault, .ref h_faultAt, .ref h_left, .int h_lefts, .ref h_stays, .ref h_text, .int h_size]))]) hP hD [0] [1, 2, 3, 4, 5, 6, 7] rfl rfl (by decide) (by decide) hk1 hFc hP1 hD1
            have hP : va_P (dC, dI) vwCl [(h, .inr (5, [.int h_code, .long h_seed, .long r87037.2, .ref h_many, .ref h_sort, .ref h_x, .ref h_y, .ref h_z, .ref h_fault, .ref h_faultAt, .ref h_left, .int h_lefts, .ref h_stays, .ref h_text, .int h_size])), (h_many, .inl (cA 0, 3, .inl h_many_v)), (h_sort, .inl (cA 0, 120, .inl (upd h_sort_v (v4 + v6).toNatClampNeg r87026.1))), (h_x, .inl (cA 2, 120, .inr (.inl (vp_updL h_x_v (v4 + v6).toNatClampNeg r87028.1)))), (h_y, .inl (cA 2, 120, .inr (.inl h_y_v))), (h_z, .inl (cA 2, 120, .inr (.inl h_z_v))), (h_fault, .inl (cA 0, 3, .inl h_fault_v)), (h_faultAt, .inl (cA 0, 3, .inl h_faultAt_v))] H1 := hP.sub [7, 0, 1, 2, 3, 4, 5, 6] rfl
            have hD : va_D A [(h, .inr (5, [.int h_code, .long h_seed, .long r87037.2, .ref h_many, .ref h_sort, .ref h_x, .ref h_y, .ref h_z, .ref h_fault, .ref h_faultAt, .ref h_left, .int h_lefts, .ref h_stays, .ref h_text, .int h_size])), (h_many, .inl (cA 0, 3, .inl h_many_v)), (h_sort, .inl (cA 0, 120, .inl (upd h_sort_v (v4 + v6).toNatClampNeg r87026.1))), (h_x, .inl (cA 2, 120, .inr (.inl (vp_updL h_x_v (v4 + v6).toNatClampNeg r87028.1)))), (h_y, .inl (cA 2, 120, .inr (.inl h_y_v))), (h_z, .inl (cA 2, 120, .inr (.inl h_z_v))), (h_fault, .inl (cA 0, 3, .inl h_fault_v)), (h_faultAt, .inl (cA 0, 3, .inl h_faultAt_v))] := hD.sub [7, 0, 1, 2, 3, 4, 5, 6] (by decide) rfl
            generalize H1 = H at hP hS ⊢
            refine lv_i2l hx hb dX5_drawAll_202 rfl ?_
            refine va_last hx hb hK hP hD hS 4 2 rfl rfl hq87027 dX5_drawAll_203 (fun H locs hP hD hS => ?_)
            have hP : va_P (dC, dI) vwCl [(h, .inr (5, [.int h_code, .long h_seed, .long r87037.2, .ref h_many, .ref h_sort, .ref h_x, .ref h_y, .ref h_z, .ref h_fault, .ref h_faultAt, .ref h_left, .int h_lefts, .ref h_stays, .ref h_text, .int h_size])), (h_many, .inl (cA 0, 3, .inl h_many_v)), (h_sort, .inl (cA 0, 120, .inl (upd h_sort_v (v4 + v6).toNatClampNeg r87026.1))), (h_x, .inl (cA 2, 120, .inr (.inl (vp_updL h_x_v (v4 + v6).toNatClampNeg r87028.1)))), (h_y, .inl (cA 2, 120, .inr (.inl (vp_updL h_y_v (v4 + v6).toNatClampNeg r87037.1.toInt64)))), (h_z, .inl (cA 2, 120, .inr (.inl h_z_v))), (h_fault, .inl (cA 0, 3, .inl h_fault_v)), (h_faultAt, .inl (cA 0, 3, .inl h_faultAt_v))] H := hP
            have hD : va_D A [(h, .inr (5, [.int h_code, .long h_seed, .long r87037.2, .ref h_many, .ref h_sort, .ref h_x, .ref h_y, .ref h_z, .ref h_fault, .ref h_faultAt, .ref h_left, .int h_lefts, .ref h_stays, .ref h_text, .int h_size])), (h_many, .inl (cA 0, 3, .inl h_many_v)), (h_sort, .inl (cA 0, 120, .inl (upd h_sort_v (v4 + v6).toNatClampNeg r87026.1))), (h_x, .inl (cA 2, 120, .inr (.inl (vp_updL h_x_v (v4 + v6).toNatClampNeg r87028.1)))), (h_y, .inl (cA 2, 120, .inr (.inl (vp_updL h_y_v (v4 + v6).toNatClampNeg r87037.1.toInt64)))), (h_z, .inl (cA 2, 120, .inr (.inl h_z_v))), (h_fault, .inl (cA 0, 3, .inl h_fault_v)), (h_faultAt, .inl (cA 0, 3, .inl h_faultAt_v))] := hD
            refine lv_aload_n hx hb dX5_drawAll_204 rfl (lv_at hl 1 rfl) ?_
            refine va_get (D := (dC, dI)) (ci := 5) (v := .ref h_z) (C := RX5) (T := TX5) (N := 15) hx hb hts iwX5 hown hK hP 0 rfl rfl 7 (by decide) (hts _ tw_342) (fun _ h9 => h9) rfl dX5_drawAll_205 ?_
            refine lv_iload hx hb dX5_drawAll_208 (lv_at hl 0 rfl) ?_
            refine lv_aload_n hx hb dX5_drawAll_210 rfl (lv_at hl 1 rfl) ?_
            refine lv_sipush (v := 1000) hx hb dX5_drawAll_211 (by decide) ?_
            obtain ⟨r87039, hr87039, hf⟩ := kp_b hf
            have hPc := hP.sub (ws' := [(h, .inr (5, [.int h_code, .long h_seed, .long r87037.2, .ref h_many, .ref h_sort, .ref h_x, .ref h_y, .ref h_z, .ref h_fault, .ref h_faultAt, .ref h_left, .int h_lefts, .ref h_stays, .ref h_text, .int h_size]))]) [0] rfl
            have hDc := hD.sub (ws' := [(h, .inr (5, [.int h_code, .long h_seed, .long r87037.2, .ref h_many, .ref h_sort, .ref h_x, .ref h_y, .ref h_z, .ref h_fault, .ref h_faultAt, .ref h_left, .int h_lefts, .ref h_stays, .ref h_text, .int h_size]))]) [0] (by decide) rfl
            have hFc := va_free (wc := [(h, .inr (5, [.int h_code, .long h_seed, .long r87037.2, .ref h_many, .ref h_sort, .ref h_x, .ref h_y, .ref h_z, .ref h_fault, .ref h_faultAt, .ref h_left, .int h_lefts, .ref h_stays, .ref h_text, .int h_size]))]) hD hS hA [0] rfl
            refine va_calli (va_runV (As := [.int 1000]) (rest := [.int (v4 + v6), .ref h_z]) ⟨hx, hb, hml, hown, hts⟩ (c_X5_next l dC dI cA tt h h_many h_sort h_x h_y h_z h_fault h_faultAt h_left h_stays h_text H.size h_code h_seed r87037.2 h_lefts h_size 1000 r87039 hr87039) (cwV 1 hts (kq_gV tw_394 tw_396 tw_12 tw_25 tw_397) rfl rfl rfl (by decide +kernel) ⟨Nat.le_of_ble_eq_true rfl, Nat.le_of_ble_eq_true rfl⟩) ⟨kq_blind, va_recv hK hP (ci := 5) (q0 := 0) rfl rfl, kq_pre hG hZ hS hPc hDc hFc⟩ rfl rfl hl.1 rfl (lv_room (Nat.le_of_ble_eq_true rfl)) dX5_drawAll_214 ⟨Nat.le_of_ble_eq_true rfl, Nat.le_of_ble_eq_true rfl⟩) hS (fun q _ h => hFc q h) hFc (fun rv u t H1 locs ht hvm hw hB hz1 hk1 hS => ?_)
            obtain ⟨hP1, hD1⟩ := hB
            rw [ht] at hP1
            have hw := hw.symm
            subst hw
            obtain ⟨hP, hD⟩ := va_join (wr := [(h_many, .inl (cA 0, 3, .inl h_many_v)), (h_sort, .inl (cA 0, 120, .inl (upd h_sort_v (v4 + v6).toNatClampNeg r87026.1))), (h_x, .inl (cA 2, 120, .inr (.inl (vp_updL h_x_v (v4 + v6).toNatClampNeg r87028.1)))), (h_y, .inl (cA 2, 120, .inr (.inl (vp_updL h_y_v (v4 + v6).toNatClampNeg r87037.1.toInt64)))), (h_z, .inl (cA 2, 120, .inr (.inl h_z_v))), (h_fault, .inl (cA 0, 3, .inl h_fault_v)), (h_faultAt, .inl (cA 0, 3, .inl h_faultAt_v))]) (w1 := [(h, .inr (5, [.int h_code, .long h_seed, .long r87039.2, .ref h_many, .ref h_sort, .ref h_x, .ref h_y, .ref h_z, .ref h_fault, .ref h_faultAt, .ref h_left, .int h_lefts, .ref h_stays, .ref h_text, .int h_size]))]) hP hD [0] [1, 2, 3, 4, 5, 6, 7] rfl rfl (by decide) (by decide) hk1 hFc hP1 hD1
            have hP : va_P (dC, dI) vwCl [(h, .inr (5, [.int h_code, .long h_seed, .long r87039.2, .ref h_many, .ref h_sort, .ref h_x, .ref h_y, .ref h_z, .ref h_fault, .ref h_faultAt, .ref h_left, .int h_lefts, .ref h_stays, .ref h_text, .int h_size])), (h_many, .inl (cA 0, 3, .inl h_many_v)), (h_sort, .inl (cA 0, 120, .inl (upd h_sort_v (v4 + v6).toNatClampNeg r87026.1))), (h_x, .inl (cA 2, 120, .inr (.inl (vp_updL h_x_v (v4 + v6).toNatClampNeg r87028.1)))), (h_y, .inl (cA 2, 120, .inr (.inl (vp_updL h_y_v (v4 + v6).toNatClampNeg r87037.1.toInt64)))), (h_z, .inl (cA 2, 120, .inr (.inl h_z_v))), (h_fault, .inl (cA 0, 3, .inl h_fault_v)), (h_faultAt, .inl (cA 0, 3, .inl h_faultAt_v))] H1 := hP.sub [7, 0, 1, 2, 3, 4, 5, 6] rfl
            have hD : va_D A [(h, .inr (5, [.int h_code, .long h_seed, .long r87039.2, .ref h_many, .ref h_sort, .ref h_x, .ref h_y, .ref h_z, .ref h_fault, .ref h_faultAt, .ref h_left, .int h_lefts, .ref h_stays, .ref h_text, .int h_size])), (h_many, .inl (cA 0, 3, .inl h_many_v)), (h_sort, .inl (cA 0, 120, .inl (upd h_sort_v (v4 + v6).toNatClampNeg r87026.1))), (h_x, .inl (cA 2, 120, .inr (.inl (vp_updL h_x_v (v4 + v6).toNatClampNeg r87028.1)))), (h_y, .inl (cA 2, 120, .inr (.inl (vp_updL h_y_v (v4 + v6).toNatClampNeg r87037.1.toInt64)))), (h_z, .inl (cA 2, 120, .inr (.inl h_z_v))), (h_fault, .inl (cA 0, 3, .inl h_fault_v)), (h_faultAt, .inl (cA 0, 3, .inl h_faultAt_v))] := hD.sub [7, 0, 1, 2, 3, 4, 5, 6] (by decide) rfl
            generalize H1 = H at hP hS ⊢
            refine lv_i2l hx hb dX5_drawAll_217 rfl ?_
            refine va_last hx hb hK hP hD hS 5 2 rfl rfl hq87027 dX5_drawAll_218 (fun H locs hP hD hS => ?_)
            have hP : va_P (dC, dI) vwCl [(h, .inr (5, [.int h_code, .long h_seed, .long r87039.2, .ref h_many, .ref h_sort, .ref h_x, .ref h_y, .ref h_z, .ref h_fault, .ref h_faultAt, .ref h_left, .int h_lefts, .ref h_stays, .ref h_text, .int h_size])), (h_many, .inl (cA 0, 3, .inl h_many_v)), (h_sort, .inl (cA 0, 120, .inl (upd h_sort_v (v4 + v6).toNatClampNeg r87026.1))), (h_x, .inl (cA 2, 120, .inr (.inl (vp_updL h_x_v (v4 + v6).toNatClampNeg r87028.1)))), (h_y, .inl (cA 2, 120, .inr (.inl (vp_updL h_y_v (v4 + v6).toNatClampNeg r87037.1.toInt64)))), (h_z, .inl (cA 2, 120, .inr (.inl (vp_updL h_z_v (v4 + v6).toNatClampNeg r87039.1.toInt64)))), (h_fault, .inl (cA 0, 3, .inl h_fault_v)), (h_faultAt, .inl (cA 0, 3, .inl h_faultAt_v))] H := hP
            have hD : va_D A [(h, .inr (5, [.int h_code, .long h_seed, .long r87039.2, .ref h_many, .ref h_sort, .ref h_x, .ref h_y, .ref h_z, .ref h_fault, .ref h_faultAt, .ref h_left, .int h_lefts, .ref h_stays, .ref h_text, .int h_size])), (h_many, .inl (cA 0, 3, .inl h_many_v)), (h_sort, .inl (cA 0, 120, .inl (upd h_sort_v (v4 + v6).toNatClampNeg r87026.1))), (h_x, .inl (cA 2, 120, .inr (.inl (vp_updL h_x_v (v4 + v6).toNatClampNeg r87028.1)))), (h_y, .inl (cA 2, 120, .inr (.inl (vp_updL h_y_v (v4 + v6).toNatClampNeg r87037.1.toInt64)))), (h_z, .inl (cA 2, 120, .inr (.inl (vp_updL h_z_v (v4 + v6).toNatClampNeg r87039.1.toInt64)))), (h_fault, .inl (cA 0, 3, .inl h_fault_v)), (h_faultAt, .inl (cA 0, 3, .inl h_faultAt_v))] := hD
            refine lv_iinc (v := v6 + 1) (lv' := [(6, .int (v6 + 1)), (7, .int (v4 + v6)), (0, .ref h), (1, .int p0), (2, .int p1), (4, .int v4), (5, .int v5)]) hx hb dX5_drawAll_219 hl (k := 6) rfl rfl (by decide) rfl (fun ls hl => ?_)
            refine lv_goto (tgt := 86) hx hb dX5_drawAll_222 (by decide) ?_
            exact ih86 _ _ _ ⟨r87039.2, h_many_v, upd h_sort_v (v4 + v6).toNatClampNeg r87026.1, vp_updL h_x_v (v4 + v6).toNatClampNeg r87028.1, vp_updL h_y_v (v4 + v6).toNatClampNeg r87037.1.toInt64, vp_updL h_z_v (v4 + v6).toNatClampNeg r87039.1.toInt64, h_fault_v, h_faultAt_v, v4, v5, v6 + 1, ls, rfl, lv_sub hl [2, 3, 4, 5, 6, 0] rfl, hP, hD, hS, hf⟩
          · have hf := kp_p c87036 hf
            refine lv_aload_n hx hb dX5_drawAll_146 rfl (lv_at hl 1 rfl) ?_
            refine va_get (D := (dC, dI)) (ci := 5) (v := .ref h_y) (C := RX5) (T := TX5) (N := 15) hx hb hts iwX5 hown hK hP 0 rfl rfl 6 (by decide) (hts _ tw_341) (fun _ h9 => h9) rfl dX5_drawAll_147 ?_
            refine lv_iload hx hb dX5_drawAll_150 (lv_at hl 0 rfl) ?_
            refine lv_aload_n hx hb dX5_drawAll_152 rfl (lv_at hl 1 rfl) ?_
            refine va_get (D := (dC, dI)) (ci := 5) (v := .ref h_x) (C := RX5) (T := TX5) (N := 15) hx hb hts iwX5 hown hK hP 0 rfl rfl 5 (by decide) (hts _ tw_340) (fun _ h9 => h9) rfl dX5_drawAll_153 ?_
            refine lv_iload hx hb dX5_drawAll_156 (lv_at hl 0 rfl) ?_
            refine va_lald hx hb hK hP 3 2 rfl rfl hq87027 dX5_drawAll_158 ?_
            refine lv_iload hx hb dX5_drawAll_159 (lv_at hl 6 rfl) ?_
            refine lv_i2l hx hb dX5_drawAll_161 rfl ?_
            refine W.lcmp hx hb dX5_drawAll_162 ?_
            refine lv_if_ne (tgt := 170) hx hb dX5_drawAll_163 (by decide) (fun c87042 => ?_) (fun c87042 => ?_)
            · have hf := kp_n c87042 hf
              refine lv_aload_n hx hb dX5_drawAll_170 rfl (lv_at hl 1 rfl) ?_
              refine va_get (D := (dC, dI)) (ci := 5) (v := .ref h_y) (C := RX5) (T := TX5) (N := 15) hx hb hts iwX5 hown hK hP 0 rfl rfl 6 (by decide) (hts _ tw_341) (fun _ h9 => h9) rfl dX5_drawAll_171 ?_
              refine lv_iload hx hb dX5_drawAll_174 (lv_at hl 4 rfl) ?_
              refine lv_aload_n hx hb dX5_drawAll_176 rfl (lv_at hl 1 rfl) ?_
              refine va_get (D := (dC, dI)) (ci := 5) (v := .ref h_x) (C := RX5) (T := TX5) (N := 15) hx hb hts iwX5 hown hK hP 0 rfl rfl 5 (by decide) (hts _ tw_340) (fun _ h9 => h9) rfl dX5_drawAll_177 ?_
              refine lv_iload hx hb dX5_drawAll_180 (lv_at hl 0 rfl) ?_
              refine va_lald hx hb hK hP 3 2 rfl rfl hq87027 dX5_drawAll_182 ?_
              refine lv_l2i hx hb dX5_drawAll_183 rfl ?_
              refine lv_iadd hx hb dX5_drawAll_184 ?_
              obtain ⟨hq87044, hf⟩ := kp_t hf
              refine va_lald hx hb hK hP 4 2 rfl rfl hq87044 dX5_drawAll_185 ?_
              refine va_last hx hb hK hP hD hS 4 2 rfl rfl hq87027 dX5_drawAll_186 (fun H locs hP hD hS => ?_)
              have hP : va_P (dC, dI) vwCl [(h, .inr (5, [.int h_code, .long h_seed, .long r87028.2, .ref h_many, .ref h_sort, .ref h_x, .ref h_y, .ref h_z, .ref h_fault, .ref h_faultAt, .ref h_left, .int h_lefts, .ref h_stays, .ref h_text, .int h_size])), (h_many, .inl (cA 0, 3, .inl h_many_v)), (h_sort, .inl (cA 0, 120, .inl (upd h_sort_v (v4 + v6).toNatClampNeg r87026.1))), (h_x, .inl (cA 2, 120, .inr (.inl (vp_updL h_x_v (v4 + v6).toNatClampNeg r87028.1)))), (h_y, .inl (cA 2, 120, .inr (.inl (vp_updL h_y_v (v4 + v6).toNatClampNeg (h_y_v (v4 + (((vp_updL h_x_v (v4 + v6).toNatClampNeg r87028.1) (v4 + v6).toNatClampNeg).toInt32)).toNatClampNeg))))), (h_z, .inl (cA 2, 120, .inr (.inl h_z_v))), (h_fault, .inl (cA 0, 3, .inl h_fault_v)), (h_faultAt, .inl (cA 0, 3, .inl h_faultAt_v))] H := hP
              have hD : va_D A [(h, .inr (5, [.int h_code, .long h_seed, .long r87028.2, .ref h_many, .ref h_sort, .ref h_x, .ref h_y, .ref h_z, .ref h_fault, .ref h_faultAt, .ref h_left, .int h_lefts, .ref h_stays, .ref h_text, .int h_size])), (h_many, .inl (cA 0, 3, .inl h_many_v)), (h_sort, .inl (cA 0, 120, .inl (upd h_sort_v (v4 + v6).toNatClampNeg r87026.1))), (h_x, .inl (cA 2, 120, .inr (.inl (vp_updL h_x_v (v4 + v6).toNatClampNeg r87028.1)))), (h_y, .inl (cA 2, 120, .inr (.inl (vp_updL h_y_v (v4 + v6).toNatClampNeg (h_y_v (v4 + (((vp_updL h_x_v (v4 + v6).toNatClampNeg r87028.1) (v4 + v6).toNatClampNeg).toInt32)).toNatClampNeg))))), (h_z, .inl (cA 2, 120, .inr (.inl h_z_v))), (h_fault, .inl (cA 0, 3, .inl h_fault_v)), (h_faultAt, .inl (cA 0, 3, .inl h_faultAt_v))] := hD
              refine lv_goto (tgt := 204) hx hb dX5_drawAll_187 (by decide) ?_
              refine lv_aload_n hx hb dX5_drawAll_204 rfl (lv_at hl 1 rfl) ?_
              refine va_get (D := (dC, dI)) (ci := 5) (v := .ref h_z) (C := RX5) (T := TX5) (N := 15) hx hb hts iwX5 hown hK hP 0 rfl rfl 7 (by decide) (hts _ tw_342) (fun _ h9 => h9) rfl dX5_drawAll_205 ?_
              refine lv_iload hx hb dX5_drawAll_208 (lv_at hl 0 rfl) ?_
              refine lv_aload_n hx hb dX5_drawAll_210 rfl (lv_at hl 1 rfl) ?_
              refine lv_sipush (v := 1000) hx hb dX5_drawAll_211 (by decide) ?_
              obtain ⟨r87046, hr87046, hf⟩ := kp_b hf
              have hPc := hP.sub (ws' := [(h, .inr (5, [.int h_code, .long h_seed, .long r87028.2, .ref h_many, .ref h_sort, .ref h_x, .ref h_y, .ref h_z, .ref h_fault, .ref h_faultAt, .ref h_left, .int h_lefts, .ref h_stays, .ref h_text, .int h_size]))]) [0] rfl
              have hDc := hD.sub (ws' := [(h, .inr (5, [.int h_code, .long h_seed, .long r87028.2, .ref h_many, .ref h_sort, .ref h_x, .ref h_y, .ref h_z, .ref h_fault, .ref h_faultAt, .ref h_left, .int h_lefts, .ref h_stays, .ref h_text, .int h_size]))]) [0] (by decide) rfl
              have hFc := va_free (wc := [(h, .inr (5, [.int h_code, .long h_seed, .long r87028.2, .ref h_many, .ref h_sort, .ref h_x, .ref h_y, .ref h_z, .ref h_fault, .ref h_faultAt, .ref h_left, .int h_lefts, .ref h_stays, .ref h_text, .int h_size]))]) hD hS hA [0] rfl
              refine va_calli (va_runV (As := [.int 1000]) (rest := [.int (v4 + v6), .ref h_z]) ⟨hx, hb, hml, hown, hts⟩ (c_X5_next l dC dI cA tt h h_many h_sort h_x h_y h_z h_fault h_faultAt h_left h_stays h_text H.size h_code h_seed r87028.2 h_lefts h_size 1000 r87046 hr87046) (cwV 1 hts (kq_gV tw_394 tw_396 tw_12 tw_25 tw_397) rfl rfl rfl (by decide +kernel) ⟨Nat.le_of_ble_eq_true rfl, Nat.le_of_ble_eq_true rfl⟩) ⟨kq_blind, va_recv hK hP (ci := 5) (q0 := 0) rfl rfl, kq_pre hG hZ hS hPc hDc hFc⟩ rfl rfl hl.1 rfl (lv_room (Nat.le_of_ble_eq_true rfl)) dX5_drawAll_214 ⟨Nat.le_of_ble_eq_true rfl, Nat.le_of_ble_eq_true rfl⟩) hS (fun q _ h => hFc q h) hFc (fun rv u t H1 locs ht hvm hw hB hz1 hk1 hS => ?_)
              obtain ⟨hP1, hD1⟩ := hB
              rw [ht] at hP1
              have hw := hw.symm
              subst hw
              obtain ⟨hP, hD⟩ := va_join (wr := [(h_many, .inl (cA 0, 3, .inl h_many_v)), (h_sort, .inl (cA 0, 120, .inl (upd h_sort_v (v4 + v6).toNatClampNeg r87026.1))), (h_x, .inl (cA 2, 120, .inr (.inl (vp_updL h_x_v (v4 + v6).toNatClampNeg r87028.1)))), (h_y, .inl (cA 2, 120, .inr (.inl (vp_updL h_y_v (v4 + v6).toNatClampNeg (h_y_v (v4 + (((vp_updL h_x_v (v4 + v6).toNatClampNeg r87028.1) (v4 + v6).toNatClampNeg).toInt32)).toNatClampNeg))))), (h_z, .inl (cA 2, 120, .inr (.inl h_z_v))), (h_fault, .inl (cA 0, 3, .inl h_fault_v)), (h_faultAt, .inl (cA 0, 3, .inl h_faultAt_v))]) (w1 := [(h, .inr (5, [.int h_code, .long h_seed, .long r87046.2, .ref h_many, .ref h_sort, .ref h_x, .ref h_y, .ref h_z, .ref h_fault, .ref h_faultAt, .ref h_left, .int h_lefts, .ref h_stays, .ref h_text, .int h_size]))]) hP hD [0] [1, 2, 3, 4, 5, 6, 7] rfl rfl (by decide) (by decide) hk1 hFc hP1 hD1
              have hP : va_P (dC, dI) vwCl [(h, .inr (5, [.int h_code, .long h_seed, .long r87046.2, .ref h_many, .ref h_sort, .ref h_x, .ref h_y, .ref h_z, .ref h_fault, .ref h_faultAt, .ref h_left, .int h_lefts, .ref h_stays, .ref h_text, .int h_size])), (h_many, .inl (cA 0, 3, .inl h_many_v)), (h_sort, .inl (cA 0, 120, .inl (upd h_sort_v (v4 + v6).toNatClampNeg r87026.1))), (h_x, .inl (cA 2, 120, .inr (.inl (vp_updL h_x_v (v4 + v6).toNatClampNeg r87028.1)))), (h_y, .inl (cA 2, 120, .inr (.inl (vp_updL h_y_v (v4 + v6).toNatClampNeg (h_y_v (v4 + (((vp_updL h_x_v (v4 + v6).toNatClampNeg r87028.1) (v4 + v6).toNatClampNeg).toInt32)).toNatClampNeg))))), (h_z, .inl (cA 2, 120, .inr (.inl h_z_v))), (h_fault, .inl (cA 0, 3, .inl h_fault_v)), (h_faultAt, .inl (cA 0, 3, .inl h_faultAt_v))] H1 := hP.sub [7, 0, 1, 2, 3, 4, 5, 6] rfl
              have hD : va_D A [(h, .inr (5, [.int h_code, .long h_seed, .long r87046.2, .ref h_many, .ref h_sort, .ref h_x, .ref h_y, .ref h_z, .ref h_fault, .ref h_faultAt, .ref h_left, .int h_lefts, .ref h_stays, .ref h_text, .int h_size])), (h_many, .inl (cA 0, 3, .inl h_many_v)), (h_sort, .inl (cA 0, 120, .inl (upd h_sort_v (v4 + v6).toNatClampNeg r87026.1))), (h_x, .inl (cA 2, 120, .inr (.inl (vp_updL h_x_v (v4 + v6).toNatClampNeg r87028.1)))), (h_y, .inl (cA 2, 120, .inr (.inl (vp_updL h_y_v (v4 + v6).toNatClampNeg (h_y_v (v4 + (((vp_updL h_x_v (v4 + v6).toNatClampNeg r87028.1) (v4 + v6).toNatClampNeg).toInt32)).toNatClampNeg))))), (h_z, .inl (cA 2, 120, .inr (.inl h_z_v))), (h_fault, .inl (cA 0, 3, .inl h_fault_v)), (h_faultAt, .inl (cA 0, 3, .inl h_faultAt_v))] := hD.sub [7, 0, 1, 2, 3, 4, 5, 6] (by decide) rfl
              generalize H1 = H at hP hS ⊢
              refine lv_i2l hx hb dX5_drawAll_217 rfl ?_
              refine va_last hx hb hK hP hD hS 5 2 rfl rfl hq87027 dX5_drawAll_218 (fun H locs hP hD hS => ?_)
              have hP : va_P (dC, dI) vwCl [(h, .inr (5, [.int h_code, .long h_seed, .long r87046.2, .ref h_many, .ref h_sort, .ref h_x, .ref h_y, .ref h_z, .ref h_fault, .ref h_faultAt, .ref h_left, .int h_lefts, .ref h_stays, .ref h_text, .int h_size])), (h_many, .inl (cA 0, 3, .inl h_many_v)), (h_sort, .inl (cA 0, 120, .inl (upd h_sort_v (v4 + v6).toNatClampNeg r87026.1))), (h_x, .inl (cA 2, 120, .inr (.inl (vp_updL h_x_v (v4 + v6).toNatClampNeg r87028.1)))), (h_y, .inl (cA 2, 120, .inr (.inl (vp_updL h_y_v (v4 + v6).toNatClampNeg (h_y_v (v4 + (((vp_updL h_x_v (v4 + v6).toNatClampNeg r87028.1) (v4 + v6).toNatClampNeg).toInt32)).toNatClampNeg))))), (h_z, .inl (cA 2, 120, .inr (.inl (vp_updL h_z_v (v4 + v6).toNatClampNeg r87046.1.toInt64)))), (h_fault, .inl (cA 0, 3, .inl h_fault_v)), (h_faultAt, .inl (cA 0, 3, .inl h_faultAt_v))] H := hP
              have hD : va_D A [(h, .inr (5, [.int h_code, .long h_seed, .long r87046.2, .ref h_many, .ref h_sort, .ref h_x, .ref h_y, .ref h_z, .ref h_fault, .ref h_faultAt, .ref h_left, .int h_lefts, .ref h_stays, .ref h_text, .int h_size])), (h_many, .inl (cA 0, 3, .inl h_many_v)), (h_sort, .inl (cA 0, 120, .inl (upd h_sort_v (v4 + v6).toNatClampNeg r87026.1))), (h_x, .inl (cA 2, 120, .inr (.inl (vp_updL h_x_v (v4 + v6).toNatClampNeg r87028.1)))), (h_y, .inl (cA 2, 120, .inr (.inl (vp_updL h_y_v (v4 + v6).toNatClampNeg (h_y_v (v4 + (((vp_updL h_x_v (v4 + v6).toNatClampNeg r87028.1) (v4 + v6).toNatClampNeg).toInt32)).toNatClampNeg))))), (h_z, .inl (cA 2, 120, .inr (.inl (vp_updL h_z_v (v4 + v6).toNatClampNeg r87046.1.toInt64)))), (h_fault, .inl (cA 0, 3, .inl h_fault_v)), (h_faultAt, .inl (cA 0, 3, .inl h_faultAt_v))] := hD
              refine lv_iinc (v := v6 + 1) (lv' := [(6, .int (v6 + 1)), (7, .int (v4 + v6)), (0, .ref h), (1, .int p0), (2, .int p1), (4, .int v4), (5, .int v5)]) hx hb dX5_drawAll_219 hl (k := 6) rfl rfl (by decide) rfl (fun ls hl => ?_)
              refine lv_goto (tgt := 86) hx hb dX5_drawAll_222 (by decide) ?_
              exact ih86 _ _ _ ⟨r87046.2, h_many_v, upd h_sort_v (v4 + v6).toNatClampNeg r87026.1, vp_updL h_x_v (v4 + v6).toNatClampNeg r87028.1, vp_updL h_y_v (v4 + v6).toNatClampNeg (h_y_v (v4 + (((vp_updL h_x_v (v4 + v6).toNatClampNeg r87028.1) (v4 + v6).toNatClampNeg).toInt32)).toNatClampNeg), vp_updL h_z_v (v4 + v6).toNatClampNeg r87046.1.toInt64, h_fault_v, h_faultAt_v, v4, v5, v6 + 1, ls, rfl, lv_sub hl [2, 3, 4, 5, 6, 0] rfl, hP, hD, hS, hf⟩
            · have hf := kp_p c87042 hf
              refine lv_lconst (v := 0) hx hb dX5_drawAll_166 (by decide) ?_
              refine lv_goto (tgt := 186) hx hb dX5_drawAll_167 (by decide) ?_
              refine va_last hx hb hK hP hD hS 4 2 rfl rfl hq87027 dX5_drawAll_186 (fun H locs hP hD hS => ?_)
              have hP : va_P (dC, dI) vwCl [(h, .inr (5, [.int h_code, .long h_seed, .long r87028.2, .ref h_many, .ref h_sort, .ref h_x, .ref h_y, .ref h_z, .ref h_fault, .ref h_faultAt, .ref h_left, .int h_lefts, .ref h_stays, .ref h_text, .int h_size])), (h_many, .inl (cA 0, 3, .inl h_many_v)), (h_sort, .inl (cA 0, 120, .inl (upd h_sort_v (v4 + v6).toNatClampNeg r87026.1))), (h_x, .inl (cA 2, 120, .inr (.inl (vp_updL h_x_v (v4 + v6).toNatClampNeg r87028.1)))), (h_y, .inl (cA 2, 120, .inr (.inl (vp_updL h_y_v (v4 + v6).toNatClampNeg 0)))), (h_z, .inl (cA 2, 120, .inr (.inl h_z_v))), (h_fault, .inl (cA 0, 3, .inl h_fault_v)), (h_faultAt, .inl (cA 0, 3, .inl h_faultAt_v))] H := hP
              have hD : va_D A [(h, .inr (5, [.int h_code, .long h_seed, .long r87028.2, .ref h_many, .ref h_sort, .ref h_x, .ref h_y, .ref h_z, .ref h_fault, .ref h_faultAt, .ref h_left, .int h_lefts, .ref h_stays, .ref h_text, .int h_size])), (h_many, .inl (cA 0, 3, .inl h_many_v)), (h_sort, .inl (cA 0, 120, .inl (upd h_sort_v (v4 + v6).toNatClampNeg r87026.1))), (h_x, .inl (cA 2, 120, .inr (.inl (vp_updL h_x_v (v4 + v6).toNatClampNeg r87028.1)))), (h_y, .inl (cA 2, 120, .inr (.inl (vp_updL h_y_v (v4 + v6).toNatClampNeg 0)))), (h_z, .inl (cA 2, 120, .inr (.inl h_z_v))), (h_fault, .inl (cA 0, 3, .inl h_fault_v)), (h_faultAt, .inl (cA 0, 3, .inl h_faultAt_v))] := hD
              refine lv_goto (tgt := 204) hx hb dX5_drawAll_187 (by decide) ?_
              refine lv_aload_n hx hb dX5_drawAll_204 rfl (lv_at hl 1 rfl) ?_
              refine va_get (D := (dC, dI)) (ci := 5) (v := .ref h_z) (C := RX5) (T := TX5) (N := 15) hx hb hts iwX5 hown hK hP 0 rfl rfl 7 (by decide) (hts _ tw_342) (fun _ h9 => h9) rfl dX5_drawAll_205 ?_
              refine lv_iload hx hb dX5_drawAll_208 (lv_at hl 0 rfl) ?_
              refine lv_aload_n hx hb dX5_drawAll_210 rfl (lv_at hl 1 rfl) ?_
              refine lv_sipush (v := 1000) hx hb dX5_drawAll_211 (by decide) ?_
              obtain ⟨r87049, hr87049, hf⟩ := kp_b hf
              have hPc := hP.sub (ws' := [(h, .inr (5, [.int h_code, .long h_seed, .long r87028.2, .ref h_many, .ref h_sort, .ref h_x, .ref h_y, .ref h_z, .ref h_fault, .ref h_faultAt, .ref h_left, .int h_lefts, .ref h_stays, .ref h_text, .int h_size]))]) [0] rfl
              have hDc := hD.sub (ws' := [(h, .inr (5, [.int h_code, .long h_seed, .long r87028.2, .ref h_many, .ref h_sort, .ref h_x, .ref h_y, .ref h_z, .ref h_fault, .ref h_faultAt, .ref h_left, .int h_lefts, .ref h_stays, .ref h_text, .int h_size]))]) [0] (by decide) rfl
              have hFc := va_free (wc := [(h, .inr (5, [.int h_code, .long h_seed, .long r87028.2, .ref h_many, .ref h_sort, .ref h_x, .ref h_y, .ref h_z, .ref h_fault, .ref h_faultAt, .ref h_left, .int h_lefts, .ref h_stays, .ref h_text, .int h_size]))]) hD hS hA [0] rfl
              refine va_calli (va_runV (As := [.int 1000]) (rest := [.int (v4 + v6), .ref h_z]) ⟨hx, hb, hml, hown, hts⟩ (c_X5_next l dC dI cA tt h h_many h_sort h_x h_y h_z h_fault h_faultAt h_left h_stays h_text H.size h_code h_seed r87028.2 h_lefts h_size 1000 r87049 hr87049) (cwV 1 hts (kq_gV tw_394 tw_396 tw_12 tw_25 tw_397) rfl rfl rfl (by decide +kernel) ⟨Nat.le_of_ble_eq_true rfl, Nat.le_of_ble_eq_true rfl⟩) ⟨kq_blind, va_recv hK hP (ci := 5) (q0 := 0) rfl rfl, kq_pre hG hZ hS hPc hDc hFc⟩ rfl rfl hl.1 rfl (lv_room (Nat.le_of_ble_eq_true rfl)) dX5_drawAll_214 ⟨Nat.le_of_ble_eq_true rfl, Nat.le_of_ble_eq_true rfl⟩) hS (fun q _ h => hFc q h) hFc (fun rv u t H1 locs ht hvm hw hB hz1 hk1 hS => ?_)
              obtain ⟨hP1, hD1⟩ := hB
              rw [ht] at hP1
              have hw := hw.symm
              subst hw
              obtain ⟨hP, hD⟩ := va_join (wr := [(h_many, .inl (cA 0, 3, .inl h_many_v)), (h_sort, .inl (cA 0, 120, .inl (upd h_sort_v (v4 + v6).toNatClampNeg r87026.1))), (h_x, .inl (cA 2, 120, .inr (.inl (vp_updL h_x_v (v4 + v6).toNatClampNeg r87028.1)))), (h_y, .inl (cA 2, 120, .inr (.inl (vp_updL h_y_v (v4 + v6).toNatClampNeg 0)))), (h_z, .inl (cA 2, 120, .inr (.inl h_z_v))), (h_fault, .inl (cA 0, 3, .inl h_fault_v)), (h_faultAt, .inl (cA 0, 3, .inl h_faultAt_v))]) (w1 := [(h, .inr (5, [.int h_code, .long h_seed, .long r87049.2, .ref h_many, .ref h_sort, .ref h_x, .ref h_y, .ref h_z, .ref h_fault, .ref h_faultAt, .ref h_left, .int h_lefts, .ref h_stays, .ref h_text, .int h_size]))]) hP hD [0] [1, 2, 3, 4, 5, 6, 7] rfl rfl (by decide) (by decide) hk1 hFc hP1 hD1
              have hP : va_P (dC, dI) vwCl [(h, .inr (5, [.int h_code, .long h_seed, .long r87049.2, .ref h_many, .ref h_sort, .ref h_x, .ref h_y, .ref h_z, .ref h_fault, .ref h_faultAt, .ref h_left, .int h_lefts, .ref h_stays, .ref h_text, .int h_size])), (h_many, .inl (cA 0, 3, .inl h_many_v)), (h_sort, .inl (cA 0, 120, .inl (upd h_sort_v (v4 + v6).toNatClampNeg r87026.1))), (h_x, .inl (cA 2, 120, .inr (.inl (vp_updL h_x_v (v4 + v6).toNatClampNeg r87028.1)))), (h_y, .inl (cA 2, 120, .inr (.inl (vp_updL h_y_v (v4 + v6).toNatClampNeg 0)))), (h_z, .inl (cA 2, 120, .inr (.inl h_z_v))), (h_fault, .inl (cA 0, 3, .inl h_fault_v)), (h_faultAt, .inl (cA 0, 3, .inl h_faultAt_v))] H1 := hP.sub [7, 0, 1, 2, 3, 4, 5, 6] rfl
              have hD : va_D A [(h, .inr (5, [.int h_code, .long h_seed, .long r87049.2, .ref h_many, .ref h_sort, .ref h_x, .ref h_y, .ref h_z, .ref h_fault, .ref h_faultAt, .ref h_left, .int h_lefts, .ref h_stays, .ref h_text, .int h_size])), (h_many, .inl (cA 0, 3, .inl h_many_v)), (h_sort, .inl (cA 0, 120, .inl (upd h_sort_v (v4 + v6).toNatClampNeg r87026.1))), (h_x, .inl (cA 2, 120, .inr (.inl (vp_updL h_x_v (v4 + v6).toNatClampNeg r87028.1)))), (h_y, .inl (cA 2, 120, .inr (.inl (vp_updL h_y_v (v4 + v6).toNatClampNeg 0)))), (h_z, .inl (cA 2, 120, .inr (.inl h_z_v))), (h_fault, .inl (cA 0, 3, .inl h_fault_v)), (h_faultAt, .inl (cA 0, 3, .inl h_faultAt_v))] := hD.sub [7, 0, 1, 2, 3, 4, 5, 6] (by decide) rfl
              generalize H1 = H at hP hS ⊢
              refine lv_i2l hx hb dX5_drawAll_217 rfl ?_
              refine va_last hx hb hK hP hD hS 5 2 rfl rfl hq87027 dX5_drawAll_218 (fun H locs hP hD hS => ?_)
              have hP : va_P (dC, dI) vwCl [(h, .inr (5, [.int h_code, .long h_seed, .long r87049.2, .ref h_many, .ref h_sort, .ref h_x, .ref h_y, .ref h_z, .ref h_fault, .ref h_faultAt, .ref h_left, .int h_lefts, .ref h_stays, .ref h_text, .int h_size])), (h_many, .inl (cA 0, 3, .inl h_many_v)), (h_sort, .inl (cA 0, 120, .inl (upd h_sort_v (v4 + v6).toNatClampNeg r87026.1))), (h_x, .inl (cA 2, 120, .inr (.inl (vp_updL h_x_v (v4 + v6).toNatClampNeg r87028.1)))), (h_y, .inl (cA 2, 120, .inr (.inl (vp_updL h_y_v (v4 + v6).toNatClampNeg 0)))), (h_z, .inl (cA 2, 120, .inr (.inl (vp_updL h_z_v (v4 + v6).toNatClampNeg r87049.1.toInt64)))), (h_fault, .inl (cA 0, 3, .inl h_fault_v)), (h_faultAt, .inl (cA 0, 3, .inl h_faultAt_v))] H := hP
              have hD : va_D A [(h, .inr (5, [.int h_code, .long h_seed, .long r87049.2, .ref h_many, .ref h_sort, .ref h_x, .ref h_y, .ref h_z, .ref h_fault, .ref h_faultAt, .ref h_left, .int h_lefts, .ref h_stays, .ref h_text, .int h_size])), (h_many, .inl (cA 0, 3, .inl h_many_v)), (h_sort, .inl (cA 0, 120, .inl (upd h_sort_v (v4 + v6).toNatClampNeg r87026.1))), (h_x, .inl (cA 2, 120, .inr (.inl (vp_updL h_x_v (v4 + v6).toNatClampNeg r87028.1)))), (h_y, .inl (cA 2, 120, .inr (.inl (vp_updL h_y_v (v4 + v6).toNatClampNeg 0)))), (h_z, .inl (cA 2, 120, .inr (.inl (vp_updL h_z_v (v4 + v6).toNatClampNeg r87049.1.toInt64)))), (h_fault, .inl (cA 0, 3, .inl h_fault_v)), (h_faultAt, .inl (cA 0, 3, .inl h_faultAt_v))] := hD
              refine lv_iinc (v := v6 + 1) (lv' := [(6, .int (v6 + 1)), (7, .int (v4 + v6)), (0, .ref h), (1, .int p0), (2, .int p1), (4, .int v4), (5, .int v5)]) hx hb dX5_drawAll_219 hl (k := 6) rfl rfl (by decide) rfl (fun ls hl => ?_)
              refine lv_goto (tgt := 86) hx hb dX5_drawAll_222 (by decide) ?_
              exact ih86 _ _ _ ⟨r87049.2, h_many_v, upd h_sort_v (v4 + v6).toNatClampNeg r87026.1, vp_updL h_x_v (v4 + v6).toNatClampNeg r87028.1, vp_updL h_y_v (v4 + v6).toNatClampNeg 0, vp_updL h_z_v (v4 + v6).toNatClampNeg r87049.1.toInt64, h_fault_v, h_faultAt_v, v4, v5, v6 + 1, ls, rfl, lv_sub hl [2, 3, 4, 5, 6, 0] rfl, hP, hD, hS, hf⟩
  · have hf := kp_p c8 hf
    have eo := Option.some.inj hf
    subst eo
    exact W.vret hx hb hr (fun t ht hW => ⟨⟨(), rfl, trivial, kq_mk ht hP hD⟩, hS.F ht⟩) hS.2.2 dX5_drawAll_63

def f_X5_draw_L46 (p0 : Int32) (p1 : Int32) : Nat → Int32 → Int64 → Int32 → (Nat → Int32) → (Nat → Int32) → (Nat → Int64) → (Nat → Int64) → (Nat → Int64) → (Nat → Int32) → (Nat → Int32) → (Nat → Int32) → Int32 → Option (Int32 × Int32 × Int64 × Int32 × (Nat → Int32) × (Nat → Int32) × (Nat → Int64) × (Nat → Int64) × (Nat → Int64) × (Nat → Int32) × (Nat → Int32) × (Nat → Int32))
  | 0, _, _, _, _, _, _, _, _, _, _, _, _ => none
  | n46 + 1, h_code, h_state, h_lefts, h_many_v, h_sort_v, h_x_v, h_y_v, h_z_v, h_fault_v, h_faultAt_v, h_left_v, v3 =>
    (if h_lefts ≤ v3 then
    some ((h_many_v (0 : Int32).toNatClampNeg, h_code, h_state, h_lefts, h_many_v, h_sort_v, h_x_v, h_y_v, h_z_v, h_fault_v, h_faultAt_v, h_left_v))
    else
    if v3 < 0 ∨ 40 ≤ v3.toNatClampNeg then none else
    f_X5_draw_L46 p0 p1 n46 h_code h_state h_lefts h_many_v h_sort_v h_x_v h_y_v h_z_v h_fault_v h_faultAt_v (upd h_left_v v3.toNatClampNeg v3) (v3 + 1))
theorem e_X5_draw_L46 (p0 : Int32) (p1 : Int32) (n46 : Nat) (h_code : Int32) (h_state : Int64) (h_lefts : Int32) (h_many_v : Nat → Int32) (h_sort_v : Nat → Int32) (h_x_v : Nat → Int64) (h_y_v : Nat → Int64) (h_z_v : Nat → Int64) (h_fault_v : Nat → Int32) (h_faultAt_v : Nat → Int32) (h_left_v : Nat → Int32) (v3 : Int32) : f_X5_draw_L46 p0 p1 (n46 + 1) h_code h_state h_lefts h_many_v h_sort_v h_x_v h_y_v h_z_v h_fault_v h_faultAt_v h_left_v v3 =
    ((if h_lefts ≤ v3 then
    some ((h_many_v (0 : Int32).toNatClampNeg, h_code, h_state, h_lefts, h_many_v, h_sort_v, h_x_v, h_y_v, h_z_v, h_fault_v, h_faultAt_v, h_left_v))
    else
    if v3 < 0 ∨ 40 ≤ v3.toNatClampNeg then none else
    f_X5_draw_L46 p0 p1 n46 h_code h_state h_lefts h_many_v h_sort_v h_x_v h_y_v h_z_v h_fault_v h_faultAt_v (upd h_left_v v3.toNatClampNeg v3) (v3 + 1))) := rfl
def f_X5_draw (h_code : Int32) (h_state : Int64) (h_lefts : Int32) (h_many_v : Nat → Int32) (h_sort_v : Nat → Int32) (h_x_v : Nat → Int64) (h_y_v : Nat → Int64) (h_z_v : Nat → Int64) (h_fault_v : Nat → Int32) (h_faultAt_v : Nat → Int32) (h_left_v : Nat → Int32) (p0 : Int32) (p1 : Int32) : Option (Int32 × Int32 × Int64 × Int32 × (Nat → Int32) × (Nat → Int32) × (Nat → Int64) × (Nat → Int64) × (Nat → Int64) × (Nat → Int32) × (Nat → Int32) × (Nat → Int32)) :=
    (if p0 < 0 then
    some (((-1), 0, h_state, h_lefts, h_many_v, h_sort_v, h_x_v, h_y_v, h_z_v, h_fault_v, h_faultAt_v, h_left_v))
    else
    (if p0 ≤ 5 then
    (f_X5_none p0 p1).bind fun r3 =>
    (if r3 = 0 then
    (f_X5_drawAll h_state h_many_v h_sort_v h_x_v h_y_v h_z_v h_fault_v h_faultAt_v 0 p0 p1).bind fun r5 =>
    f_X5_draw_L46 p0 p1 64 0 r5.1 (r5.2.1 (0 : Int32).toNatClampNeg) r5.2.1 r5.2.2.1 r5.2.2.2.1 r5.2.2.2.2.1 r5.2.2.2.2.2.1 r5.2.2.2.2.2.2.1 r5.2.2.2.2.2.2.2 h_left_v 0
    else
    some (((-2), 0, h_state, h_lefts, h_many_v, h_sort_v, h_x_v, h_y_v, h_z_v, h_fault_v, h_faultAt_v, h_left_v)))
    else
    some (((-1), 0, h_state, h_lefts, h_many_v, h_sort_v, h_x_v, h_y_v, h_z_v, h_fault_v, h_faultAt_v, h_left_v))))
set_option maxHeartbeats 4000000 in
set_option maxRecDepth 100000 in
theorem c_X5_draw (l : Launch) (dC : Nat → ClassId) (dI : Nat → Nat → Nat) (cA : Nat → ClassId) (tt : Nat → Nat) (h h_many h_sort h_x h_y h_z h_fault h_faultAt h_left h_stays h_text : Nat) (sz : Nat) (h_code : Int32) (h_seed : Int64) (h_state : Int64) (h_lefts : Int32) (h_size : Int32) (h_many_v : Nat → Int32) (h_sort_v : Nat → Int32) (h_x_v : Nat → Int64) (h_y_v : Nat → Int64) (h_z_v : Nat → Int64) (h_fault_v : Nat → Int32) (h_faultAt_v : Nat → Int32) (h_left_v : Nat → Int32) (p0 : Int32) (p1 : Int32) (o : Int32 × Int32 × Int64 × Int32 × (Nat → Int32) × (Nat → Int32) × (Nat → Int64) × (Nat → Int64) × (Nat → Int64) × (Nat → Int32) × (Nat → Int32) × (Nat → Int32)) (hf : f_X5_draw h_code h_state h_lefts h_many_v h_sort_v h_x_v h_y_v h_z_v h_fault_v h_faultAt_v h_left_v p0 p1 = some o) : Met l yX5_draw wX5_draw ({ frames := 3, cells := 0, slots := 0, locals := 71 }) (kq_Pc dC dI cA tt [.ref h, .int p0, .int p1] [(h, .inr (5, [.int h_code, .long h_seed, .long h_state, .ref h_many, .ref h_sort, .ref h_x, .ref h_y, .ref h_z, .ref h_fault, .ref h_faultAt, .ref h_left, .int h_lefts, .ref h_stays, .ref h_text, .int h_size])), (h_many, .inl (cA 0, 3, .inl h_many_v)), (h_sort, .inl (cA 0, 120, .inl h_sort_v)), (h_x, .inl (cA 2, 120, .inr (.inl h_x_v))), (h_y, .inl (cA 2, 120, .inr (.inl h_y_v))), (h_z, .inl (cA 2, 120, .inr (.inl h_z_v))), (h_fault, .inl (cA 0, 3, .inl h_fault_v)), (h_faultAt, .inl (cA 0, 3, .inl h_faultAt_v)), (h_left, .inl (cA 0, 40, .inl h_left_v))] sz) (va_Qi (fun r (_ : Unit) => r = o.1) (fun _ t => kq_B dC dI [(h, .inr (5, [.int o.2.1, .long h_seed, .long o.2.2.1, .ref h_many, .ref h_sort, .ref h_x, .ref h_y, .ref h_z, .ref h_fault, .ref h_faultAt, .ref h_left, .int o.2.2.2.1, .ref h_stays, .ref h_text, .int h_size])), (h_many, .inl (cA 0, 3, .inl o.2.2.2.2.1)), (h_sort, .inl (cA 0, 120, .inl o.2.2.2.2.2.1)), (h_x, .inl (cA 2, 120, .inr (.inl o.2.2.2.2.2.2.1))), (h_y, .inl (cA 2, 120, .inr (.inl o.2.2.2.2.2.2.2.1))), (h_z, .inl (cA 2, 120, .inr (.inl o.2.2.2.2.2.2.2.2.1))), (h_fault, .inl (cA 0, 3, .inl o.2.2.2.2.2.2.2.2.2.1)), (h_faultAt, .inl (cA 0, 3, .inl o.2.2.2.2.2.2.2.2.2.2.1)), (h_left, .inl (cA 0, 40, .inl o.2.2.2.2.2.2.2.2.2.2.2))] (va_A [(h, .inr (5, [.int h_code, .long h_seed, .long h_state, .ref h_many, .ref h_sort, .ref h_x, .ref h_y, .ref h_z, .ref h_fault, .ref h_faultAt, .ref h_left, .int h_lefts, .ref h_stays, .ref h_text, .int h_size])), (h_many, .inl (cA 0, 3, .inl h_many_v)), (h_sort, .inl (cA 0, 120, .inl h_sort_v)), (h_x, .inl (cA 2, 120, .inr (.inl h_x_v))), (h_y, .inl (cA 2, 120, .inr (.inl h_y_v))), (h_z, .inl (cA 2, 120, .inr (.inl h_z_v))), (h_fault, .inl (cA 0, 3, .inl h_fault_v)), (h_faultAt, .inl (cA 0, 3, .inl h_faultAt_v)), (h_left, .inl (cA 0, 40, .inl h_left_v))] sz) t) (va_A [(h, .inr (5, [.int h_code, .long h_seed, .long h_state, .ref h_many, .ref h_sort, .ref h_x, .ref h_y, .ref h_z, .ref h_fault, .ref h_faultAt, .ref h_left, .int h_lefts, .ref h_stays, .ref h_text, .int h_size])), (h_many, .inl (cA 0, 3, .inl h_many_v)), (h_sort, .inl (cA 0, 120, .inl h_sort_v)), (h_x, .inl (cA 2, 120, .inr (.inl h_x_v))), (h_y, .inl (cA 2, 120, .inr (.inl h_y_v))), (h_z, .inl (cA 2, 120, .inr (.inl h_z_v))), (h_fault, .inl (cA 0, 3, .inl h_fault_v)), (h_faultAt, .inl (cA 0, 3, .inl h_faultAt_v)), (h_left, .inl (cA 0, 40, .inl h_left_v))] sz)) 0 0 (va_A [(h, .inr (5, [.int h_code, .long h_seed, .long h_state, .ref h_many, .ref h_sort, .ref h_x, .ref h_y, .ref h_z, .ref h_fault, .ref h_faultAt, .ref h_left, .int h_lefts, .ref h_stays, .ref h_text, .int h_size])), (h_many, .inl (cA 0, 3, .inl h_many_v)), (h_sort, .inl (cA 0, 120, .inl h_sort_v)), (h_x, .inl (cA 2, 120, .inr (.inl h_x_v))), (h_y, .inl (cA 2, 120, .inr (.inl h_y_v))), (h_z, .inl (cA 2, 120, .inr (.inl h_z_v))), (h_fault, .inl (cA 0, 3, .inl h_fault_v)), (h_faultAt, .inl (cA 0, 3, .inl h_faultAt_v)), (h_left, .inl (cA 0, 40, .inl h_left_v))] sz) := by
  refine Met.ofW (cc := cX5_draw) (maxL := 4) (ret := (some .int)) (by decide) rfl ?_
  intro p e s m args below meth c s₁ B hml hv
  obtain ⟨rfl, hsz, hP, hD0, hG, hZ⟩ := hv
  have hx := B.exec
  have hb := B.bytes
  have hr := B.returns
  have hts : ∀ w ∈ kq_T, w.before _ s = true := fun w h => atoms_spec (ws := wX5_draw) B.pre w (List.mem_cons_of_mem _ h)
  have hown : s.vm.findClass RX5 = some m.cls := findClass_of_methodNamed B.named
  have hlocks := B.notSynchronized
  have hK := hG.1
  subst hsz
  have hD := hD0.self (sz := s.heap.size)
  generalize hAe : va_A [(h, .inr (5, [.int h_code, .long h_seed, .long h_state, .ref h_many, .ref h_sort, .ref h_x, .ref h_y, .ref h_z, .ref h_fault, .ref h_faultAt, .ref h_left, .int h_lefts, .ref h_stays, .ref h_text, .int h_size])), (h_many, .inl (cA 0, 3, .inl h_many_v)), (h_sort, .inl (cA 0, 120, .inl h_sort_v)), (h_x, .inl (cA 2, 120, .inr (.inl h_x_v))), (h_y, .inl (cA 2, 120, .inr (.inl h_y_v))), (h_z, .inl (cA 2, 120, .inr (.inl h_z_v))), (h_fault, .inl (cA 0, 3, .inl h_fault_v)), (h_faultAt, .inl (cA 0, 3, .inl h_faultAt_v)), (h_left, .inl (cA 0, 40, .inl h_left_v))] s.heap.size = A at hD hZ ⊢
  have hA : ∀ q : Nat, s.heap.size ≤ q → A q := fun q h => by rw [← hAe]; exact Or.inr h
  have hl := lv_entry [.ref h, .int p0, .int p1] (n := 4) (Nat.le_of_ble_eq_true rfl)
  rw [lg_entry_eq]
  generalize (lg_sl [.ref h, .int p0, .int p1] ++ List.replicate (4 - (lg_sl [.ref h, .int p0, .int p1]).length) Slot.unset).toArray = ls at hl ⊢
  have hl : lv_has ls 4 [(0, .ref h), (1, .int p0), (2, .int p1)] := hl
  obtain ⟨H, hHe⟩ : ∃ H : Heap, H = s.heap := ⟨_, rfl⟩
  have hP : va_P (dC, dI) vwCl [(h, .inr (5, [.int h_code, .long h_seed, .long h_state, .ref h_many, .ref h_sort, .ref h_x, .ref h_y, .ref h_z, .ref h_fault, .ref h_faultAt, .ref h_left, .int h_lefts, .ref h_stays, .ref h_text, .int h_size])), (h_many, .inl (cA 0, 3, .inl h_many_v)), (h_sort, .inl (cA 0, 120, .inl h_sort_v)), (h_x, .inl (cA 2, 120, .inr (.inl h_x_v))), (h_y, .inl (cA 2, 120, .inr (.inl h_y_v))), (h_z, .inl (cA 2, 120, .inr (.inl h_z_v))), (h_fault, .inl (cA 0, 3, .inl h_fault_v)), (h_faultAt, .inl (cA 0, 3, .inl h_faultAt_v)), (h_left, .inl (cA 0, 40, .inl h_left_v))] H := by rw [hHe]; exact hP
  have hS : va_S A s.heap H [] := by rw [hHe]; exact va_S.rf
  rw [← hHe]
  unfold f_X5_draw at hf
  refine lv_aload_n hx hb dX5_draw_0 rfl (lv_at hl 0 rfl) ?_
  refine lv_iconst (v := 0) hx hb dX5_draw_1 (by decide) ?_
  refine va_put (D := (dC, dI)) (ci := 5) (v := .int 0) (ty := (.int)) (C := RX5) (T := TX5) (N := 15) hx hb hts iwX5 tyX5 tyX5_ok nmX5 hown hK hP hD hS 0 rfl rfl 0 (by decide) (hts _ tw_335) (fun _ h9 => h9) rfl (by decide +kernel) rfl rfl (Nat.le_of_ble_eq_true rfl) dX5_draw_2 (fun H locs hP hD hS => ?_)
  have hP : va_P (dC, dI) vwCl [(h, .inr (5, [.int 0, .long h_seed, .long h_state, .ref h_many, .ref h_sort, .ref h_x, .ref h_y, .ref h_z, .ref h_fault, .ref h_faultAt, .ref h_left, .int h_lefts, .ref h_stays, .ref h_text, .int h_size])), (h_many, .inl (cA 0, 3, .inl h_many_v)), (h_sort, .inl (cA 0, 120, .inl h_sort_v)), (h_x, .inl (cA 2, 120, .inr (.inl h_x_v))), (h_y, .inl (cA 2, 120, .inr (.inl h_y_v))), (h_z, .inl (cA 2, 120, .inr (.inl h_z_v))), (h_fault, .inl (cA 0, 3, .inl h_fault_v)), (h_faultAt, .inl (cA 0, 3, .inl h_faultAt_v)), (h_left, .inl (cA 0, 40, .inl h_left_v))] H := hP
  have hD : va_D A [(h, .inr (5, [.int 0, .long h_seed, .long h_state, .ref h_many, .ref h_sort, .ref h_x, .ref h_y, .ref h_z, .ref h_fault, .ref h_faultAt, .ref h_left, .int h_lefts, .ref h_stays, .ref h_text, .int h_size])), (h_many, .inl (cA 0, 3, .inl h_many_v)), (h_sort, .inl (cA 0, 120, .inl h_sort_v)), (h_x, .inl (cA 2, 120, .inr (.inl h_x_v))), (h_y, .inl (cA 2, 120, .inr (.inl h_y_v))), (h_z, .inl (cA 2, 120, .inr (.inl h_z_v))), (h_fault, .inl (cA 0, 3, .inl h_fault_v)), (h_faultAt, .inl (cA 0, 3, .inl h_faultAt_v)), (h_left, .inl (cA 0, 40, .inl h_left_v))] := hD
  refine lv_iload_n hx hb dX5_draw_5 rfl (lv_at hl 1 rfl) ?_
  refine lv_if_lt (tgt := 14) hx hb dX5_draw_6 (by decide) (fun c1 => ?_) (fun c1 => ?_)
  · have hf := kp_p c1 hf
    refine lv_iconst (v := (-1)) hx hb dX5_draw_14 (by decide) ?_
    have eo := Option.some.inj hf
    subst eo
    exact W.iret (v := (-1)) hx hb hr (fun t ht hW => ⟨⟨_, (), rfl, rfl, kq_mk ht hP hD⟩, hS.F ht⟩) hS.2.2 dX5_draw_15
  · have hf := kp_n c1 hf
    refine lv_iload_n hx hb dX5_draw_9 rfl (lv_at hl 1 rfl) ?_
    refine lv_iconst (v := 5) hx hb dX5_draw_10 (by decide) ?_
    refine lv_icmp_le (tgt := 16) hx hb dX5_draw_11 (by decide) (fun c2 => ?_) (fun c2 => ?_)
    · have hf := kp_p c2 hf
      refine lv_iload_n hx hb dX5_draw_16 rfl (lv_at hl 1 rfl) ?_
      refine lv_iload_n hx hb dX5_draw_17 rfl (lv_at hl 2 rfl) ?_
      obtain ⟨r3, hr3, hf⟩ := kp_b hf
      have hPc := hP.sub (ws' := []) [] rfl
      have hDc := hD.sub (ws' := []) [] (by decide) rfl
      have hFc := va_free (wc := []) hD hS hA [] rfl
      refine va_calli (va_runS (As := [.int p0, .int p1]) (rest := []) ⟨hx, hb, hml, hown, hts⟩ (c_X5_none l dC dI cA tt H.size p0 p1 r3 hr3) (va_cwS 2 hts (kq_gS tw_387 tw_388 tw_25 tw_389) rfl rfl rfl (by decide +kernel) ⟨Nat.le_of_ble_eq_true rfl, Nat.le_of_ble_eq_true rfl⟩) ⟨kq_blind, kq_pre hG hZ hS hPc hDc hFc⟩ rfl rfl hl.1 rfl (lv_room (Nat.le_of_ble_eq_true rfl)) dX5_draw_18 ⟨Nat.le_of_ble_eq_true rfl, Nat.le_of_ble_eq_true rfl⟩) hS (fun q _ h => hFc q h) hFc (fun rv u t H1 locs ht hvm hw hB hz1 hk1 hS => ?_)
      obtain ⟨hP1, hD1⟩ := hB
      rw [ht] at hP1
      have hw := hw.symm
      subst hw
      obtain ⟨hP, hD⟩ := va_join (wr := [(h, .inr (5, [.int 0, .long h_seed, .long h_state, .ref h_many, .ref h_sort, .ref h_x, .ref h_y, .ref h_z, .ref h_fault, .ref h_faultAt, .ref h_left, .int h_lefts, .ref h_stays, .ref h_text, .int h_size])), (h_many, .inl (cA 0, 3, .inl h_many_v)), (h_sort, .inl (cA 0, 120, .inl h_sort_v)), (h_x, .inl (cA 2, 120, .inr (.inl h_x_v))), (h_y, .inl (cA 2, 120, .inr (.inl h_y_v))), (h_z, .inl (cA 2, 120, .inr (.inl h_z_v))), (h_fault, .inl (cA 0, 3, .inl h_fault_v)), (h_faultAt, .inl (cA 0, 3, .inl h_faultAt_v)), (h_left, .inl (cA 0, 40, .inl h_left_v))]) (w1 := []) hP hD [] [0, 1, 2, 3, 4, 5, 6, 7, 8] rfl rfl (by decide) (by decide) hk1 hFc hP1 hD1
      have hP : va_P (dC, dI) vwCl [(h, .inr (5, [.int 0, .long h_seed, .long h_state, .ref h_many, .ref h_sort, .ref h_x, .ref h_y, .ref h_z, .ref h_fault, .ref h_faultAt, .ref h_left, .int h_lefts, .ref h_stays, .ref h_text, .int h_size])), (h_many, .inl (cA 0, 3, .inl h_many_v)), (h_sort, .inl (cA 0, 120, .inl h_sort_v)), (h_x, .inl (cA 2, 120, .inr (.inl h_x_v))), (h_y, .inl (cA 2, 120, .inr (.inl h_y_v))), (h_z, .inl (cA 2, 120, .inr (.inl h_z_v))), (h_fault, .inl (cA 0, 3, .inl h_fault_v)), (h_faultAt, .inl (cA 0, 3, .inl h_faultAt_v)), (h_left, .inl (cA 0, 40, .inl h_left_v))] H1 := hP.sub [0, 1, 2, 3, 4, 5, 6, 7, 8] rfl
      have hD : va_D A [(h, .inr (5, [.int 0, .long h_seed, .long h_state, .ref h_many, .ref h_sort, .ref h_x, .ref h_y, .ref h_z, .ref h_fault, .ref h_faultAt, .ref h_left, .int h_lefts, .ref h_stays, .ref h_text, .int h_size])), (h_many, .inl (cA 0, 3, .inl h_many_v)), (h_sort, .inl (cA 0, 120, .inl h_sort_v)), (h_x, .inl (cA 2, 120, .inr (.inl h_x_v))), (h_y, .inl (cA 2, 120, .inr (.inl h_y_v))), (h_z, .inl (cA 2, 120, .inr (.inl h_z_v))), (h_fault, .inl (cA 0, 3, .inl h_fault_v)), (h_faultAt, .inl (cA 0, 3, .inl h_faultAt_v)), (h_left, .inl (cA 0, 40, .inl h_left_v))] := hD.sub [0, 1, 2, 3, 4, 5, 6, 7, 8] (by decide) rfl
      generalize H1 = H at hP hS ⊢
      refine lv_if_eq (tgt := 27) hx hb dX5_draw_21 (by decide) (fun c4 => ?_) (fun c4 => ?_)
      · have hf := kp_p c4 hf
        refine lv_aload_n hx hb dX5_draw_27 rfl (lv_at hl 0 rfl) ?_
        refine lv_iconst (v := 0) hx hb dX5_draw_28 (by decide) ?_
        refine lv_iload_n hx hb dX5_draw_29 rfl (lv_at hl 1 rfl) ?_
        refine lv_iload_n hx hb dX5_draw_30 rfl (lv_at hl 2 rfl) ?_
        obtain ⟨r5, hr5, hf⟩ := kp_b hf
        have hPc := hP.sub (ws' := [(h, .inr (5, [.int 0, .long h_seed, .long h_state, .ref h_many, .ref h_sort, .ref h_x, .ref h_y, .ref h_z, .ref h_fault, .ref h_faultAt, .ref h_left, .int h_lefts, .ref h_stays, .ref h_text, .int h_size])), (h_many, .inl (cA 0, 3, .inl h_many_v)), (h_sort, .inl (cA 0, 120, .inl h_sort_v)), (h_x, .inl (cA 2, 120, .inr (.inl h_x_v))), (h_y, .inl (cA 2, 120, .inr (.inl h_y_v))), (h_z, .inl (cA 2, 120, .inr (.inl h_z_v))), (h_fault, .inl (cA 0, 3, .inl h_fault_v)), (h_faultAt, .inl (cA 0, 3, .inl h_faultAt_v))]) [0, 1, 2, 3, 4, 5, 6, 7] rfl
        have hDc := hD.sub (ws' := [(h, .inr (5, [.int 0, .long h_seed, .long h_state, .ref h_many, .ref h_sort, .ref h_x, .ref h_y, .ref h_z, .ref h_fault, .ref h_faultAt, .ref h_left, .int h_lefts, .ref h_stays, .ref h_text, .int h_size])), (h_many, .inl (cA 0, 3, .inl h_many_v)), (h_sort, .inl (cA 0, 120, .inl h_sort_v)), (h_x, .inl (cA 2, 120, .inr (.inl h_x_v))), (h_y, .inl (cA 2, 120, .inr (.inl h_y_v))), (h_z, .inl (cA 2, 120, .inr (.inl h_z_v))), (h_fault, .inl (cA 0, 3, .inl h_fault_v)), (h_faultAt, .inl (cA 0, 3, .inl h_faultAt_v))]) [0, 1, 2, 3, 4, 5, 6, 7] (by decide) rfl
        have hFc := va_free (wc := [(h, .inr (5, [.int 0, .long h_seed, .long h_state, .ref h_many, .ref h_sort, .ref h_x, .ref h_y, .ref h_z, .ref h_fault, .ref h_faultAt, .ref h_left, .int h_lefts, .ref h_stays, .ref h_text, .int h_size])), (h_many, .inl (cA 0, 3, .inl h_many_v)), (h_sort, .inl (cA 0, 120, .inl h_sort_v)), (h_x, .inl (cA 2, 120, .inr (.inl h_x_v))), (h_y, .inl (cA 2, 120, .inr (.inl h_y_v))), (h_z, .inl (cA 2, 120, .inr (.inl h_z_v))), (h_fault, .inl (cA 0, 3, .inl h_fault_v)), (h_faultAt, .inl (cA 0, 3, .inl h_faultAt_v))]) hD hS hA [0, 1, 2, 3, 4, 5, 6, 7] rfl
        refine va_callv (va_runV (As := [.int 0, .int p0, .int p1]) (rest := []) ⟨hx, hb, hml, hown, hts⟩ (c_X5_drawAll l dC dI cA tt h h_many h_sort h_x h_y h_z h_fault h_faultAt h_left h_stays h_text H.size 0 h_seed h_state h_lefts h_size h_many_v h_sort_v h_x_v h_y_v h_z_v h_fault_v h_faultAt_v 0 p0 p1 r5 hr5) (cwV 3 hts (kq_gV tw_390 tw_392 tw_11 tw_25 tw_393) rfl rfl rfl (by decide +kernel) ⟨Nat.le_of_ble_eq_true rfl, Nat.le_of_ble_eq_true rfl⟩) ⟨kq_blind, va_recv hK hP (ci := 5) (q0 := 0) rfl rfl, kq_pre hG hZ hS hPc hDc hFc⟩ rfl rfl hl.1 rfl (lv_room (Nat.le_of_ble_eq_true rfl)) dX5_draw_31 ⟨Nat.le_of_ble_eq_true rfl, Nat.le_of_ble_eq_true rfl⟩) hS (fun q _ h => hFc q h) hFc (fun u t H1 locs ht hvm hw hB hz1 hk1 hS => ?_)
        obtain ⟨hP1, hD1⟩ := hB
        rw [ht] at hP1
        obtain ⟨hP, hD⟩ := va_join (wr := [(h_left, .inl (cA 0, 40, .inl h_left_v))]) (w1 := [(h, .inr (5, [.int 0, .long h_seed, .long r5.1, .ref h_many, .ref h_sort, .ref h_x, .ref h_y, .ref h_z, .ref h_fault, .ref h_faultAt, .ref h_left, .int h_lefts, .ref h_stays, .ref h_text, .int h_size])), (h_many, .inl (cA 0, 3, .inl r5.2.1)), (h_sort, .inl (cA 0, 120, .inl r5.2.2.1)), (h_x, .inl (cA 2, 120, .inr (.inl r5.2.2.2.1))), (h_y, .inl (cA 2, 120, .inr (.inl r5.2.2.2.2.1))), (h_z, .inl (cA 2, 120, .inr (.inl r5.2.2.2.2.2.1))), (h_fault, .inl (cA 0, 3, .inl r5.2.2.2.2.2.2.1)), (h_faultAt, .inl (cA 0, 3, .inl r5.2.2.2.2.2.2.2))]) hP hD [0, 1, 2, 3, 4, 5, 6, 7] [8] rfl rfl (by decide) (by decide) hk1 hFc hP1 hD1
        have hP : va_P (dC, dI) vwCl [(h, .inr (5, [.int 0, .long h_seed, .long r5.1, .ref h_many, .ref h_sort, .ref h_x, .ref h_y, .ref h_z, .ref h_fault, .ref h_faultAt, .ref h_left, .int h_lefts, .ref h_stays, .ref h_text, .int h_size])), (h_many, .inl (cA 0, 3, .inl r5.2.1)), (h_sort, .inl (cA 0, 120, .inl r5.2.2.1)), (h_x, .inl (cA 2, 120, .inr (.inl r5.2.2.2.1))), (h_y, .inl (cA 2, 120, .inr (.inl r5.2.2.2.2.1))), (h_z, .inl (cA 2, 120, .inr (.inl r5.2.2.2.2.2.1))), (h_fault, .inl (cA 0, 3, .inl r5.2.2.2.2.2.2.1)), (h_faultAt, .inl (cA 0, 3, .inl r5.2.2.2.2.2.2.2)), (h_left, .inl (cA 0, 40, .inl h_left_v))] H1 := hP.sub [1, 2, 3, 4, 5, 6, 7, 8, 0] rfl
        have hD : va_D A [(h, .inr (5, [.int 0, .long h_seed, .long r5.1, .ref h_many, .ref h_sort, .ref h_x, .ref h_y, .ref h_z, .ref h_fault, .ref h_faultAt, .ref h_left, .int h_lefts, .ref h_stays, .ref h_text, .int h_size])), (h_many, .inl (cA 0, 3, .inl r5.2.1)), (h_sort, .inl (cA 0, 120, .inl r5.2.2.1)), (h_x, .inl (cA 2, 120, .inr (.inl r5.2.2.2.1))), (h_y, .inl (cA 2, 120, .inr (.inl r5.2.2.2.2.1))), (h_z, .inl (cA 2, 120, .inr (.inl r5.2.2.2.2.2.1))), (h_fault, .inl (cA 0, 3, .inl r5.2.2.2.2.2.2.1)), (h_faultAt, .inl (cA 0, 3, .inl r5.2.2.2.2.2.2.2)), (h_left, .inl (cA 0, 40, .inl h_left_v))] := hD.sub [1, 2, 3, 4, 5, 6, 7, 8, 0] (by decide) rfl
        generalize H1 = H at hP hS ⊢
        refine lv_aload_n hx hb dX5_draw_34 rfl (lv_at hl 0 rfl) ?_
        refine lv_aload_n hx hb dX5_draw_35 rfl (lv_at hl 0 rfl) ?_
        refine va_get (D := (dC, dI)) (ci := 5) (v := .ref h_many) (C := RX5) (T := TX5) (N := 15) hx hb hts iwX5 hown hK hP 0 rfl rfl 3 (by decide) (hts _ tw_338) (fun _ h9 => h9) rfl dX5_draw_36 ?_
        refine lv_iconst (v := 0) hx hb dX5_draw_39 (by decide) ?_
        refine va_iald hx hb hK hP 1 0 rfl rfl (show ¬ ((0 : Int32) < 0 ∨ 3 ≤ (0 : Int32).toNatClampNeg) by decide) dX5_draw_40 ?_
        refine va_put (D := (dC, dI)) (ci := 5) (v := .int (r5.2.1 (0 : Int32).toNatClampNeg)) (ty := (.int)) (C := RX5) (T := TX5) (N := 15) hx hb hts iwX5 tyX5 tyX5_ok nmX5 hown hK hP hD hS 0 rfl rfl 11 (by decide) (hts _ tw_346) (fun _ h9 => h9) rfl (by decide +kernel) rfl rfl (Nat.le_of_ble_eq_true rfl) dX5_draw_41 (fun H locs hP hD hS => ?_)
        have hP : va_P (dC, dI) vwCl [(h, .inr (5, [.int 0, .long h_seed, .long r5.1, .ref h_many, .ref h_sort, .ref h_x, .ref h_y, .ref h_z, .ref h_fault, .ref h_faultAt, .ref h_left, .int (r5.2.1 (0 : Int32).toNatClampNeg), .ref h_stays, .ref h_text, .int h_size])), (h_many, .inl (cA 0, 3, .inl r5.2.1)), (h_sort, .inl (cA 0, 120, .inl r5.2.2.1)), (h_x, .inl (cA 2, 120, .inr (.inl r5.2.2.2.1))), (h_y, .inl (cA 2, 120, .inr (.inl r5.2.2.2.2.1))), (h_z, .inl (cA 2, 120, .inr (.inl r5.2.2.2.2.2.1))), (h_fault, .inl (cA 0, 3, .inl r5.2.2.2.2.2.2.1)), (h_faultAt, .inl (cA 0, 3, .inl r5.2.2.2.2.2.2.2)), (h_left, .inl (cA 0, 40, .inl h_left_v))] H := hP
        have hD : va_D A [(h, .inr (5, [.int 0, .long h_seed, .long r5.1, .ref h_many, .ref h_sort, .ref h_x, .ref h_y, .ref h_z, .ref h_fault, .ref h_faultAt, .ref h_left, .int (r5.2.1 (0 : Int32).toNatClampNeg), .ref h_stays, .ref h_text, .int h_size])), (h_many, .inl (cA 0, 3, .inl r5.2.1)), (h_sort, .inl (cA 0, 120, .inl r5.2.2.1)), (h_x, .inl (cA 2, 120, .inr (.inl r5.2.2.2.1))), (h_y, .inl (cA 2, 120, .inr (.inl r5.2.2.2.2.1))), (h_z, .inl (cA 2, 120, .inr (.inl r5.2.2.2.2.2.1))), (h_fault, .inl (cA 0, 3, .inl r5.2.2.2.2.2.2.1)), (h_faultAt, .inl (cA 0, 3, .inl r5.2.2.2.2.2.2.2)), (h_left, .inl (cA 0, 40, .inl h_left_v))] := hD
        refine lv_iconst (v := 0) hx hb dX5_draw_44 (by decide) ?_
        refine lv_istore_n (lv' := [(3, .int 0), (0, .ref h), (1, .int p0), (2, .int p1)]) hx hb dX5_draw_45 rfl hl (by decide) rfl (fun ls hl => ?_)
        refine kq_ind (fun n H locs g => ∃ (h_code : Int32) (h_state : Int64) (h_lefts : Int32) (h_many_v : Nat → Int32) (h_sort_v : Nat → Int32) (h_x_v : Nat → Int64) (h_y_v : Nat → Int64) (h_z_v : Nat → Int64) (h_fault_v : Nat → Int32) (h_faultAt_v : Nat → Int32) (h_left_v : Nat → Int32) (v3 : Int32) (ls : Array Slot), g = F0 m 46 ls [] ∧ lv_has ls 4 [(0, .ref h), (3, .int v3)] ∧ va_P (dC, dI) vwCl [(h, .inr (5, [.int h_code, .long h_seed, .long h_state, .ref h_many, .ref h_sort, .ref h_x, .ref h_y, .ref h_z, .ref h_fault, .ref h_faultAt, .ref h_left, .int h_lefts, .ref h_stays, .ref h_text, .int h_size])), (h_many, .inl (cA 0, 3, .inl h_many_v)), (h_sort, .inl (cA 0, 120, .inl h_sort_v)), (h_x, .inl (cA 2, 120, .inr (.inl h_x_v))), (h_y, .inl (cA 2, 120, .inr (.inl h_y_v))), (h_z, .inl (cA 2, 120, .inr (.inl h_z_v))), (h_fault, .inl (cA 0, 3, .inl h_fault_v)), (h_faultAt, .inl (cA 0, 3, .inl h_faultAt_v)), (h_left, .inl (cA 0, 40, .inl h_left_v))] H ∧ va_D A [(h, .inr (5, [.int h_code, .long h_seed, .long h_state, .ref h_many, .ref h_sort, .ref h_x, .ref h_y, .ref h_z, .ref h_fault, .ref h_faultAt, .ref h_left, .int h_lefts, .ref h_stays, .ref h_text, .int h_size])), (h_many, .inl (cA 0, 3, .inl h_many_v)), (h_sort, .inl (cA 0, 120, .inl h_sort_v)), (h_x, .inl (cA 2, 120, .inr (.inl h_x_v))), (h_y, .inl (cA 2, 120, .inr (.inl h_y_v))), (h_z, .inl (cA 2, 120, .inr (.inl h_z_v))), (h_fault, .inl (cA 0, 3, .inl h_fault_v)), (h_faultAt, .inl (cA 0, 3, .inl h_faultAt_v)), (h_left, .inl (cA 0, 40, .inl h_left_v))] ∧ va_S A s.heap H locs ∧ f_X5_draw_L46 p0 p1 n h_code h_state h_lefts h_many_v h_sort_v h_x_v h_y_v h_z_v h_fault_v h_faultAt_v h_left_v v3 = some o) (fun H locs g h => ?_) (fun n46 ih46 H locs g h => ?_) 64 _ _ _ ⟨0, r5.1, r5.2.1 (0 : Int32).toNatClampNeg, r5.2.1, r5.2.2.1, r5.2.2.2.1, r5.2.2.2.2.1, r5.2.2.2.2.2.1, r5.2.2.2.2.2.2.1, r5.2.2.2.2.2.2.2, h_left_v, 0, ls, rfl, lv_sub hl [1, 0] rfl, hP, hD, hS, hf⟩
        · obtain ⟨h_code, h_state, h_lefts, h_many_v, h_sort_v, h_x_v, h_y_v, h_z_v, h_fault_v, h_faultAt_v, h_left_v, v3, ls, -, -, -, -, -, hf⟩ := h
          have hf : (none : Option (Int32 × Int32 × Int64 × Int32 × (Nat → Int32) × (Nat → Int32) × (Nat → Int64) × (Nat → Int64) × (Nat → Int64) × (Nat → Int32) × (Nat → Int32) × (Nat → Int32))) = some o := hf
          cases hf
        · obtain ⟨h_code, h_state, h_lefts, h_many_v, h_sort_v, h_x_v, h_y_v, h_z_v, h_fault_v, h_faultAt_v, h_left_v, v3, ls, rfl, hl, hP, hD, hS, hf⟩ := h
          have hf := (e_X5_draw_L46 p0 p1 n46 h_code h_state h_lefts h_many_v h_sort_v h_x_v h_y_v h_z_v h_fault_v h_faultAt_v h_left_v v3).symm.trans hf
          refine lv_iload_n hx hb dX5_draw_46 rfl (lv_at hl 1 rfl) ?_
          refine lv_aload_n hx hb dX5_draw_47 rfl (lv_at hl 0 rfl) ?_
          refine va_get (D := (dC, dI)) (ci := 5) (v := .int h_lefts) (C := RX5) (T := TX5) (N := 15) hx hb hts iwX5 hown hK hP 0 rfl rfl 11 (by decide) (hts _ tw_346) (fun _ h9 => h9) rfl dX5_draw_48 ?_
          refine lv_icmp_ge (tgt := 67) hx hb dX5_draw_51 (by decide) (fun c47001 => ?_) (fun c47001 => ?_)
          · have hf := kp_p c47001 hf
            refine lv_aload_n hx hb dX5_draw_67 rfl (lv_at hl 0 rfl) ?_
            refine va_get (D := (dC, dI)) (ci := 5) (v := .ref h_many) (C := RX5) (T := TX5) (N := 15) hx hb hts iwX5 hown hK hP 0 rfl rfl 3 (by decide) (hts _ tw_338) (fun _ h9 => h9) rfl dX5_draw_68 ?_
            refine lv_iconst (v := 0) hx hb dX5_draw_71 (by decide) ?_
            refine va_iald hx hb hK hP 1 0 rfl rfl (show ¬ ((0 : Int32) < 0 ∨ 3 ≤ (0 : Int32).toNatClampNeg) by decide) dX5_draw_72 ?_
            have eo := Option.some.inj hf
            subst eo
            exact W.iret (v := h_many_v (0 : Int32).toNatClampNeg) hx hb hr (fun t ht hW => ⟨⟨_, (), rfl, rfl, kq_mk ht hP hD⟩, hS.F ht⟩) hS.2.2 dX5_draw_73
          · have hf := kp_n c47001 hf
            refine lv_aload_n hx hb dX5_draw_54 rfl (lv_at hl 0 rfl) ?_
            refine va_get (D := (dC, dI)) (ci := 5) (v := .ref h_left) (C := RX5) (T := TX5) (N := 15) hx hb hts iwX5 hown hK hP 0 rfl rfl 10 (by decide) (hts _ tw_345) (fun _ h9 => h9) rfl dX5_draw_55 ?_
            refine lv_iload_n hx hb dX5_draw_58 rfl (lv_at hl 1 rfl) ?_
            refine lv_iload_n hx hb dX5_draw_59 rfl (lv_at hl 1 rfl) ?_
            obtain ⟨hq47003, hf⟩ := kp_t hf
            refine va_iast hx hb hK hP hD hS 8 0 rfl rfl hq47003 dX5_draw_60 (fun H locs hP hD hS => ?_)
            have hP : va_P (dC, dI) vwCl [(h, .inr (5, [.int h_code, .long h_seed, .long h_state, .ref h_many, .ref h_sort, .ref h_x, .ref h_y, .ref h_z, .ref h_fault, .ref h_faultAt, .ref h_left, .int h_lefts, .ref h_stays, .ref h_text, .int h_size])), (h_many, .inl (cA 0, 3, .inl h_many_v)), (h_sort, .inl (cA 0, 120, .inl h_sort_v)), (h_x, .inl (cA 2, 120, .inr (.inl h_x_v))), (h_y, .inl (cA 2, 120, .inr (.inl h_y_v))), (h_z, .inl (cA 2, 120, .inr (.inl h_z_v))), (h_fault, .inl (cA 0, 3, .inl h_fault_v)), (h_faultAt, .inl (cA 0, 3, .inl h_faultAt_v)), (h_left, .inl (cA 0, 40, .inl (upd h_left_v v3.toNatClampNeg v3)))] H := hP
            have hD : va_D A [(h, .inr (5, [.int h_code, .long h_seed, .long h_state, .ref h_many, .ref h_sort, .ref h_x, .ref h_y, .ref h_z, .ref h_fault, .ref h_faultAt, .ref h_left, .int h_lefts, .ref h_stays, .ref h_text, .int h_size])), (h_many, .inl (cA 0, 3, .inl h_many_v)), (h_sort, .inl (cA 0, 120, .inl h_sort_v)), (h_x, .inl (cA 2, 120, .inr (.inl h_x_v))), (h_y, .inl (cA 2, 120, .inr (.inl h_y_v))), (h_z, .inl (cA 2, 120, .inr (.inl h_z_v))), (h_fault, .inl (cA 0, 3, .inl h_fault_v)), (h_faultAt, .inl (cA 0, 3, .inl h_faultAt_v)), (h_left, .inl (cA 0, 40, .inl (upd h_left_v v3.toNatClampNeg v3)))] := hD
            refine lv_iinc (v := v3 + 1) (lv' := [(3, .int (v3 + 1)), (0, .ref h)]) hx hb dX5_draw_61 hl (k := 1) rfl rfl (by decide) rfl (fun ls hl => ?_)
            refine lv_goto (tgt := 46) hx hb dX5_draw_64 (by decide) ?_
            exact ih46 _ _ _ ⟨h_code, h_state, h_lefts, h_many_v, h_sort_v, h_x_v, h_y_v, h_z_v, h_fault_v, h_faultAt_v, upd h_left_v v3.toNatClampNeg v3, v3 + 1, ls, rfl, lv_sub hl [1, 0] rfl, hP, hD, hS, hf⟩
      · have hf := kp_n c4 hf
        refine lv_bipush (v := (-2)) hx hb dX5_draw_24 (by decide) ?_
        have eo := Option.some.inj hf
        subst eo
        exact W.iret (v := (-2)) hx hb hr (fun t ht hW => ⟨⟨_, (), rfl, rfl, kq_mk ht hP hD⟩, hS.F ht⟩) hS.2.2 dX5_draw_26
    · have hf := kp_n c2 hf
      refine lv_iconst (v := (-1)) hx hb dX5_draw_14 (by decide) ?_
      have eo := Option.some.inj hf
      subst eo
      exact W.iret (v := (-1)) hx hb hr (fun t ht hW => ⟨⟨_, (), rfl, rfl, kq_mk ht hP hD⟩, hS.F ht⟩) hS.2.2 dX5_draw_15

def f_X5_same_L112 (h_seed : Int64) (p0 : Int64) (p1 : Int32) (p2 : Int32) : Nat → Int32 → Int64 → (Nat → Int32) → (Nat → Int32) → (Nat → Int64) → (Nat → Int64) → (Nat → Int64) → (Nat → Int32) → (Nat → Int32) → Int32 → Int32 → Option (Int32 × Int32 × Int64 × (Nat → Int32) × (Nat → Int32) × (Nat → Int64) × (Nat → Int64) × (Nat → Int64) × (Nat → Int32) × (Nat → Int32))
  | 0, _, _, _, _, _, _, _, _, _, _, _ => none
  | n112 + 1, h_code, h_state, h_many_v, h_sort_v, h_x_v, h_y_v, h_z_v, h_fault_v, h_faultAt_v, v7, v8 =>
    (if (h_many_v (1 : Int32).toNatClampNeg) ≤ v8 then
    if ¬ (v7 = 0 ∨ v7 = 1) then none else
    some ((v7, h_code, h_state, h_many_v, h_sort_v, h_x_v, h_y_v, h_z_v, h_fault_v, h_faultAt_v))
    else
    (if v7 = 0 then
    if ¬ (v7 = 0 ∨ v7 = 1) then none else
    some ((v7, h_code, h_state, h_many_v, h_sort_v, h_x_v, h_y_v, h_z_v, h_fault_v, h_faultAt_v))
    else
    if (40 + v8) < 0 ∨ 120 ≤ (40 + v8).toNatClampNeg then none else
    if (80 + v8) < 0 ∨ 120 ≤ (80 + v8).toNatClampNeg then none else
    (if (h_sort_v (40 + v8).toNatClampNeg) = (h_sort_v (80 + v8).toNatClampNeg) then
    (if (lg_cmp (h_x_v (40 + v8).toNatClampNeg) (h_x_v (80 + v8).toNatClampNeg)) = 0 then
    (if (lg_cmp (h_y_v (40 + v8).toNatClampNeg) (h_y_v (80 + v8).toNatClampNeg)) = 0 then
    (if (lg_cmp (h_z_v (40 + v8).toNatClampNeg) (h_z_v (80 + v8).toNatClampNeg)) = 0 then
    f_X5_same_L112 h_seed p0 p1 p2 n112 h_code h_state h_many_v h_sort_v h_x_v h_y_v h_z_v h_fault_v h_faultAt_v 1 (v8 + 1)
    else
    f_X5_same_L112 h_seed p0 p1 p2 n112 h_code h_state h_many_v h_sort_v h_x_v h_y_v h_z_v h_fault_v h_faultAt_v 0 (v8 + 1))
    else
    f_X5_same_L112 h_seed p0 p1 p2 n112 h_code h_state h_many_v h_sort_v h_x_v h_y_v h_z_v h_fault_v h_faultAt_v 0 (v8 + 1))
    else
    f_X5_same_L112 h_seed p0 p1 p2 n112 h_code h_state h_many_v h_sort_v h_x_v h_y_v h_z_v h_fault_v h_faultAt_v 0 (v8 + 1))
    else
    f_X5_same_L112 h_seed p0 p1 p2 n112 h_code h_state h_many_v h_sort_v h_x_v h_y_v h_z_v h_fault_v h_faultAt_v 0 (v8 + 1))))
theorem e_X5_same_L112 (h_seed : Int64) (p0 : Int64) (p1 : Int32) (p2 : Int32) (n112 : Nat) (h_code : Int32) (h_state : Int64) (h_many_v : Nat → Int32) (h_sort_v : Nat → Int32) (h_x_v : Nat → Int64) (h_y_v : Nat → Int64) (h_z_v : Nat → Int64) (h_fault_v : Nat → Int32) (h_faultAt_v : Nat → Int32) (v7 : Int32) (v8 : Int32) : f_X5_same_L112 h_seed p0 p1 p2 (n112 + 1) h_code h_state h_many_v h_sort_v h_x_v h_y_v h_z_v h_fault_v h_faultAt_v v7 v8 =
    ((if (h_many_v (1 : Int32).toNatClampNeg) ≤ v8 then
    if ¬ (v7 = 0 ∨ v7 = 1) then none else
    some ((v7, h_code, h_state, h_many_v, h_sort_v, h_x_v, h_y_v, h_z_v, h_fault_v, h_faultAt_v))
    else
    (if v7 = 0 then
    if ¬ (v7 = 0 ∨ v7 = 1) then none else
    some ((v7, h_code, h_state, h_many_v, h_sort_v, h_x_v, h_y_v, h_z_v, h_fault_v, h_faultAt_v))
    else
    if (40 + v8) < 0 ∨ 120 ≤ (40 + v8).toNatClampNeg then none else
    if (80 + v8) < 0 ∨ 120 ≤ (80 + v8).toNatClampNeg then none else
    (if (h_sort_v (40 + v8).toNatClampNeg) = (h_sort_v (80 + v8).toNatClampNeg) then
    (if (lg_cmp (h_x_v (40 + v8).toNatClampNeg) (h_x_v (80 + v8).toNatClampNeg)) = 0 then
    (if (lg_cmp (h_y_v (40 + v8).toNatClampNeg) (h_y_v (80 + v8).toNatClampNeg)) = 0 then
    (if (lg_cmp (h_z_v (40 + v8).toNatClampNeg) (h_z_v (80 + v8).toNatClampNeg)) = 0 then
    f_X5_same_L112 h_seed p0 p1 p2 n112 h_code h_state h_many_v h_sort_v h_x_v h_y_v h_z_v h_fault_v h_faultAt_v 1 (v8 + 1)
    else
    f_X5_same_L112 h_seed p0 p1 p2 n112 h_code h_state h_many_v h_sort_v h_x_v h_y_v h_z_v h_fault_v h_faultAt_v 0 (v8 + 1))
    else
    f_X5_same_L112 h_seed p0 p1 p2 n112 h_code h_state h_many_v h_sort_v h_x_v h_y_v h_z_v h_fault_v h_faultAt_v 0 (v8 + 1))
    else
    f_X5_same_L112 h_seed p0 p1 p2 n112 h_code h_state h_many_v h_sort_v h_x_v h_y_v h_z_v h_fault_v h_faultAt_v 0 (v8 + 1))
    else
    f_X5_same_L112 h_seed p0 p1 p2 n112 h_code h_state h_many_v h_sort_v h_x_v h_y_v h_z_v h_fault_v h_faultAt_v 0 (v8 + 1))))) := rfl
def f_X5_same (h_code : Int32) (h_seed : Int64) (h_state : Int64) (h_many_v : Nat → Int32) (h_sort_v : Nat → Int32) (h_x_v : Nat → Int64) (h_y_v : Nat → Int64) (h_z_v : Nat → Int64) (h_fault_v : Nat → Int32) (h_faultAt_v : Nat → Int32) (p0 : Int64) (p1 : Int32) (p2 : Int32) : Option (Int32 × Int32 × Int64 × (Nat → Int32) × (Nat → Int32) × (Nat → Int64) × (Nat → Int64) × (Nat → Int64) × (Nat → Int32) × (Nat → Int32)) :=
    (f_X5_none p1 p2).bind fun r1 =>
    (if r1 = 0 then
    (f_X5_drawAll h_seed h_many_v h_sort_v h_x_v h_y_v h_z_v h_fault_v h_faultAt_v 1 p1 p2).bind fun r3 =>
    (f_X5_drawAll p0 r3.2.1 r3.2.2.1 r3.2.2.2.1 r3.2.2.2.2.1 r3.2.2.2.2.2.1 r3.2.2.2.2.2.2.1 r3.2.2.2.2.2.2.2 2 p1 p2).bind fun r4 =>
    (if (r4.2.1 (1 : Int32).toNatClampNeg) = (r4.2.1 (2 : Int32).toNatClampNeg) then
    (if (r4.2.2.2.2.2.2.1 (1 : Int32).toNatClampNeg) = (r4.2.2.2.2.2.2.1 (2 : Int32).toNatClampNeg) then
    (if (r4.2.2.2.2.2.2.2 (1 : Int32).toNatClampNeg) = (r4.2.2.2.2.2.2.2 (2 : Int32).toNatClampNeg) then
    f_X5_same_L112 h_seed p0 p1 p2 64 0 h_state r4.2.1 r4.2.2.1 r4.2.2.2.1 r4.2.2.2.2.1 r4.2.2.2.2.2.1 r4.2.2.2.2.2.2.1 r4.2.2.2.2.2.2.2 1 0
    else
    f_X5_same_L112 h_seed p0 p1 p2 64 0 h_state r4.2.1 r4.2.2.1 r4.2.2.2.1 r4.2.2.2.2.1 r4.2.2.2.2.2.1 r4.2.2.2.2.2.2.1 r4.2.2.2.2.2.2.2 0 0)
    else
    f_X5_same_L112 h_seed p0 p1 p2 64 0 h_state r4.2.1 r4.2.2.1 r4.2.2.2.1 r4.2.2.2.2.1 r4.2.2.2.2.2.1 r4.2.2.2.2.2.2.1 r4.2.2.2.2.2.2.2 0 0)
    else
    f_X5_same_L112 h_seed p0 p1 p2 64 0 h_state r4.2.1 r4.2.2.1 r4.2.2.2.1 r4.2.2.2.2.1 r4.2.2.2.2.2.1 r4.2.2.2.2.2.2.1 r4.2.2.2.2.2.2.2 0 0)
    else
    some ((0, 0, h_state, h_many_v, h_sort_v, h_x_v, h_y_v, h_z_v, h_fault_v, h_faultAt_v)))
set_option maxHeartbeats 4000000 in
set_option maxRecDepth 100000 in
theorem c_X5_same (l : Launch) (dC : Nat → ClassId) (dI : Nat → Nat → Nat) (cA : Nat → ClassId) (tt : Nat → Nat) (h h_many h_sort h_x h_y h_z h_fault h_faultAt h_left h_stays h_text : Nat) (sz : Nat) (h_code : Int32) (h_seed : Int64) (h_state : Int64) (h_lefts : Int32) (h_size : Int32) (h_many_v : Nat → Int32) (h_sort_v : Nat → Int32) (h_x_v : Nat → Int64) (h_y_v : Nat → Int64) (h_z_v : Nat → Int64) (h_fault_v : Nat → Int32) (h_faultAt_v : Nat → Int32) (p0 : Int64) (p1 : Int32) (p2 : Int32) (o : Int32 × Int32 × Int64 × (Nat → Int32) × (Nat → Int32) × (Nat → Int64) × (Nat → Int64) × (Nat → Int64) × (Nat → Int32) × (Nat → Int32)) (hf : f_X5_same h_code h_seed h_state h_many_v h_sort_v h_x_v h_y_v h_z_v h_fault_v h_faultAt_v p0 p1 p2 = some o) : Met l yX5_same wX5_same ({ frames := 3, cells := 0, slots := 0, locals := 71 }) (kq_Pc dC dI cA tt [.ref h, .long p0, .int p1, .int p2] [(h, .inr (5, [.int h_code, .long h_seed, .long h_state, .ref h_many, .ref h_sort, .ref h_x, .ref h_y, .ref h_z, .ref h_fault, .ref h_faultAt, .ref h_left, .int h_lefts, .ref h_stays, .ref h_text, .int h_size])), (h_many, .inl (cA 0, 3, .inl h_many_v)), (h_sort, .inl (cA 0, 120, .inl h_sort_v)), (h_x, .inl (cA 2, 120, .inr (.inl h_x_v))), (h_y, .inl (cA 2, 120, .inr (.inl h_y_v))), (h_z, .inl (cA 2, 120, .inr (.inl h_z_v))), (h_fault, .inl (cA 0, 3, .inl h_fault_v)), (h_faultAt, .inl (cA 0, 3, .inl h_faultAt_v))] sz) (va_Qi (fun r (_ : Unit) => r = o.1) (fun _ t => kq_B dC dI [(h, .inr (5, [.int o.2.1, .long h_seed, .long o.2.2.1, .ref h_many, .ref h_sort, .ref h_x, .ref h_y, .ref h_z, .ref h_fault, .ref h_faultAt, .ref h_left, .int h_lefts, .ref h_stays, .ref h_text, .int h_size])), (h_many, .inl (cA 0, 3, .inl o.2.2.2.1)), (h_sort, .inl (cA 0, 120, .inl o.2.2.2.2.1)), (h_x, .inl (cA 2, 120, .inr (.inl o.2.2.2.2.2.1))), (h_y, .inl (cA 2, 120, .inr (.inl o.2.2.2.2.2.2.1))), (h_z, .inl (cA 2, 120, .inr (.inl o.2.2.2.2.2.2.2.1))), (h_fault, .inl (cA 0, 3, .inl o.2.2.2.2.2.2.2.2.1)), (h_faultAt, .inl (cA 0, 3, .inl o.2.2.2.2.2.2.2.2.2))] (va_A [(h, .inr (5, [.int h_code, .long h_seed, .long h_state, .ref h_many, .ref h_sort, .ref h_x, .ref h_y, .ref h_z, .ref h_fault, .ref h_faultAt, .ref h_left, .int h_lefts, .ref h_stays, .ref h_text, .int h_size])), (h_many, .inl (cA 0, 3, .inl h_many_v)), (h_sort, .inl (cA 0, 120, .inl h_sort_v)), (h_x, .inl (cA 2, 120, .inr (.inl h_x_v))), (h_y, .inl (cA 2, 120, .inr (.inl h_y_v))), (h_z, .inl (cA 2, 120, .inr (.inl h_z_v))), (h_fault, .inl (cA 0, 3, .inl h_fault_v)), (h_faultAt, .inl (cA 0, 3, .inl h_faultAt_v))] sz) t) (va_A [(h, .inr (5, [.int h_code, .long h_seed, .long h_state, .ref h_many, .ref h_sort, .ref h_x, .ref h_y, .ref h_z, .ref h_fault, .ref h_faultAt, .ref h_left, .int h_lefts, .ref h_stays, .ref h_text, .int h_size])), (h_many, .inl (cA 0, 3, .inl h_many_v)), (h_sort, .inl (cA 0, 120, .inl h_sort_v)), (h_x, .inl (cA 2, 120, .inr (.inl h_x_v))), (h_y, .inl (cA 2, 120, .inr (.inl h_y_v))), (h_z, .inl (cA 2, 120, .inr (.inl h_z_v))), (h_fault, .inl (cA 0, 3, .inl h_fault_v)), (h_faultAt, .inl (cA 0, 3, .inl h_faultAt_v))] sz)) 0 0 (va_A [(h, .inr (5, [.int h_code, .long h_seed, .long h_state, .ref h_many, .ref h_sort, .ref h_x, .ref h_y, .ref h_z, .ref h_fault, .ref h_faultAt, .ref h_left, .int h_lefts, .ref h_stays, .ref h_text, .int h_size])), (h_many, .inl (cA 0, 3, .inl h_many_v)), (h_sort, .inl (cA 0, 120, .inl h_sort_v)), (h_x, .inl (cA 2, 120, .inr (.inl h_x_v))), (h_y, .inl (cA 2, 120, .inr (.inl h_y_v))), (h_z, .inl (cA 2, 120, .inr (.inl h_z_v))), (h_fault, .inl (cA 0, 3, .inl h_fault_v)), (h_faultAt, .inl (cA 0, 3, .inl h_faultAt_v))] sz) := by
  refine Met.ofW (cc := cX5_same) (maxL := 11) (ret := (some .boolean)) (by decide) rfl ?_
  intro p e s m args below meth c s₁ B hml hv
  obtain ⟨rfl, hsz, hP, hD0, hG, hZ⟩ := hv
  have hx := B.exec
  have hb := B.bytes
  have hr := B.returns
  have hts : ∀ w ∈ kq_T, w.before _ s = true := fun w h => atoms_spec (ws := wX5_same) B.pre w (List.mem_cons_of_mem _ h)
  have hown : s.vm.findClass RX5 = some m.cls := findClass_of_methodNamed B.named
  have hlocks := B.notSynchronized
  have hK := hG.1
  subst hsz
  have hD := hD0.self (sz := s.heap.size)
  generalize hAe : va_A [(h, .inr (5, [.int h_code, .long h_seed, .long h_state, .ref h_many, .ref h_sort, .ref h_x, .ref h_y, .ref h_z, .ref h_fault, .ref h_faultAt, .ref h_left, .int h_lefts, .ref h_stays, .ref h_text, .int h_size])), (h_many, .inl (cA 0, 3, .inl h_many_v)), (h_sort, .inl (cA 0, 120, .inl h_sort_v)), (h_x, .inl (cA 2, 120, .inr (.inl h_x_v))), (h_y, .inl (cA 2, 120, .inr (.inl h_y_v))), (h_z, .inl (cA 2, 120, .inr (.inl h_z_v))), (h_fault, .inl (cA 0, 3, .inl h_fault_v)), (h_faultAt, .inl (cA 0, 3, .inl h_faultAt_v))] s.heap.size = A at hD hZ ⊢
  have hA : ∀ q : Nat, s.heap.size ≤ q → A q := fun q h => by rw [← hAe]; exact Or.inr h
  have hl := lv_entry [.ref h, .long p0, .int p1, .int p2] (n := 11) (Nat.le_of_ble_eq_true rfl)
  rw [lg_entry_eq]
  generalize (lg_sl [.ref h, .long p0, .int p1, .int p2] ++ List.replicate (11 - (lg_sl [.ref h, .long p0, .int p1, .int p2]).length) Slot.unset).toArray = ls at hl ⊢
  have hl : lv_has ls 11 [(0, .ref h), (1, .long p0), (3, .int p1), (4, .int p2)] := hl
  obtain ⟨H, hHe⟩ : ∃ H : Heap, H = s.heap := ⟨_, rfl⟩
  have hP : va_P (dC, dI) vwCl [(h, .inr (5, [.int h_code, .long h_seed, .long h_state, .ref h_many, .ref h_sort, .ref h_x, .ref h_y, .ref h_z, .ref h_fault, .ref h_faultAt, .ref h_left, .int h_lefts, .ref h_stays, .ref h_text, .int h_size])), (h_many, .inl (cA 0, 3, .inl h_many_v)), (h_sort, .inl (cA 0, 120, .inl h_sort_v)), (h_x, .inl (cA 2, 120, .inr (.inl h_x_v))), (h_y, .inl (cA 2, 120, .inr (.inl h_y_v))), (h_z, .inl (cA 2, 120, .inr (.inl h_z_v))), (h_fault, .inl (cA 0, 3, .inl h_fault_v)), (h_faultAt, .inl (cA 0, 3, .inl h_faultAt_v))] H := by rw [hHe]; exact hP
  have hS : va_S A s.heap H [] := by rw [hHe]; exact va_S.rf
  rw [← hHe]
  unfold f_X5_same at hf
  refine lv_aload_n hx hb dX5_same_0 rfl (lv_at hl 0 rfl) ?_
  refine lv_iconst (v := 0) hx hb dX5_same_1 (by decide) ?_
  refine va_put (D := (dC, dI)) (ci := 5) (v := .int 0) (ty := (.int)) (C := RX5) (T := TX5) (N := 15) hx hb hts iwX5 tyX5 tyX5_ok nmX5 hown hK hP hD hS 0 rfl rfl 0 (by decide) (hts _ tw_335) (fun _ h9 => h9) rfl (by decide +kernel) rfl rfl (Nat.le_of_ble_eq_true rfl) dX5_same_2 (fun H locs hP hD hS => ?_)
  have hP : va_P (dC, dI) vwCl [(h, .inr (5, [.int 0, .long h_seed, .long h_state, .ref h_many, .ref h_sort, .ref h_x, .ref h_y, .ref h_z, .ref h_fault, .ref h_faultAt, .ref h_left, .int h_lefts, .ref h_stays, .ref h_text, .int h_size])), (h_many, .inl (cA 0, 3, .inl h_many_v)), (h_sort, .inl (cA 0, 120, .inl h_sort_v)), (h_x, .inl (cA 2, 120, .inr (.inl h_x_v))), (h_y, .inl (cA 2, 120, .inr (.inl h_y_v))), (h_z, .inl (cA 2, 120, .inr (.inl h_z_v))), (h_fault, .inl (cA 0, 3, .inl h_fault_v)), (h_faultAt, .inl (cA 0, 3, .inl h_faultAt_v))] H := hP
  have hD : va_D A [(h, .inr (5, [.int 0, .long h_seed, .long h_state, .ref h_many, .ref h_sort, .ref h_x, .ref h_y, .ref h_z, .ref h_fault, .ref h_faultAt, .ref h_left, .int h_lefts, .ref h_stays, .ref h_text, .int h_size])), (h_many, .inl (cA 0, 3, .inl h_many_v)), (h_sort, .inl (cA 0, 120, .inl h_sort_v)), (h_x, .inl (cA 2, 120, .inr (.inl h_x_v))), (h_y, .inl (cA 2, 120, .inr (.inl h_y_v))), (h_z, .inl (cA 2, 120, .inr (.inl h_z_v))), (h_fault, .inl (cA 0, 3, .inl h_fault_v)), (h_faultAt, .inl (cA 0, 3, .inl h_faultAt_v))] := hD
  refine lv_iload_n hx hb dX5_same_5 rfl (lv_at hl 2 rfl) ?_
  refine lv_iload hx hb dX5_same_6 (lv_at hl 3 rfl) ?_
  obtain ⟨r1, hr1, hf⟩ := kp_b hf
  have hPc := hP.sub (ws' := []) [] rfl
  have hDc := hD.sub (ws' := []) [] (by decide) rfl
  have hFc := va_free (wc := []) hD hS hA [] rfl
  refine va_calli (va_runS (As := [.int p1, .int p2]) (rest := []) ⟨hx, hb, hml, hown, hts⟩ (c_X5_none l dC dI cA tt H.size p1 p2 r1 hr1) (va_cwS 2 hts (kq_gS tw_387 tw_388 tw_25 tw_389) rfl rfl rfl (by decide +kernel) ⟨Nat.le_of_ble_eq_true rfl, Nat.le_of_ble_eq_true rfl⟩) ⟨kq_blind, kq_pre hG hZ hS hPc hDc hFc⟩ rfl rfl hl.1 rfl (lv_room (Nat.le_of_ble_eq_true rfl)) dX5_same_8 ⟨Nat.le_of_ble_eq_true rfl, Nat.le_of_ble_eq_true rfl⟩) hS (fun q _ h => hFc q h) hFc (fun rv u t H1 locs ht hvm hw hB hz1 hk1 hS => ?_)
  obtain ⟨hP1, hD1⟩ := hB
  rw [ht] at hP1
  have hw := hw.symm
  subst hw
  obtain ⟨hP, hD⟩ := va_join (wr := [(h, .inr (5, [.int 0, .long h_seed, .long h_state, .ref h_many, .ref h_sort, .ref h_x, .ref h_y, .ref h_z, .ref h_fault, .ref h_faultAt, .ref h_left, .int h_lefts, .ref h_stays, .ref h_text, .int h_size])), (h_many, .inl (cA 0, 3, .inl h_many_v)), (h_sort, .inl (cA 0, 120, .inl h_sort_v)), (h_x, .inl (cA 2, 120, .inr (.inl h_x_v))), (h_y, .inl (cA 2, 120, .inr (.inl h_y_v))), (h_z, .inl (cA 2, 120, .inr (.inl h_z_v))), (h_fault, .inl (cA 0, 3, .inl h_fault_v)), (h_faultAt, .inl (cA 0, 3, .inl h_faultAt_v))]) (w1 := []) hP hD [] [0, 1, 2, 3, 4, 5, 6, 7] rfl rfl (by decide) (by decide) hk1 hFc hP1 hD1
  have hP : va_P (dC, dI) vwCl [(h, .inr (5, [.int 0, .long h_seed, .long h_state, .ref h_many, .ref h_sort, .ref h_x, .ref h_y, .ref h_z, .ref h_fault, .ref h_faultAt, .ref h_left, .int h_lefts, .ref h_stays, .ref h_text, .int h_size])), (h_many, .inl (cA 0, 3, .inl h_many_v)), (h_sort, .inl (cA 0, 120, .inl h_sort_v)), (h_x, .inl (cA 2, 120, .inr (.inl h_x_v))), (h_y, .inl (cA 2, 120, .inr (.inl h_y_v))), (h_z, .inl (cA 2, 120, .inr (.inl h_z_v))), (h_fault, .inl (cA 0, 3, .inl h_fault_v)), (h_faultAt, .inl (cA 0, 3, .inl h_faultAt_v))] H1 := hP.sub [0, 1, 2, 3, 4, 5, 6, 7] rfl
  have hD : va_D A [(h, .inr (5, [.int 0, .long h_seed, .long h_state, .ref h_many, .ref h_sort, .ref h_x, .ref h_y, .ref h_z, .ref h_fault, .ref h_faultAt, .ref h_left, .int h_lefts, .ref h_stays, .ref h_text, .int h_size])), (h_many, .inl (cA 0, 3, .inl h_many_v)), (h_sort, .inl (cA 0, 120, .inl h_sort_v)), (h_x, .inl (cA 2, 120, .inr (.inl h_x_v))), (h_y, .inl (cA 2, 120, .inr (.inl h_y_v))), (h_z, .inl (cA 2, 120, .inr (.inl h_z_v))), (h_fault, .inl (cA 0, 3, .inl h_fault_v)), (h_faultAt, .inl (cA 0, 3, .inl h_faultAt_v))] := hD.sub [0, 1, 2, 3, 4, 5, 6, 7] (by decide) rfl
  generalize H1 = H at hP hS ⊢
  refine lv_if_eq (tgt := 16) hx hb dX5_same_11 (by decide) (fun c2 => ?_) (fun c2 => ?_)
  · have hf := kp_p c2 hf
    refine lv_aload_n hx hb dX5_same_16 rfl (lv_at hl 0 rfl) ?_
    refine va_get (D := (dC, dI)) (ci := 5) (v := .long h_state) (C := RX5) (T := TX5) (N := 15) hx hb hts iwX5 hown hK hP 0 rfl rfl 2 (by decide) (hts _ tw_337) (fun _ h9 => h9) rfl dX5_same_17 ?_
    refine lv_lstore (lv' := [(5, .long h_state), (0, .ref h), (1, .long p0), (3, .int p1), (4, .int p2)]) hx hb dX5_same_20 hl (by decide) rfl (fun ls hl => ?_)
    refine lv_aload_n hx hb dX5_same_22 rfl (lv_at hl 1 rfl) ?_
    refine lv_aload_n hx hb dX5_same_23 rfl (lv_at hl 1 rfl) ?_
    refine va_get (D := (dC, dI)) (ci := 5) (v := .long h_seed) (C := RX5) (T := TX5) (N := 15) hx hb hts iwX5 hown hK hP 0 rfl rfl 1 (by decide) (hts _ tw_336) (fun _ h9 => h9) rfl dX5_same_24 ?_
    refine va_put (D := (dC, dI)) (ci := 5) (v := .long h_seed) (ty := (.long)) (C := RX5) (T := TX5) (N := 15) hx hb hts iwX5 tyX5 tyX5_ok nmX5 hown hK hP hD hS 0 rfl rfl 2 (by decide) (hts _ tw_337) (fun _ h9 => h9) rfl (by decide +kernel) rfl rfl (Nat.le_of_ble_eq_true rfl) dX5_same_27 (fun H locs hP hD hS => ?_)
    have hP : va_P (dC, dI) vwCl [(h, .inr (5, [.int 0, .long h_seed, .long h_seed, .ref h_many, .ref h_sort, .ref h_x, .ref h_y, .ref h_z, .ref h_fault, .ref h_faultAt, .ref h_left, .int h_lefts, .ref h_stays, .ref h_text, .int h_size])), (h_many, .inl (cA 0, 3, .inl h_many_v)), (h_sort, .inl (cA 0, 120, .inl h_sort_v)), (h_x, .inl (cA 2, 120, .inr (.inl h_x_v))), (h_y, .inl (cA 2, 120, .inr (.inl h_y_v))), (h_z, .inl (cA 2, 120, .inr (.inl h_z_v))), (h_fault, .inl (cA 0, 3, .inl h_fault_v)), (h_faultAt, .inl (cA 0, 3, .inl h_faultAt_v))] H := hP
    have hD : va_D A [(h, .inr (5, [.int 0, .long h_seed, .long h_seed, .ref h_many, .ref h_sort, .ref h_x, .ref h_y, .ref h_z, .ref h_fault, .ref h_faultAt, .ref h_left, .int h_lefts, .ref h_stays, .ref h_text, .int h_size])), (h_many, .inl (cA 0, 3, .inl h_many_v)), (h_sort, .inl (cA 0, 120, .inl h_sort_v)), (h_x, .inl (cA 2, 120, .inr (.inl h_x_v))), (h_y, .inl (cA 2, 120, .inr (.inl h_y_v))), (h_z, .inl (cA 2, 120, .inr (.inl h_z_v))), (h_fault, .inl (cA 0, 3, .inl h_fault_v)), (h_faultAt, .inl (cA 0, 3, .inl h_faultAt_v))] := hD
    refine lv_aload_n hx hb dX5_same_30 rfl (lv_at hl 1 rfl) ?_
    refine lv_iconst (v := 1) hx hb dX5_same_31 (by decide) ?_
    refine lv_iload_n hx hb dX5_same_32 rfl (lv_at hl 3 rfl) ?_
    refine lv_iload hx hb dX5_same_33 (lv_at hl 4 rfl) ?_
    obtain ⟨r3, hr3, hf⟩ := kp_b hf
    have hPc := hP.sub (ws' := [(h, .inr (5, [.int 0, .long h_seed, .long h_seed, .ref h_many, .ref h_sort, .ref h_x, .ref h_y, .ref h_z, .ref h_fault, .ref h_faultAt, .ref h_left, .int h_lefts, .ref h_stays, .ref h_text, .int h_size])), (h_many, .inl (cA 0, 3, .inl h_many_v)), (h_sort, .inl (cA 0, 120, .inl h_sort_v)), (h_x, .inl (cA 2, 120, .inr (.inl h_x_v))), (h_y, .inl (cA 2, 120, .inr (.inl h_y_v))), (h_z, .inl (cA 2, 120, .inr (.inl h_z_v))), (h_fault, .inl (cA 0, 3, .inl h_fault_v)), (h_faultAt, .inl (cA 0, 3, .inl h_faultAt_v))]) [0, 1, 2, 3, 4, 5, 6, 7] rfl
    have hDc := hD.sub (ws' := [(h, .inr (5, [.int 0, .long h_seed, .long h_seed, .ref h_many, .ref h_sort, .ref h_x, .ref h_y, .ref h_z, .ref h_fault, .ref h_faultAt, .ref h_left, .int h_lefts, .ref h_stays, .ref h_text, .int h_size])), (h_many, .inl (cA 0, 3, .inl h_many_v)), (h_sort, .inl (cA 0, 120, .inl h_sort_v)), (h_x, .inl (cA 2, 120, .inr (.inl h_x_v))), (h_y, .inl (cA 2, 120, .inr (.inl h_y_v))), (h_z, .inl (cA 2, 120, .inr (.inl h_z_v))), (h_fault, .inl (cA 0, 3, .inl h_fault_v)), (h_faultAt, .inl (cA 0, 3, .inl h_faultAt_v))]) [0, 1, 2, 3, 4, 5, 6, 7] (by decide) rfl
    have hFc := va_free (wc := [(h, .inr (5, [.int 0, .long h_seed, .long h_seed, .ref h_many, .ref h_sort, .ref h_x, .ref h_y, .ref h_z, .ref h_fault, .ref h_faultAt, .ref h_left, .int h_lefts, .ref h_stays, .ref h_text, .int h_size])), (h_many, .inl (cA 0, 3, .inl h_many_v)), (h_sort, .inl (cA 0, 120, .inl h_sort_v)), (h_x, .inl (cA 2, 120, .inr (.inl h_x_v))), (h_y, .inl (cA 2, 120, .inr (.inl h_y_v))), (h_z, .inl (cA 2, 120, .inr (.inl h_z_v))), (h_fault, .inl (cA 0, 3, .inl h_fault_v)), (h_faultAt, .inl (cA 0, 3, .inl h_faultAt_v))]) hD hS hA [0, 1, 2, 3, 4, 5, 6, 7] rfl
    refine va_callv (va_runV (As := [.int 1, .int p1, .int p2]) (rest := []) ⟨hx, hb, hml, hown, hts⟩ (c_X5_drawAll l dC dI cA tt h h_many h_sort h_x h_y h_z h_fault h_faultAt h_left h_stays h_text H.size 0 h_seed h_seed h_lefts h_size h_many_v h_sort_v h_x_v h_y_v h_z_v h_fault_v h_faultAt_v 1 p1 p2 r3 hr3) (cwV 3 hts (kq_gV tw_390 tw_392 tw_11 tw_25 tw_393) rfl rfl rfl (by decide +kernel) ⟨Nat.le_of_ble_eq_true rfl, Nat.le_of_ble_eq_true rfl⟩) ⟨kq_blind, va_recv hK hP (ci := 5) (q0 := 0) rfl rfl, kq_pre hG hZ hS hPc hDc hFc⟩ rfl rfl hl.1 rfl (lv_room (Nat.le_of_ble_eq_true rfl)) dX5_same_35 ⟨Nat.le_of_ble_eq_true rfl, Nat.le_of_ble_eq_true rfl⟩) hS (fun q _ h => hFc q h) hFc (fun u t H1 locs ht hvm hw hB hz1 hk1 hS => ?_)
    obtain ⟨hP1, hD1⟩ := hB
    rw [ht] at hP1
    obtain ⟨hP, hD⟩ := va_join (wr := []) (w1 := [(h, .inr (5, [.int 0, .long h_seed, .long r3.1, .ref h_many, .ref h_sort, .ref h_x, .ref h_y, .ref h_z, .ref h_fault, .ref h_faultAt, .ref h_left, .int h_lefts, .ref h_stays, .ref h_text, .int h_size])), (h_many, .inl (cA 0, 3, .inl r3.2.1)), (h_sort, .inl (cA 0, 120, .inl r3.2.2.1)), (h_x, .inl (cA 2, 120, .inr (.inl r3.2.2.2.1))), (h_y, .inl (cA 2, 120, .inr (.inl r3.2.2.2.2.1))), (h_z, .inl (cA 2, 120, .inr (.inl r3.2.2.2.2.2.1))), (h_fault, .inl (cA 0, 3, .inl r3.2.2.2.2.2.2.1)), (h_faultAt, .inl (cA 0, 3, .inl r3.2.2.2.2.2.2.2))]) hP hD [0, 1, 2, 3, 4, 5, 6, 7] [] rfl rfl (by decide) (by decide) hk1 hFc hP1 hD1
    have hP : va_P (dC, dI) vwCl [(h, .inr (5, [.int 0, .long h_seed, .long r3.1, .ref h_many, .ref h_sort, .ref h_x, .ref h_y, .ref h_z, .ref h_fault, .ref h_faultAt, .ref h_left, .int h_lefts, .ref h_stays, .ref h_text, .int h_size])), (h_many, .inl (cA 0, 3, .inl r3.2.1)), (h_sort, .inl (cA 0, 120, .inl r3.2.2.1)), (h_x, .inl (cA 2, 120, .inr (.inl r3.2.2.2.1))), (h_y, .inl (cA 2, 120, .inr (.inl r3.2.2.2.2.1))), (h_z, .inl (cA 2, 120, .inr (.inl r3.2.2.2.2.2.1))), (h_fault, .inl (cA 0, 3, .inl r3.2.2.2.2.2.2.1)), (h_faultAt, .inl (cA 0, 3, .inl r3.2.2.2.2.2.2.2))] H1 := hP.sub [0, 1, 2, 3, 4, 5, 6, 7] rfl
    have hD : va_D A [(h, .inr (5, [.int 0, .long h_seed, .long r3.1, .ref h_many, .ref h_sort, .ref h_x, .ref h_y, .ref h_z, .ref h_fault, .ref h_faultAt, .ref h_left, .int h_lefts, .ref h_stays, .ref h_text, .int h_size])), (h_many, .inl (cA 0, 3, .inl r3.2.1)), (h_sort, .inl (cA 0, 120, .inl r3.2.2.1)), (h_x, .inl (cA 2, 120, .inr (.inl r3.2.2.2.1))), (h_y, .inl (cA 2, 120, .inr (.inl r3.2.2.2.2.1))), (h_z, .inl (cA 2, 120, .inr (.inl r3.2.2.2.2.2.1))), (h_fault, .inl (cA 0, 3, .inl r3.2.2.2.2.2.2.1)), (h_faultAt, .inl (cA 0, 3, .inl r3.2.2.2.2.2.2.2))] := hD.sub [0, 1, 2, 3, 4, 5, 6, 7] (by decide) rfl
    generalize H1 = H at hP hS ⊢
    refine lv_aload_n hx hb dX5_same_38 rfl (lv_at hl 1 rfl) ?_
    refine lv_lload_n hx hb dX5_same_39 rfl (lv_at hl 2 rfl) ?_
    refine va_put (D := (dC, dI)) (ci := 5) (v := .long p0) (ty := (.long)) (C := RX5) (T := TX5) (N := 15) hx hb hts iwX5 tyX5 tyX5_ok nmX5 hown hK hP hD hS 0 rfl rfl 2 (by decide) (hts _ tw_337) (fun _ h9 => h9) rfl (by decide +kernel) rfl rfl (Nat.le_of_ble_eq_true rfl) dX5_same_40 (fun H locs hP hD hS => ?_)
    have hP : va_P (dC, dI) vwCl [(h, .inr (5, [.int 0, .long h_seed, .long p0, .ref h_many, .ref h_sort, .ref h_x, .ref h_y, .ref h_z, .ref h_fault, .ref h_faultAt, .ref h_left, .int h_lefts, .ref h_stays, .ref h_text, .int h_size])), (h_many, .inl (cA 0, 3, .inl r3.2.1)), (h_sort, .inl (cA 0, 120, .inl r3.2.2.1)), (h_x, .inl (cA 2, 120, .inr (.inl r3.2.2.2.1))), (h_y, .inl (cA 2, 120, .inr (.inl r3.2.2.2.2.1))), (h_z, .inl (cA 2, 120, .inr (.inl r3.2.2.2.2.2.1))), (h_fault, .inl (cA 0, 3, .inl r3.2.2.2.2.2.2.1)), (h_faultAt, .inl (cA 0, 3, .inl r3.2.2.2.2.2.2.2))] H := hP
    have hD : va_D A [(h, .inr (5, [.int 0, .long h_seed, .long p0, .ref h_many, .ref h_sort, .ref h_x, .ref h_y, .ref h_z, .ref h_fault, .ref h_faultAt, .ref h_left, .int h_lefts, .ref h_stays, .ref h_text, .int h_size])), (h_many, .inl (cA 0, 3, .inl r3.2.1)), (h_sort, .inl (cA 0, 120, .inl r3.2.2.1)), (h_x, .inl (cA 2, 120, .inr (.inl r3.2.2.2.1))), (h_y, .inl (cA 2, 120, .inr (.inl r3.2.2.2.2.1))), (h_z, .inl (cA 2, 120, .inr (.inl r3.2.2.2.2.2.1))), (h_fault, .inl (cA 0, 3, .inl r3.2.2.2.2.2.2.1)), (h_faultAt, .inl (cA 0, 3, .inl r3.2.2.2.2.2.2.2))] := hD
    refine lv_aload_n hx hb dX5_same_43 rfl (lv_at hl 1 rfl) ?_
    refine lv_iconst (v := 2) hx hb dX5_same_44 (by decide) ?_
    refine lv_iload_n hx hb dX5_same_45 rfl (lv_at hl 3 rfl) ?_
    refine lv_iload hx hb dX5_same_46 (lv_at hl 4 rfl) ?_
    obtain ⟨r4, hr4, hf⟩ := kp_b hf
    have hPc := hP.sub (ws' := [(h, .inr (5, [.int 0, .long h_seed, .long p0, .ref h_many, .ref h_sort, .ref h_x, .ref h_y, .ref h_z, .ref h_fault, .ref h_faultAt, .ref h_left, .int h_lefts, .ref h_stays, .ref h_text, .int h_size])), (h_many, .inl (cA 0, 3, .inl r3.2.1)), (h_sort, .inl (cA 0, 120, .inl r3.2.2.1)), (h_x, .inl (cA 2, 120, .inr (.inl r3.2.2.2.1))), (h_y, .inl (cA 2, 120, .inr (.inl r3.2.2.2.2.1))), (h_z, .inl (cA 2, 120, .inr (.inl r3.2.2.2.2.2.1))), (h_fault, .inl (cA 0, 3, .inl r3.2.2.2.2.2.2.1)), (h_faultAt, .inl (cA 0, 3, .inl r3.2.2.2.2.2.2.2))]) [0, 1, 2, 3, 4, 5, 6, 7] rfl
    have hDc := hD.sub (ws' := [(h, .inr (5, [.int 0, .long h_seed, .long p0, .ref h_many, .ref h_sort, .ref h_x, .ref h_y, .ref h_z, .ref h_fault, .ref h_faultAt, .ref h_left, .int h_lefts, .ref h_stays, .ref h_text, .int h_size])), (h_many, .inl (cA 0, 3, .inl r3.2.1)), (h_sort, .inl (cA 0, 120, .inl r3.2.2.1)), (h_x, .inl (cA 2, 120, .inr (.inl r3.2.2.2.1))), (h_y, .inl (cA 2, 120, .inr (.inl r3.2.2.2.2.1))), (h_z, .inl (cA 2, 120, .inr (.inl r3.2.2.2.2.2.1))), (h_fault, .inl (cA 0, 3, .inl r3.2.2.2.2.2.2.1)), (h_faultAt, .inl (cA 0, 3, .inl r3.2.2.2.2.2.2.2))]) [0, 1, 2, 3, 4, 5, 6, 7] (by decide) rfl
    have hFc := va_free (wc := [(h, .inr (5, [.int 0, .long h_seed, .long p0, .ref h_many, .ref h_sort, .ref h_x, .ref h_y, .ref h_z, .ref h_fault, .ref h_faultAt, .ref h_left, .int h_lefts, .ref h_stays, .ref h_text, .int h_size])), (h_many, .inl (cA 0, 3, .inl r3.2.1)), (h_sort, .inl (cA 0, 120, .inl r3.2.2.1)), (h_x, .inl (cA 2, 120, .inr (.inl r3.2.2.2.1))), (h_y, .inl (cA 2, 120, .inr (.inl r3.2.2.2.2.1))), (h_z, .inl (cA 2, 120, .inr (.inl r3.2.2.2.2.2.1))), (h_fault, .inl (cA 0, 3, .inl r3.2.2.2.2.2.2.1)), (h_faultAt, .inl (cA 0, 3, .inl r3.2.2.2.2.2.2.2))]) hD hS hA [0, 1, 2, 3, 4, 5, 6, 7] rfl
    refine va_callv (va_runV (As := [.int 2, .int p1, .int p2]) (rest := []) ⟨hx, hb, hml, hown, hts⟩ (c_X5_drawAll l dC dI cA tt h h_many h_sort h_x h_y h_z h_fault h_faultAt h_left h_stays h_text H.size 0 h_seed p0 h_lefts h_size r3.2.1 r3.2.2.1 r3.2.2.2.1 r3.2.2.2.2.1 r3.2.2.2.2.2.1 r3.2.2.2.2.2.2.1 r3.2.2.2.2.2.2.2 2 p1 p2 r4 hr4) (cwV 3 hts (kq_gV tw_390 tw_392 tw_11 tw_25 tw_393) rfl rfl rfl (by decide +kernel) ⟨Nat.le_of_ble_eq_true rfl, Nat.le_of_ble_eq_true rfl⟩) ⟨kq_blind, va_recv hK hP (ci := 5) (q0 := 0) rfl rfl, kq_pre hG hZ hS hPc hDc hFc⟩ rfl rfl hl.1 rfl (lv_room (Nat.le_of_ble_eq_true rfl)) dX5_same_48 ⟨Nat.le_of_ble_eq_true rfl, Nat.le_of_ble_eq_true rfl⟩) hS (fun q _ h => hFc q h) hFc (fun u t H1 locs ht hvm hw hB hz1 hk1 hS => ?_)
    obtain ⟨hP1, hD1⟩ := hB
    rw [ht] at hP1
    obtain ⟨hP, hD⟩ := va_join (wr := []) (w1 := [(h, .inr (5, [.int 0, .long h_seed, .long r4.1, .ref h_many, .ref h_sort, .ref h_x, .ref h_y, .ref h_z, .ref h_fault, .ref h_faultAt, .ref h_left, .int h_lefts, .ref h_stays, .ref h_text, .int h_size])), (h_many, .inl (cA 0, 3, .inl r4.2.1)), (h_sort, .inl (cA 0, 120, .inl r4.2.2.1)), (h_x, .inl (cA 2, 120, .inr (.inl r4.2.2.2.1))), (h_y, .inl (cA 2, 120, .inr (.inl r4.2.2.2.2.1))), (h_z, .inl (cA 2, 120, .inr (.inl r4.2.2.2.2.2.1))), (h_fault, .inl (cA 0, 3, .inl r4.2.2.2.2.2.2.1)), (h_faultAt, .inl (cA 0, 3, .inl r4.2.2.2.2.2.2.2))]) hP hD [0, 1, 2, 3, 4, 5, 6, 7] [] rfl rfl (by decide) (by decide) hk1 hFc hP1 hD1
    have hP : va_P (dC, dI) vwCl [(h, .inr (5, [.int 0, .long h_seed, .long r4.1, .ref h_many, .ref h_sort, .ref h_x, .ref h_y, .ref h_z, .ref h_fault, .ref h_faultAt, .ref h_left, .int h_lefts, .ref h_stays, .ref h_text, .int h_size])), (h_many, .inl (cA 0, 3, .inl r4.2.1)), (h_sort, .inl (cA 0, 120, .inl r4.2.2.1)), (h_x, .inl (cA 2, 120, .inr (.inl r4.2.2.2.1))), (h_y, .inl (cA 2, 120, .inr (.inl r4.2.2.2.2.1))), (h_z, .inl (cA 2, 120, .inr (.inl r4.2.2.2.2.2.1))), (h_fault, .inl (cA 0, 3, .inl r4.2.2.2.2.2.2.1)), (h_faultAt, .inl (cA 0, 3, .inl r4.2.2.2.2.2.2.2))] H1 := hP.sub [0, 1, 2, 3, 4, 5, 6, 7] rfl
    have hD : va_D A [(h, .inr (5, [.int 0, .long h_seed, .long r4.1, .ref h_many, .ref h_sort, .ref h_x, .ref h_y, .ref h_z, .ref h_fault, .ref h_faultAt, .ref h_left, .int h_lefts, .ref h_stays, .ref h_text, .int h_size])), (h_many, .inl (cA 0, 3, .inl r4.2.1)), (h_sort, .inl (cA 0, 120, .inl r4.2.2.1)), (h_x, .inl (cA 2, 120, .inr (.inl r4.2.2.2.1))), (h_y, .inl (cA 2, 120, .inr (.inl r4.2.2.2.2.1))), (h_z, .inl (cA 2, 120, .inr (.inl r4.2.2.2.2.2.1))), (h_fault, .inl (cA 0, 3, .inl r4.2.2.2.2.2.2.1)), (h_faultAt, .inl (cA 0, 3, .inl r4.2.2.2.2.2.2.2))] := hD.sub [0, 1, 2, 3, 4, 5, 6, 7] (by decide) rfl
    generalize H1 = H at hP hS ⊢
    refine lv_aload_n hx hb dX5_same_51 rfl (lv_at hl 1 rfl) ?_
    refine lv_lload hx hb dX5_same_52 (lv_at hl 0 rfl) ?_
    refine va_put (D := (dC, dI)) (ci := 5) (v := .long h_state) (ty := (.long)) (C := RX5) (T := TX5) (N := 15) hx hb hts iwX5 tyX5 tyX5_ok nmX5 hown hK hP hD hS 0 rfl rfl 2 (by decide) (hts _ tw_337) (fun _ h9 => h9) rfl (by decide +kernel) rfl rfl (Nat.le_of_ble_eq_true rfl) dX5_same_54 (fun H locs hP hD hS => ?_)
    have hP : va_P (dC, dI) vwCl [(h, .inr (5, [.int 0, .long h_seed, .long h_state, .ref h_many, .ref h_sort, .ref h_x, .ref h_y, .ref h_z, .ref h_fault, .ref h_faultAt, .ref h_left, .int h_lefts, .ref h_stays, .ref h_text, .int h_size])), (h_many, .inl (cA 0, 3, .inl r4.2.1)), (h_sort, .inl (cA 0, 120, .inl r4.2.2.1)), (h_x, .inl (cA 2, 120, .inr (.inl r4.2.2.2.1))), (h_y, .inl (cA 2, 120, .inr (.inl r4.2.2.2.2.1))), (h_z, .inl (cA 2, 120, .inr (.inl r4.2.2.2.2.2.1))), (h_fault, .inl (cA 0, 3, .inl r4.2.2.2.2.2.2.1)), (h_faultAt, .inl (cA 0, 3, .inl r4.2.2.2.2.2.2.2))] H := hP
    have hD : va_D A [(h, .inr (5, [.int 0, .long h_seed, .long h_state, .ref h_many, .ref h_sort, .ref h_x, .ref h_y, .ref h_z, .ref h_fault, .ref h_faultAt, .ref h_left, .int h_lefts, .ref h_stays, .ref h_text, .int h_size])), (h_many, .inl (cA 0, 3, .inl r4.2.1)), (h_sort, .inl (cA 0, 120, .inl r4.2.2.1)), (h_x, .inl (cA 2, 120, .inr (.inl r4.2.2.2.1))), (h_y, .inl (cA 2, 120, .inr (.inl r4.2.2.2.2.1))), (h_z, .inl (cA 2, 120, .inr (.inl r4.2.2.2.2.2.1))), (h_fault, .inl (cA 0, 3, .inl r4.2.2.2.2.2.2.1)), (h_faultAt, .inl (cA 0, 3, .inl r4.2.2.2.2.2.2.2))] := hD
    refine lv_aload_n hx hb dX5_same_57 rfl (lv_at hl 1 rfl) ?_
    refine va_get (D := (dC, dI)) (ci := 5) (v := .ref h_many) (C := RX5) (T := TX5) (N := 15) hx hb hts iwX5 hown hK hP 0 rfl rfl 3 (by decide) (hts _ tw_338) (fun _ h9 => h9) rfl dX5_same_58 ?_
    refine lv_iconst (v := 1) hx hb dX5_same_61 (by decide) ?_
    refine va_iald hx hb hK hP 1 0 rfl rfl (show ¬ ((1 : Int32) < 0 ∨ 3 ≤ (1 : Int32).toNatClampNeg) by decide) dX5_same_62 ?_
    refine lv_aload_n hx hb dX5_same_63 rfl (lv_at hl 1 rfl) ?_
    refine va_get (D := (dC, dI)) (ci := 5) (v := .ref h_many) (C := RX5) (T := TX5) (N := 15) hx hb hts iwX5 hown hK hP 0 rfl rfl 3 (by decide) (hts _ tw_338) (fun _ h9 => h9) rfl dX5_same_64 ?_
    refine lv_iconst (v := 2) hx hb dX5_same_67 (by decide) ?_
    refine va_iald hx hb hK hP 1 0 rfl rfl (show ¬ ((2 : Int32) < 0 ∨ 3 ≤ (2 : Int32).toNatClampNeg) by decide) dX5_same_68 ?_
    refine lv_icmp_ne (tgt := 106) hx hb dX5_same_69 (by decide) (fun c7 => ?_) (fun c7 => ?_)
    · have hf := kp_n c7 hf
      refine lv_iconst (v := 0) hx hb dX5_same_106 (by decide) ?_
      refine lv_istore (lv' := [(7, .int 0), (5, .long h_state), (0, .ref h), (1, .long p0), (3, .int p1), (4, .int p2)]) hx hb dX5_same_107 hl (by decide) rfl (fun ls hl => ?_)
      refine lv_iconst (v := 0) hx hb dX5_same_109 (by decide) ?_
      refine lv_istore (lv' := [(8, .int 0), (7, .int 0), (5, .long h_state), (0, .ref h), (1, .long p0), (3, .int p1), (4, .int p2)]) hx hb dX5_same_110 hl (by decide) rfl (fun ls hl => ?_)
      refine kq_ind (fun n H locs g => ∃ (h_code : Int32) (h_state : Int64) (h_many_v : Nat → Int32) (h_sort_v : Nat → Int32) (h_x_v : Nat → Int64) (h_y_v : Nat → Int64) (h_z_v : Nat → Int64) (h_fault_v : Nat → Int32) (h_faultAt_v : Nat → Int32) (v7 : Int32) (v8 : Int32) (ls : Array Slot), g = F0 m 112 ls [] ∧ lv_has ls 11 [(0, .ref h), (7, .int v7), (8, .int v8)] ∧ va_P (dC, dI) vwCl [(h, .inr (5, [.int h_code, .long h_seed, .long h_state, .ref h_many, .ref h_sort, .ref h_x, .ref h_y, .ref h_z, .ref h_fault, .ref h_faultAt, .ref h_left, .int h_lefts, .ref h_stays, .ref h_text, .int h_size])), (h_many, .inl (cA 0, 3, .inl h_many_v)), (h_sort, .inl (cA 0, 120, .inl h_sort_v)), (h_x, .inl (cA 2, 120, .inr (.inl h_x_v))), (h_y, .inl (cA 2, 120, .inr (.inl h_y_v))), (h_z, .inl (cA 2, 120, .inr (.inl h_z_v))), (h_fault, .inl (cA 0, 3, .inl h_fault_v)), (h_faultAt, .inl (cA 0, 3, .inl h_faultAt_v))] H ∧ va_D A [(h, .inr (5, [.int h_code, .long h_seed, .long h_state, .ref h_many, .ref h_sort, .ref h_x, .ref h_y, .ref h_z, .ref h_fault, .ref h_faultAt, .ref h_left, .int h_lefts, .ref h_stays, .ref h_text, .int h_size])), (h_many, .inl (cA 0, 3, .inl h_many_v)), (h_sort, .inl (cA 0, 120, .inl h_sort_v)), (h_x, .inl (cA 2, 120, .inr (.inl h_x_v))), (h_y, .inl (cA 2, 120, .inr (.inl h_y_v))), (h_z, .inl (cA 2, 120, .inr (.inl h_z_v))), (h_fault, .inl (cA 0, 3, .inl h_fault_v)), (h_faultAt, .inl (cA 0, 3, .inl h_faultAt_v))] ∧ va_S A s.heap H locs ∧ f_X5_same_L112 h_seed p0 p1 p2 n h_code h_state h_many_v h_sort_v h_x_v h_y_v h_z_v h_fault_v h_faultAt_v v7 v8 = some o) (fun H locs g h => ?_) (fun n112 ih112 H locs g h => ?_) 64 _ _ _ ⟨0, h_state, r4.2.1, r4.2.2.1, r4.2.2.2.1, r4.2.2.2.2.1, r4.2.2.2.2.2.1, r4.2.2.2.2.2.2.1, r4.2.2.2.2.2.2.2, 0, 0, ls, rfl, lv_sub hl [3, 1, 0] rfl, hP, hD, hS, hf⟩
      · obtain ⟨h_code, h_state, h_many_v, h_sort_v, h_x_v, h_y_v, h_z_v, h_fault_v, h_faultAt_v, v7, v8, ls, -, -, -, -, -, hf⟩ := h
        have hf : (none : Option (Int32 × Int32 × Int64 × (Nat → Int32) × (Nat → Int32) × (Nat → Int64) × (Nat → Int64) × (Nat → Int64) × (Nat → Int32) × (Nat → Int32))) = some o := hf
        cases hf
      · obtain ⟨h_code, h_state, h_many_v, h_sort_v, h_x_v, h_y_v, h_z_v, h_fault_v, h_faultAt_v, v7, v8, ls, rfl, hl, hP, hD, hS, hf⟩ := h
        have hf := (e_X5_same_L112 h_seed p0 p1 p2 n112 h_code h_state h_many_v h_sort_v h_x_v h_y_v h_z_v h_fault_v h_faultAt_v v7 v8).symm.trans hf
        refine lv_iload hx hb dX5_same_112 (lv_at hl 2 rfl) ?_
        refine lv_aload_n hx hb dX5_same_114 rfl (lv_at hl 0 rfl) ?_
        refine va_get (D := (dC, dI)) (ci := 5) (v := .ref h_many) (C := RX5) (T := TX5) (N := 15) hx hb hts iwX5 hown hK hP 0 rfl rfl 3 (by decide) (hts _ tw_338) (fun _ h9 => h9) rfl dX5_same_115 ?_
        refine lv_iconst (v := 1) hx hb dX5_same_118 (by decide) ?_
        refine va_iald hx hb hK hP 1 0 rfl rfl (show ¬ ((1 : Int32) < 0 ∨ 3 ≤ (1 : Int32).toNatClampNeg) by decide) dX5_same_119 ?_
        refine lv_icmp_ge (tgt := 226) hx hb dX5_same_120 (by decide) (fun c113002 => ?_) (fun c113002 => ?_)
        · have hf := kp_p c113002 hf
          refine lv_iload hx hb dX5_same_226 (lv_at hl 1 rfl) ?_
          obtain ⟨hq113003, hf⟩ := kp_t hf
          have eo := Option.some.inj hf
          subst eo
          exact W.zret (v := v7) hx hb hr (kq_z hq113003) (fun t ht hW => ⟨⟨_, (), rfl, rfl, kq_mk ht hP hD⟩, hS.F ht⟩) hS.2.2 dX5_same_228
        · have hf := kp_n c113002 hf
          refine lv_iload hx hb dX5_same_123 (lv_at hl 1 rfl) ?_
          refine lv_if_eq (tgt := 226) hx hb dX5_same_125 (by decide) (fun c113004 => ?_) (fun c113004 => ?_)
          · have hf := kp_p c113004 hf
            refine lv_iload hx hb dX5_same_226 (lv_at hl 1 rfl) ?_
            obtain ⟨hq113005, hf⟩ := kp_t hf
            have eo := Option.some.inj hf
            subst eo
            exact W.zret (v := v7) hx hb hr (kq_z hq113005) (fun t ht hW => ⟨⟨_, (), rfl, rfl, kq_mk ht hP hD⟩, hS.F ht⟩) hS.2.2 dX5_same_228
          · have hf := kp_n c113004 hf
            refine lv_bipush (v := 40) hx hb dX5_same_128 (by decide) ?_
            refine lv_iload hx hb dX5_same_130 (lv_at hl 2 rfl) ?_
            refine lv_iadd hx hb dX5_same_132 ?_
            refine lv_istore (lv' := [(9, .int (40 + v8)), (0, .ref h), (7, .int v7), (8, .int v8)]) hx hb dX5_same_133 hl (by decide) rfl (fun ls hl => ?_)
            refine lv_bipush (v := 80) hx hb dX5_same_135 (by decide) ?_
            refine lv_iload hx hb dX5_same_137 (lv_at hl 3 rfl) ?_
            refine lv_iadd hx hb dX5_same_139 ?_
            refine lv_istore (lv' := [(10, .int (80 + v8)), (9, .int (40 + v8)), (0, .ref h), (7, .int v7), (8, .int v8)]) hx hb dX5_same_140 hl (by decide) rfl (fun ls hl => ?_)
            refine lv_aload_n hx hb dX5_same_142 rfl (lv_at hl 2 rfl) ?_
            refine va_get (D := (dC, dI)) (ci := 5) (v := .ref h_sort) (C := RX5) (T := TX5) (N := 15) hx hb hts iwX5 hown hK hP 0 rfl rfl 4 (by decide) (hts _ tw_339) (fun _ h9 => h9) rfl dX5_same_143 ?_
            refine lv_iload hx hb dX5_same_146 (lv_at hl 1 rfl) ?_
            obtain ⟨hq113006, hf⟩ := kp_t hf
            refine va_iald hx hb hK hP 2 0 rfl rfl hq113006 dX5_same_148 ?_
            refine lv_aload_n hx hb dX5_same_149 rfl (lv_at hl 2 rfl) ?_
            refine va_get (D := (dC, dI)) (ci := 5) (v := .ref h_sort) (C := RX5) (T := TX5) (N := 15) hx hb hts iwX5 hown hK hP 0 rfl rfl 4 (by decide) (hts _ tw_339) (fun _ h9 => h9) rfl dX5_same_150 ?_
            refine lv_iload hx hb dX5_same_153 (lv_at hl 0 rfl) ?_
            obtain ⟨hq113007, hf⟩ := kp_t hf
            refine va_iald hx hb hK hP 2 0 rfl rfl hq113007 dX5_same_155 ?_
            refine lv_icmp_ne (tgt := 217) hx hb dX5_same_156 (by decide) (fun c113008 => ?_) (fun c113008 => ?_)
            · have hf := kp_n c113008 hf
              refine lv_iconst (v := 0) hx hb dX5_same_217 (by decide) ?_
              refine lv_istore (lv' := [(7, .int 0), (10, .int (80 + v8)), (9, .int (40 + v8)), (0, .ref h), (8, .int v8)]) hx hb dX5_same_218 hl (by decide) rfl (fun ls hl => ?_)
              refine lv_iinc (v := v8 + 1) (lv' := [(8, .int (v8 + 1)), (7, .int 0), (10, .int (80 + v8)), (9, .int (40 + v8)), (0, .ref h)]) hx hb dX5_same_220 hl (k := 4) rfl rfl (by decide) rfl (fun ls hl => ?_)
              refine lv_goto (tgt := 112) hx hb dX5_same_223 (by decide) ?_
              exact ih112 _ _ _ ⟨h_code, h_state, h_many_v, h_sort_v, h_x_v, h_y_v, h_z_v, h_fault_v, h_faultAt_v, 0, v8 + 1, ls, rfl, lv_sub hl [4, 1, 0] rfl, hP, hD, hS, hf⟩
            · have hf := kp_p c113008 hf
              refine lv_aload_n hx hb dX5_same_159 rfl (lv_at hl 2 rfl) ?_
              refine va_get (D := (dC, dI)) (ci := 5) (v := .ref h_x) (C := RX5) (T := TX5) (N := 15) hx hb hts iwX5 hown hK hP 0 rfl rfl 5 (by decide) (hts _ tw_340) (fun _ h9 => h9) rfl dX5_same_160 ?_
              refine lv_iload hx hb dX5_same_163 (lv_at hl 1 rfl) ?_
              refine va_lald hx hb hK hP 3 2 rfl rfl hq113006 dX5_same_165 ?_
              refine lv_aload_n hx hb dX5_same_166 rfl (lv_at hl 2 rfl) ?_
              refine va_get (D := (dC, dI)) (ci := 5) (v := .ref h_x) (C := RX5) (T := TX5) (N := 15) hx hb hts iwX5 hown hK hP 0 rfl rfl 5 (by decide) (hts _ tw_340) (fun _ h9 => h9) rfl dX5_same_167 ?_
              refine lv_iload hx hb dX5_same_170 (lv_at hl 0 rfl) ?_
              refine va_lald hx hb hK hP 3 2 rfl rfl hq113007 dX5_same_172 ?_
              refine W.lcmp hx hb dX5_same_173 ?_
              refine lv_if_ne (tgt := 217) hx hb dX5_same_174 (by decide) (fun c113011 => ?_) (fun c113011 => ?_)
              · have hf := kp_n c113011 hf
                refine lv_iconst (v := 0) hx hb dX5_same_217 (by decide) ?_
                refine lv_istore (lv' := [(7, .int 0), (10, .int (80 + v8)), (9, .int (40 + v8)), (0, .ref h), (8, .int v8)]) hx hb dX5_same_218 hl (by decide) rfl (fun ls hl => ?_)
                refine lv_iinc (v := v8 + 1) (lv' := [(8, .int (v8 + 1)), (7, .int 0), (10, .int (80 + v8)), (9, .int (40 + v8)), (0, .ref h)]) hx hb dX5_same_220 hl (k := 4) rfl rfl (by decide) rfl (fun ls hl => ?_)
                refine lv_goto (tgt := 112) hx hb dX5_same_223 (by decide) ?_
                exact ih112 _ _ _ ⟨h_code, h_state, h_many_v, h_sort_v, h_x_v, h_y_v, h_z_v, h_fault_v, h_faultAt_v, 0, v8 + 1, ls, rfl, lv_sub hl [4, 1, 0] rfl, hP, hD, hS, hf⟩
              · have hf := kp_p c113011 hf
                refine lv_aload_n hx hb dX5_same_177 rfl (lv_at hl 2 rfl) ?_
                refine va_get (D := (dC, dI)) (ci := 5) (v := .ref h_y) (C := RX5) (T := TX5) (N := 15) hx hb hts iwX5 hown hK hP 0 rfl rfl 6 (by decide) (hts _ tw_341) (fun _ h9 => h9) rfl dX5_same_178 ?_
                refine lv_iload hx hb dX5_same_181 (lv_at hl 1 rfl) ?_
                refine va_lald hx hb hK hP 4 2 rfl rfl hq113006 dX5_same_183 ?_
                refine lv_aload_n hx hb dX5_same_184 rfl (lv_at hl 2 rfl) ?_
                refine va_get (D := (dC, dI)) (ci := 5) (v := .ref h_y) (C := RX5) (T := TX5) (N := 15) hx hb hts iwX5 hown hK hP 0 rfl rfl 6 (by decide) (hts _ tw_341) (fun _ h9 => h9) rfl dX5_same_185 ?_
                refine lv_iload hx hb dX5_same_188 (lv_at hl 0 rfl) ?_
                refine va_lald hx hb hK hP 4 2 rfl rfl hq113007 dX5_same_190 ?_
                refine W.lcmp hx hb dX5_same_191 ?_
                refine lv_if_ne (tgt := 217) hx hb dX5_same_192 (by decide) (fun c113014 => ?_) (fun c113014 => ?_)
                · have hf := kp_n c113014 hf
                  refine lv_iconst (v := 0) hx hb dX5_same_217 (by decide) ?_
                  refine lv_istore (lv' := [(7, .int 0), (10, .int (80 + v8)), (9, .int (40 + v8)), (0, .ref h), (8, .int v8)]) hx hb dX5_same_218 hl (by decide) rfl (fun ls hl => ?_)
                  refine lv_iinc (v := v8 + 1) (lv' := [(8, .int (v8 + 1)), (7, .int 0), (10, .int (80 + v8)), (9, .int (40 + v8)), (0, .ref h)]) hx hb dX5_same_220 hl (k := 4) rfl rfl (by decide) rfl (fun ls hl => ?_)
                  refine lv_goto (tgt := 112) hx hb dX5_same_223 (by decide) ?_
                  exact ih112 _ _ _ ⟨h_code, h_state, h_many_v, h_sort_v, h_x_v, h_y_v, h_z_v, h_fault_v, h_faultAt_v, 0, v8 + 1, ls, rfl, lv_sub hl [4, 1, 0] rfl, hP, hD, hS, hf⟩
                · have hf := kp_p c113014 hf
                  refine lv_aload_n hx hb dX5_same_195 rfl (lv_at hl 2 rfl) ?_
                  refine va_get (D := (dC, dI)) (ci := 5) (v := .ref h_z) (C := RX5) (T := TX5) (N := 15) hx hb hts iwX5 hown hK hP 0 rfl rfl 7 (by decide) (hts _ tw_342) (fun _ h9 => h9) rfl dX5_same_196 ?_
                  refine lv_iload hx hb dX5_same_199 (lv_at hl 1 rfl) ?_
                  refine va_lald hx hb hK hP 5 2 rfl rfl hq113006 dX5_same_201 ?_
                  refine lv_aload_n hx hb dX5_same_202 rfl (lv_at hl 2 rfl) ?_
                  refine va_get (D := (dC, dI)) (ci := 5) (v := .ref h_z) (C := RX5) (T := TX5) (N := 15) hx hb hts iwX5 hown hK hP 0 rfl rfl 7 (by decide) (hts _ tw_342) (fun _ h9 => h9) rfl dX5_same_203 ?_
                  refine lv_iload hx hb dX5_same_206 (lv_at hl 0 rfl) ?_
                  refine va_lald hx hb hK hP 5 2 rfl rfl hq113007 dX5_same_208 ?_
                  refine W.lcmp hx hb dX5_same_209 ?_
                  refine lv_if_ne (tgt := 217) hx hb dX5_same_210 (by decide) (fun c113017 => ?_) (fun c113017 => ?_)
                  · have hf := kp_n c113017 hf
                    refine lv_iconst (v := 0) hx hb dX5_same_217 (by decide) ?_
                    refine lv_istore (lv' := [(7, .int 0), (10, .int (80 + v8)), (9, .int (40 + v8)), (0, .ref h), (8, .int v8)]) hx hb dX5_same_218 hl (by decide) rfl (fun ls hl => ?_)
                    refine lv_iinc (v := v8 + 1) (lv' := [(8, .int (v8 + 1)), (7, .int 0), (10, .int (80 + v8)), (9, .int (40 + v8)), (0, .ref h)]) hx hb dX5_same_220 hl (k := 4) rfl rfl (by decide) rfl (fun ls hl => ?_)
                    refine lv_goto (tgt := 112) hx hb dX5_same_223 (by decide) ?_
                    exact ih112 _ _ _ ⟨h_code, h_state, h_many_v, h_sort_v, h_x_v, h_y_v, h_z_v, h_fault_v, h_faultAt_v, 0, v8 + 1, ls, rfl, lv_sub hl [4, 1, 0] rfl, hP, hD, hS, hf⟩
                  · have hf := kp_p c113017 hf
                    refine lv_iconst (v := 1) hx hb dX5_same_213 (by decide) ?_
                    refine lv_goto (tgt := 218) hx hb dX5_same_214 (by decide) ?_
                    refine lv_istore (lv' := [(7, .int 1), (10, .int (80 + v8)), (9, .int (40 + v8)), (0, .ref h), (8, .int v8)]) hx hb dX5_same_218 hl (by decide) rfl (fun ls hl => ?_)
                    refine lv_iinc (v := v8 + 1) (lv' := [(8, .int (v8 + 1)), (7, .int 1), (10, .int (80 + v8)), (9, .int (40 + v8)), (0, .ref h)]) hx hb dX5_same_220 hl (k := 4) rfl rfl (by decide) rfl (fun ls hl => ?_)
                    refine lv_goto (tgt := 112) hx hb dX5_same_223 (by decide) ?_
                    exact ih112 _ _ _ ⟨h_code, h_state, h_many_v, h_sort_v, h_x_v, h_y_v, h_z_v, h_fault_v, h_faultAt_v, 1, v8 + 1, ls, rfl, lv_sub hl [4, 1, 0] rfl, hP, hD, hS, hf⟩
    · have hf := kp_p c7 hf
      refine lv_aload_n hx hb dX5_same_72 rfl (lv_at hl 1 rfl) ?_
      refine va_get (D := (dC, dI)) (ci := 5) (v := .ref h_fault) (C := RX5) (T := TX5) (N := 15) hx hb hts iwX5 hown hK hP 0 rfl rfl 8 (by decide) (hts _ tw_343) (fun _ h9 => h9) rfl dX5_same_73 ?_
      refine lv_iconst (v := 1) hx hb dX5_same_76 (by decide) ?_
      refine va_iald hx hb hK hP 6 0 rfl rfl (show ¬ ((1 : Int32) < 0 ∨ 3 ≤ (1 : Int32).toNatClampNeg) by decide) dX5_same_77 ?_
      refine lv_aload_n hx hb dX5_same_78 rfl (lv_at hl 1 rfl) ?_
      refine va_get (D := (dC, dI)) (ci := 5) (v := .ref h_fault) (C := RX5) (T := TX5) (N := 15) hx hb hts iwX5 hown hK hP 0 rfl rfl 8 (by decide) (hts _ tw_343) (fun _ h9 => h9) rfl dX5_same_79 ?_
      refine lv_iconst (v := 2) hx hb dX5_same_82 (by decide) ?_
      refine va_iald hx hb hK hP 6 0 rfl rfl (show ¬ ((2 : Int32) < 0 ∨ 3 ≤ (2 : Int32).toNatClampNeg) by decide) dX5_same_83 ?_
      refine lv_icmp_ne (tgt := 106) hx hb dX5_same_84 (by decide) (fun c10 => ?_) (fun c10 => ?_)
      · have hf := kp_n c10 hf
        refine lv_iconst (v := 0) hx hb dX5_same_106 (by decide) ?_
        refine lv_istore (lv' := [(7, .int 0), (5, .long h_state), (0, .ref h), (1, .long p0), (3, .int p1), (4, .int p2)]) hx hb dX5_same_107 hl (by decide) rfl (fun ls hl => ?_)
        refine lv_iconst (v := 0) hx hb dX5_same_109 (by decide) ?_
        refine lv_istore (lv' := [(8, .int 0), (7, .int 0), (5, .long h_state), (0, .ref h), (1, .long p0), (3, .int p1), (4, .int p2)]) hx hb dX5_same_110 hl (by decide) rfl (fun ls hl => ?_)
        refine kq_ind (fun n H locs g => ∃ (h_code : Int32) (h_state : Int64) (h_many_v : Nat → Int32) (h_sort_v : Nat → Int32) (h_x_v : Nat → Int64) (h_y_v : Nat → Int64) (h_z_v : Nat → Int64) (h_fault_v : Nat → Int32) (h_faultAt_v : Nat → Int32) (v7 : Int32) (v8 : Int32) (ls : Array Slot), g = F0 m 112 ls [] ∧ lv_has ls 11 [(0, .ref h), (7, .int v7), (8, .int v8)] ∧ va_P (dC, dI) vwCl [(h, .inr (5, [.int h_code, .long h_seed, .long h_state, .ref h_many, .ref h_sort, .ref h_x, .ref h_y, .ref h_z, .ref h_fault, .ref h_faultAt, .ref h_left, .int h_lefts, .ref h_stays, .ref h_text, .int h_size])), (h_many, .inl (cA 0, 3, .inl h_many_v)), (h_sort, .inl (cA 0, 120, .inl h_sort_v)), (h_x, .inl (cA 2, 120, .inr (.inl h_x_v))), (h_y, .inl (cA 2, 120, .inr (.inl h_y_v))), (h_z, .inl (cA 2, 120, .inr (.inl h_z_v))), (h_fault, .inl (cA 0, 3, .inl h_fault_v)), (h_faultAt, .inl (cA 0, 3, .inl h_faultAt_v))] H ∧ va_D A [(h, .inr (5, [.int h_code, .long h_seed, .long h_state, .ref h_many, .ref h_sort, .ref h_x, .ref h_y, .ref h_z, .ref h_fault, .ref h_faultAt, .ref h_left, .int h_lefts, .ref h_stays, .ref h_text, .int h_size])), (h_many, .inl (cA 0, 3, .inl h_many_v)), (h_sort, .inl (cA 0, 120, .inl h_sort_v)), (h_x, .inl (cA 2, 120, .inr (.inl h_x_v))), (h_y, .inl (cA 2, 120, .inr (.inl h_y_v))), (h_z, .inl (cA 2, 120, .inr (.inl h_z_v))), (h_fault, .inl (cA 0, 3, .inl h_fault_v)), (h_faultAt, .inl (cA 0, 3, .inl h_faultAt_v))] ∧ va_S A s.heap H locs ∧ f_X5_same_L112 h_seed p0 p1 p2 n h_code h_state h_many_v h_sort_v h_x_v h_y_v h_z_v h_fault_v h_faultAt_v v7 v8 = some o) (fun H locs g h => ?_) (fun n112 ih112 H locs g h => ?_) 64 _ _ _ ⟨0, h_state, r4.2.1, r4.2.2.1, r4.2.2.2.1, r4.2.2.2.2.1, r4.2.2.2.2.2.1, r4.2.2.2.2.2.2.1, r4.2.2.2.2.2.2.2, 0, 0, ls, rfl, lv_sub hl [3, 1, 0] rfl, hP, hD, hS, hf⟩
        · obtain ⟨h_code, h_state, h_many_v, h_sort_v, h_x_v, h_y_v, h_z_v, h_fault_v, h_faultAt_v, v7, v8, ls, -, -, -, -, -, hf⟩ := h
          have hf : (none : Option (Int32 × Int32 × Int64 × (Nat → Int32) × (Nat → Int32) × (Nat → Int64) × (Nat → Int64) × (Nat → Int64) × (Nat → Int32) × (Nat → Int32))) = some o := hf
          cases hf
        · obtain ⟨h_code, h_state, h_many_v, h_sort_v, h_x_v, h_y_v, h_z_v, h_fault_v, h_faultAt_v, v7, v8, ls, rfl, hl, hP, hD, hS, hf⟩ := h
          have hf := (e_X5_same_L112 h_seed p0 p1 p2 n112 h_code h_state h_many_v h_sort_v h_x_v h_y_v h_z_v h_fault_v h_faultAt_v v7 v8).symm.trans hf
          refine lv_iload hx hb dX5_same_112 (lv_at hl 2 rfl) ?_
          refine lv_aload_n hx hb dX5_same_114 rfl (lv_at hl 0 rfl) ?_
          refine va_get (D := (dC, dI)) (ci := 5) (v := .ref h_many) (C := RX5) (T := TX5) (N := 15) hx hb hts iwX5 hown hK hP 0 rfl rfl 3 (by decide) (hts _ tw_338) (fun _ h9 => h9) rfl dX5_same_115 ?_
          refine lv_iconst (v := 1) hx hb dX5_same_118 (by decide) ?_
          refine va_iald hx hb hK hP 1 0 rfl rfl (show ¬ ((1 : Int32) < 0 ∨ 3 ≤ (1 : Int32).toNatClampNeg) by decide) dX5_same_119 ?_
          refine lv_icmp_ge (tgt := 226) hx hb dX5_same_120 (by decide) (fun c113002 => ?_) (fun c113002 => ?_)
          · have hf := kp_p c113002 hf
            refine lv_iload hx hb dX5_same_226 (lv_at hl 1 rfl) ?_
            obtain ⟨hq113003, hf⟩ := kp_t hf
            have eo := Option.some.inj hf
            subst eo
            exact W.zret (v := v7) hx hb hr (kq_z hq113003) (fun t ht hW => ⟨⟨_, (), rfl, rfl, kq_mk ht hP hD⟩, hS.F ht⟩) hS.2.2 dX5_same_228
          · have hf := kp_n c113002 hf
            refine lv_iload hx hb dX5_same_123 (lv_at hl 1 rfl) ?_
            refine lv_if_eq (tgt := 226) hx hb dX5_same_125 (by decide) (fun c113004 => ?_) (fun c113004 => ?_)
            · have hf := kp_p c113004 hf
              refine lv_iload hx hb dX5_same_226 (lv_at hl 1 rfl) ?_
              obtain ⟨hq113005, hf⟩ := kp_t hf
              have eo := Option.some.inj hf
              subst eo
              exact W.zret (v := v7) hx hb hr (kq_z hq113005) (fun t ht hW => ⟨⟨_, (), rfl, rfl, kq_mk ht hP hD⟩, hS.F ht⟩) hS.2.2 dX5_same_228
            · have hf := kp_n c113004 hf
              refine lv_bipush (v := 40) hx hb dX5_same_128 (by decide) ?_
              refine lv_iload hx hb dX5_same_130 (lv_at hl 2 rfl) ?_
              refine lv_iadd hx hb dX5_same_132 ?_
              refine lv_istore (lv' := [(9, .int (40 + v8)), (0, .ref h), (7, .int v7), (8, .int v8)]) hx hb dX5_same_133 hl (by decide) rfl (fun ls hl => ?_)
              refine lv_bipush (v := 80) hx hb dX5_same_135 (by decide) ?_
              refine lv_iload hx hb dX5_same_137 (lv_at hl 3 rfl) ?_
              refine lv_iadd hx hb dX5_same_139 ?_
              refine lv_istore (lv' := [(10, .int (80 + v8)), (9, .int (40 + v8)), (0, .ref h), (7, .int v7), (8, .int v8)]) hx hb dX5_same_140 hl (by decide) rfl (fun ls hl => ?_)
              refine lv_aload_n hx hb dX5_same_142 rfl (lv_at hl 2 rfl) ?_
              refine va_get (D := (dC, dI)) (ci := 5) (v := .ref h_sort) (C := RX5) (T := TX5) (N := 15) hx hb hts iwX5 hown hK hP 0 rfl rfl 4 (by decide) (hts _ tw_339) (fun _ h9 => h9) rfl dX5_same_143 ?_
              refine lv_iload hx hb dX5_same_146 (lv_at hl 1 rfl) ?_
              obtain ⟨hq113006, hf⟩ := kp_t hf
              refine va_iald hx hb hK hP 2 0 rfl rfl hq113006 dX5_same_148 ?_
              refine lv_aload_n hx hb dX5_same_149 rfl (lv_at hl 2 rfl) ?_
              refine va_get (D := (dC, dI)) (ci := 5) (v := .ref h_sort) (C := RX5) (T := TX5) (N := 15) hx hb hts iwX5 hown hK hP 0 rfl rfl 4 (by decide) (hts _ tw_339) (fun _ h9 => h9) rfl dX5_same_150 ?_
              refine lv_iload hx hb dX5_same_153 (lv_at hl 0 rfl) ?_
              obtain ⟨hq113007, hf⟩ := kp_t hf
              refine va_iald hx hb hK hP 2 0 rfl rfl hq113007 dX5_same_155 ?_
              refine lv_icmp_ne (tgt := 217) hx hb dX5_same_156 (by decide) (fun c113008 => ?_) (fun c113008 => ?_)
              · have hf := kp_n c113008 hf
                refine lv_iconst (v := 0) hx hb dX5_same_217 (by decide) ?_
                refine lv_istore (lv' := [(7, .int 0), (10, .int (80 + v8)), (9, .int (40 + v8)), (0, .ref h), (8, .int v8)]) hx hb dX5_same_218 hl (by decide) rfl (fun ls hl => ?_)
                refine lv_iinc (v := v8 + 1) (lv' := [(8, .int (v8 + 1)), (7, .int 0), (10, .int (80 + v8)), (9, .int (40 + v8)), (0, .ref h)]) hx hb dX5_same_220 hl (k := 4) rfl rfl (by decide) rfl (fun ls hl => ?_)
                refine lv_goto (tgt := 112) hx hb dX5_same_223 (by decide) ?_
                exact ih112 _ _ _ ⟨h_code, h_state, h_many_v, h_sort_v, h_x_v, h_y_v, h_z_v, h_fault_v, h_faultAt_v, 0, v8 + 1, ls, rfl, lv_sub hl [4, 1, 0] rfl, hP, hD, hS, hf⟩
              · have hf := kp_p c113008 hf
                refine lv_aload_n hx hb dX5_same_159 rfl (lv_at hl 2 rfl) ?_
                refine va_get (D := (dC, dI)) (ci := 5) (v := .ref h_x) (C := RX5) (T := TX5) (N := 15) hx hb hts iwX5 hown hK hP 0 rfl rfl 5 (by decide) (hts _ tw_340) (fun _ h9 => h9) rfl dX5_same_160 ?_
                refine lv_iload hx hb dX5_same_163 (lv_at hl 1 rfl) ?_
                refine va_lald hx hb hK hP 3 2 rfl rfl hq113006 dX5_same_165 ?_
                refine lv_aload_n hx hb dX5_same_166 rfl (lv_at hl 2 rfl) ?_
                refine va_get (D := (dC, dI)) (ci := 5) (v := .ref h_x) (C := RX5) (T := TX5) (N := 15) hx hb hts iwX5 hown hK hP 0 rfl rfl 5 (by decide) (hts _ tw_340) (fun _ h9 => h9) rfl dX5_same_167 ?_
                refine lv_iload hx hb dX5_same_170 (lv_at hl 0 rfl) ?_
                refine va_lald hx hb hK hP 3 2 rfl rfl hq113007 dX5_same_172 ?_
                refine W.lcmp hx hb dX5_same_173 ?_
                refine lv_if_ne (tgt := 217) hx hb dX5_same_174 (by decide) (fun c113011 => ?_) (fun c113011 => ?_)
                · have hf := kp_n c113011 hf
                  refine lv_iconst (v := 0) hx hb dX5_same_217 (by decide) ?_
                  refine lv_istore (lv' := [(7, .int 0), (10, .int (80 + v8)), (9, .int (40 + v8)), (0, .ref h), (8, .int v8)]) hx hb dX5_same_218 hl (by decide) rfl (fun ls hl => ?_)
                  refine lv_iinc (v := v8 + 1) (lv' := [(8, .int (v8 + 1)), (7, .int 0), (10, .int (80 + v8)), (9, .int (40 + v8)), (0, .ref h)]) hx hb dX5_same_220 hl (k := 4) rfl rfl (by decide) rfl (fun ls hl => ?_)
                  refine lv_goto (tgt := 112) hx hb dX5_same_223 (by decide) ?_
                  exact ih112 _ _ _ ⟨h_code, h_state, h_many_v, h_sort_v, h_x_v, h_y_v, h_z_v, h_fault_v, h_faultAt_v, 0, v8 + 1, ls, rfl, lv_sub hl [4, 1, 0] rfl, hP, hD, hS, hf⟩
                · have hf := kp_p c113011 hf
                  refine lv_aload_n hx hb dX5_same_177 rfl (lv_at hl 2 rfl) ?_
                  refine va_get (D := (dC, dI)) (ci := 5) (v := .ref h_y) (C := RX5) (T := TX5) (N := 15) hx hb hts iwX5 hown hK hP 0 rfl rfl 6 (by decide) (hts _ tw_341) (fun _ h9 => h9) rfl dX5_same_178 ?_
                  refine lv_iload hx hb dX5_same_181 (lv_at hl 1 rfl) ?_
                  refine va_lald hx hb hK hP 4 2 rfl rfl hq113006 dX5_same_183 ?_
                  refine lv_aload_n hx hb dX5_same_184 rfl (lv_at hl 2 rfl) ?_
                  refine va_get (D := (dC, dI)) (ci := 5) (v := .ref h_y) (C := RX5) (T := TX5) (N := 15) hx hb hts iwX5 hown hK hP 0 rfl rfl 6 (by decide) (hts _ tw_341) (fun _ h9 => h9) rfl dX5_same_185 ?_
                  refine lv_iload hx hb dX5_same_188 (lv_at hl 0 rfl) ?_
                  refine va_lald hx hb hK hP 4 2 rfl rfl hq113007 dX5_same_190 ?_
                  refine W.lcmp hx hb dX5_same_191 ?_
                  refine lv_if_ne (tgt := 217) hx hb dX5_same_192 (by decide) (fun c113014 => ?_) (fun c113014 => ?_)
                  · have hf := kp_n c113014 hf
                    refine lv_iconst (v := 0) hx hb dX5_same_217 (by decide) ?_
                    refine lv_istore (lv' := [(7, .int 0), (10, .int (80 + v8)), (9, .int (40 + v8)), (0, .ref h), (8, .int v8)]) hx hb dX5_same_218 hl (by decide) rfl (fun ls hl => ?_)
                    refine lv_iinc (v := v8 + 1) (lv' := [(8, .int (v8 + 1)), (7, .int 0), (10, .int (80 + v8)), (9, .int (40 + v8)), (0, .ref h)]) hx hb dX5_same_220 hl (k := 4) rfl rfl (by decide) rfl (fun ls hl => ?_)
                    refine lv_goto (tgt := 112) hx hb dX5_same_223 (by decide) ?_
                    exact ih112 _ _ _ ⟨h_code, h_state, h_many_v, h_sort_v, h_x_v, h_y_v, h_z_v, h_fault_v, h_faultAt_v, 0, v8 + 1, ls, rfl, lv_sub hl [4, 1, 0] rfl, hP, hD, hS, hf⟩
                  · have hf := kp_p c113014 hf
                    refine lv_aload_n hx hb dX5_same_195 rfl (lv_at hl 2 rfl) ?_
                    refine va_get (D := (dC, dI)) (ci := 5) (v := .ref h_z) (C := RX5) (T := TX5) (N := 15) hx hb hts iwX5 hown hK hP 0 rfl rfl 7 (by decide) (hts _ tw_342) (fun _ h9 => h9) rfl dX5_same_196 ?_
                    refine lv_iload hx hb dX5_same_199 (lv_at hl 1 rfl) ?_
                    refine va_lald hx hb hK hP 5 2 rfl rfl hq113006 dX5_same_201 ?_
                    refine lv_aload_n hx hb dX5_same_202 rfl (lv_at hl 2 rfl) ?_
                    refine va_get (D := (dC, dI)) (ci := 5) (v := .ref h_z) (C := RX5) (T := TX5) (N := 15) hx hb hts iwX5 hown hK hP 0 rfl rfl 7 (by decide) (hts _ tw_342) (fun _ h9 => h9) rfl dX5_same_203 ?_
                    refine lv_iload hx hb dX5_same_206 (lv_at hl 0 rfl) ?_
                    refine va_lald hx hb hK hP 5 2 rfl rfl hq113007 dX5_same_208 ?_
                    refine W.lcmp hx hb dX5_same_209 ?_
                    refine lv_if_ne (tgt := 217) hx hb dX5_same_210 (by decide) (fun c113017 => ?_) (fun c113017 => ?_)
                    · have hf := kp_n c113017 hf
                      refine lv_iconst (v := 0) hx hb dX5_same_217 (by decide) ?_
                      refine lv_istore (lv' := [(7, .int 0), (10, .int (80 + v8)), (9, .int (40 + v8)), (0, .ref h), (8, .int v8)]) hx hb dX5_same_218 hl (by decide) rfl (fun ls hl => ?_)
                      refine lv_iinc (v := v8 + 1) (lv' := [(8, .int (v8 + 1)), (7, .int 0), (10, .int (80 + v8)), (9, .int (40 + v8)), (0, .ref h)]) hx hb dX5_same_220 hl (k := 4) rfl rfl (by decide) rfl (fun ls hl => ?_)
                      refine lv_goto (tgt := 112) hx hb dX5_same_223 (by decide) ?_
                      exact ih112 _ _ _ ⟨h_code, h_state, h_many_v, h_sort_v, h_x_v, h_y_v, h_z_v, h_fault_v, h_faultAt_v, 0, v8 + 1, ls, rfl, lv_sub hl [4, 1, 0] rfl, hP, hD, hS, hf⟩
                    · have hf := kp_p c113017 hf
                      refine lv_iconst (v := 1) hx hb dX5_same_213 (by decide) ?_
                      refine lv_goto (tgt := 218) hx hb dX5_same_214 (by decide) ?_
                      refine lv_istore (lv' := [(7, .int 1), (10, .int (80 + v8)), (9, .int (40 + v8)), (0, .ref h), (8, .int v8)]) hx hb dX5_same_218 hl (by decide) rfl (fun ls hl => ?_)
                      refine lv_iinc (v := v8 + 1) (lv' := [(8, .int (v8 + 1)), (7, .int 1), (10, .int (80 + v8)), (9, .int (40 + v8)), (0, .ref h)]) hx hb dX5_same_220 hl (k := 4) rfl rfl (by decide) rfl (fun ls hl => ?_)
                      refine lv_goto (tgt := 112) hx hb dX5_same_223 (by decide) ?_
                      exact ih112 _ _ _ ⟨h_code, h_state, h_many_v, h_sort_v, h_x_v, h_y_v, h_z_v, h_fault_v, h_faultAt_v, 1, v8 + 1, ls, rfl, lv_sub hl [4, 1, 0] rfl, hP, hD, hS, hf⟩
      · have hf := kp_p c10 hf
        refine lv_aload_n hx hb dX5_same_87 rfl (lv_at hl 1 rfl) ?_
        refine va_get (D := (dC, dI)) (ci := 5) (v := .ref h_faultAt) (C := RX5) (T := TX5) (N := 15) hx hb hts iwX5 hown hK hP 0 rfl rfl 9 (by decide) (hts _ tw_344) (fun _ h9 => h9) rfl dX5_same_88 ?_
        refine lv_iconst (v := 1) hx hb dX5_same_91 (by decide) ?_
        refine va_iald hx hb hK hP 7 0 rfl rfl (show ¬ ((1 : Int32) < 0 ∨ 3 ≤ (1 : Int32).toNatClampNeg) by decide) dX5_same_92 ?_
        refine lv_aload_n hx hb dX5_same_93 rfl (lv_at hl 1 rfl) ?_
        refine va_get (D := (dC, dI)) (ci := 5) (v := .ref h_faultAt) (C := RX5) (T := TX5) (N := 15) hx hb hts iwX5 hown hK hP 0 rfl rfl 9 (by decide) (hts _ tw_344) (fun _ h9 => h9) rfl dX5_same_94 ?_
        refine lv_iconst (v := 2) hx hb dX5_same_97 (by decide) ?_
        refine va_iald hx hb hK hP 7 0 rfl rfl (show ¬ ((2 : Int32) < 0 ∨ 3 ≤ (2 : Int32).toNatClampNeg) by decide) dX5_same_98 ?_
        refine lv_icmp_ne (tgt := 106) hx hb dX5_same_99 (by decide) (fun c13 => ?_) (fun c13 => ?_)
        · have hf := kp_n c13 hf
          refine lv_iconst (v := 0) hx hb dX5_same_106 (by decide) ?_
          refine lv_istore (lv' := [(7, .int 0), (5, .long h_state), (0, .ref h), (1, .long p0), (3, .int p1), (4, .int p2)]) hx hb dX5_same_107 hl (by decide) rfl (fun ls hl => ?_)
          refine lv_iconst (v := 0) hx hb dX5_same_109 (by decide) ?_
          refine lv_istore (lv' := [(8, .int 0), (7, .int 0), (5, .long h_state), (0, .ref h), (1, .long p0), (3, .int p1), (4, .int p2)]) hx hb dX5_same_110 hl (by decide) rfl (fun ls hl => ?_)
          refine kq_ind (fun n H locs g => ∃ (h_code : Int32) (h_state : Int64) (h_many_v : Nat → Int32) (h_sort_v : Nat → Int32) (h_x_v : Nat → Int64) (h_y_v : Nat → Int64) (h_z_v : Nat → Int64) (h_fault_v : Nat → Int32) (h_faultAt_v : Nat → Int32) (v7 : Int32) (v8 : Int32) (ls : Array Slot), g = F0 m 112 ls [] ∧ lv_has ls 11 [(0, .ref h), (7, .int v7), (8, .int v8)] ∧ va_P (dC, dI) vwCl [(h, .inr (5, [.int h_code, .long h_seed, .long h_state, .ref h_many, .ref h_sort, .ref h_x, .ref h_y, .ref h_z, .ref h_fault, .ref h_faultAt, .ref h_left, .int h_lefts, .ref h_stays, .ref h_text, .int h_size])), (h_many, .inl (cA 0, 3, .inl h_many_v)), (h_sort, .inl (cA 0, 120, .inl h_sort_v)), (h_x, .inl (cA 2, 120, .inr (.inl h_x_v))), (h_y, .inl (cA 2, 120, .inr (.inl h_y_v))), (h_z, .inl (cA 2, 120, .inr (.inl h_z_v))), (h_fault, .inl (cA 0, 3, .inl h_fault_v)), (h_faultAt, .inl (cA 0, 3, .inl h_faultAt_v))] H ∧ va_D A [(h, .inr (5, [.int h_code, .long h_seed, .long h_state, .ref h_many, .ref h_sort, .ref h_x, .ref h_y, .ref h_z, .ref h_fault, .ref h_faultAt, .ref h_left, .int h_lefts, .ref h_stays, .ref h_text, .int h_size])), (h_many, .inl (cA 0, 3, .inl h_many_v)), (h_sort, .inl (cA 0, 120, .inl h_sort_v)), (h_x, .inl (cA 2, 120, .inr (.inl h_x_v))), (h_y, .inl (cA 2, 120, .inr (.inl h_y_v))), (h_z, .inl (cA 2, 120, .inr (.inl h_z_v))), (h_fault, .inl (cA 0, 3, .inl h_fault_v)), (h_faultAt, .inl (cA 0, 3, .inl h_faultAt_v))] ∧ va_S A s.heap H locs ∧ f_X5_same_L112 h_seed p0 p1 p2 n h_code h_state h_many_v h_sort_v h_x_v h_y_v h_z_v h_fault_v h_faultAt_v v7 v8 = some o) (fun H locs g h => ?_) (fun n112 ih112 H locs g h => ?_) 64 _ _ _ ⟨0, h_state, r4.2.1, r4.2.2.1, r4.2.2.2.1, r4.2.2.2.2.1, r4.2.2.2.2.2.1, r4.2.2.2.2.2.2.1, r4.2.2.2.2.2.2.2, 0, 0, ls, rfl, lv_sub hl [3, 1, 0] rfl, hP, hD, hS, hf⟩
          · obtain ⟨h_code, h_state, h_many_v, h_sort_v, h_x_v, h_y_v, h_z_v, h_fault_v, h_faultAt_v, v7, v8, ls, -, -, -, -, -, hf⟩ := h
            have hf : (none : Option (Int32 × Int32 × Int64 × (Nat → Int32) × (Nat → Int32) × (Nat → Int64) × (Nat → Int64) × (Nat → Int64) × (Nat → Int32) × (Nat → Int32))) = some o := hf
            cases hf
          · obtain ⟨h_code, h_state, h_many_v, h_sort_v, h_x_v, h_y_v, h_z_v, h_fault_v, h_faultAt_v, v7, v8, ls, rfl, hl, hP, hD, hS, hf⟩ := h
            have hf := (e_X5_same_L112 h_seed p0 p1 p2 n112 h_code h_state h_many_v h_sort_v h_x_v h_y_v h_z_v h_fault_v h_faultAt_v v7 v8).symm.trans hf
            refine lv_iload hx hb dX5_same_112 (lv_at hl 2 rfl) ?_
            refine lv_aload_n hx hb dX5_same_114 rfl (lv_at hl 0 rfl) ?_
            refine va_get (D := (dC, dI)) (ci := 5) (v := .ref h_many) (C := RX5) (T := TX5) (N := 15) hx hb hts iwX5 hown hK hP 0 rfl rfl 3 (by decide) (hts _ tw_338) (fun _ h9 => h9) rfl dX5_same_115 ?_
            refine lv_iconst (v := 1) hx hb dX5_same_118 (by decide) ?_
            refine va_iald hx hb hK hP 1 0 rfl rfl (show ¬ ((1 : Int32) < 0 ∨ 3 ≤ (1 : Int32).toNatClampNeg) by decide) dX5_same_119 ?_
            refine lv_icmp_ge (tgt := 226) hx hb dX5_same_120 (by decide) (fun c113002 => ?_) (fun c113002 => ?_)
            · have hf := kp_p c113002 hf
              refine lv_iload hx hb dX5_same_226 (lv_at hl 1 rfl) ?_
              obtain ⟨hq113003, hf⟩ := kp_t hf
              have eo := Option.some.inj hf
              subst eo
              exact W.zret (v := v7) hx hb hr (kq_z hq113003) (fun t ht hW => ⟨⟨_, (), rfl, rfl, kq_mk ht hP hD⟩, hS.F ht⟩) hS.2.2 dX5_same_228
            · have hf := kp_n c113002 hf
              refine lv_iload hx hb dX5_same_123 (lv_at hl 1 rfl) ?_
              refine lv_if_eq (tgt := 226) hx hb dX5_same_125 (by decide) (fun c113004 => ?_) (fun c113004 => ?_)
              · have hf := kp_p c113004 hf
                refine lv_iload hx hb dX5_same_226 (lv_at hl 1 rfl) ?_
                obtain ⟨hq113005, hf⟩ := kp_t hf
                have eo := Option.some.inj hf
                subst eo
                exact W.zret (v := v7) hx hb hr (kq_z hq113005) (fun t ht hW => ⟨⟨_, (), rfl, rfl, kq_mk ht hP hD⟩, hS.F ht⟩) hS.2.2 dX5_same_228
              · have hf := kp_n c113004 hf
                refine lv_bipush (v := 40) hx hb dX5_same_128 (by decide) ?_
                refine lv_iload hx hb dX5_same_130 (lv_at hl 2 rfl) ?_
                refine lv_iadd hx hb dX5_same_132 ?_
                refine lv_istore (lv' := [(9, .int (40 + v8)), (0, .ref h), (7, .int v7), (8, .int v8)]) hx hb dX5_same_133 hl (by decide) rfl (fun ls hl => ?_)
                refine lv_bipush (v := 80) hx hb dX5_same_135 (by decide) ?_
                refine lv_iload hx hb dX5_same_137 (lv_at hl 3 rfl) ?_
                refine lv_iadd hx hb dX5_same_139 ?_
                refine lv_istore (lv' := [(10, .int (80 + v8)), (9, .int (40 + v8)), (0, .ref h), (7, .int v7), (8, .int v8)]) hx hb dX5_same_140 hl (by decide) rfl (fun ls hl => ?_)
                refine lv_aload_n hx hb dX5_same_142 rfl (lv_at hl 2 rfl) ?_
                refine va_get (D := (dC, dI)) (ci := 5) (v := .ref h_sort) (C := RX5) (T := TX5) (N := 15) hx hb hts iwX5 hown hK hP 0 rfl rfl 4 (by decide) (hts _ tw_339) (fun _ h9 => h9) rfl dX5_same_143 ?_
                refine lv_iload hx hb dX5_same_146 (lv_at hl 1 rfl) ?_
                obtain ⟨hq113006, hf⟩ := kp_t hf
                refine va_iald hx hb hK hP 2 0 rfl rfl hq113006 dX5_same_148 ?_
                refine lv_aload_n hx hb dX5_same_149 rfl (lv_at hl 2 rfl) ?_
                refine va_get (D := (dC, dI)) (ci := 5) (v := .ref h_sort) (C := RX5) (T := TX5) (N := 15) hx hb hts iwX5 hown hK hP 0 rfl rfl 4 (by decide) (hts _ tw_339) (fun _ h9 => h9) rfl dX5_same_150 ?_
                refine lv_iload hx hb dX5_same_153 (lv_at hl 0 rfl) ?_
                obtain ⟨hq113007, hf⟩ := kp_t hf
                refine va_iald hx hb hK hP 2 0 rfl rfl hq113007 dX5_same_155 ?_
                refine lv_icmp_ne (tgt := 217) hx hb dX5_same_156 (by decide) (fun c113008 => ?_) (fun c113008 => ?_)
                · have hf := kp_n c113008 hf
                  refine lv_iconst (v := 0) hx hb dX5_same_217 (by decide) ?_
                  refine lv_istore (lv' := [(7, .int 0), (10, .int (80 + v8)), (9, .int (40 + v8)), (0, .ref h), (8, .int v8)]) hx hb dX5_same_218 hl (by decide) rfl (fun ls hl => ?_)
                  refine lv_iinc (v := v8 + 1) (lv' := [(8, .int (v8 + 1)), (7, .int 0), (10, .int (80 + v8)), (9, .int (40 + v8)), (0, .ref h)]) hx hb dX5_same_220 hl (k := 4) rfl rfl (by decide) rfl (fun ls hl => ?_)
                  refine lv_goto (tgt := 112) hx hb dX5_same_223 (by decide) ?_
                  exact ih112 _ _ _ ⟨h_code, h_state, h_many_v, h_sort_v, h_x_v, h_y_v, h_z_v, h_fault_v, h_faultAt_v, 0, v8 + 1, ls, rfl, lv_sub hl [4, 1, 0] rfl, hP, hD, hS, hf⟩
                · have hf := kp_p c113008 hf
                  refine lv_aload_n hx hb dX5_same_159 rfl (lv_at hl 2 rfl) ?_
                  refine va_get (D := (dC, dI)) (ci := 5) (v := .ref h_x) (C := RX5) (T := TX5) (N := 15) hx hb hts iwX5 hown hK hP 0 rfl rfl 5 (by decide) (hts _ tw_340) (fun _ h9 => h9) rfl dX5_same_160 ?_
                  refine lv_iload hx hb dX5_same_163 (lv_at hl 1 rfl) ?_
                  refine va_lald hx hb hK hP 3 2 rfl rfl hq113006 dX5_same_165 ?_
                  refine lv_aload_n hx hb dX5_same_166 rfl (lv_at hl 2 rfl) ?_
                  refine va_get (D := (dC, dI)) (ci := 5) (v := .ref h_x) (C := RX5) (T := TX5) (N := 15) hx hb hts iwX5 hown hK hP 0 rfl rfl 5 (by decide) (hts _ tw_340) (fun _ h9 => h9) rfl dX5_same_167 ?_
                  refine lv_iload hx hb dX5_same_170 (lv_at hl 0 rfl) ?_
                  refine va_lald hx hb hK hP 3 2 rfl rfl hq113007 dX5_same_172 ?_
                  refine W.lcmp hx hb dX5_same_173 ?_
                  refine lv_if_ne (tgt := 217) hx hb dX5_same_174 (by decide) (fun c113011 => ?_) (fun c113011 => ?_)
                  · have hf := kp_n c113011 hf
                    refine lv_iconst (v := 0) hx hb dX5_same_217 (by decide) ?_
                    refine lv_istore (lv' := [(7, .int 0), (10, .int (80 + v8)), (9, .int (40 + v8)), (0, .ref h), (8, .int v8)]) hx hb dX5_same_218 hl (by decide) rfl (fun ls hl => ?_)
                    refine lv_iinc (v := v8 + 1) (lv' := [(8, .int (v8 + 1)), (7, .int 0), (10, .int (80 + v8)), (9, .int (40 + v8)), (0, .ref h)]) hx hb dX5_same_220 hl (k := 4) rfl rfl (by decide) rfl (fun ls hl => ?_)
                    refine lv_goto (tgt := 112) hx hb dX5_same_223 (by decide) ?_
                    exact ih112 _ _ _ ⟨h_code, h_state, h_many_v, h_sort_v, h_x_v, h_y_v, h_z_v, h_fault_v, h_faultAt_v, 0, v8 + 1, ls, rfl, lv_sub hl [4, 1, 0] rfl, hP, hD, hS, hf⟩
                  · have hf := kp_p c113011 hf
                    refine lv_aload_n hx hb dX5_same_177 rfl (lv_at hl 2 rfl) ?_
                    refine va_get (D := (dC, dI)) (ci := 5) (v := .ref h_y) (C := RX5) (T := TX5) (N := 15) hx hb hts iwX5 hown hK hP 0 rfl rfl 6 (by decide) (hts _ tw_341) (fun _ h9 => h9) rfl dX5_same_178 ?_
                    refine lv_iload hx hb dX5_same_181 (lv_at hl 1 rfl) ?_
                    refine va_lald hx hb hK hP 4 2 rfl rfl hq113006 dX5_same_183 ?_
                    refine lv_aload_n hx hb dX5_same_184 rfl (lv_at hl 2 rfl) ?_
                    refine va_get (D := (dC, dI)) (ci := 5) (v := .ref h_y) (C := RX5) (T := TX5) (N := 15) hx hb hts iwX5 hown hK hP 0 rfl rfl 6 (by decide) (hts _ tw_341) (fun _ h9 => h9) rfl dX5_same_185 ?_
                    refine lv_iload hx hb dX5_same_188 (lv_at hl 0 rfl) ?_
                    refine va_lald hx hb hK hP 4 2 rfl rfl hq113007 dX5_same_190 ?_
                    refine W.lcmp hx hb dX5_same_191 ?_
                    refine lv_if_ne (tgt := 217) hx hb dX5_same_192 (by decide) (fun c113014 => ?_) (fun c113014 => ?_)
                    · have hf := kp_n c113014 hf
                      refine lv_iconst (v := 0) hx hb dX5_same_217 (by decide) ?_
                      refine lv_istore (lv' := [(7, .int 0), (10, .int (80 + v8)), (9, .int (40 + v8)), (0, .ref h), (8, .int v8)]) hx hb dX5_same_218 hl (by decide) rfl (fun ls hl => ?_)
                      refine lv_iinc (v := v8 + 1) (lv' := [(8, .int (v8 + 1)), (7, .int 0), (10, .int (80 + v8)), (9, .int (40 + v8)), (0, .ref h)]) hx hb dX5_same_220 hl (k := 4) rfl rfl (by decide) rfl (fun ls hl => ?_)
                      refine lv_goto (tgt := 112) hx hb dX5_same_223 (by decide) ?_
                      exact ih112 _ _ _ ⟨h_code, h_state, h_many_v, h_sort_v, h_x_v, h_y_v, h_z_v, h_fault_v, h_faultAt_v, 0, v8 + 1, ls, rfl, lv_sub hl [4, 1, 0] rfl, hP, hD, hS, hf⟩
                    · have hf := kp_p c113014 hf
                      refine lv_aload_n hx hb dX5_same_195 rfl (lv_at hl 2 rfl) ?_
                      refine va_get (D := (dC, dI)) (ci := 5) (v := .ref h_z) (C := RX5) (T := TX5) (N := 15) hx hb hts iwX5 hown hK hP 0 rfl rfl 7 (by decide) (hts _ tw_342) (fun _ h9 => h9) rfl dX5_same_196 ?_
                      refine lv_iload hx hb dX5_same_199 (lv_at hl 1 rfl) ?_
                      refine va_lald hx hb hK hP 5 2 rfl rfl hq113006 dX5_same_201 ?_
                      refine lv_aload_n hx hb dX5_same_202 rfl (lv_at hl 2 rfl) ?_
                      refine va_get (D := (dC, dI)) (ci := 5) (v := .ref h_z) (C := RX5) (T := TX5) (N := 15) hx hb hts iwX5 hown hK hP 0 rfl rfl 7 (by decide) (hts _ tw_342) (fun _ h9 => h9) rfl dX5_same_203 ?_
                      refine lv_iload hx hb dX5_same_206 (lv_at hl 0 rfl) ?_
                      refine va_lald hx hb hK hP 5 2 rfl rfl hq113007 dX5_same_208 ?_
                      refine W.lcmp hx hb dX5_same_209 ?_
                      refine lv_if_ne (tgt := 217) hx hb dX5_same_210 (by decide) (fun c113017 => ?_) (fun c113017 => ?_)
                      · have hf := kp_n c113017 hf
                        refine lv_iconst (v := 0) hx hb dX5_same_217 (by decide) ?_
                        refine lv_istore (lv' := [(7, .int 0), (10, .int (80 + v8)), (9, .int (40 + v8)), (0, .ref h), (8, .int v8)]) hx hb dX5_same_218 hl (by decide) rfl (fun ls hl => ?_)
                        refine lv_iinc (v := v8 + 1) (lv' := [(8, .int (v8 + 1)), (7, .int 0), (10, .int (80 + v8)), (9, .int (40 + v8)), (0, .ref h)]) hx hb dX5_same_220 hl (k := 4) rfl rfl (by decide) rfl (fun ls hl => ?_)
                        refine lv_goto (tgt := 112) hx hb dX5_same_223 (by decide) ?_
                        exact ih112 _ _ _ ⟨h_code, h_state, h_many_v, h_sort_v, h_x_v, h_y_v, h_z_v, h_fault_v, h_faultAt_v, 0, v8 + 1, ls, rfl, lv_sub hl [4, 1, 0] rfl, hP, hD, hS, hf⟩
                      · have hf := kp_p c113017 hf
                        refine lv_iconst (v := 1) hx hb dX5_same_213 (by decide) ?_
                        refine lv_goto (tgt := 218) hx hb dX5_same_214 (by decide) ?_
                        refine lv_istore (lv' := [(7, .int 1), (10, .int (80 + v8)), (9, .int (40 + v8)), (0, .ref h), (8, .int v8)]) hx hb dX5_same_218 hl (by decide) rfl (fun ls hl => ?_)
                        refine lv_iinc (v := v8 + 1) (lv' := [(8, .int (v8 + 1)), (7, .int 1), (10, .int (80 + v8)), (9, .int (40 + v8)), (0, .ref h)]) hx hb dX5_same_220 hl (k := 4) rfl rfl (by decide) rfl (fun ls hl => ?_)
                        refine lv_goto (tgt := 112) hx hb dX5_same_223 (by decide) ?_
                        exact ih112 _ _ _ ⟨h_code, h_state, h_many_v, h_sort_v, h_x_v, h_y_v, h_z_v, h_fault_v, h_faultAt_v, 1, v8 + 1, ls, rfl, lv_sub hl [4, 1, 0] rfl, hP, hD, hS, hf⟩
        · have hf := kp_p c13 hf
          refine lv_iconst (v := 1) hx hb dX5_same_102 (by decide) ?_
          refine lv_goto (tgt := 107) hx hb dX5_same_103 (by decide) ?_
          refine lv_istore (lv' := [(7, .int 1), (5, .long h_state), (0, .ref h), (1, .long p0), (3, .int p1), (4, .int p2)]) hx hb dX5_same_107 hl (by decide) rfl (fun ls hl => ?_)
          refine lv_iconst (v := 0) hx hb dX5_same_109 (by decide) ?_
          refine lv_istore (lv' := [(8, .int 0), (7, .int 1), (5, .long h_state), (0, .ref h), (1, .long p0), (3, .int p1), (4, .int p2)]) hx hb dX5_same_110 hl (by decide) rfl (fun ls hl => ?_)
          refine kq_ind (fun n H locs g => ∃ (h_code : Int32) (h_state : Int64) (h_many_v : Nat → Int32) (h_sort_v : Nat → Int32) (h_x_v : Nat → Int64) (h_y_v : Nat → Int64) (h_z_v : Nat → Int64) (h_fault_v : Nat → Int32) (h_faultAt_v : Nat → Int32) (v7 : Int32) (v8 : Int32) (ls : Array Slot), g = F0 m 112 ls [] ∧ lv_has ls 11 [(0, .ref h), (7, .int v7), (8, .int v8)] ∧ va_P (dC, dI) vwCl [(h, .inr (5, [.int h_code, .long h_seed, .long h_state, .ref h_many, .ref h_sort, .ref h_x, .ref h_y, .ref h_z, .ref h_fault, .ref h_faultAt, .ref h_left, .int h_lefts, .ref h_stays, .ref h_text, .int h_size])), (h_many, .inl (cA 0, 3, .inl h_many_v)), (h_sort, .inl (cA 0, 120, .inl h_sort_v)), (h_x, .inl (cA 2, 120, .inr (.inl h_x_v))), (h_y, .inl (cA 2, 120, .inr (.inl h_y_v))), (h_z, .inl (cA 2, 120, .inr (.inl h_z_v))), (h_fault, .inl (cA 0, 3, .inl h_fault_v)), (h_faultAt, .inl (cA 0, 3, .inl h_faultAt_v))] H ∧ va_D A [(h, .inr (5, [.int h_code, .long h_seed, .long h_state, .ref h_many, .ref h_sort, .ref h_x, .ref h_y, .ref h_z, .ref h_fault, .ref h_faultAt, .ref h_left, .int h_lefts, .ref h_stays, .ref h_text, .int h_size])), (h_many, .inl (cA 0, 3, .inl h_many_v)), (h_sort, .inl (cA 0, 120, .inl h_sort_v)), (h_x, .inl (cA 2, 120, .inr (.inl h_x_v))), (h_y, .inl (cA 2, 120, .inr (.inl h_y_v))), (h_z, .inl (cA 2, 120, .inr (.inl h_z_v))), (h_fault, .inl (cA 0, 3, .inl h_fault_v)), (h_faultAt, .inl (cA 0, 3, .inl h_faultAt_v))] ∧ va_S A s.heap H locs ∧ f_X5_same_L112 h_seed p0 p1 p2 n h_code h_state h_many_v h_sort_v h_x_v h_y_v h_z_v h_fault_v h_faultAt_v v7 v8 = some o) (fun H locs g h => ?_) (fun n112 ih112 H locs g h => ?_) 64 _ _ _ ⟨0, h_state, r4.2.1, r4.2.2.1, r4.2.2.2.1, r4.2.2.2.2.1, r4.2.2.2.2.2.1, r4.2.2.2.2.2.2.1, r4.2.2.2.2.2.2.2, 1, 0, ls, rfl, lv_sub hl [3, 1, 0] rfl, hP, hD, hS, hf⟩
          · obtain ⟨h_code, h_state, h_many_v, h_sort_v, h_x_v, h_y_v, h_z_v, h_fault_v, h_faultAt_v, v7, v8, ls, -, -, -, -, -, hf⟩ := h
            have hf : (none : Option (Int32 × Int32 × Int64 × (Nat → Int32) × (Nat → Int32) × (Nat → Int64) × (Nat → Int64) × (Nat → Int64) × (Nat → Int32) × (Nat → Int32))) = some o := hf
            cases hf
          · obtain ⟨h_code, h_state, h_many_v, h_sort_v, h_x_v, h_y_v, h_z_v, h_fault_v, h_faultAt_v, v7, v8, ls, rfl, hl, hP, hD, hS, hf⟩ := h
            have hf := (e_X5_same_L112 h_seed p0 p1 p2 n112 h_code h_state h_many_v h_sort_v h_x_v h_y_v h_z_v h_fault_v h_faultAt_v v7 v8).symm.trans hf
            refine lv_iload hx hb dX5_same_112 (lv_at hl 2 rfl) ?_
            refine lv_aload_n hx hb dX5_same_114 rfl (lv_at hl 0 rfl) ?_
            refine va_get (D := (dC, dI)) (ci := 5) (v := .ref h_many) (C := RX5) (T := TX5) (N := 15) hx hb hts iwX5 hown hK hP 0 rfl rfl 3 (by decide) (hts _ tw_338) (fun _ h9 => h9) rfl dX5_same_115 ?_
            refine lv_iconst (v := 1) hx hb dX5_same_118 (by decide) ?_
            refine va_iald hx hb hK hP 1 0 rfl rfl (show ¬ ((1 : Int32) < 0 ∨ 3 ≤ (1 : Int32).toNatClampNeg) by decide) dX5_same_119 ?_
            refine lv_icmp_ge (tgt := 226) hx hb dX5_same_120 (by decide) (fun c113002 => ?_) (fun c113002 => ?_)
            · have hf := kp_p c113002 hf
              refine lv_iload hx hb dX5_same_226 (lv_at hl 1 rfl) ?_
              obtain ⟨hq113003, hf⟩ := kp_t hf
              have eo := Option.some.inj hf
              subst eo
              exact W.zret (v := v7) hx hb hr (kq_z hq113003) (fun t ht hW => ⟨⟨_, (), rfl, rfl, kq_mk ht hP hD⟩, hS.F ht⟩) hS.2.2 dX5_same_228
            · have hf := kp_n c113002 hf
              refine lv_iload hx hb dX5_same_123 (lv_at hl 1 rfl) ?_
              refine lv_if_eq (tgt := 226) hx hb dX5_same_125 (by decide) (fun c113004 => ?_) (fun c113004 => ?_)
              · have hf := kp_p c113004 hf
                refine lv_iload hx hb dX5_same_226 (lv_at hl 1 rfl) ?_
                obtain ⟨hq113005, hf⟩ := kp_t hf
                have eo := Option.some.inj hf
                subst eo
                exact W.zret (v := v7) hx hb hr (kq_z hq113005) (fun t ht hW => ⟨⟨_, (), rfl, rfl, kq_mk ht hP hD⟩, hS.F ht⟩) hS.2.2 dX5_same_228
              · have hf := kp_n c113004 hf
                refine lv_bipush (v := 40) hx hb dX5_same_128 (by decide) ?_
                refine lv_iload hx hb dX5_same_130 (lv_at hl 2 rfl) ?_
                refine lv_iadd hx hb dX5_same_132 ?_
                refine lv_istore (lv' := [(9, .int (40 + v8)), (0, .ref h), (7, .int v7), (8, .int v8)]) hx hb dX5_same_133 hl (by decide) rfl (fun ls hl => ?_)
                refine lv_bipush (v := 80) hx hb dX5_same_135 (by decide) ?_
                refine lv_iload hx hb dX5_same_137 (lv_at hl 3 rfl) ?_
                refine lv_iadd hx hb dX5_same_139 ?_
                refine lv_istore (lv' := [(10, .int (80 + v8)), (9, .int (40 + v8)), (0, .ref h), (7, .int v7), (8, .int v8)]) hx hb dX5_same_140 hl (by decide) rfl (fun ls hl => ?_)
                refine lv_aload_n hx hb dX5_same_142 rfl (lv_at hl 2 rfl) ?_
                refine va_get (D := (dC, dI)) (ci := 5) (v := .ref h_sort) (C := RX5) (T := TX5) (N := 15) hx hb hts iwX5 hown hK hP 0 rfl rfl 4 (by decide) (hts _ tw_339) (fun _ h9 => h9) rfl dX5_same_143 ?_
                refine lv_iload hx hb dX5_same_146 (lv_at hl 1 rfl) ?_
                obtain ⟨hq113006, hf⟩ := kp_t hf
                refine va_iald hx hb hK hP 2 0 rfl rfl hq113006 dX5_same_148 ?_
                refine lv_aload_n hx hb dX5_same_149 rfl (lv_at hl 2 rfl) ?_
                refine va_get (D := (dC, dI)) (ci := 5) (v := .ref h_sort) (C := RX5) (T := TX5) (N := 15) hx hb hts iwX5 hown hK hP 0 rfl rfl 4 (by decide) (hts _ tw_339) (fun _ h9 => h9) rfl dX5_same_150 ?_
                refine lv_iload hx hb dX5_same_153 (lv_at hl 0 rfl) ?_
                obtain ⟨hq113007, hf⟩ := kp_t hf
                refine va_iald hx hb hK hP 2 0 rfl rfl hq113007 dX5_same_155 ?_
                refine lv_icmp_ne (tgt := 217) hx hb dX5_same_156 (by decide) (fun c113008 => ?_) (fun c113008 => ?_)
                · have hf := kp_n c113008 hf
                  refine lv_iconst (v := 0) hx hb dX5_same_217 (by decide) ?_
                  refine lv_istore (lv' := [(7, .int 0), (10, .int (80 + v8)), (9, .int (40 + v8)), (0, .ref h), (8, .int v8)]) hx hb dX5_same_218 hl (by decide) rfl (fun ls hl => ?_)
                  refine lv_iinc (v := v8 + 1) (lv' := [(8, .int (v8 + 1)), (7, .int 0), (10, .int (80 + v8)), (9, .int (40 + v8)), (0, .ref h)]) hx hb dX5_same_220 hl (k := 4) rfl rfl (by decide) rfl (fun ls hl => ?_)
                  refine lv_goto (tgt := 112) hx hb dX5_same_223 (by decide) ?_
                  exact ih112 _ _ _ ⟨h_code, h_state, h_many_v, h_sort_v, h_x_v, h_y_v, h_z_v, h_fault_v, h_faultAt_v, 0, v8 + 1, ls, rfl, lv_sub hl [4, 1, 0] rfl, hP, hD, hS, hf⟩
                · have hf := kp_p c113008 hf
                  refine lv_aload_n hx hb dX5_same_159 rfl (lv_at hl 2 rfl) ?_
                  refine va_get (D := (dC, dI)) (ci := 5) (v := .ref h_x) (C := RX5) (T := TX5) (N := 15) hx hb hts iwX5 hown hK hP 0 rfl rfl 5 (by decide) (hts _ tw_340) (fun _ h9 => h9) rfl dX5_same_160 ?_
                  refine lv_iload hx hb dX5_same_163 (lv_at hl 1 rfl) ?_
                  refine va_lald hx hb hK hP 3 2 rfl rfl hq113006 dX5_same_165 ?_
                  refine lv_aload_n hx hb dX5_same_166 rfl (lv_at hl 2 rfl) ?_
                  refine va_get (D := (dC, dI)) (ci := 5) (v := .ref h_x) (C := RX5) (T := TX5) (N := 15) hx hb hts iwX5 hown hK hP 0 rfl rfl 5 (by decide) (hts _ tw_340) (fun _ h9 => h9) rfl dX5_same_167 ?_
                  refine lv_iload hx hb dX5_same_170 (lv_at hl 0 rfl) ?_
                  refine va_lald hx hb hK hP 3 2 rfl rfl hq113007 dX5_same_172 ?_
                  refine W.lcmp hx hb dX5_same_173 ?_
                  refine lv_if_ne (tgt := 217) hx hb dX5_same_174 (by decide) (fun c113011 => ?_) (fun c113011 => ?_)
                  · have hf := kp_n c113011 hf
                    refine lv_iconst (v := 0) hx hb dX5_same_217 (by decide) ?_
                    refine lv_istore (lv' := [(7, .int 0), (10, .int (80 + v8)), (9, .int (40 + v8)), (0, .ref h), (8, .int v8)]) hx hb dX5_same_218 hl (by decide) rfl (fun ls hl => ?_)
                    refine lv_iinc (v := v8 + 1) (lv' := [(8, .int (v8 + 1)), (7, .int 0), (10, .int (80 + v8)), (9, .int (40 + v8)), (0, .ref h)]) hx hb dX5_same_220 hl (k := 4) rfl rfl (by decide) rfl (fun ls hl => ?_)
                    refine lv_goto (tgt := 112) hx hb dX5_same_223 (by decide) ?_
                    exact ih112 _ _ _ ⟨h_code, h_state, h_many_v, h_sort_v, h_x_v, h_y_v, h_z_v, h_fault_v, h_faultAt_v, 0, v8 + 1, ls, rfl, lv_sub hl [4, 1, 0] rfl, hP, hD, hS, hf⟩
                  · have hf := kp_p c113011 hf
                    refine lv_aload_n hx hb dX5_same_177 rfl (lv_at hl 2 rfl) ?_
                    refine va_get (D := (dC, dI)) (ci := 5) (v := .ref h_y) (C := RX5) (T := TX5) (N := 15) hx hb hts iwX5 hown hK hP 0 rfl rfl 6 (by decide) (hts _ tw_341) (fun _ h9 => h9) rfl dX5_same_178 ?_
                    refine lv_iload hx hb dX5_same_181 (lv_at hl 1 rfl) ?_
                    refine va_lald hx hb hK hP 4 2 rfl rfl hq113006 dX5_same_183 ?_
                    refine lv_aload_n hx hb dX5_same_184 rfl (lv_at hl 2 rfl) ?_
                    refine va_get (D := (dC, dI)) (ci := 5) (v := .ref h_y) (C := RX5) (T := TX5) (N := 15) hx hb hts iwX5 hown hK hP 0 rfl rfl 6 (by decide) (hts _ tw_341) (fun _ h9 => h9) rfl dX5_same_185 ?_
                    refine lv_iload hx hb dX5_same_188 (lv_at hl 0 rfl) ?_
                    refine va_lald hx hb hK hP 4 2 rfl rfl hq113007 dX5_same_190 ?_
                    refine W.lcmp hx hb dX5_same_191 ?_
                    refine lv_if_ne (tgt := 217) hx hb dX5_same_192 (by decide) (fun c113014 => ?_) (fun c113014 => ?_)
                    · have hf := kp_n c113014 hf
                      refine lv_iconst (v := 0) hx hb dX5_same_217 (by decide) ?_
                      refine lv_istore (lv' := [(7, .int 0), (10, .int (80 + v8)), (9, .int (40 + v8)), (0, .ref h), (8, .int v8)]) hx hb dX5_same_218 hl (by decide) rfl (fun ls hl => ?_)
                      refine lv_iinc (v := v8 + 1) (lv' := [(8, .int (v8 + 1)), (7, .int 0), (10, .int (80 + v8)), (9, .int (40 + v8)), (0, .ref h)]) hx hb dX5_same_220 hl (k := 4) rfl rfl (by decide) rfl (fun ls hl => ?_)
                      refine lv_goto (tgt := 112) hx hb dX5_same_223 (by decide) ?_
                      exact ih112 _ _ _ ⟨h_code, h_state, h_many_v, h_sort_v, h_x_v, h_y_v, h_z_v, h_fault_v, h_faultAt_v, 0, v8 + 1, ls, rfl, lv_sub hl [4, 1, 0] rfl, hP, hD, hS, hf⟩
                    · have hf := kp_p c113014 hf
                      refine lv_aload_n hx hb dX5_same_195 rfl (lv_at hl 2 rfl) ?_
                      refine va_get (D := (dC, dI)) (ci := 5) (v := .ref h_z) (C := RX5) (T := TX5) (N := 15) hx hb hts iwX5 hown hK hP 0 rfl rfl 7 (by decide) (hts _ tw_342) (fun _ h9 => h9) rfl dX5_same_196 ?_
                      refine lv_iload hx hb dX5_same_199 (lv_at hl 1 rfl) ?_
                      refine va_lald hx hb hK hP 5 2 rfl rfl hq113006 dX5_same_201 ?_
                      refine lv_aload_n hx hb dX5_same_202 rfl (lv_at hl 2 rfl) ?_
                      refine va_get (D := (dC, dI)) (ci := 5) (v := .ref h_z) (C := RX5) (T := TX5) (N := 15) hx hb hts iwX5 hown hK hP 0 rfl rfl 7 (by decide) (hts _ tw_342) (fun _ h9 => h9) rfl dX5_same_203 ?_
                      refine lv_iload hx hb dX5_same_206 (lv_at hl 0 rfl) ?_
                      refine va_lald hx hb hK hP 5 2 rfl rfl hq113007 dX5_same_208 ?_
                      refine W.lcmp hx hb dX5_same_209 ?_
                      refine lv_if_ne (tgt := 217) hx hb dX5_same_210 (by decide) (fun c113017 => ?_) (fun c113017 => ?_)
                      · have hf := kp_n c113017 hf
                        refine lv_iconst (v := 0) hx hb dX5_same_217 (by decide) ?_
                        refine lv_istore (lv' := [(7, .int 0), (10, .int (80 + v8)), (9, .int (40 + v8)), (0, .ref h), (8, .int v8)]) hx hb dX5_same_218 hl (by decide) rfl (fun ls hl => ?_)
                        refine lv_iinc (v := v8 + 1) (lv' := [(8, .int (v8 + 1)), (7, .int 0), (10, .int (80 + v8)), (9, .int (40 + v8)), (0, .ref h)]) hx hb dX5_same_220 hl (k := 4) rfl rfl (by decide) rfl (fun ls hl => ?_)
                        refine lv_goto (tgt := 112) hx hb dX5_same_223 (by decide) ?_
                        exact ih112 _ _ _ ⟨h_code, h_state, h_many_v, h_sort_v, h_x_v, h_y_v, h_z_v, h_fault_v, h_faultAt_v, 0, v8 + 1, ls, rfl, lv_sub hl [4, 1, 0] rfl, hP, hD, hS, hf⟩
                      · have hf := kp_p c113017 hf
                        refine lv_iconst (v := 1) hx hb dX5_same_213 (by decide) ?_
                        refine lv_goto (tgt := 218) hx hb dX5_same_214 (by decide) ?_
                        refine lv_istore (lv' := [(7, .int 1), (10, .int (80 + v8)), (9, .int (40 + v8)), (0, .ref h), (8, .int v8)]) hx hb dX5_same_218 hl (by decide) rfl (fun ls hl => ?_)
                        refine lv_iinc (v := v8 + 1) (lv' := [(8, .int (v8 + 1)), (7, .int 1), (10, .int (80 + v8)), (9, .int (40 + v8)), (0, .ref h)]) hx hb dX5_same_220 hl (k := 4) rfl rfl (by decide) rfl (fun ls hl => ?_)
                        refine lv_goto (tgt := 112) hx hb dX5_same_223 (by decide) ?_
                        exact ih112 _ _ _ ⟨h_code, h_state, h_many_v, h_sort_v, h_x_v, h_y_v, h_z_v, h_fault_v, h_faultAt_v, 1, v8 + 1, ls, rfl, lv_sub hl [4, 1, 0] rfl, hP, hD, hS, hf⟩
  · have hf := kp_n c2 hf
    refine lv_iconst (v := 0) hx hb dX5_same_14 (by decide) ?_
    have eo := Option.some.inj hf
    subst eo
    exact W.zret (v := 0) hx hb hr rfl (fun t ht hW => ⟨⟨_, (), rfl, rfl, kq_mk ht hP hD⟩, hS.F ht⟩) hS.2.2 dX5_same_15

def f_X5_placeOf_L2 (h_lefts : Int32) (h_left_v : Nat → Int32) (p0 : Int32) : Nat → Int32 → Option (Int32)
  | 0, _ => none
  | n2 + 1, v2 =>
    (if h_lefts ≤ v2 then
    some ((-1))
    else
    if v2 < 0 ∨ 40 ≤ v2.toNatClampNeg then none else
    (if (h_left_v v2.toNatClampNeg) = p0 then
    some v2
    else
    f_X5_placeOf_L2 h_lefts h_left_v p0 n2 (v2 + 1)))
theorem e_X5_placeOf_L2 (h_lefts : Int32) (h_left_v : Nat → Int32) (p0 : Int32) (n2 : Nat) (v2 : Int32) : f_X5_placeOf_L2 h_lefts h_left_v p0 (n2 + 1) v2 =
    ((if h_lefts ≤ v2 then
    some ((-1))
    else
    if v2 < 0 ∨ 40 ≤ v2.toNatClampNeg then none else
    (if (h_left_v v2.toNatClampNeg) = p0 then
    some v2
    else
    f_X5_placeOf_L2 h_lefts h_left_v p0 n2 (v2 + 1)))) := rfl
def f_X5_placeOf (h_lefts : Int32) (h_left_v : Nat → Int32) (p0 : Int32) : Option (Int32) :=
    f_X5_placeOf_L2 h_lefts h_left_v p0 64 0
set_option maxHeartbeats 4000000 in
set_option maxRecDepth 100000 in
theorem c_X5_placeOf (l : Launch) (dC : Nat → ClassId) (dI : Nat → Nat → Nat) (cA : Nat → ClassId) (tt : Nat → Nat) (h h_left h_many h_sort h_x h_y h_z h_fault h_faultAt h_stays h_text : Nat) (sz : Nat) (h_code : Int32) (h_seed : Int64) (h_state : Int64) (h_lefts : Int32) (h_size : Int32) (h_left_v : Nat → Int32) (p0 : Int32) (o : Int32) (hf : f_X5_placeOf h_lefts h_left_v p0 = some o) : Met l yX5_placeOf wX5_placeOf ({ frames := 0, cells := 0, slots := 0, locals := 0 }) (kq_Pc dC dI cA tt [.ref h, .int p0] [(h, .inr (5, [.int h_code, .long h_seed, .long h_state, .ref h_many, .ref h_sort, .ref h_x, .ref h_y, .ref h_z, .ref h_fault, .ref h_faultAt, .ref h_left, .int h_lefts, .ref h_stays, .ref h_text, .int h_size])), (h_left, .inl (cA 0, 40, .inl h_left_v))] sz) (va_Qi (fun r (_ : Unit) => r = o) (fun _ t => kq_B dC dI [(h, .inr (5, [.int h_code, .long h_seed, .long h_state, .ref h_many, .ref h_sort, .ref h_x, .ref h_y, .ref h_z, .ref h_fault, .ref h_faultAt, .ref h_left, .int h_lefts, .ref h_stays, .ref h_text, .int h_size])), (h_left, .inl (cA 0, 40, .inl h_left_v))] (va_A [(h, .inr (5, [.int h_code, .long h_seed, .long h_state, .ref h_many, .ref h_sort, .ref h_x, .ref h_y, .ref h_z, .ref h_fault, .ref h_faultAt, .ref h_left, .int h_lefts, .ref h_stays, .ref h_text, .int h_size])), (h_left, .inl (cA 0, 40, .inl h_left_v))] sz) t) (va_A [(h, .inr (5, [.int h_code, .long h_seed, .long h_state, .ref h_many, .ref h_sort, .ref h_x, .ref h_y, .ref h_z, .ref h_fault, .ref h_faultAt, .ref h_left, .int h_lefts, .ref h_stays, .ref h_text, .int h_size])), (h_left, .inl (cA 0, 40, .inl h_left_v))] sz)) 0 0 (va_A [(h, .inr (5, [.int h_code, .long h_seed, .long h_state, .ref h_many, .ref h_sort, .ref h_x, .ref h_y, .ref h_z, .ref h_fault, .ref h_faultAt, .ref h_left, .int h_lefts, .ref h_stays, .ref h_text, .int h_size])), (h_left, .inl (cA 0, 40, .inl h_left_v))] sz) := by
  refine Met.ofW (cc := cX5_placeOf) (maxL := 3) (ret := (some .int)) (by decide) rfl ?_
  intro p e s m args below meth c s₁ B hml hv
  obtain ⟨rfl, hsz, hP, hD0, hG, hZ⟩ := hv
  have hx := B.exec
  have hb := B.bytes
  have hr := B.returns
  have hts : ∀ w ∈ kq_T, w.before _ s = true := fun w h => atoms_spec (ws := wX5_placeOf) B.pre w (List.mem_cons_of_mem _ h)
  have hown : s.vm.findClass RX5 = some m.cls := findClass_of_methodNamed B.named
  have hlocks := B.notSynchronized
  have hK := hG.1
  subst hsz
  have hD := hD0.self (sz := s.heap.size)
  generalize hAe : va_A [(h, .inr (5, [.int h_code, .long h_seed, .long h_state, .ref h_many, .ref h_sort, .ref h_x, .ref h_y, .ref h_z, .ref h_fault, .ref h_faultAt, .ref h_left, .int h_lefts, .ref h_stays, .ref h_text, .int h_size])), (h_left, .inl (cA 0, 40, .inl h_left_v))] s.heap.size = A at hD hZ ⊢
  have hA : ∀ q : Nat, s.heap.size ≤ q → A q := fun q h => by rw [← hAe]; exact Or.inr h
  have hl := lv_entry [.ref h, .int p0] (n := 3) (Nat.le_of_ble_eq_true rfl)
  rw [lg_entry_eq]
  generalize (lg_sl [.ref h, .int p0] ++ List.replicate (3 - (lg_sl [.ref h, .int p0]).length) Slot.unset).toArray = ls at hl ⊢
  have hl : lv_has ls 3 [(0, .ref h), (1, .int p0)] := hl
  obtain ⟨H, hHe⟩ : ∃ H : Heap, H = s.heap := ⟨_, rfl⟩
  have hP : va_P (dC, dI) vwCl [(h, .inr (5, [.int h_code, .long h_seed, .long h_state, .ref h_many, .ref h_sort, .ref h_x, .ref h_y, .ref h_z, .ref h_fault, .ref h_faultAt, .ref h_left, .int h_lefts, .ref h_stays, .ref h_text, .int h_size])), (h_left, .inl (cA 0, 40, .inl h_left_v))] H := by rw [hHe]; exact hP
  have hS : va_S A s.heap H [] := by rw [hHe]; exact va_S.rf
  rw [← hHe]
  unfold f_X5_placeOf at hf
  refine lv_iconst (v := 0) hx hb dX5_placeOf_0 (by decide) ?_
  refine lv_istore_n (lv' := [(2, .int 0), (0, .ref h), (1, .int p0)]) hx hb dX5_placeOf_1 rfl hl (by decide) rfl (fun ls hl => ?_)
  refine kq_ind (fun n H locs g => ∃ (v2 : Int32) (ls : Array Slot), g = F0 m 2 ls [] ∧ lv_has ls 3 [(0, .ref h), (1, .int p0), (2, .int v2)] ∧ va_P (dC, dI) vwCl [(h, .inr (5, [.int h_code, .long h_seed, .long h_state, .ref h_many, .ref h_sort, .ref h_x, .ref h_y, .ref h_z, .ref h_fault, .ref h_faultAt, .ref h_left, .int h_lefts, .ref h_stays, .ref h_text, .int h_size])), (h_left, .inl (cA 0, 40, .inl h_left_v))] H ∧ va_D A [(h, .inr (5, [.int h_code, .long h_seed, .long h_state, .ref h_many, .ref h_sort, .ref h_x, .ref h_y, .ref h_z, .ref h_fault, .ref h_faultAt, .ref h_left, .int h_lefts, .ref h_stays, .ref h_text, .int h_size])), (h_left, .inl (cA 0, 40, .inl h_left_v))] ∧ va_S A s.heap H locs ∧ f_X5_placeOf_L2 h_lefts h_left_v p0 n v2 = some o) (fun H locs g h => ?_) (fun n2 ih2 H locs g h => ?_) 64 _ _ _ ⟨0, ls, rfl, lv_sub hl [1, 2, 0] rfl, hP, hD, hS, hf⟩
  · obtain ⟨v2, ls, -, -, -, -, -, hf⟩ := h
    have hf : (none : Option (Int32)) = some o := hf
    cases hf
  · obtain ⟨v2, ls, rfl, hl, hP, hD, hS, hf⟩ := h
    have hf := (e_X5_placeOf_L2 h_lefts h_left_v p0 n2 v2).symm.trans hf
    refine lv_iload_n hx hb dX5_placeOf_2 rfl (lv_at hl 2 rfl) ?_
    refine lv_aload_n hx hb dX5_placeOf_3 rfl (lv_at hl 0 rfl) ?_
    refine va_get (D := (dC, dI)) (ci := 5) (v := .int h_lefts) (C := RX5) (T := TX5) (N := 15) hx hb hts iwX5 hown hK hP 0 rfl rfl 11 (by decide) (hts _ tw_346) (fun _ h9 => h9) rfl dX5_placeOf_4 ?_
    refine lv_icmp_ge (tgt := 28) hx hb dX5_placeOf_7 (by decide) (fun c3001 => ?_) (fun c3001 => ?_)
    · have hf := kp_p c3001 hf
      refine lv_iconst (v := (-1)) hx hb dX5_placeOf_28 (by decide) ?_
      have eo := Option.some.inj hf
      subst eo
      exact W.iret (v := (-1)) hx hb hr (fun t ht hW => ⟨⟨_, (), rfl, rfl, kq_mk ht hP hD⟩, hS.F ht⟩) hS.2.2 dX5_placeOf_29
    · have hf := kp_n c3001 hf
      refine lv_aload_n hx hb dX5_placeOf_10 rfl (lv_at hl 0 rfl) ?_
      refine va_get (D := (dC, dI)) (ci := 5) (v := .ref h_left) (C := RX5) (T := TX5) (N := 15) hx hb hts iwX5 hown hK hP 0 rfl rfl 10 (by decide) (hts _ tw_345) (fun _ h9 => h9) rfl dX5_placeOf_11 ?_
      refine lv_iload_n hx hb dX5_placeOf_14 rfl (lv_at hl 2 rfl) ?_
      obtain ⟨hq3002, hf⟩ := kp_t hf
      refine va_iald hx hb hK hP 1 0 rfl rfl hq3002 dX5_placeOf_15 ?_
      refine lv_iload_n hx hb dX5_placeOf_16 rfl (lv_at hl 1 rfl) ?_
      refine lv_icmp_ne (tgt := 22) hx hb dX5_placeOf_17 (by decide) (fun c3003 => ?_) (fun c3003 => ?_)
      · have hf := kp_n c3003 hf
        refine lv_iinc (v := v2 + 1) (lv' := [(2, .int (v2 + 1)), (0, .ref h), (1, .int p0)]) hx hb dX5_placeOf_22 hl (k := 2) rfl rfl (by decide) rfl (fun ls hl => ?_)
        refine lv_goto (tgt := 2) hx hb dX5_placeOf_25 (by decide) ?_
        exact ih2 _ _ _ ⟨v2 + 1, ls, rfl, lv_sub hl [1, 2, 0] rfl, hP, hD, hS, hf⟩
      · have hf := kp_p c3003 hf
        refine lv_iload_n hx hb dX5_placeOf_20 rfl (lv_at hl 2 rfl) ?_
        have eo := Option.some.inj hf
        subst eo
        exact W.iret (v := v2) hx hb hr (fun t ht hW => ⟨⟨_, (), rfl, rfl, kq_mk ht hP hD⟩, hS.F ht⟩) hS.2.2 dX5_placeOf_21

def f_X5_part (h_code : Int32) (h_lefts : Int32) (h_many_v : Nat → Int32) (h_sort_v : Nat → Int32) (h_x_v : Nat → Int64) (h_y_v : Nat → Int64) (h_z_v : Nat → Int64) (h_left_v : Nat → Int32) (p0 : Int32) (p1 : Int32) : Option (Int64 × Int32) :=
    (if p0 < 0 then
    some (((-1), 0))
    else
    (if p0 < (h_many_v (0 : Int32).toNatClampNeg) then
    (if p1 = 0 then
    if p0 < 0 ∨ 120 ≤ p0.toNatClampNeg then none else
    some (((h_sort_v p0.toNatClampNeg).toInt64, 0))
    else
    (if p1 = 1 then
    if p0 < 0 ∨ 120 ≤ p0.toNatClampNeg then none else
    some ((h_x_v p0.toNatClampNeg, 0))
    else
    (if p1 = 2 then
    if p0 < 0 ∨ 120 ≤ p0.toNatClampNeg then none else
    some ((h_y_v p0.toNatClampNeg, 0))
    else
    (if p1 = 3 then
    if p0 < 0 ∨ 120 ≤ p0.toNatClampNeg then none else
    some ((h_z_v p0.toNatClampNeg, 0))
    else
    (if p1 = 4 then
    (f_X5_placeOf h_lefts h_left_v p0).bind fun r13 =>
    (if 0 ≤ r13 then
    some ((1, 0))
    else
    some ((0, 0)))
    else
    some (((-2), 0)))))))
    else
    some (((-1), 0))))
set_option maxHeartbeats 4000000 in
set_option maxRecDepth 100000 in
theorem c_X5_part (l : Launch) (dC : Nat → ClassId) (dI : Nat → Nat → Nat) (cA : Nat → ClassId) (tt : Nat → Nat) (h h_many h_sort h_x h_y h_z h_left h_fault h_faultAt h_stays h_text : Nat) (sz : Nat) (h_code : Int32) (h_seed : Int64) (h_state : Int64) (h_lefts : Int32) (h_size : Int32) (h_many_v : Nat → Int32) (h_sort_v : Nat → Int32) (h_x_v : Nat → Int64) (h_y_v : Nat → Int64) (h_z_v : Nat → Int64) (h_left_v : Nat → Int32) (p0 : Int32) (p1 : Int32) (o : Int64 × Int32) (hf : f_X5_part h_code h_lefts h_many_v h_sort_v h_x_v h_y_v h_z_v h_left_v p0 p1 = some o) : Met l yX5_part wX5_part ({ frames := 1, cells := 0, slots := 0, locals := 22 }) (kq_Pc dC dI cA tt [.ref h, .int p0, .int p1] [(h, .inr (5, [.int h_code, .long h_seed, .long h_state, .ref h_many, .ref h_sort, .ref h_x, .ref h_y, .ref h_z, .ref h_fault, .ref h_faultAt, .ref h_left, .int h_lefts, .ref h_stays, .ref h_text, .int h_size])), (h_many, .inl (cA 0, 3, .inl h_many_v)), (h_sort, .inl (cA 0, 120, .inl h_sort_v)), (h_x, .inl (cA 2, 120, .inr (.inl h_x_v))), (h_y, .inl (cA 2, 120, .inr (.inl h_y_v))), (h_z, .inl (cA 2, 120, .inr (.inl h_z_v))), (h_left, .inl (cA 0, 40, .inl h_left_v))] sz) (va_Ql (fun r (_ : Unit) => r = o.1) (fun _ t => kq_B dC dI [(h, .inr (5, [.int o.2, .long h_seed, .long h_state, .ref h_many, .ref h_sort, .ref h_x, .ref h_y, .ref h_z, .ref h_fault, .ref h_faultAt, .ref h_left, .int h_lefts, .ref h_stays, .ref h_text, .int h_size])), (h_many, .inl (cA 0, 3, .inl h_many_v)), (h_sort, .inl (cA 0, 120, .inl h_sort_v)), (h_x, .inl (cA 2, 120, .inr (.inl h_x_v))), (h_y, .inl (cA 2, 120, .inr (.inl h_y_v))), (h_z, .inl (cA 2, 120, .inr (.inl h_z_v))), (h_left, .inl (cA 0, 40, .inl h_left_v))] (va_A [(h, .inr (5, [.int h_code, .long h_seed, .long h_state, .ref h_many, .ref h_sort, .ref h_x, .ref h_y, .ref h_z, .ref h_fault, .ref h_faultAt, .ref h_left, .int h_lefts, .ref h_stays, .ref h_text, .int h_size])), (h_many, .inl (cA 0, 3, .inl h_many_v)), (h_sort, .inl (cA 0, 120, .inl h_sort_v)), (h_x, .inl (cA 2, 120, .inr (.inl h_x_v))), (h_y, .inl (cA 2, 120, .inr (.inl h_y_v))), (h_z, .inl (cA 2, 120, .inr (.inl h_z_v))), (h_left, .inl (cA 0, 40, .inl h_left_v))] sz) t) (va_A [(h, .inr (5, [.int h_code, .long h_seed, .long h_state, .ref h_many, .ref h_sort, .ref h_x, .ref h_y, .ref h_z, .ref h_fault, .ref h_faultAt, .ref h_left, .int h_lefts, .ref h_stays, .ref h_text, .int h_size])), (h_many, .inl (cA 0, 3, .inl h_many_v)), (h_sort, .inl (cA 0, 120, .inl h_sort_v)), (h_x, .inl (cA 2, 120, .inr (.inl h_x_v))), (h_y, .inl (cA 2, 120, .inr (.inl h_y_v))), (h_z, .inl (cA 2, 120, .inr (.inl h_z_v))), (h_left, .inl (cA 0, 40, .inl h_left_v))] sz)) 0 0 (va_A [(h, .inr (5, [.int h_code, .long h_seed, .long h_state, .ref h_many, .ref h_sort, .ref h_x, .ref h_y, .ref h_z, .ref h_fault, .ref h_faultAt, .ref h_left, .int h_lefts, .ref h_stays, .ref h_text, .int h_size])), (h_many, .inl (cA 0, 3, .inl h_many_v)), (h_sort, .inl (cA 0, 120, .inl h_sort_v)), (h_x, .inl (cA 2, 120, .inr (.inl h_x_v))), (h_y, .inl (cA 2, 120, .inr (.inl h_y_v))), (h_z, .inl (cA 2, 120, .inr (.inl h_z_v))), (h_left, .inl (cA 0, 40, .inl h_left_v))] sz) := by
  refine Met.ofW (cc := cX5_part) (maxL := 3) (ret := (some .long)) (by decide) rfl ?_
  intro p e s m args below meth c s₁ B hml hv
  obtain ⟨rfl, hsz, hP, hD0, hG, hZ⟩ := hv
  have hx := B.exec
  have hb := B.bytes
  have hr := B.returns
  have hts : ∀ w ∈ kq_T, w.before _ s = true := fun w h => atoms_spec (ws := wX5_part) B.pre w (List.mem_cons_of_mem _ h)
  have hown : s.vm.findClass RX5 = some m.cls := findClass_of_methodNamed B.named
  have hlocks := B.notSynchronized
  have hK := hG.1
  subst hsz
  have hD := hD0.self (sz := s.heap.size)
  generalize hAe : va_A [(h, .inr (5, [.int h_code, .long h_seed, .long h_state, .ref h_many, .ref h_sort, .ref h_x, .ref h_y, .ref h_z, .ref h_fault, .ref h_faultAt, .ref h_left, .int h_lefts, .ref h_stays, .ref h_text, .int h_size])), (h_many, .inl (cA 0, 3, .inl h_many_v)), (h_sort, .inl (cA 0, 120, .inl h_sort_v)), (h_x, .inl (cA 2, 120, .inr (.inl h_x_v))), (h_y, .inl (cA 2, 120, .inr (.inl h_y_v))), (h_z, .inl (cA 2, 120, .inr (.inl h_z_v))), (h_left, .inl (cA 0, 40, .inl h_left_v))] s.heap.size = A at hD hZ ⊢
  have hA : ∀ q : Nat, s.heap.size ≤ q → A q := fun q h => by rw [← hAe]; exact Or.inr h
  have hl := lv_entry [.ref h, .int p0, .int p1] (n := 3) (Nat.le_of_ble_eq_true rfl)
  rw [lg_entry_eq]
  generalize (lg_sl [.ref h, .int p0, .int p1] ++ List.replicate (3 - (lg_sl [.ref h, .int p0, .int p1]).length) Slot.unset).toArray = ls at hl ⊢
  have hl : lv_has ls 3 [(0, .ref h), (1, .int p0), (2, .int p1)] := hl
  obtain ⟨H, hHe⟩ : ∃ H : Heap, H = s.heap := ⟨_, rfl⟩
  have hP : va_P (dC, dI) vwCl [(h, .inr (5, [.int h_code, .long h_seed, .long h_state, .ref h_many, .ref h_sort, .ref h_x, .ref h_y, .ref h_z, .ref h_fault, .ref h_faultAt, .ref h_left, .int h_lefts, .ref h_stays, .ref h_text, .int h_size])), (h_many, .inl (cA 0, 3, .inl h_many_v)), (h_sort, .inl (cA 0, 120, .inl h_sort_v)), (h_x, .inl (cA 2, 120, .inr (.inl h_x_v))), (h_y, .inl (cA 2, 120, .inr (.inl h_y_v))), (h_z, .inl (cA 2, 120, .inr (.inl h_z_v))), (h_left, .inl (cA 0, 40, .inl h_left_v))] H := by rw [hHe]; exact hP
  have hS : va_S A s.heap H [] := by rw [hHe]; exact va_S.rf
  rw [← hHe]
  unfold f_X5_part at hf
  refine lv_aload_n hx hb dX5_part_0 rfl (lv_at hl 0 rfl) ?_
  refine lv_iconst (v := 0) hx hb dX5_part_1 (by decide) ?_
  refine va_put (D := (dC, dI)) (ci := 5) (v := .int 0) (ty := (.int)) (C := RX5) (T := TX5) (N := 15) hx hb hts iwX5 tyX5 tyX5_ok nmX5 hown hK hP hD hS 0 rfl rfl 0 (by decide) (hts _ tw_335) (fun _ h9 => h9) rfl (by decide +kernel) rfl rfl (Nat.le_of_ble_eq_true rfl) dX5_part_2 (fun H locs hP hD hS => ?_)
  have hP : va_P (dC, dI) vwCl [(h, .inr (5, [.int 0, .long h_seed, .long h_state, .ref h_many, .ref h_sort, .ref h_x, .ref h_y, .ref h_z, .ref h_fault, .ref h_faultAt, .ref h_left, .int h_lefts, .ref h_stays, .ref h_text, .int h_size])), (h_many, .inl (cA 0, 3, .inl h_many_v)), (h_sort, .inl (cA 0, 120, .inl h_sort_v)), (h_x, .inl (cA 2, 120, .inr (.inl h_x_v))), (h_y, .inl (cA 2, 120, .inr (.inl h_y_v))), (h_z, .inl (cA 2, 120, .inr (.inl h_z_v))), (h_left, .inl (cA 0, 40, .inl h_left_v))] H := hP
  have hD : va_D A [(h, .inr (5, [.int 0, .long h_seed, .long h_state, .ref h_many, .ref h_sort, .ref h_x, .ref h_y, .ref h_z, .ref h_fault, .ref h_faultAt, .ref h_left, .int h_lefts, .ref h_stays, .ref h_text, .int h_size])), (h_many, .inl (cA 0, 3, .inl h_many_v)), (h_sort, .inl (cA 0, 120, .inl h_sort_v)), (h_x, .inl (cA 2, 120, .inr (.inl h_x_v))), (h_y, .inl (cA 2, 120, .inr (.inl h_y_v))), (h_z, .inl (cA 2, 120, .inr (.inl h_z_v))), (h_left, .inl (cA 0, 40, .inl h_left_v))] := hD
  refine lv_iload_n hx hb dX5_part_5 rfl (lv_at hl 1 rfl) ?_
  refine lv_if_lt (tgt := 19) hx hb dX5_part_6 (by decide) (fun c1 => ?_) (fun c1 => ?_)
  · have hf := kp_p c1 hf
    refine lv_ldc2 (v := (-1)) hx hb hown (hts _ tw_413) dX5_part_19 ?_
    have eo := Option.some.inj hf
    subst eo
    exact W.lret (v := (-1)) hx hb hr (fun t ht hW => ⟨⟨_, (), rfl, rfl, kq_mk ht hP hD⟩, hS.F ht⟩) hS.2.2 dX5_part_22
  · have hf := kp_n c1 hf
    refine lv_iload_n hx hb dX5_part_9 rfl (lv_at hl 1 rfl) ?_
    refine lv_aload_n hx hb dX5_part_10 rfl (lv_at hl 0 rfl) ?_
    refine va_get (D := (dC, dI)) (ci := 5) (v := .ref h_many) (C := RX5) (T := TX5) (N := 15) hx hb hts iwX5 hown hK hP 0 rfl rfl 3 (by decide) (hts _ tw_338) (fun _ h9 => h9) rfl dX5_part_11 ?_
    refine lv_iconst (v := 0) hx hb dX5_part_14 (by decide) ?_
    refine va_iald hx hb hK hP 1 0 rfl rfl (show ¬ ((0 : Int32) < 0 ∨ 3 ≤ (0 : Int32).toNatClampNeg) by decide) dX5_part_15 ?_
    refine lv_icmp_lt (tgt := 23) hx hb dX5_part_16 (by decide) (fun c3 => ?_) (fun c3 => ?_)
    · have hf := kp_p c3 hf
      refine lv_iload_n hx hb dX5_part_23 rfl (lv_at hl 2 rfl) ?_
      by_cases c4 : p1 = 0
      · have hf := kp_p c4 hf
        refine lv_tableIn (tgt := 60) hx hb dX5_part_24 (by rw [c4]; decide) (by rw [c4]; decide) (by rw [c4]; rfl) (by decide) ?_
        refine lv_aload_n hx hb dX5_part_60 rfl (lv_at hl 0 rfl) ?_
        refine va_get (D := (dC, dI)) (ci := 5) (v := .ref h_sort) (C := RX5) (T := TX5) (N := 15) hx hb hts iwX5 hown hK hP 0 rfl rfl 4 (by decide) (hts _ tw_339) (fun _ h9 => h9) rfl dX5_part_61 ?_
        refine lv_iload_n hx hb dX5_part_64 rfl (lv_at hl 1 rfl) ?_
        obtain ⟨hq5, hf⟩ := kp_t hf
        refine va_iald hx hb hK hP 2 0 rfl rfl hq5 dX5_part_65 ?_
        refine lv_i2l hx hb dX5_part_66 rfl ?_
        have eo := Option.some.inj hf
        subst eo
        exact W.lret (v := (h_sort_v p0.toNatClampNeg).toInt64) hx hb hr (fun t ht hW => ⟨⟨_, (), rfl, rfl, kq_mk ht hP hD⟩, hS.F ht⟩) hS.2.2 dX5_part_67
      · have hf := kp_n c4 hf
        by_cases c6 : p1 = 1
        · have hf := kp_p c6 hf
          refine lv_tableIn (tgt := 68) hx hb dX5_part_24 (by rw [c6]; decide) (by rw [c6]; decide) (by rw [c6]; rfl) (by decide) ?_
          refine lv_aload_n hx hb dX5_part_68 rfl (lv_at hl 0 rfl) ?_
          refine va_get (D := (dC, dI)) (ci := 5) (v := .ref h_x) (C := RX5) (T := TX5) (N := 15) hx hb hts iwX5 hown hK hP 0 rfl rfl 5 (by decide) (hts _ tw_340) (fun _ h9 => h9) rfl dX5_part_69 ?_
          refine lv_iload_n hx hb dX5_part_72 rfl (lv_at hl 1 rfl) ?_
          obtain ⟨hq7, hf⟩ := kp_t hf
          refine va_lald hx hb hK hP 3 2 rfl rfl hq7 dX5_part_73 ?_
          have eo := Option.some.inj hf
          subst eo
          exact W.lret (v := h_x_v p0.toNatClampNeg) hx hb hr (fun t ht hW => ⟨⟨_, (), rfl, rfl, kq_mk ht hP hD⟩, hS.F ht⟩) hS.2.2 dX5_part_74
        · have hf := kp_n c6 hf
          by_cases c8 : p1 = 2
          · have hf := kp_p c8 hf
            refine lv_tableIn (tgt := 75) hx hb dX5_part_24 (by rw [c8]; decide) (by rw [c8]; decide) (by rw [c8]; rfl) (by decide) ?_
            refine lv_aload_n hx hb dX5_part_75 rfl (lv_at hl 0 rfl) ?_
            refine va_get (D := (dC, dI)) (ci := 5) (v := .ref h_y) (C := RX5) (T := TX5) (N := 15) hx hb hts iwX5 hown hK hP 0 rfl rfl 6 (by decide) (hts _ tw_341) (fun _ h9 => h9) rfl dX5_part_76 ?_
            refine lv_iload_n hx hb dX5_part_79 rfl (lv_at hl 1 rfl) ?_
            obtain ⟨hq9, hf⟩ := kp_t hf
            refine va_lald hx hb hK hP 4 2 rfl rfl hq9 dX5_part_80 ?_
            have eo := Option.some.inj hf
            subst eo
            exact W.lret (v := h_y_v p0.toNatClampNeg) hx hb hr (fun t ht hW => ⟨⟨_, (), rfl, rfl, kq_mk ht hP hD⟩, hS.F ht⟩) hS.2.2 dX5_part_81
          · have hf := kp_n c8 hf
            by_cases c10 : p1 = 3
            · have hf := kp_p c10 hf
              refine lv_tableIn (tgt := 82) hx hb dX5_part_24 (by rw [c10]; decide) (by rw [c10]; decide) (by rw [c10]; rfl) (by decide) ?_
              refine lv_aload_n hx hb dX5_part_82 rfl (lv_at hl 0 rfl) ?_
              refine va_get (D := (dC, dI)) (ci := 5) (v := .ref h_z) (C := RX5) (T := TX5) (N := 15) hx hb hts iwX5 hown hK hP 0 rfl rfl 7 (by decide) (hts _ tw_342) (fun _ h9 => h9) rfl dX5_part_83 ?_
              refine lv_iload_n hx hb dX5_part_86 rfl (lv_at hl 1 rfl) ?_
              obtain ⟨hq11, hf⟩ := kp_t hf
              refine va_lald hx hb hK hP 5 2 rfl rfl hq11 dX5_part_87 ?_
              have eo := Option.some.inj hf
              subst eo
              exact W.lret (v := h_z_v p0.toNatClampNeg) hx hb hr (fun t ht hW => ⟨⟨_, (), rfl, rfl, kq_mk ht hP hD⟩, hS.F ht⟩) hS.2.2 dX5_part_88
            · have hf := kp_n c10 hf
              by_cases c12 : p1 = 4
              · have hf := kp_p c12 hf
                refine lv_tableIn (tgt := 89) hx hb dX5_part_24 (by rw [c12]; decide) (by rw [c12]; decide) (by rw [c12]; rfl) (by decide) ?_
                refine lv_aload_n hx hb dX5_part_89 rfl (lv_at hl 0 rfl) ?_
                refine lv_iload_n hx hb dX5_part_90 rfl (lv_at hl 1 rfl) ?_
                obtain ⟨r13, hr13, hf⟩ := kp_b hf
                have hPc := hP.sub (ws' := [(h, .inr (5, [.int 0, .long h_seed, .long h_state, .ref h_many, .ref h_sort, .ref h_x, .ref h_y, .ref h_z, .ref h_fault, .ref h_faultAt, .ref h_left, .int h_lefts, .ref h_stays, .ref h_text, .int h_size])), (h_left, .inl (cA 0, 40, .inl h_left_v))]) [0, 6] rfl
                have hDc := hD.sub (ws' := [(h, .inr (5, [.int 0, .long h_seed, .long h_state, .ref h_many, .ref h_sort, .ref h_x, .ref h_y, .ref h_z, .ref h_fault, .ref h_faultAt, .ref h_left, .int h_lefts, .ref h_stays, .ref h_text, .int h_size])), (h_left, .inl (cA 0, 40, .inl h_left_v))]) [0, 6] (by decide) rfl
                have hFc := va_free (wc := [(h, .inr (5, [.int 0, .long h_seed, .long h_state, .ref h_many, .ref h_sort, .ref h_x, .ref h_y, .ref h_z, .ref h_fault, .ref h_faultAt, .ref h_left, .int h_lefts, .ref h_stays, .ref h_text, .int h_size])), (h_left, .inl (cA 0, 40, .inl h_left_v))]) hD hS hA [0, 6] rfl
                refine va_calli (va_runV (As := [.int p0]) (rest := []) ⟨hx, hb, hml, hown, hts⟩ (c_X5_placeOf l dC dI cA tt h h_left h_many h_sort h_x h_y h_z h_fault h_faultAt h_stays h_text H.size 0 h_seed h_state h_lefts h_size h_left_v p0 r13 hr13) (cwV 1 hts (kq_gV tw_422 tw_424 tw_14 tw_25 tw_425) rfl rfl rfl (by decide +kernel) ⟨Nat.le_of_ble_eq_true rfl, Nat.le_of_ble_eq_true rfl⟩) ⟨kq_blind, va_recv hK hP (ci := 5) (q0 := 0) rfl rfl, kq_pre hG hZ hS hPc hDc hFc⟩ rfl rfl hl.1 rfl (lv_room (Nat.le_of_ble_eq_true rfl)) dX5_part_91 ⟨Nat.le_of_ble_eq_true rfl, Nat.le_of_ble_eq_true rfl⟩) hS (fun q _ h => hFc q h) hFc (fun rv u t H1 locs ht hvm hw hB hz1 hk1 hS => ?_)
                obtain ⟨hP1, hD1⟩ := hB
                rw [ht] at hP1
                have hw := hw.symm
                subst hw
                obtain ⟨hP, hD⟩ := va_join (wr := [(h_many, .inl (cA 0, 3, .inl h_many_v)), (h_sort, .inl (cA 0, 120, .inl h_sort_v)), (h_x, .inl (cA 2, 120, .inr (.inl h_x_v))), (h_y, .inl (cA 2, 120, .inr (.inl h_y_v))), (h_z, .inl (cA 2, 120, .inr (.inl h_z_v)))]) (w1 := [(h, .inr (5, [.int 0, .long h_seed, .long h_state, .ref h_many, .ref h_sort, .ref h_x, .ref h_y, .ref h_z, .ref h_fault, .ref h_faultAt, .ref h_left, .int h_lefts, .ref h_stays, .ref h_text, .int h_size])), (h_left, .inl (cA 0, 40, .inl h_left_v))]) hP hD [0, 6] [1, 2, 3, 4, 5] rfl rfl (by decide) (by decide) hk1 hFc hP1 hD1
                have hP : va_P (dC, dI) vwCl [(h, .inr (5, [.int 0, .long h_seed, .long h_state, .ref h_many, .ref h_sort, .ref h_x, .ref h_y, .ref h_z, .ref h_fault, .ref h_faultAt, .ref h_left, .int h_lefts, .ref h_stays, .ref h_text, .int h_size])), (h_many, .inl (cA 0, 3, .inl h_many_v)), (h_sort, .inl (cA 0, 120, .inl h_sort_v)), (h_x, .inl (cA 2, 120, .inr (.inl h_x_v))), (h_y, .inl (cA 2, 120, .inr (.inl h_y_v))), (h_z, .inl (cA 2, 120, .inr (.inl h_z_v))), (h_left, .inl (cA 0, 40, .inl h_left_v))] H1 := hP.sub [5, 0, 1, 2, 3, 4, 6] rfl
                have hD : va_D A [(h, .inr (5, [.int 0, .long h_seed, .long h_state, .ref h_many, .ref h_sort, .ref h_x, .ref h_y, .ref h_z, .ref h_fault, .ref h_faultAt, .ref h_left, .int h_lefts, .ref h_stays, .ref h_text, .int h_size])), (h_many, .inl (cA 0, 3, .inl h_many_v)), (h_sort, .inl (cA 0, 120, .inl h_sort_v)), (h_x, .inl (cA 2, 120, .inr (.inl h_x_v))), (h_y, .inl (cA 2, 120, .inr (.inl h_y_v))), (h_z, .inl (cA 2, 120, .inr (.inl h_z_v))), (h_left, .inl (cA 0, 40, .inl h_left_v))] := hD.sub [5, 0, 1, 2, 3, 4, 6] (by decide) rfl
                generalize H1 = H at hP hS ⊢
                refine lv_if_ge (tgt := 101) hx hb dX5_part_94 (by decide) (fun c14 => ?_) (fun c14 => ?_)
                · have hf := kp_p c14 hf
                  refine lv_lconst (v := 1) hx hb dX5_part_101 (by decide) ?_
                  have eo := Option.some.inj hf
                  subst eo
                  exact W.lret (v := 1) hx hb hr (fun t ht hW => ⟨⟨_, (), rfl, rfl, kq_mk ht hP hD⟩, hS.F ht⟩) hS.2.2 dX5_part_102
                · have hf := kp_n c14 hf
                  refine lv_lconst (v := 0) hx hb dX5_part_97 (by decide) ?_
                  refine lv_goto (tgt := 102) hx hb dX5_part_98 (by decide) ?_
                  have eo := Option.some.inj hf
                  subst eo
                  exact W.lret (v := 0) hx hb hr (fun t ht hW => ⟨⟨_, (), rfl, rfl, kq_mk ht hP hD⟩, hS.F ht⟩) hS.2.2 dX5_part_102
              · have hf := kp_n c12 hf
                refine lv_tableOut (tgt := 103) hx hb dX5_part_24 (by have gc4 := lv_neT c4 (a := 0) (by decide); have gc6 := lv_neT c6 (a := 1) (by decide); have gc8 := lv_neT c8 (a := 2) (by decide); have gc10 := lv_neT c10 (a := 3) (by decide); have gc12 := lv_neT c12 (a := 4) (by decide); omega) (by decide) ?_
                refine lv_ldc2 (v := (-2)) hx hb hown (hts _ tw_426) dX5_part_103 ?_
                have eo := Option.some.inj hf
                subst eo
                exact W.lret (v := (-2)) hx hb hr (fun t ht hW => ⟨⟨_, (), rfl, rfl, kq_mk ht hP hD⟩, hS.F ht⟩) hS.2.2 dX5_part_106
    · have hf := kp_n c3 hf
      refine lv_ldc2 (v := (-1)) hx hb hown (hts _ tw_413) dX5_part_19 ?_
      have eo := Option.some.inj hf
      subst eo
      exact W.lret (v := (-1)) hx hb hr (fun t ht hW => ⟨⟨_, (), rfl, rfl, kq_mk ht hP hD⟩, hS.F ht⟩) hS.2.2 dX5_part_22

def f_X5_type (h_size : Int32) (h_text_v : Nat → Int32) (p0 : Int32) : Option (Int32 × (Nat → Int32)) :=
    if h_size < 0 ∨ 1600 ≤ h_size.toNatClampNeg then none else
    some ((h_size + 1, upd h_text_v h_size.toNatClampNeg (vp_nar .byte p0.toInt8.toInt32)))
set_option maxHeartbeats 4000000 in
set_option maxRecDepth 100000 in
theorem c_X5_type (l : Launch) (dC : Nat → ClassId) (dI : Nat → Nat → Nat) (cA : Nat → ClassId) (tt : Nat → Nat) (h h_text h_many h_sort h_x h_y h_z h_fault h_faultAt h_left h_stays : Nat) (sz : Nat) (h_code : Int32) (h_seed : Int64) (h_state : Int64) (h_lefts : Int32) (h_size : Int32) (h_text_v : Nat → Int32) (p0 : Int32) (o : Int32 × (Nat → Int32)) (hf : f_X5_type h_size h_text_v p0 = some o) : Met l yX5_type wX5_type ({ frames := 0, cells := 0, slots := 0, locals := 0 }) (kq_Pc dC dI cA tt [.ref h, .int p0] [(h, .inr (5, [.int h_code, .long h_seed, .long h_state, .ref h_many, .ref h_sort, .ref h_x, .ref h_y, .ref h_z, .ref h_fault, .ref h_faultAt, .ref h_left, .int h_lefts, .ref h_stays, .ref h_text, .int h_size])), (h_text, .inl (cA 3, 1600, .inl h_text_v))] sz) (va_Qv (fun _ : Unit => True) (fun _ t => kq_B dC dI [(h, .inr (5, [.int h_code, .long h_seed, .long h_state, .ref h_many, .ref h_sort, .ref h_x, .ref h_y, .ref h_z, .ref h_fault, .ref h_faultAt, .ref h_left, .int h_lefts, .ref h_stays, .ref h_text, .int o.1])), (h_text, .inl (cA 3, 1600, .inl o.2))] (va_A [(h, .inr (5, [.int h_code, .long h_seed, .long h_state, .ref h_many, .ref h_sort, .ref h_x, .ref h_y, .ref h_z, .ref h_fault, .ref h_faultAt, .ref h_left, .int h_lefts, .ref h_stays, .ref h_text, .int h_size])), (h_text, .inl (cA 3, 1600, .inl h_text_v))] sz) t) (va_A [(h, .inr (5, [.int h_code, .long h_seed, .long h_state, .ref h_many, .ref h_sort, .ref h_x, .ref h_y, .ref h_z, .ref h_fault, .ref h_faultAt, .ref h_left, .int h_lefts, .ref h_stays, .ref h_text, .int h_size])), (h_text, .inl (cA 3, 1600, .inl h_text_v))] sz)) 0 0 (va_A [(h, .inr (5, [.int h_code, .long h_seed, .long h_state, .ref h_many, .ref h_sort, .ref h_x, .ref h_y, .ref h_z, .ref h_fault, .ref h_faultAt, .ref h_left, .int h_lefts, .ref h_stays, .ref h_text, .int h_size])), (h_text, .inl (cA 3, 1600, .inl h_text_v))] sz) := by
  refine Met.ofW (cc := cX5_type) (maxL := 2) (ret := none) (by decide) rfl ?_
  intro p e s m args below meth c s₁ B hml hv
  obtain ⟨rfl, hsz, hP, hD0, hG, hZ⟩ := hv
  have hx := B.exec
  have hb := B.bytes
  have hr := B.returns
  have hts : ∀ w ∈ kq_T, w.before _ s = true := fun w h => atoms_spec (ws := wX5_type) B.pre w (List.mem_cons_of_mem _ h)
  have hown : s.vm.findClass RX5 = some m.cls := findClass_of_methodNamed B.named
  have hlocks := B.notSynchronized
  have hK := hG.1
  subst hsz
  have hD := hD0.self (sz := s.heap.size)
  generalize hAe : va_A [(h, .inr (5, [.int h_code, .long h_seed, .long h_state, .ref h_many, .ref h_sort, .ref h_x, .ref h_y, .ref h_z, .ref h_fault, .ref h_faultAt, .ref h_left, .int h_lefts, .ref h_stays, .ref h_text, .int h_size])), (h_text, .inl (cA 3, 1600, .inl h_text_v))] s.heap.size = A at hD hZ ⊢
  have hA : ∀ q : Nat, s.heap.size ≤ q → A q := fun q h => by rw [← hAe]; exact Or.inr h
  have hl := lv_entry [.ref h, .int p0] (n := 2) (Nat.le_of_ble_eq_true rfl)
  rw [lg_entry_eq]
  generalize (lg_sl [.ref h, .int p0] ++ List.replicate (2 - (lg_sl [.ref h, .int p0]).length) Slot.unset).toArray = ls at hl ⊢
  have hl : lv_has ls 2 [(0, .ref h), (1, .int p0)] := hl
  obtain ⟨H, hHe⟩ : ∃ H : Heap, H = s.heap := ⟨_, rfl⟩
  have hP : va_P (dC, dI) vwCl [(h, .inr (5, [.int h_code, .long h_seed, .long h_state, .ref h_many, .ref h_sort, .ref h_x, .ref h_y, .ref h_z, .ref h_fault, .ref h_faultAt, .ref h_left, .int h_lefts, .ref h_stays, .ref h_text, .int h_size])), (h_text, .inl (cA 3, 1600, .inl h_text_v))] H := by rw [hHe]; exact hP
  have hS : va_S A s.heap H [] := by rw [hHe]; exact va_S.rf
  rw [← hHe]
  unfold f_X5_type at hf
  refine lv_aload_n hx hb dX5_type_0 rfl (lv_at hl 0 rfl) ?_
  refine va_get (D := (dC, dI)) (ci := 5) (v := .ref h_text) (C := RX5) (T := TX5) (N := 15) hx hb hts iwX5 hown hK hP 0 rfl rfl 13 (by decide) (hts _ tw_348) (fun _ h9 => h9) rfl dX5_type_1 ?_
  refine lv_aload_n hx hb dX5_type_4 rfl (lv_at hl 0 rfl) ?_
  refine va_get (D := (dC, dI)) (ci := 5) (v := .int h_size) (C := RX5) (T := TX5) (N := 15) hx hb hts iwX5 hown hK hP 0 rfl rfl 14 (by decide) (hts _ tw_349) (fun _ h9 => h9) rfl dX5_type_5 ?_
  refine lv_iload_n hx hb dX5_type_8 rfl (lv_at hl 1 rfl) ?_
  refine lv_i2b hx hb dX5_type_9 rfl ?_
  obtain ⟨hq1, hf⟩ := kp_t hf
  refine va_bast hx hb hK hP hD hS 1 3 rfl rfl hq1 dX5_type_10 (fun H locs hP hD hS => ?_)
  have hP : va_P (dC, dI) vwCl [(h, .inr (5, [.int h_code, .long h_seed, .long h_state, .ref h_many, .ref h_sort, .ref h_x, .ref h_y, .ref h_z, .ref h_fault, .ref h_faultAt, .ref h_left, .int h_lefts, .ref h_stays, .ref h_text, .int h_size])), (h_text, .inl (cA 3, 1600, .inl (upd h_text_v h_size.toNatClampNeg (vp_nar .byte p0.toInt8.toInt32))))] H := hP
  have hD : va_D A [(h, .inr (5, [.int h_code, .long h_seed, .long h_state, .ref h_many, .ref h_sort, .ref h_x, .ref h_y, .ref h_z, .ref h_fault, .ref h_faultAt, .ref h_left, .int h_lefts, .ref h_stays, .ref h_text, .int h_size])), (h_text, .inl (cA 3, 1600, .inl (upd h_text_v h_size.toNatClampNeg (vp_nar .byte p0.toInt8.toInt32))))] := hD
  refine lv_aload_n hx hb dX5_type_11 rfl (lv_at hl 0 rfl) ?_
  refine lv_dup hx hb dX5_type_12 rfl ?_
  refine va_get (D := (dC, dI)) (ci := 5) (v := .int h_size) (C := RX5) (T := TX5) (N := 15) hx hb hts iwX5 hown hK hP 0 rfl rfl 14 (by decide) (hts _ tw_349) (fun _ h9 => h9) rfl dX5_type_13 ?_
  refine lv_iconst (v := 1) hx hb dX5_type_16 (by decide) ?_
  refine lv_iadd hx hb dX5_type_17 ?_
  refine va_put (D := (dC, dI)) (ci := 5) (v := .int (h_size + 1)) (ty := (.int)) (C := RX5) (T := TX5) (N := 15) hx hb hts iwX5 tyX5 tyX5_ok nmX5 hown hK hP hD hS 0 rfl rfl 14 (by decide) (hts _ tw_349) (fun _ h9 => h9) rfl (by decide +kernel) rfl rfl (Nat.le_of_ble_eq_true rfl) dX5_type_18 (fun H locs hP hD hS => ?_)
  have hP : va_P (dC, dI) vwCl [(h, .inr (5, [.int h_code, .long h_seed, .long h_state, .ref h_many, .ref h_sort, .ref h_x, .ref h_y, .ref h_z, .ref h_fault, .ref h_faultAt, .ref h_left, .int h_lefts, .ref h_stays, .ref h_text, .int (h_size + 1)])), (h_text, .inl (cA 3, 1600, .inl (upd h_text_v h_size.toNatClampNeg (vp_nar .byte p0.toInt8.toInt32))))] H := hP
  have hD : va_D A [(h, .inr (5, [.int h_code, .long h_seed, .long h_state, .ref h_many, .ref h_sort, .ref h_x, .ref h_y, .ref h_z, .ref h_fault, .ref h_faultAt, .ref h_left, .int h_lefts, .ref h_stays, .ref h_text, .int (h_size + 1)])), (h_text, .inl (cA 3, 1600, .inl (upd h_text_v h_size.toNatClampNeg (vp_nar .byte p0.toInt8.toInt32))))] := hD
  have eo := Option.some.inj hf
  subst eo
  exact W.vret hx hb hr (fun t ht hW => ⟨⟨(), rfl, trivial, kq_mk ht hP hD⟩, hS.F ht⟩) hS.2.2 dX5_type_21

def f_X5_typeNumber_L48 (p0 : Int64) : Nat → Int32 → (Nat → Int32) → Int64 → Int64 → Option (Int32 × (Nat → Int32))
  | 0, _, _, _, _ => none
  | n48 + 1, h_size, h_text_v, v3, v5 =>
    (if (lg_cmp v5 0) ≤ 0 then
    some ((h_size, h_text_v))
    else
    if v5 = 0 then none else
    (f_X5_type h_size h_text_v (48 + (((v3 / v5) - (v3 / v5) / 10 * 10).toInt32))).bind fun r49003 =>
    f_X5_typeNumber_L48 p0 n48 r49003.1 r49003.2 v3 (v5 / 10))
theorem e_X5_typeNumber_L48 (p0 : Int64) (n48 : Nat) (h_size : Int32) (h_text_v : Nat → Int32) (v3 : Int64) (v5 : Int64) : f_X5_typeNumber_L48 p0 (n48 + 1) h_size h_text_v v3 v5 =
    ((if (lg_cmp v5 0) ≤ 0 then
    some ((h_size, h_text_v))
    else
    if v5 = 0 then none else
    (f_X5_type h_size h_text_v (48 + (((v3 / v5) - (v3 / v5) / 10 * 10).toInt32))).bind fun r49003 =>
    f_X5_typeNumber_L48 p0 n48 r49003.1 r49003.2 v3 (v5 / 10))) := rfl
def f_X5_typeNumber_L26 (p0 : Int64) : Nat → Int32 → (Nat → Int32) → Int64 → Int64 → Option (Int32 × (Nat → Int32))
  | 0, _, _, _, _ => none
  | n26 + 1, h_size, h_text_v, v3, v5 =>
    if v5 = 0 then none else
    (if (lg_cmp (v3 / v5) 9) ≤ 0 then
    f_X5_typeNumber_L48 p0 64 h_size h_text_v v3 v5
    else
    f_X5_typeNumber_L26 p0 n26 h_size h_text_v v3 (v5 * 10))
theorem e_X5_typeNumber_L26 (p0 : Int64) (n26 : Nat) (h_size : Int32) (h_text_v : Nat → Int32) (v3 : Int64) (v5 : Int64) : f_X5_typeNumber_L26 p0 (n26 + 1) h_size h_text_v v3 v5 =
    (if v5 = 0 then none else
    (if (lg_cmp (v3 / v5) 9) ≤ 0 then
    f_X5_typeNumber_L48 p0 64 h_size h_text_v v3 v5
    else
    f_X5_typeNumber_L26 p0 n26 h_size h_text_v v3 (v5 * 10))) := rfl
def f_X5_typeNumber (h_size : Int32) (h_text_v : Nat → Int32) (p0 : Int64) : Option (Int32 × (Nat → Int32)) :=
    (f_X5_type h_size h_text_v 32).bind fun r1 =>
    (if 0 ≤ (lg_cmp p0 0) then
    f_X5_typeNumber_L26 p0 64 r1.1 r1.2 p0 1
    else
    (f_X5_type r1.1 r1.2 45).bind fun r3 =>
    f_X5_typeNumber_L26 p0 64 r3.1 r3.2 (-p0) 1)
set_option maxHeartbeats 4000000 in
set_option maxRecDepth 100000 in
theorem c_X5_typeNumber (l : Launch) (dC : Nat → ClassId) (dI : Nat → Nat → Nat) (cA : Nat → ClassId) (tt : Nat → Nat) (h h_text h_many h_sort h_x h_y h_z h_fault h_faultAt h_left h_stays : Nat) (sz : Nat) (h_code : Int32) (h_seed : Int64) (h_state : Int64) (h_lefts : Int32) (h_size : Int32) (h_text_v : Nat → Int32) (p0 : Int64) (o : Int32 × (Nat → Int32)) (hf : f_X5_typeNumber h_size h_text_v p0 = some o) : Met l yX5_typeNumber wX5_typeNumber ({ frames := 1, cells := 0, slots := 0, locals := 21 }) (kq_Pc dC dI cA tt [.ref h, .long p0] [(h, .inr (5, [.int h_code, .long h_seed, .long h_state, .ref h_many, .ref h_sort, .ref h_x, .ref h_y, .ref h_z, .ref h_fault, .ref h_faultAt, .ref h_left, .int h_lefts, .ref h_stays, .ref h_text, .int h_size])), (h_text, .inl (cA 3, 1600, .inl h_text_v))] sz) (va_Qv (fun _ : Unit => True) (fun _ t => kq_B dC dI [(h, .inr (5, [.int h_code, .long h_seed, .long h_state, .ref h_many, .ref h_sort, .ref h_x, .ref h_y, .ref h_z, .ref h_fault, .ref h_faultAt, .ref h_left, .int h_lefts, .ref h_stays, .ref h_text, .int o.1])), (h_text, .inl (cA 3, 1600, .inl o.2))] (va_A [(h, .inr (5, [.int h_code, .long h_seed, .long h_state, .ref h_many, .ref h_sort, .ref h_x, .ref h_y, .ref h_z, .ref h_fault, .ref h_faultAt, .ref h_left, .int h_lefts, .ref h_stays, .ref h_text, .int h_size])), (h_text, .inl (cA 3, 1600, .inl h_text_v))] sz) t) (va_A [(h, .inr (5, [.int h_code, .long h_seed, .long h_state, .ref h_many, .ref h_sort, .ref h_x, .ref h_y, .ref h_z, .ref h_fault, .ref h_faultAt, .ref h_left, .int h_lefts, .ref h_stays, .ref h_text, .int h_size])), (h_text, .inl (cA 3, 1600, .inl h_text_v))] sz)) 0 0 (va_A [(h, .inr (5, [.int h_code, .long h_seed, .long h_state, .ref h_many, .ref h_sort, .ref h_x, .ref h_y, .ref h_z, .ref h_fault, .ref h_faultAt, .ref h_left, .int h_lefts, .ref h_stays, .ref h_text, .int h_size])), (h_text, .inl (cA 3, 1600, .inl h_text_v))] sz) := by
  refine Met.ofW (cc := cX5_typeNumber) (maxL := 7) (ret := none) (by decide) rfl ?_
  intro p e s m args below meth c s₁ B hml hv
  obtain ⟨rfl, hsz, hP, hD0, hG, hZ⟩ := hv
  have hx := B.exec
  have hb := B.bytes
  have hr := B.returns
  have hts : ∀ w ∈ kq_T, w.before _ s = true := fun w h => atoms_spec (ws := wX5_typeNumber) B.pre w (List.mem_cons_of_mem _ h)
  have hown : s.vm.findClass RX5 = some m.cls := findClass_of_methodNamed B.named
  have hlocks := B.notSynchronized
  have hK := hG.1
  subst hsz
  have hD := hD0.self (sz := s.heap.size)
  generalize hAe : va_A [(h, .inr (5, [.int h_code, .long h_seed, .long h_state, .ref h_many, .ref h_sort, .ref h_x, .ref h_y, .ref h_z, .ref h_fault, .ref h_faultAt, .ref h_left, .int h_lefts, .ref h_stays, .ref h_text, .int h_size])), (h_text, .inl (cA 3, 1600, .inl h_text_v))] s.heap.size = A at hD hZ ⊢
  have hA : ∀ q : Nat, s.heap.size ≤ q → A q := fun q h => by rw [← hAe]; exact Or.inr h
  have hl := lv_entry [.ref h, .long p0] (n := 7) (Nat.le_of_ble_eq_true rfl)
  rw [lg_entry_eq]
  generalize (lg_sl [.ref h, .long p0] ++ List.replicate (7 - (lg_sl [.ref h, .long p0]).length) Slot.unset).toArray = ls at hl ⊢
  have hl : lv_has ls 7 [(0, .ref h), (1, .long p0)] := hl
  obtain ⟨H, hHe⟩ : ∃ H : Heap, H = s.heap := ⟨_, rfl⟩
  have hP : va_P (dC, dI) vwCl [(h, .inr (5, [.int h_code, .long h_seed, .long h_state, .ref h_many, .ref h_sort, .ref h_x, .ref h_y, .ref h_z, .ref h_fault, .ref h_faultAt, .ref h_left, .int h_lefts, .ref h_stays, .ref h_text, .int h_size])), (h_text, .inl (cA 3, 1600, .inl h_text_v))] H := by rw [hHe]; exact hP
  have hS : va_S A s.heap H [] := by rw [hHe]; exact va_S.rf
  rw [← hHe]
  unfold f_X5_typeNumber at hf
  refine lv_aload_n hx hb dX5_typeNumber_0 rfl (lv_at hl 0 rfl) ?_
  refine lv_bipush (v := 32) hx hb dX5_typeNumber_1 (by decide) ?_
  obtain ⟨r1, hr1, hf⟩ := kp_b hf
  have hPc := hP.sub (ws' := [(h, .inr (5, [.int h_code, .long h_seed, .long h_state, .ref h_many, .ref h_sort, .ref h_x, .ref h_y, .ref h_z, .ref h_fault, .ref h_faultAt, .ref h_left, .int h_lefts, .ref h_stays, .ref h_text, .int h_size])), (h_text, .inl (cA 3, 1600, .inl h_text_v))]) [0, 1] rfl
  have hDc := hD.sub (ws' := [(h, .inr (5, [.int h_code, .long h_seed, .long h_state, .ref h_many, .ref h_sort, .ref h_x, .ref h_y, .ref h_z, .ref h_fault, .ref h_faultAt, .ref h_left, .int h_lefts, .ref h_stays, .ref h_text, .int h_size])), (h_text, .inl (cA 3, 1600, .inl h_text_v))]) [0, 1] (by decide) rfl
  have hFc := va_free (wc := [(h, .inr (5, [.int h_code, .long h_seed, .long h_state, .ref h_many, .ref h_sort, .ref h_x, .ref h_y, .ref h_z, .ref h_fault, .ref h_faultAt, .ref h_left, .int h_lefts, .ref h_stays, .ref h_text, .int h_size])), (h_text, .inl (cA 3, 1600, .inl h_text_v))]) hD hS hA [0, 1] rfl
  refine va_callv (va_runV (As := [.int 32]) (rest := []) ⟨hx, hb, hml, hown, hts⟩ (c_X5_type l dC dI cA tt h h_text h_many h_sort h_x h_y h_z h_fault h_faultAt h_left h_stays H.size h_code h_seed h_state h_lefts h_size h_text_v 32 r1 hr1) (cwV 1 hts (kq_gV tw_431 tw_433 tw_15 tw_25 tw_434) rfl rfl rfl (by decide +kernel) ⟨Nat.le_of_ble_eq_true rfl, Nat.le_of_ble_eq_true rfl⟩) ⟨kq_blind, va_recv hK hP (ci := 5) (q0 := 0) rfl rfl, kq_pre hG hZ hS hPc hDc hFc⟩ rfl rfl hl.1 rfl (lv_room (Nat.le_of_ble_eq_true rfl)) dX5_typeNumber_3 ⟨Nat.le_of_ble_eq_true rfl, Nat.le_of_ble_eq_true rfl⟩) hS (fun q _ h => hFc q h) hFc (fun u t H1 locs ht hvm hw hB hz1 hk1 hS => ?_)
  obtain ⟨hP1, hD1⟩ := hB
  rw [ht] at hP1
  obtain ⟨hP, hD⟩ := va_join (wr := []) (w1 := [(h, .inr (5, [.int h_code, .long h_seed, .long h_state, .ref h_many, .ref h_sort, .ref h_x, .ref h_y, .ref h_z, .ref h_fault, .ref h_faultAt, .ref h_left, .int h_lefts, .ref h_stays, .ref h_text, .int r1.1])), (h_text, .inl (cA 3, 1600, .inl r1.2))]) hP hD [0, 1] [] rfl rfl (by decide) (by decide) hk1 hFc hP1 hD1
  have hP : va_P (dC, dI) vwCl [(h, .inr (5, [.int h_code, .long h_seed, .long h_state, .ref h_many, .ref h_sort, .ref h_x, .ref h_y, .ref h_z, .ref h_fault, .ref h_faultAt, .ref h_left, .int h_lefts, .ref h_stays, .ref h_text, .int r1.1])), (h_text, .inl (cA 3, 1600, .inl r1.2))] H1 := hP.sub [0, 1] rfl
  have hD : va_D A [(h, .inr (5, [.int h_code, .long h_seed, .long h_state, .ref h_many, .ref h_sort, .ref h_x, .ref h_y, .ref h_z, .ref h_fault, .ref h_faultAt, .ref h_left, .int h_lefts, .ref h_stays, .ref h_text, .int r1.1])), (h_text, .inl (cA 3, 1600, .inl r1.2))] := hD.sub [0, 1] (by decide) rfl
  generalize H1 = H at hP hS ⊢
  refine lv_lload_n hx hb dX5_typeNumber_6 rfl (lv_at hl 1 rfl) ?_
  refine lv_lstore_n (lv' := [(3, .long p0), (0, .ref h), (1, .long p0)]) hx hb dX5_typeNumber_7 rfl hl (by decide) rfl (fun ls hl => ?_)
  refine lv_lload_n hx hb dX5_typeNumber_8 rfl (lv_at hl 2 rfl) ?_
  refine lv_lconst (v := 0) hx hb dX5_typeNumber_9 (by decide) ?_
  refine W.lcmp hx hb dX5_typeNumber_10 ?_
  refine lv_if_ge (tgt := 23) hx hb dX5_typeNumber_11 (by decide) (fun c2 => ?_) (fun c2 => ?_)
  · have hf := kp_p c2 hf
    refine lv_lconst (v := 1) hx hb dX5_typeNumber_23 (by decide) ?_
    refine lv_lstore (lv' := [(5, .long 1), (3, .long p0), (0, .ref h), (1, .long p0)]) hx hb dX5_typeNumber_24 hl (by decide) rfl (fun ls hl => ?_)
    refine kq_ind (fun n H locs g => ∃ (h_size : Int32) (h_text_v : Nat → Int32) (v3 : Int64) (v5 : Int64) (ls : Array Slot), g = F0 m 26 ls [] ∧ lv_has ls 7 [(0, .ref h), (3, .long v3), (5, .long v5)] ∧ va_P (dC, dI) vwCl [(h, .inr (5, [.int h_code, .long h_seed, .long h_state, .ref h_many, .ref h_sort, .ref h_x, .ref h_y, .ref h_z, .ref h_fault, .ref h_faultAt, .ref h_left, .int h_lefts, .ref h_stays, .ref h_text, .int h_size])), (h_text, .inl (cA 3, 1600, .inl h_text_v))] H ∧ va_D A [(h, .inr (5, [.int h_code, .long h_seed, .long h_state, .ref h_many, .ref h_sort, .ref h_x, .ref h_y, .ref h_z, .ref h_fault, .ref h_faultAt, .ref h_left, .int h_lefts, .ref h_stays, .ref h_text, .int h_size])), (h_text, .inl (cA 3, 1600, .inl h_text_v))] ∧ va_S A s.heap H locs ∧ f_X5_typeNumber_L26 p0 n h_size h_text_v v3 v5 = some o) (fun H locs g h => ?_) (fun n26 ih26 H locs g h => ?_) 64 _ _ _ ⟨r1.1, r1.2, p0, 1, ls, rfl, lv_sub hl [2, 1, 0] rfl, hP, hD, hS, hf⟩
    · obtain ⟨h_size, h_text_v, v3, v5, ls, -, -, -, -, -, hf⟩ := h
      have hf : (none : Option (Int32 × (Nat → Int32))) = some o := hf
      cases hf
    · obtain ⟨h_size, h_text_v, v3, v5, ls, rfl, hl, hP, hD, hS, hf⟩ := h
      have hf := (e_X5_typeNumber_L26 p0 n26 h_size h_text_v v3 v5).symm.trans hf
      refine lv_lload_n hx hb dX5_typeNumber_26 rfl (lv_at hl 1 rfl) ?_
      refine lv_lload hx hb dX5_typeNumber_27 (lv_at hl 2 rfl) ?_
      obtain ⟨hq27001, hf⟩ := kp_t hf
      refine lv_ldiv hx hb dX5_typeNumber_29 hq27001 ?_
      refine lv_ldc2 (v := 9) hx hb hown (hts _ tw_439) dX5_typeNumber_30 ?_
      refine W.lcmp hx hb dX5_typeNumber_33 ?_
      refine lv_if_le (tgt := 48) hx hb dX5_typeNumber_34 (by decide) (fun c27002 => ?_) (fun c27002 => ?_)
      · have hf := kp_p c27002 hf
        refine kq_ind (fun n H locs g => ∃ (h_size : Int32) (h_text_v : Nat → Int32) (v3 : Int64) (v5 : Int64) (ls : Array Slot), g = F0 m 48 ls [] ∧ lv_has ls 7 [(0, .ref h), (3, .long v3), (5, .long v5)] ∧ va_P (dC, dI) vwCl [(h, .inr (5, [.int h_code, .long h_seed, .long h_state, .ref h_many, .ref h_sort, .ref h_x, .ref h_y, .ref h_z, .ref h_fault, .ref h_faultAt, .ref h_left, .int h_lefts, .ref h_stays, .ref h_text, .int h_size])), (h_text, .inl (cA 3, 1600, .inl h_text_v))] H ∧ va_D A [(h, .inr (5, [.int h_code, .long h_seed, .long h_state, .ref h_many, .ref h_sort, .ref h_x, .ref h_y, .ref h_z, .ref h_fault, .ref h_faultAt, .ref h_left, .int h_lefts, .ref h_stays, .ref h_text, .int h_size])), (h_text, .inl (cA 3, 1600, .inl h_text_v))] ∧ va_S A s.heap H locs ∧ f_X5_typeNumber_L48 p0 n h_size h_text_v v3 v5 = some o) (fun H locs g h => ?_) (fun n48 ih48 H locs g h => ?_) 64 _ _ _ ⟨h_size, h_text_v, v3, v5, ls, rfl, lv_sub hl [0, 1, 2] rfl, hP, hD, hS, hf⟩
        · obtain ⟨h_size, h_text_v, v3, v5, ls, -, -, -, -, -, hf⟩ := h
          have hf : (none : Option (Int32 × (Nat → Int32))) = some o := hf
          cases hf
        · obtain ⟨h_size, h_text_v, v3, v5, ls, rfl, hl, hP, hD, hS, hf⟩ := h
          have hf := (e_X5_typeNumber_L48 p0 n48 h_size h_text_v v3 v5).symm.trans hf
          refine lv_lload hx hb dX5_typeNumber_48 (lv_at hl 2 rfl) ?_
          refine lv_lconst (v := 0) hx hb dX5_typeNumber_50 (by decide) ?_
          refine W.lcmp hx hb dX5_typeNumber_51 ?_
          refine lv_if_le (tgt := 82) hx hb dX5_typeNumber_52 (by decide) (fun c49001 => ?_) (fun c49001 => ?_)
          · have hf := kp_p c49001 hf
            have eo := Option.some.inj hf
            subst eo
            exact W.vret hx hb hr (fun t ht hW => ⟨⟨(), rfl, trivial, kq_mk ht hP hD⟩, hS.F ht⟩) hS.2.2 dX5_typeNumber_82
          · have hf := kp_n c49001 hf
            refine lv_aload_n hx hb dX5_typeNumber_55 rfl (lv_at hl 0 rfl) ?_
            refine lv_bipush (v := 48) hx hb dX5_typeNumber_56 (by decide) ?_
            refine lv_lload_n hx hb dX5_typeNumber_58 rfl (lv_at hl 1 rfl) ?_
            refine lv_lload hx hb dX5_typeNumber_59 (lv_at hl 2 rfl) ?_
            obtain ⟨hq49002, hf⟩ := kp_t hf
            refine lv_ldiv hx hb dX5_typeNumber_61 hq49002 ?_
            refine lv_ldc2 (v := 10) hx hb hown (hts _ tw_440) dX5_typeNumber_62 ?_
            refine lv_lrem hx hb dX5_typeNumber_65 (by decide) ?_
            refine lv_l2i hx hb dX5_typeNumber_66 rfl ?_
            refine lv_iadd hx hb dX5_typeNumber_67 ?_
            obtain ⟨r49003, hr49003, hf⟩ := kp_b hf
            have hPc := hP.sub (ws' := [(h, .inr (5, [.int h_code, .long h_seed, .long h_state, .ref h_many, .ref h_sort, .ref h_x, .ref h_y, .ref h_z, .ref h_fault, .ref h_faultAt, .ref h_left, .int h_lefts, .ref h_stays, .ref h_text, .int h_size])), (h_text, .inl (cA 3, 1600, .inl h_text_v))]) [0, 1] rfl
            have hDc := hD.sub (ws' := [(h, .inr (5, [.int h_code, .long h_seed, .long h_state, .ref h_many, .ref h_sort, .ref h_x, .ref h_y, .ref h_z, .ref h_fault, .ref h_faultAt, .ref h_left, .int h_lefts, .ref h_stays, .ref h_text, .int h_size])), (h_text, .inl (cA 3, 1600, .inl h_text_v))]) [0, 1] (by decide) rfl
            have hFc := va_free (wc := [(h, .inr (5, [.int h_code, .long h_seed, .long h_state, .ref h_many, .ref h_sort, .ref h_x, .ref h_y, .ref h_z, .ref h_fault, .ref h_faultAt, .ref h_left, .int h_lefts, .ref h_stays, .ref h_text, .int h_size])), (h_text, .inl (cA 3, 1600, .inl h_text_v))]) hD hS hA [0, 1] rfl
            refine va_callv (va_runV (As := [.int (48 + (((v3 / v5) - (v3 / v5) / 10 * 10).toInt32))]) (rest := []) ⟨hx, hb, hml, hown, hts⟩ (c_X5_type l dC dI cA tt h h_text h_many h_sort h_x h_y h_z h_fault h_faultAt h_left h_stays H.size h_code h_seed h_state h_lefts h_size h_text_v (48 + (((v3 / v5) - (v3 / v5) / 10 * 10).toInt32)) r49003 hr49003) (cwV 1 hts (kq_gV tw_431 tw_433 tw_15 tw_25 tw_434) rfl rfl rfl (by decide +kernel) ⟨Nat.le_of_ble_eq_true rfl, Nat.le_of_ble_eq_true rfl⟩) ⟨kq_blind, va_recv hK hP (ci := 5) (q0 := 0) rfl rfl, kq_pre hG hZ hS hPc hDc hFc⟩ rfl rfl hl.1 rfl (lv_room (Nat.le_of_ble_eq_true rfl)) dX5_typeNumber_68 ⟨Nat.le_of_ble_eq_true rfl, Nat.le_of_ble_eq_true rfl⟩) hS (fun q _ h => hFc q h) hFc (fun u t H1 locs ht hvm hw hB hz1 hk1 hS => ?_)
            obtain ⟨hP1, hD1⟩ := hB
            rw [ht] at hP1
            obtain ⟨hP, hD⟩ := va_join (wr := []) (w1 := [(h, .inr (5, [.int h_code, .long h_seed, .long h_state, .ref h_many, .ref h_sort, .ref h_x, .ref h_y, .ref h_z, .ref h_fault, .ref h_faultAt, .ref h_left, .int h_lefts, .ref h_stays, .ref h_text, .int r49003.1])), (h_text, .inl (cA 3, 1600, .inl r49003.2))]) hP hD [0, 1] [] rfl rfl (by decide) (by decide) hk1 hFc hP1 hD1
            have hP : va_P (dC, dI) vwCl [(h, .inr (5, [.int h_code, .long h_seed, .long h_state, .ref h_many, .ref h_sort, .ref h_x, .ref h_y, .ref h_z, .ref h_fault, .ref h_faultAt, .ref h_left, .int h_lefts, .ref h_stays, .ref h_text, .int r49003.1])), (h_text, .inl (cA 3, 1600, .inl r49003.2))] H1 := hP.sub [0, 1] rfl
            have hD : va_D A [(h, .inr (5, [.int h_code, .long h_seed, .long h_state, .ref h_many, .ref h_sort, .ref h_x, .ref h_y, .ref h_z, .ref h_fault, .ref h_faultAt, .ref h_left, .int h_lefts, .ref h_stays, .ref h_text, .int r49003.1])), (h_text, .inl (cA 3, 1600, .inl r49003.2))] := hD.sub [0, 1] (by decide) rfl
            generalize H1 = H at hP hS ⊢
            refine lv_lload hx hb dX5_typeNumber_71 (lv_at hl 2 rfl) ?_
            refine lv_ldc2 (v := 10) hx hb hown (hts _ tw_440) dX5_typeNumber_73 ?_
            refine lv_ldiv hx hb dX5_typeNumber_76 (by decide) ?_
            refine lv_lstore (lv' := [(5, .long (v5 / 10)), (0, .ref h), (3, .long v3)]) hx hb dX5_typeNumber_77 hl (by decide) rfl (fun ls hl => ?_)
            refine lv_goto (tgt := 48) hx hb dX5_typeNumber_79 (by decide) ?_
            exact ih48 _ _ _ ⟨r49003.1, r49003.2, v3, v5 / 10, ls, rfl, lv_sub hl [1, 2, 0] rfl, hP, hD, hS, hf⟩
      · have hf := kp_n c27002 hf
        refine lv_lload hx hb dX5_typeNumber_37 (lv_at hl 2 rfl) ?_
        refine lv_ldc2 (v := 10) hx hb hown (hts _ tw_440) dX5_typeNumber_39 ?_
        refine lv_lmul hx hb dX5_typeNumber_42 ?_
        refine lv_lstore (lv' := [(5, .long (v5 * 10)), (0, .ref h), (3, .long v3)]) hx hb dX5_typeNumber_43 hl (by decide) rfl (fun ls hl => ?_)
        refine lv_goto (tgt := 26) hx hb dX5_typeNumber_45 (by decide) ?_
        exact ih26 _ _ _ ⟨h_size, h_text_v, v3, v5 * 10, ls, rfl, lv_sub hl [1, 2, 0] rfl, hP, hD, hS, hf⟩
  · have hf := kp_n c2 hf
    refine lv_aload_n hx hb dX5_typeNumber_14 rfl (lv_at hl 1 rfl) ?_
    refine lv_bipush (v := 45) hx hb dX5_typeNumber_15 (by decide) ?_
    obtain ⟨r3, hr3, hf⟩ := kp_b hf
    have hPc := hP.sub (ws' := [(h, .inr (5, [.int h_code, .long h_seed, .long h_state, .ref h_many, .ref h_sort, .ref h_x, .ref h_y, .ref h_z, .ref h_fault, .ref h_faultAt, .ref h_left, .int h_lefts, .ref h_stays, .ref h_text, .int r1.1])), (h_text, .inl (cA 3, 1600, .inl r1.2))]) [0, 1] rfl
    have hDc := hD.sub (ws' := [(h, .inr (5, [.int h_code, .long h_seed, .long h_state, .ref h_many, .ref h_sort, .ref h_x, .ref h_y, .ref h_z, .ref h_fault, .ref h_faultAt, .ref h_left, .int h_lefts, .ref h_stays, .ref h_text, .int r1.1])), (h_text, .inl (cA 3, 1600, .inl r1.2))]) [0, 1] (by decide) rfl
    have hFc := va_free (wc := [(h, .inr (5, [.int h_code, .long h_seed, .long h_state, .ref h_many, .ref h_sort, .ref h_x, .ref h_y, .ref h_z, .ref h_fault, .ref h_faultAt, .ref h_left, .int h_lefts, .ref h_stays, .ref h_text, .int r1.1])), (h_text, .inl (cA 3, 1600, .inl r1.2))]) hD hS hA [0, 1] rfl
    refine va_callv (va_runV (As := [.int 45]) (rest := []) ⟨hx, hb, hml, hown, hts⟩ (c_X5_type l dC dI cA tt h h_text h_many h_sort h_x h_y h_z h_fault h_faultAt h_left h_stays H.size h_code h_seed h_state h_lefts r1.1 r1.2 45 r3 hr3) (cwV 1 hts (kq_gV tw_431 tw_433 tw_15 tw_25 tw_434) rfl rfl rfl (by decide +kernel) ⟨Nat.le_of_ble_eq_true rfl, Nat.le_of_ble_eq_true rfl⟩) ⟨kq_blind, va_recv hK hP (ci := 5) (q0 := 0) rfl rfl, kq_pre hG hZ hS hPc hDc hFc⟩ rfl rfl hl.1 rfl (lv_room (Nat.le_of_ble_eq_true rfl)) dX5_typeNumber_17 ⟨Nat.le_of_ble_eq_true rfl, Nat.le_of_ble_eq_true rfl⟩) hS (fun q _ h => hFc q h) hFc (fun u t H1 locs ht hvm hw hB hz1 hk1 hS => ?_)
    obtain ⟨hP1, hD1⟩ := hB
    rw [ht] at hP1
    obtain ⟨hP, hD⟩ := va_join (wr := []) (w1 := [(h, .inr (5, [.int h_code, .long h_seed, .long h_state, .ref h_many, .ref h_sort, .ref h_x, .ref h_y, .ref h_z, .ref h_fault, .ref h_faultAt, .ref h_left, .int h_lefts, .ref h_stays, .ref h_text, .int r3.1])), (h_text, .inl (cA 3, 1600, .inl r3.2))]) hP hD [0, 1] [] rfl rfl (by decide) (by decide) hk1 hFc hP1 hD1
    have hP : va_P (dC, dI) vwCl [(h, .inr (5, [.int h_code, .long h_seed, .long h_state, .ref h_many, .ref h_sort, .ref h_x, .ref h_y, .ref h_z, .ref h_fault, .ref h_faultAt, .ref h_left, .int h_lefts, .ref h_stays, .ref h_text, .int r3.1])), (h_text, .inl (cA 3, 1600, .inl r3.2))] H1 := hP.sub [0, 1] rfl
    have hD : va_D A [(h, .inr (5, [.int h_code, .long h_seed, .long h_state, .ref h_many, .ref h_sort, .ref h_x, .ref h_y, .ref h_z, .ref h_fault, .ref h_faultAt, .ref h_left, .int h_lefts, .ref h_stays, .ref h_text, .int r3.1])), (h_text, .inl (cA 3, 1600, .inl r3.2))] := hD.sub [0, 1] (by decide) rfl
    generalize H1 = H at hP hS ⊢
    refine lv_lload_n hx hb dX5_typeNumber_20 rfl (lv_at hl 2 rfl) ?_
    refine lv_lneg hx hb dX5_typeNumber_21 ?_
    refine lv_lstore_n (lv' := [(3, .long (-p0)), (0, .ref h), (1, .long p0)]) hx hb dX5_typeNumber_22 rfl hl (by decide) rfl (fun ls hl => ?_)
    refine lv_lconst (v := 1) hx hb dX5_typeNumber_23 (by decide) ?_
    refine lv_lstore (lv' := [(5, .long 1), (3, .long (-p0)), (0, .ref h), (1, .long p0)]) hx hb dX5_typeNumber_24 hl (by decide) rfl (fun ls hl => ?_)
    refine kq_ind (fun n H locs g => ∃ (h_size : Int32) (h_text_v : Nat → Int32) (v3 : Int64) (v5 : Int64) (ls : Array Slot), g = F0 m 26 ls [] ∧ lv_has ls 7 [(0, .ref h), (3, .long v3), (5, .long v5)] ∧ va_P (dC, dI) vwCl [(h, .inr (5, [.int h_code, .long h_seed, .long h_state, .ref h_many, .ref h_sort, .ref h_x, .ref h_y, .ref h_z, .ref h_fault, .ref h_faultAt, .ref h_left, .int h_lefts, .ref h_stays, .ref h_text, .int h_size])), (h_text, .inl (cA 3, 1600, .inl h_text_v))] H ∧ va_D A [(h, .inr (5, [.int h_code, .long h_seed, .long h_state, .ref h_many, .ref h_sort, .ref h_x, .ref h_y, .ref h_z, .ref h_fault, .ref h_faultAt, .ref h_left, .int h_lefts, .ref h_stays, .ref h_text, .int h_size])), (h_text, .inl (cA 3, 1600, .inl h_text_v))] ∧ va_S A s.heap H locs ∧ f_X5_typeNumber_L26 p0 n h_size h_text_v v3 v5 = some o) (fun H locs g h => ?_) (fun n26 ih26 H locs g h => ?_) 64 _ _ _ ⟨r3.1, r3.2, -p0, 1, ls, rfl, lv_sub hl [2, 1, 0] rfl, hP, hD, hS, hf⟩
    · obtain ⟨h_size, h_text_v, v3, v5, ls, -, -, -, -, -, hf⟩ := h
      have hf : (none : Option (Int32 × (Nat → Int32))) = some o := hf
      cases hf
    · obtain ⟨h_size, h_text_v, v3, v5, ls, rfl, hl, hP, hD, hS, hf⟩ := h
      have hf := (e_X5_typeNumber_L26 p0 n26 h_size h_text_v v3 v5).symm.trans hf
      refine lv_lload_n hx hb dX5_typeNumber_26 rfl (lv_at hl 1 rfl) ?_
      refine lv_lload hx hb dX5_typeNumber_27 (lv_at hl 2 rfl) ?_
      obtain ⟨hq27001, hf⟩ := kp_t hf
      refine lv_ldiv hx hb dX5_typeNumber_29 hq27001 ?_
      refine lv_ldc2 (v := 9) hx hb hown (hts _ tw_439) dX5_typeNumber_30 ?_
      refine W.lcmp hx hb dX5_typeNumber_33 ?_
      refine lv_if_le (tgt := 48) hx hb dX5_typeNumber_34 (by decide) (fun c27002 => ?_) (fun c27002 => ?_)
      · have hf := kp_p c27002 hf
        refine kq_ind (fun n H locs g => ∃ (h_size : Int32) (h_text_v : Nat → Int32) (v3 : Int64) (v5 : Int64) (ls : Array Slot), g = F0 m 48 ls [] ∧ lv_has ls 7 [(0, .ref h), (3, .long v3), (5, .long v5)] ∧ va_P (dC, dI) vwCl [(h, .inr (5, [.int h_code, .long h_seed, .long h_state, .ref h_many, .ref h_sort, .ref h_x, .ref h_y, .ref h_z, .ref h_fault, .ref h_faultAt, .ref h_left, .int h_lefts, .ref h_stays, .ref h_text, .int h_size])), (h_text, .inl (cA 3, 1600, .inl h_text_v))] H ∧ va_D A [(h, .inr (5, [.int h_code, .long h_seed, .long h_state, .ref h_many, .ref h_sort, .ref h_x, .ref h_y, .ref h_z, .ref h_fault, .ref h_faultAt, .ref h_left, .int h_lefts, .ref h_stays, .ref h_text, .int h_size])), (h_text, .inl (cA 3, 1600, .inl h_text_v))] ∧ va_S A s.heap H locs ∧ f_X5_typeNumber_L48 p0 n h_size h_text_v v3 v5 = some o) (fun H locs g h => ?_) (fun n48 ih48 H locs g h => ?_) 64 _ _ _ ⟨h_size, h_text_v, v3, v5, ls, rfl, lv_sub hl [0, 1, 2] rfl, hP, hD, hS, hf⟩
        · obtain ⟨h_size, h_text_v, v3, v5, ls, -, -, -, -, -, hf⟩ := h
          have hf : (none : Option (Int32 × (Nat → Int32))) = some o := hf
          cases hf
        · obtain ⟨h_size, h_text_v, v3, v5, ls, rfl, hl, hP, hD, hS, hf⟩ := h
          have hf := (e_X5_typeNumber_L48 p0 n48 h_size h_text_v v3 v5).symm.trans hf
          refine lv_lload hx hb dX5_typeNumber_48 (lv_at hl 2 rfl) ?_
          refine lv_lconst (v := 0) hx hb dX5_typeNumber_50 (by decide) ?_
          refine W.lcmp hx hb dX5_typeNumber_51 ?_
          refine lv_if_le (tgt := 82) hx hb dX5_typeNumber_52 (by decide) (fun c49001 => ?_) (fun c49001 => ?_)
          · have hf := kp_p c49001 hf
            have eo := Option.some.inj hf
            subst eo
            exact W.vret hx hb hr (fun t ht hW => ⟨⟨(), rfl, trivial, kq_mk ht hP hD⟩, hS.F ht⟩) hS.2.2 dX5_typeNumber_82
          · have hf := kp_n c49001 hf
            refine lv_aload_n hx hb dX5_typeNumber_55 rfl (lv_at hl 0 rfl) ?_
            refine lv_bipush (v := 48) hx hb dX5_typeNumber_56 (by decide) ?_
            refine lv_lload_n hx hb dX5_typeNumber_58 rfl (lv_at hl 1 rfl) ?_
            refine lv_lload hx hb dX5_typeNumber_59 (lv_at hl 2 rfl) ?_
            obtain ⟨hq49002, hf⟩ := kp_t hf
            refine lv_ldiv hx hb dX5_typeNumber_61 hq49002 ?_
            refine lv_ldc2 (v := 10) hx hb hown (hts _ tw_440) dX5_typeNumber_62 ?_
            refine lv_lrem hx hb dX5_typeNumber_65 (by decide) ?_
            refine lv_l2i hx hb dX5_typeNumber_66 rfl ?_
            refine lv_iadd hx hb dX5_typeNumber_67 ?_
            obtain ⟨r49003, hr49003, hf⟩ := kp_b hf
            have hPc := hP.sub (ws' := [(h, .inr (5, [.int h_code, .long h_seed, .long h_state, .ref h_many, .ref h_sort, .ref h_x, .ref h_y, .ref h_z, .ref h_fault, .ref h_faultAt, .ref h_left, .int h_lefts, .ref h_stays, .ref h_text, .int h_size])), (h_text, .inl (cA 3, 1600, .inl h_text_v))]) [0, 1] rfl
            have hDc := hD.sub (ws' := [(h, .inr (5, [.int h_code, .long h_seed, .long h_state, .ref h_many, .ref h_sort, .ref h_x, .ref h_y, .ref h_z, .ref h_fault, .ref h_faultAt, .ref h_left, .int h_lefts, .ref h_stays, .ref h_text, .int h_size])), (h_text, .inl (cA 3, 1600, .inl h_text_v))]) [0, 1] (by decide) rfl
            have hFc := va_free (wc := [(h, .inr (5, [.int h_code, .long h_seed, .long h_state, .ref h_many, .ref h_sort, .ref h_x, .ref h_y, .ref h_z, .ref h_fault, .ref h_faultAt, .ref h_left, .int h_lefts, .ref h_stays, .ref h_text, .int h_size])), (h_text, .inl (cA 3, 1600, .inl h_text_v))]) hD hS hA [0, 1] rfl
            refine va_callv (va_runV (As := [.int (48 + (((v3 / v5) - (v3 / v5) / 10 * 10).toInt32))]) (rest := []) ⟨hx, hb, hml, hown, hts⟩ (c_X5_type l dC dI cA tt h h_text h_many h_sort h_x h_y h_z h_fault h_faultAt h_left h_stays H.size h_code h_seed h_state h_lefts h_size h_text_v (48 + (((v3 / v5) - (v3 / v5) / 10 * 10).toInt32)) r49003 hr49003) (cwV 1 hts (kq_gV tw_431 tw_433 tw_15 tw_25 tw_434) rfl rfl rfl (by decide +kernel) ⟨Nat.le_of_ble_eq_true rfl, Nat.le_of_ble_eq_true rfl⟩) ⟨kq_blind, va_recv hK hP (ci := 5) (q0 := 0) rfl rfl, kq_pre hG hZ hS hPc hDc hFc⟩ rfl rfl hl.1 rfl (lv_room (Nat.le_of_ble_eq_true rfl)) dX5_typeNumber_68 ⟨Nat.le_of_ble_eq_true rfl, Nat.le_of_ble_eq_true rfl⟩) hS (fun q _ h => hFc q h) hFc (fun u t H1 locs ht hvm hw hB hz1 hk1 hS => ?_)
            obtain ⟨hP1, hD1⟩ := hB
            rw [ht] at hP1
            obtain ⟨hP, hD⟩ := va_join (wr := []) (w1 := [(h, .inr (5, [.int h_code, .long h_seed, .long h_state, .ref h_many, .ref h_sort, .ref h_x, .ref h_y, .ref h_z, .ref h_fault, .ref h_faultAt, .ref h_left, .int h_lefts, .ref h_stays, .ref h_text, .int r49003.1])), (h_text, .inl (cA 3, 1600, .inl r49003.2))]) hP hD [0, 1] [] rfl rfl (by decide) (by decide) hk1 hFc hP1 hD1
            have hP : va_P (dC, dI) vwCl [(h, .inr (5, [.int h_code, .long h_seed, .long h_state, .ref h_many, .ref h_sort, .ref h_x, .ref h_y, .ref h_z, .ref h_fault, .ref h_faultAt, .ref h_left, .int h_lefts, .ref h_stays, .ref h_text, .int r49003.1])), (h_text, .inl (cA 3, 1600, .inl r49003.2))] H1 := hP.sub [0, 1] rfl
            have hD : va_D A [(h, .inr (5, [.int h_code, .long h_seed, .long h_state, .ref h_many, .ref h_sort, .ref h_x, .ref h_y, .ref h_z, .ref h_fault, .ref h_faultAt, .ref h_left, .int h_lefts, .ref h_stays, .ref h_text, .int r49003.1])), (h_text, .inl (cA 3, 1600, .inl r49003.2))] := hD.sub [0, 1] (by decide) rfl
            generalize H1 = H at hP hS ⊢
            refine lv_lload hx hb dX5_typeNumber_71 (lv_at hl 2 rfl) ?_
            refine lv_ldc2 (v := 10) hx hb hown (hts _ tw_440) dX5_typeNumber_73 ?_
            refine lv_ldiv hx hb dX5_typeNumber_76 (by decide) ?_
            refine lv_lstore (lv' := [(5, .long (v5 / 10)), (0, .ref h), (3, .long v3)]) hx hb dX5_typeNumber_77 hl (by decide) rfl (fun ls hl => ?_)
            refine lv_goto (tgt := 48) hx hb dX5_typeNumber_79 (by decide) ?_
            exact ih48 _ _ _ ⟨r49003.1, r49003.2, v3, v5 / 10, ls, rfl, lv_sub hl [1, 2, 0] rfl, hP, hD, hS, hf⟩
      · have hf := kp_n c27002 hf
        refine lv_lload hx hb dX5_typeNumber_37 (lv_at hl 2 rfl) ?_
        refine lv_ldc2 (v := 10) hx hb hown (hts _ tw_440) dX5_typeNumber_39 ?_
        refine lv_lmul hx hb dX5_typeNumber_42 ?_
        refine lv_lstore (lv' := [(5, .long (v5 * 10)), (0, .ref h), (3, .long v3)]) hx hb dX5_typeNumber_43 hl (by decide) rfl (fun ls hl => ?_)
        refine lv_goto (tgt := 26) hx hb dX5_typeNumber_45 (by decide) ?_
        exact ih26 _ _ _ ⟨h_size, h_text_v, v3, v5 * 10, ls, rfl, lv_sub hl [1, 2, 0] rfl, hP, hD, hS, hf⟩

def f_X5_letter_L12 (h_lefts : Int32) (h_sort_v : Nat → Int32) (h_x_v : Nat → Int64) (h_y_v : Nat → Int64) (h_z_v : Nat → Int64) (h_left_v : Nat → Int32) (p0 : Int32) : Nat → Int32 → Int32 → (Nat → Int32) → Int32 → Option (Int32 × Int32 × Int32 × (Nat → Int32))
  | 0, _, _, _, _ => none
  | n12 + 1, h_code, h_size, h_text_v, v2 =>
    (if h_lefts ≤ v2 then
    (if p0 < 0 then
    some (((-1), h_code, h_size, h_text_v))
    else
    (if h_size ≤ p0 then
    some (((-1), h_code, h_size, h_text_v))
    else
    if p0 < 0 ∨ 1600 ≤ p0.toNatClampNeg then none else
    some ((h_text_v p0.toNatClampNeg, h_code, h_size, h_text_v))))
    else
    if v2 < 0 ∨ 40 ≤ v2.toNatClampNeg then none else
    if (h_left_v v2.toNatClampNeg) < 0 ∨ 120 ≤ (h_left_v v2.toNatClampNeg).toNatClampNeg then none else
    (f_X5_type h_size h_text_v (97 + (h_sort_v (h_left_v v2.toNatClampNeg).toNatClampNeg))).bind fun r13007 =>
    (f_X5_typeNumber r13007.1 r13007.2 (h_x_v (h_left_v v2.toNatClampNeg).toNatClampNeg)).bind fun r13009 =>
    (f_X5_typeNumber r13009.1 r13009.2 (h_y_v (h_left_v v2.toNatClampNeg).toNatClampNeg)).bind fun r13011 =>
    (f_X5_typeNumber r13011.1 r13011.2 (h_z_v (h_left_v v2.toNatClampNeg).toNatClampNeg)).bind fun r13013 =>
    (f_X5_type r13013.1 r13013.2 10).bind fun r13014 =>
    f_X5_letter_L12 h_lefts h_sort_v h_x_v h_y_v h_z_v h_left_v p0 n12 h_code r13014.1 r13014.2 (v2 + 1))
theorem e_X5_letter_L12 (h_lefts : Int32) (h_sort_v : Nat → Int32) (h_x_v : Nat → Int64) (h_y_v : Nat → Int64) (h_z_v : Nat → Int64) (h_left_v : Nat → Int32) (p0 : Int32) (n12 : Nat) (h_code : Int32) (h_size : Int32) (h_text_v : Nat → Int32) (v2 : Int32) : f_X5_letter_L12 h_lefts h_sort_v h_x_v h_y_v h_z_v h_left_v p0 (n12 + 1) h_code h_size h_text_v v2 =
    ((if h_lefts ≤ v2 then
    (if p0 < 0 then
    some (((-1), h_code, h_size, h_text_v))
    else
    (if h_size ≤ p0 then
    some (((-1), h_code, h_size, h_text_v))
    else
    if p0 < 0 ∨ 1600 ≤ p0.toNatClampNeg then none else
    some ((h_text_v p0.toNatClampNeg, h_code, h_size, h_text_v))))
    else
    if v2 < 0 ∨ 40 ≤ v2.toNatClampNeg then none else
    if (h_left_v v2.toNatClampNeg) < 0 ∨ 120 ≤ (h_left_v v2.toNatClampNeg).toNatClampNeg then none else
    (f_X5_type h_size h_text_v (97 + (h_sort_v (h_left_v v2.toNatClampNeg).toNatClampNeg))).bind fun r13007 =>
    (f_X5_typeNumber r13007.1 r13007.2 (h_x_v (h_left_v v2.toNatClampNeg).toNatClampNeg)).bind fun r13009 =>
    (f_X5_typeNumber r13009.1 r13009.2 (h_y_v (h_left_v v2.toNatClampNeg).toNatClampNeg)).bind fun r13011 =>
    (f_X5_typeNumber r13011.1 r13011.2 (h_z_v (h_left_v v2.toNatClampNeg).toNatClampNeg)).bind fun r13013 =>
    (f_X5_type r13013.1 r13013.2 10).bind fun r13014 =>
    f_X5_letter_L12 h_lefts h_sort_v h_x_v h_y_v h_z_v h_left_v p0 n12 h_code r13014.1 r13014.2 (v2 + 1))) := rfl
def f_X5_letter (h_code : Int32) (h_lefts : Int32) (h_size : Int32) (h_sort_v : Nat → Int32) (h_x_v : Nat → Int64) (h_y_v : Nat → Int64) (h_z_v : Nat → Int64) (h_left_v : Nat → Int32) (h_text_v : Nat → Int32) (p0 : Int32) : Option (Int32 × Int32 × Int32 × (Nat → Int32)) :=
    f_X5_letter_L12 h_lefts h_sort_v h_x_v h_y_v h_z_v h_left_v p0 64 0 0 h_text_v 0
set_option maxHeartbeats 4000000 in
set_option maxRecDepth 100000 in
theorem c_X5_letter (l : Launch) (dC : Nat → ClassId) (dI : Nat → Nat → Nat) (cA : Nat → ClassId) (tt : Nat → Nat) (h h_sort h_x h_y h_z h_left h_text h_many h_fault h_faultAt h_stays : Nat) (sz : Nat) (h_code : Int32) (h_seed : Int64) (h_state : Int64) (h_lefts : Int32) (h_size : Int32) (h_sort_v : Nat → Int32) (h_x_v : Nat → Int64) (h_y_v : Nat → Int64) (h_z_v : Nat → Int64) (h_left_v : Nat → Int32) (h_text_v : Nat → Int32) (p0 : Int32) (o : Int32 × Int32 × Int32 × (Nat → Int32)) (hf : f_X5_letter h_code h_lefts h_size h_sort_v h_x_v h_y_v h_z_v h_left_v h_text_v p0 = some o) : Met l yX5_letter wX5_letter ({ frames := 2, cells := 0, slots := 0, locals := 47 }) (kq_Pc dC dI cA tt [.ref h, .int p0] [(h, .inr (5, [.int h_code, .long h_seed, .long h_state, .ref h_many, .ref h_sort, .ref h_x, .ref h_y, .ref h_z, .ref h_fault, .ref h_faultAt, .ref h_left, .int h_lefts, .ref h_stays, .ref h_text, .int h_size])), (h_sort, .inl (cA 0, 120, .inl h_sort_v)), (h_x, .inl (cA 2, 120, .inr (.inl h_x_v))), (h_y, .inl (cA 2, 120, .inr (.inl h_y_v))), (h_z, .inl (cA 2, 120, .inr (.inl h_z_v))), (h_left, .inl (cA 0, 40, .inl h_left_v)), (h_text, .inl (cA 3, 1600, .inl h_text_v))] sz) (va_Qi (fun r (_ : Unit) => r = o.1) (fun _ t => kq_B dC dI [(h, .inr (5, [.int o.2.1, .long h_seed, .long h_state, .ref h_many, .ref h_sort, .ref h_x, .ref h_y, .ref h_z, .ref h_fault, .ref h_faultAt, .ref h_left, .int h_lefts, .ref h_stays, .ref h_text, .int o.2.2.1])), (h_sort, .inl (cA 0, 120, .inl h_sort_v)), (h_x, .inl (cA 2, 120, .inr (.inl h_x_v))), (h_y, .inl (cA 2, 120, .inr (.inl h_y_v))), (h_z, .inl (cA 2, 120, .inr (.inl h_z_v))), (h_left, .inl (cA 0, 40, .inl h_left_v)), (h_text, .inl (cA 3, 1600, .inl o.2.2.2))] (va_A [(h, .inr (5, [.int h_code, .long h_seed, .long h_state, .ref h_many, .ref h_sort, .ref h_x, .ref h_y, .ref h_z, .ref h_fault, .ref h_faultAt, .ref h_left, .int h_lefts, .ref h_stays, .ref h_text, .int h_size])), (h_sort, .inl (cA 0, 120, .inl h_sort_v)), (h_x, .inl (cA 2, 120, .inr (.inl h_x_v))), (h_y, .inl (cA 2, 120, .inr (.inl h_y_v))), (h_z, .inl (cA 2, 120, .inr (.inl h_z_v))), (h_left, .inl (cA 0, 40, .inl h_left_v)), (h_text, .inl (cA 3, 1600, .inl h_text_v))] sz) t) (va_A [(h, .inr (5, [.int h_code, .long h_seed, .long h_state, .ref h_many, .ref h_sort, .ref h_x, .ref h_y, .ref h_z, .ref h_fault, .ref h_faultAt, .ref h_left, .int h_lefts, .ref h_stays, .ref h_text, .int h_size])), (h_sort, .inl (cA 0, 120, .inl h_sort_v)), (h_x, .inl (cA 2, 120, .inr (.inl h_x_v))), (h_y, .inl (cA 2, 120, .inr (.inl h_y_v))), (h_z, .inl (cA 2, 120, .inr (.inl h_z_v))), (h_left, .inl (cA 0, 40, .inl h_left_v)), (h_text, .inl (cA 3, 1600, .inl h_text_v))] sz)) 0 0 (va_A [(h, .inr (5, [.int h_code, .long h_seed, .long h_state, .ref h_many, .ref h_sort, .ref h_x, .ref h_y, .ref h_z, .ref h_fault, .ref h_faultAt, .ref h_left, .int h_lefts, .ref h_stays, .ref h_text, .int h_size])), (h_sort, .inl (cA 0, 120, .inl h_sort_v)), (h_x, .inl (cA 2, 120, .inr (.inl h_x_v))), (h_y, .inl (cA 2, 120, .inr (.inl h_y_v))), (h_z, .inl (cA 2, 120, .inr (.inl h_z_v))), (h_left, .inl (cA 0, 40, .inl h_left_v)), (h_text, .inl (cA 3, 1600, .inl h_text_v))] sz) := by
  refine Met.ofW (cc := cX5_letter) (maxL := 4) (ret := (some .int)) (by decide) rfl ?_
  intro p e s m args below meth c s₁ B hml hv
  obtain ⟨rfl, hsz, hP, hD0, hG, hZ⟩ := hv
  have hx := B.exec
  have hb := B.bytes
  have hr := B.returns
  have hts : ∀ w ∈ kq_T, w.before _ s = true := fun w h => atoms_spec (ws := wX5_letter) B.pre w (List.mem_cons_of_mem _ h)
  have hown : s.vm.findClass RX5 = some m.cls := findClass_of_methodNamed B.named
  have hlocks := B.notSynchronized
  have hK := hG.1
  subst hsz
  have hD := hD0.self (sz := s.heap.size)
  generalize hAe : va_A [(h, .inr (5, [.int h_code, .long h_seed, .long h_state, .ref h_many, .ref h_sort, .ref h_x, .ref h_y, .ref h_z, .ref h_fault, .ref h_faultAt, .ref h_left, .int h_lefts, .ref h_stays, .ref h_text, .int h_size])), (h_sort, .inl (cA 0, 120, .inl h_sort_v)), (h_x, .inl (cA 2, 120, .inr (.inl h_x_v))), (h_y, .inl (cA 2, 120, .inr (.inl h_y_v))), (h_z, .inl (cA 2, 120, .inr (.inl h_z_v))), (h_left, .inl (cA 0, 40, .inl h_left_v)), (h_text, .inl (cA 3, 1600, .inl h_text_v))] s.heap.size = A at hD hZ ⊢
  have hA : ∀ q : Nat, s.heap.size ≤ q → A q := fun q h => by rw [← hAe]; exact Or.inr h
  have hl := lv_entry [.ref h, .int p0] (n := 4) (Nat.le_of_ble_eq_true rfl)
  rw [lg_entry_eq]
  generalize (lg_sl [.ref h, .int p0] ++ List.replicate (4 - (lg_sl [.ref h, .int p0]).length) Slot.unset).toArray = ls at hl ⊢
  have hl : lv_has ls 4 [(0, .ref h), (1, .int p0)] := hl
  obtain ⟨H, hHe⟩ : ∃ H : Heap, H = s.heap := ⟨_, rfl⟩
  have hP : va_P (dC, dI) vwCl [(h, .inr (5, [.int h_code, .long h_seed, .long h_state, .ref h_many, .ref h_sort, .ref h_x, .ref h_y, .ref h_z, .ref h_fault, .ref h_faultAt, .ref h_left, .int h_lefts, .ref h_stays, .ref h_text, .int h_size])), (h_sort, .inl (cA 0, 120, .inl h_sort_v)), (h_x, .inl (cA 2, 120, .inr (.inl h_x_v))), (h_y, .inl (cA 2, 120, .inr (.inl h_y_v))), (h_z, .inl (cA 2, 120, .inr (.inl h_z_v))), (h_left, .inl (cA 0, 40, .inl h_left_v)), (h_text, .inl (cA 3, 1600, .inl h_text_v))] H := by rw [hHe]; exact hP
  have hS : va_S A s.heap H [] := by rw [hHe]; exact va_S.rf
  rw [← hHe]
  unfold f_X5_letter at hf
  refine lv_aload_n hx hb dX5_letter_0 rfl (lv_at hl 0 rfl) ?_
  refine lv_iconst (v := 0) hx hb dX5_letter_1 (by decide) ?_
  refine va_put (D := (dC, dI)) (ci := 5) (v := .int 0) (ty := (.int)) (C := RX5) (T := TX5) (N := 15) hx hb hts iwX5 tyX5 tyX5_ok nmX5 hown hK hP hD hS 0 rfl rfl 0 (by decide) (hts _ tw_335) (fun _ h9 => h9) rfl (by decide +kernel) rfl rfl (Nat.le_of_ble_eq_true rfl) dX5_letter_2 (fun H locs hP hD hS => ?_)
  have hP : va_P (dC, dI) vwCl [(h, .inr (5, [.int 0, .long h_seed, .long h_state, .ref h_many, .ref h_sort, .ref h_x, .ref h_y, .ref h_z, .ref h_fault, .ref h_faultAt, .ref h_left, .int h_lefts, .ref h_stays, .ref h_text, .int h_size])), (h_sort, .inl (cA 0, 120, .inl h_sort_v)), (h_x, .inl (cA 2, 120, .inr (.inl h_x_v))), (h_y, .inl (cA 2, 120, .inr (.inl h_y_v))), (h_z, .inl (cA 2, 120, .inr (.inl h_z_v))), (h_left, .inl (cA 0, 40, .inl h_left_v)), (h_text, .inl (cA 3, 1600, .inl h_text_v))] H := hP
  have hD : va_D A [(h, .inr (5, [.int 0, .long h_seed, .long h_state, .ref h_many, .ref h_sort, .ref h_x, .ref h_y, .ref h_z, .ref h_fault, .ref h_faultAt, .ref h_left, .int h_lefts, .ref h_stays, .ref h_text, .int h_size])), (h_sort, .inl (cA 0, 120, .inl h_sort_v)), (h_x, .inl (cA 2, 120, .inr (.inl h_x_v))), (h_y, .inl (cA 2, 120, .inr (.inl h_y_v))), (h_z, .inl (cA 2, 120, .inr (.inl h_z_v))), (h_left, .inl (cA 0, 40, .inl h_left_v)), (h_text, .inl (cA 3, 1600, .inl h_text_v))] := hD
  refine lv_aload_n hx hb dX5_letter_5 rfl (lv_at hl 0 rfl) ?_
  refine lv_iconst (v := 0) hx hb dX5_letter_6 (by decide) ?_
  refine va_put (D := (dC, dI)) (ci := 5) (v := .int 0) (ty := (.int)) (C := RX5) (T := TX5) (N := 15) hx hb hts iwX5 tyX5 tyX5_ok nmX5 hown hK hP hD hS 0 rfl rfl 14 (by decide) (hts _ tw_349) (fun _ h9 => h9) rfl (by decide +kernel) rfl rfl (Nat.le_of_ble_eq_true rfl) dX5_letter_7 (fun H locs hP hD hS => ?_)
  have hP : va_P (dC, dI) vwCl [(h, .inr (5, [.int 0, .long h_seed, .long h_state, .ref h_many, .ref h_sort, .ref h_x, .ref h_y, .ref h_z, .ref h_fault, .ref h_faultAt, .ref h_left, .int h_lefts, .ref h_stays, .ref h_text, .int 0])), (h_sort, .inl (cA 0, 120, .inl h_sort_v)), (h_x, .inl (cA 2, 120, .inr (.inl h_x_v))), (h_y, .inl (cA 2, 120, .inr (.inl h_y_v))), (h_z, .inl (cA 2, 120, .inr (.inl h_z_v))), (h_left, .inl (cA 0, 40, .inl h_left_v)), (h_text, .inl (cA 3, 1600, .inl h_text_v))] H := hP
  have hD : va_D A [(h, .inr (5, [.int 0, .long h_seed, .long h_state, .ref h_many, .ref h_sort, .ref h_x, .ref h_y, .ref h_z, .ref h_fault, .ref h_faultAt, .ref h_left, .int h_lefts, .ref h_stays, .ref h_text, .int 0])), (h_sort, .inl (cA 0, 120, .inl h_sort_v)), (h_x, .inl (cA 2, 120, .inr (.inl h_x_v))), (h_y, .inl (cA 2, 120, .inr (.inl h_y_v))), (h_z, .inl (cA 2, 120, .inr (.inl h_z_v))), (h_left, .inl (cA 0, 40, .inl h_left_v)), (h_text, .inl (cA 3, 1600, .inl h_text_v))] := hD
  refine lv_iconst (v := 0) hx hb dX5_letter_10 (by decide) ?_
  refine lv_istore_n (lv' := [(2, .int 0), (0, .ref h), (1, .int p0)]) hx hb dX5_letter_11 rfl hl (by decide) rfl (fun ls hl => ?_)
  refine kq_ind (fun n H locs g => ∃ (h_code : Int32) (h_size : Int32) (h_text_v : Nat → Int32) (v2 : Int32) (ls : Array Slot), g = F0 m 12 ls [] ∧ lv_has ls 4 [(0, .ref h), (1, .int p0), (2, .int v2)] ∧ va_P (dC, dI) vwCl [(h, .inr (5, [.int h_code, .long h_seed, .long h_state, .ref h_many, .ref h_sort, .ref h_x, .ref h_y, .ref h_z, .ref h_fault, .ref h_faultAt, .ref h_left, .int h_lefts, .ref h_stays, .ref h_text, .int h_size])), (h_sort, .inl (cA 0, 120, .inl h_sort_v)), (h_x, .inl (cA 2, 120, .inr (.inl h_x_v))), (h_y, .inl (cA 2, 120, .inr (.inl h_y_v))), (h_z, .inl (cA 2, 120, .inr (.inl h_z_v))), (h_left, .inl (cA 0, 40, .inl h_left_v)), (h_text, .inl (cA 3, 1600, .inl h_text_v))] H ∧ va_D A [(h, .inr (5, [.int h_code, .long h_seed, .long h_state, .ref h_many, .ref h_sort, .ref h_x, .ref h_y, .ref h_z, .ref h_fault, .ref h_faultAt, .ref h_left, .int h_lefts, .ref h_stays, .ref h_text, .int h_size])), (h_sort, .inl (cA 0, 120, .inl h_sort_v)), (h_x, .inl (cA 2, 120, .inr (.inl h_x_v))), (h_y, .inl (cA 2, 120, .inr (.inl h_y_v))), (h_z, .inl (cA 2, 120, .inr (.inl h_z_v))), (h_left, .inl (cA 0, 40, .inl h_left_v)), (h_text, .inl (cA 3, 1600, .inl h_text_v))] ∧ va_S A s.heap H locs ∧ f_X5_letter_L12 h_lefts h_sort_v h_x_v h_y_v h_z_v h_left_v p0 n h_code h_size h_text_v v2 = some o) (fun H locs g h => ?_) (fun n12 ih12 H locs g h => ?_) 64 _ _ _ ⟨0, 0, h_text_v, 0, ls, rfl, lv_sub hl [1, 2, 0] rfl, hP, hD, hS, hf⟩
  · obtain ⟨h_code, h_size, h_text_v, v2, ls, -, -, -, -, -, hf⟩ := h
    have hf : (none : Option (Int32 × Int32 × Int32 × (Nat → Int32))) = some o := hf
    cases hf
  · obtain ⟨h_code, h_size, h_text_v, v2, ls, rfl, hl, hP, hD, hS, hf⟩ := h
    have hf := (e_X5_letter_L12 h_lefts h_sort_v h_x_v h_y_v h_z_v h_left_v p0 n12 h_code h_size h_text_v v2).symm.trans hf
    refine lv_iload_n hx hb dX5_letter_12 rfl (lv_at hl 2 rfl) ?_
    refine lv_aload_n hx hb dX5_letter_13 rfl (lv_at hl 0 rfl) ?_
    refine va_get (D := (dC, dI)) (ci := 5) (v := .int h_lefts) (C := RX5) (T := TX5) (N := 15) hx hb hts iwX5 hown hK hP 0 rfl rfl 11 (by decide) (hts _ tw_346) (fun _ h9 => h9) rfl dX5_letter_14 ?_
    refine lv_icmp_ge (tgt := 82) hx hb dX5_letter_17 (by decide) (fun c13001 => ?_) (fun c13001 => ?_)
    · have hf := kp_p c13001 hf
      refine lv_iload_n hx hb dX5_letter_82 rfl (lv_at hl 1 rfl) ?_
      refine lv_if_lt (tgt := 103) hx hb dX5_letter_83 (by decide) (fun c13002 => ?_) (fun c13002 => ?_)
      · have hf := kp_p c13002 hf
        refine lv_iconst (v := (-1)) hx hb dX5_letter_103 (by decide) ?_
        have eo := Option.some.inj hf
        subst eo
        exact W.iret (v := (-1)) hx hb hr (fun t ht hW => ⟨⟨_, (), rfl, rfl, kq_mk ht hP hD⟩, hS.F ht⟩) hS.2.2 dX5_letter_104
      · have hf := kp_n c13002 hf
        refine lv_iload_n hx hb dX5_letter_86 rfl (lv_at hl 1 rfl) ?_
        refine lv_aload_n hx hb dX5_letter_87 rfl (lv_at hl 0 rfl) ?_
        refine va_get (D := (dC, dI)) (ci := 5) (v := .int h_size) (C := RX5) (T := TX5) (N := 15) hx hb hts iwX5 hown hK hP 0 rfl rfl 14 (by decide) (hts _ tw_349) (fun _ h9 => h9) rfl dX5_letter_88 ?_
        refine lv_icmp_ge (tgt := 103) hx hb dX5_letter_91 (by decide) (fun c13003 => ?_) (fun c13003 => ?_)
        · have hf := kp_p c13003 hf
          refine lv_iconst (v := (-1)) hx hb dX5_letter_103 (by decide) ?_
          have eo := Option.some.inj hf
          subst eo
          exact W.iret (v := (-1)) hx hb hr (fun t ht hW => ⟨⟨_, (), rfl, rfl, kq_mk ht hP hD⟩, hS.F ht⟩) hS.2.2 dX5_letter_104
        · have hf := kp_n c13003 hf
          refine lv_aload_n hx hb dX5_letter_94 rfl (lv_at hl 0 rfl) ?_
          refine va_get (D := (dC, dI)) (ci := 5) (v := .ref h_text) (C := RX5) (T := TX5) (N := 15) hx hb hts iwX5 hown hK hP 0 rfl rfl 13 (by decide) (hts _ tw_348) (fun _ h9 => h9) rfl dX5_letter_95 ?_
          refine lv_iload_n hx hb dX5_letter_98 rfl (lv_at hl 1 rfl) ?_
          obtain ⟨hq13004, hf⟩ := kp_t hf
          refine va_bald hx hb hK hP 6 3 rfl rfl hq13004 dX5_letter_99 ?_
          refine lv_goto (tgt := 104) hx hb dX5_letter_100 (by decide) ?_
          have eo := Option.some.inj hf
          subst eo
          exact W.iret (v := h_text_v p0.toNatClampNeg) hx hb hr (fun t ht hW => ⟨⟨_, (), rfl, rfl, kq_mk ht hP hD⟩, hS.F ht⟩) hS.2.2 dX5_letter_104
    · have hf := kp_n c13001 hf
      refine lv_aload_n hx hb dX5_letter_20 rfl (lv_at hl 0 rfl) ?_
      refine va_get (D := (dC, dI)) (ci := 5) (v := .ref h_left) (C := RX5) (T := TX5) (N := 15) hx hb hts iwX5 hown hK hP 0 rfl rfl 10 (by decide) (hts _ tw_345) (fun _ h9 => h9) rfl dX5_letter_21 ?_
      refine lv_iload_n hx hb dX5_letter_24 rfl (lv_at hl 2 rfl) ?_
      obtain ⟨hq13005, hf⟩ := kp_t hf
      refine va_iald hx hb hK hP 5 0 rfl rfl hq13005 dX5_letter_25 ?_
      refine lv_istore_n (lv' := [(3, .int (h_left_v v2.toNatClampNeg)), (0, .ref h), (1, .int p0), (2, .int v2)]) hx hb dX5_letter_26 rfl hl (by decide) rfl (fun ls hl => ?_)
      refine lv_aload_n hx hb dX5_letter_27 rfl (lv_at hl 1 rfl) ?_
      refine lv_bipush (v := 97) hx hb dX5_letter_28 (by decide) ?_
      refine lv_aload_n hx hb dX5_letter_30 rfl (lv_at hl 1 rfl) ?_
      refine va_get (D := (dC, dI)) (ci := 5) (v := .ref h_sort) (C := RX5) (T := TX5) (N := 15) hx hb hts iwX5 hown hK hP 0 rfl rfl 4 (by decide) (hts _ tw_339) (fun _ h9 => h9) rfl dX5_letter_31 ?_
      refine lv_iload_n hx hb dX5_letter_34 rfl (lv_at hl 0 rfl) ?_
      obtain ⟨hq13006, hf⟩ := kp_t hf
      refine va_iald hx hb hK hP 1 0 rfl rfl hq13006 dX5_letter_35 ?_
      refine lv_iadd hx hb dX5_letter_36 ?_
      obtain ⟨r13007, hr13007, hf⟩ := kp_b hf
      have hPc := hP.sub (ws' := [(h, .inr (5, [.int h_code, .long h_seed, .long h_state, .ref h_many, .ref h_sort, .ref h_x, .ref h_y, .ref h_z, .ref h_fault, .ref h_faultAt, .ref h_left, .int h_lefts, .ref h_stays, .ref h_text, .int h_size])), (h_text, .inl (cA 3, 1600, .inl h_text_v))]) [0, 6] rfl
      have hDc := hD.sub (ws' := [(h, .inr (5, [.int h_code, .long h_seed, .long h_state, .ref h_many, .ref h_sort, .ref h_x, .ref h_y, .ref h_z, .ref h_fault, .ref h_faultAt, .ref h_left, .int h_lefts, .ref h_stays, .ref h_text, .int h_size])), (h_text, .inl (cA 3, 1600, .inl h_text_v))]) [0, 6] (by decide) rfl
      have hFc := va_free (wc := [(h, .inr (5, [.int h_code, .long h_seed, .long h_state, .ref h_many, .ref h_sort, .ref h_x, .ref h_y, .ref h_z, .ref h_fault, .ref h_faultAt, .ref h_left, .int h_lefts, .ref h_stays, .ref h_text, .int h_size])), (h_text, .inl (cA 3, 1600, .inl h_text_v))]) hD hS hA [0, 6] rfl
      refine va_callv (va_runV (As := [.int (97 + (h_sort_v (h_left_v v2.toNatClampNeg).toNatClampNeg))]) (rest := []) ⟨hx, hb, hml, hown, hts⟩ (c_X5_type l dC dI cA tt h h_text h_many h_sort h_x h_y h_z h_fault h_faultAt h_left h_stays H.size h_code h_seed h_state h_lefts h_size h_text_v (97 + (h_sort_v (h_left_v v2.toNatClampNeg).toNatClampNeg)) r13007 hr13007) (cwV 1 hts (kq_gV tw_431 tw_433 tw_15 tw_25 tw_434) rfl rfl rfl (by decide +kernel) ⟨Nat.le_of_ble_eq_true rfl, Nat.le_of_ble_eq_true rfl⟩) ⟨kq_blind, va_recv hK hP (ci := 5) (q0 := 0) rfl rfl, kq_pre hG hZ hS hPc hDc hFc⟩ rfl rfl hl.1 rfl (lv_room (Nat.le_of_ble_eq_true rfl)) dX5_letter_37 ⟨Nat.le_of_ble_eq_true rfl, Nat.le_of_ble_eq_true rfl⟩) hS (fun q _ h => hFc q h) hFc (fun u t H1 locs ht hvm hw hB hz1 hk1 hS => ?_)
      obtain ⟨hP1, hD1⟩ := hB
      rw [ht] at hP1
      obtain ⟨hP, hD⟩ := va_join (wr := [(h_sort, .inl (cA 0, 120, .inl h_sort_v)), (h_x, .inl (cA 2, 120, .inr (.inl h_x_v))), (h_y, .inl (cA 2, 120, .inr (.inl h_y_v))), (h_z, .inl (cA 2, 120, .inr (.inl h_z_v))), (h_left, .inl (cA 0, 40, .inl h_left_v))]) (w1 := [(h, .inr (5, [.int h_code, .long h_seed, .long h_state, .ref h_many, .ref h_sort, .ref h_x, .ref h_y, .ref h_z, .ref h_fault, .ref h_faultAt, .ref h_left, .int h_lefts, .ref h_stays, .ref h_text, .int r13007.1])), (h_text, .inl (cA 3, 1600, .inl r13007.2))]) hP hD [0, 6] [1, 2, 3, 4, 5] rfl rfl (by decide) (by decide) hk1 hFc hP1 hD1
      have hP : va_P (dC, dI) vwCl [(h, .inr (5, [.int h_code, .long h_seed, .long h_state, .ref h_many, .ref h_sort, .ref h_x, .ref h_y, .ref h_z, .ref h_fault, .ref h_faultAt, .ref h_left, .int h_lefts, .ref h_stays, .ref h_text, .int r13007.1])), (h_sort, .inl (cA 0, 120, .inl h_sort_v)), (h_x, .inl (cA 2, 120, .inr (.inl h_x_v))), (h_y, .inl (cA 2, 120, .inr (.inl h_y_v))), (h_z, .inl (cA 2, 120, .inr (.inl h_z_v))), (h_left, .inl (cA 0, 40, .inl h_left_v)), (h_text, .inl (cA 3, 1600, .inl r13007.2))] H1 := hP.sub [5, 0, 1, 2, 3, 4, 6] rfl
      have hD : va_D A [(h, .inr (5, [.int h_code, .long h_seed, .long h_state, .ref h_many, .ref h_sort, .ref h_x, .ref h_y, .ref h_z, .ref h_fault, .ref h_faultAt, .ref h_left, .int h_lefts, .ref h_stays, .ref h_text, .int r13007.1])), (h_sort, .inl (cA 0, 120, .inl h_sort_v)), (h_x, .inl (cA 2, 120, .inr (.inl h_x_v))), (h_y, .inl (cA 2, 120, .inr (.inl h_y_v))), (h_z, .inl (cA 2, 120, .inr (.inl h_z_v))), (h_left, .inl (cA 0, 40, .inl h_left_v)), (h_text, .inl (cA 3, 1600, .inl r13007.2))] := hD.sub [5, 0, 1, 2, 3, 4, 6] (by decide) rfl
      generalize H1 = H at hP hS ⊢
      refine lv_aload_n hx hb dX5_letter_40 rfl (lv_at hl 1 rfl) ?_
      refine lv_aload_n hx hb dX5_letter_41 rfl (lv_at hl 1 rfl) ?_
      refine va_get (D := (dC, dI)) (ci := 5) (v := .ref h_x) (C := RX5) (T := TX5) (N := 15) hx hb hts iwX5 hown hK hP 0 rfl rfl 5 (by decide) (hts _ tw_340) (fun _ h9 => h9) rfl dX5_letter_42 ?_
      refine lv_iload_n hx hb dX5_letter_45 rfl (lv_at hl 0 rfl) ?_
      refine va_lald hx hb hK hP 2 2 rfl rfl hq13006 dX5_letter_46 ?_
      obtain ⟨r13009, hr13009, hf⟩ := kp_b hf
      have hPc := hP.sub (ws' := [(h, .inr (5, [.int h_code, .long h_seed, .long h_state, .ref h_many, .ref h_sort, .ref h_x, .ref h_y, .ref h_z, .ref h_fault, .ref h_faultAt, .ref h_left, .int h_lefts, .ref h_stays, .ref h_text, .int r13007.1])), (h_text, .inl (cA 3, 1600, .inl r13007.2))]) [0, 6] rfl
      have hDc := hD.sub (ws' := [(h, .inr (5, [.int h_code, .long h_seed, .long h_state, .ref h_many, .ref h_sort, .ref h_x, .ref h_y, .ref h_z, .ref h_fault, .ref h_faultAt, .ref h_left, .int h_lefts, .ref h_stays, .ref h_text, .int r13007.1])), (h_text, .inl (cA 3, 1600, .inl r13007.2))]) [0, 6] (by decide) rfl
      have hFc := va_free (wc := [(h, .inr (5, [.int h_code, .long h_seed, .long h_state, .ref h_many, .ref h_sort, .ref h_x, .ref h_y, .ref h_z, .ref h_fault, .ref h_faultAt, .ref h_left, .int h_lefts, .ref h_stays, .ref h_text, .int r13007.1])), (h_text, .inl (cA 3, 1600, .inl r13007.2))]) hD hS hA [0, 6] rfl
      refine va_callv (va_runV (As := [.long (h_x_v (h_left_v v2.toNatClampNeg).toNatClampNeg)]) (rest := []) ⟨hx, hb, hml, hown, hts⟩ (c_X5_typeNumber l dC dI cA tt h h_text h_many h_sort h_x h_y h_z h_fault h_faultAt h_left h_stays H.size h_code h_seed h_state h_lefts r13007.1 r13007.2 (h_x_v (h_left_v v2.toNatClampNeg).toNatClampNeg) r13009 hr13009) (cwV 1 hts (kq_gV tw_435 tw_437 tw_16 tw_25 tw_438) rfl rfl rfl (by decide +kernel) ⟨Nat.le_of_ble_eq_true rfl, Nat.le_of_ble_eq_true rfl⟩) ⟨kq_blind, va_recv hK hP (ci := 5) (q0 := 0) rfl rfl, kq_pre hG hZ hS hPc hDc hFc⟩ rfl rfl hl.1 rfl (lv_room (Nat.le_of_ble_eq_true rfl)) dX5_letter_47 ⟨Nat.le_of_ble_eq_true rfl, Nat.le_of_ble_eq_true rfl⟩) hS (fun q _ h => hFc q h) hFc (fun u t H1 locs ht hvm hw hB hz1 hk1 hS => ?_)
      obtain ⟨hP1, hD1⟩ := hB
      rw [ht] at hP1
      obtain ⟨hP, hD⟩ := va_join (wr := [(h_sort, .inl (cA 0, 120, .inl h_sort_v)), (h_x, .inl (cA 2, 120, .inr (.inl h_x_v))), (h_y, .inl (cA 2, 120, .inr (.inl h_y_v))), (h_z, .inl (cA 2, 120, .inr (.inl h_z_v))), (h_left, .inl (cA 0, 40, .inl h_left_v))]) (w1 := [(h, .inr (5, [.int h_code, .long h_seed, .long h_state, .ref h_many, .ref h_sort, .ref h_x, .ref h_y, .ref h_z, .ref h_fault, .ref h_faultAt, .ref h_left, .int h_lefts, .ref h_stays, .ref h_text, .int r13009.1])), (h_text, .inl (cA 3, 1600, .inl r13009.2))]) hP hD [0, 6] [1, 2, 3, 4, 5] rfl rfl (by decide) (by decide) hk1 hFc hP1 hD1
      have hP : va_P (dC, dI) vwCl [(h, .inr (5, [.int h_code, .long h_seed, .long h_state, .ref h_many, .ref h_sort, .ref h_x, .ref h_y, .ref h_z, .ref h_fault, .ref h_faultAt, .ref h_left, .int h_lefts, .ref h_stays, .ref h_text, .int r13009.1])), (h_sort, .inl (cA 0, 120, .inl h_sort_v)), (h_x, .inl (cA 2, 120, .inr (.inl h_x_v))), (h_y, .inl (cA 2, 120, .inr (.inl h_y_v))), (h_z, .inl (cA 2, 120, .inr (.inl h_z_v))), (h_left, .inl (cA 0, 40, .inl h_left_v)), (h_text, .inl (cA 3, 1600, .inl r13009.2))] H1 := hP.sub [5, 0, 1, 2, 3, 4, 6] rfl
      have hD : va_D A [(h, .inr (5, [.int h_code, .long h_seed, .long h_state, .ref h_many, .ref h_sort, .ref h_x, .ref h_y, .ref h_z, .ref h_fault, .ref h_faultAt, .ref h_left, .int h_lefts, .ref h_stays, .ref h_text, .int r13009.1])), (h_sort, .inl (cA 0, 120, .inl h_sort_v)), (h_x, .inl (cA 2, 120, .inr (.inl h_x_v))), (h_y, .inl (cA 2, 120, .inr (.inl h_y_v))), (h_z, .inl (cA 2, 120, .inr (.inl h_z_v))), (h_left, .inl (cA 0, 40, .inl h_left_v)), (h_text, .inl (cA 3, 1600, .inl r13009.2))] := hD.sub [5, 0, 1, 2, 3, 4, 6] (by decide) rfl
      generalize H1 = H at hP hS ⊢
      refine lv_aload_n hx hb dX5_letter_50 rfl (lv_at hl 1 rfl) ?_
      refine lv_aload_n hx hb dX5_letter_51 rfl (lv_at hl 1 rfl) ?_
      refine va_get (D := (dC, dI)) (ci := 5) (v := .ref h_y) (C := RX5) (T := TX5) (N := 15) hx hb hts iwX5 hown hK hP 0 rfl rfl 6 (by decide) (hts _ tw_341) (fun _ h9 => h9) rfl dX5_letter_52 ?_
      refine lv_iload_n hx hb dX5_letter_55 rfl (lv_at hl 0 rfl) ?_
      refine va_lald hx hb hK hP 3 2 rfl rfl hq13006 dX5_letter_56 ?_
      obtain ⟨r13011, hr13011, hf⟩ := kp_b hf
      have hPc := hP.sub (ws' := [(h, .inr (5, [.int h_code, .long h_seed, .long h_state, .ref h_many, .ref h_sort, .ref h_x, .ref h_y, .ref h_z, .ref h_fault, .ref h_faultAt, .ref h_left, .int h_lefts, .ref h_stays, .ref h_text, .int r13009.1])), (h_text, .inl (cA 3, 1600, .inl r13009.2))]) [0, 6] rfl
      have hDc := hD.sub (ws' := [(h, .inr (5, [.int h_code, .long h_seed, .long h_state, .ref h_many, .ref h_sort, .ref h_x, .ref h_y, .ref h_z, .ref h_fault, .ref h_faultAt, .ref h_left, .int h_lefts, .ref h_stays, .ref h_text, .int r13009.1])), (h_text, .inl (cA 3, 1600, .inl r13009.2))]) [0, 6] (by decide) rfl
      have hFc := va_free (wc := [(h, .inr (5, [.int h_code, .long h_seed, .long h_state, .ref h_many, .ref h_sort, .ref h_x, .ref h_y, .ref h_z, .ref h_fault, .ref h_faultAt, .ref h_left, .int h_lefts, .ref h_stays, .ref h_text, .int r13009.1])), (h_text, .inl (cA 3, 1600, .inl r13009.2))]) hD hS hA [0, 6] rfl
      refine va_callv (va_runV (As := [.long (h_y_v (h_left_v v2.toNatClampNeg).toNatClampNeg)]) (rest := []) ⟨hx, hb, hml, hown, hts⟩ (c_X5_typeNumber l dC dI cA tt h h_text h_many h_sort h_x h_y h_z h_fault h_faultAt h_left h_stays H.size h_code h_seed h_state h_lefts r13009.1 r13009.2 (h_y_v (h_left_v v2.toNatClampNeg).toNatClampNeg) r13011 hr13011) (cwV 1 hts (kq_gV tw_435 tw_437 tw_16 tw_25 tw_438) rfl rfl rfl (by decide +kernel) ⟨Nat.le_of_ble_eq_true rfl, Nat.le_of_ble_eq_true rfl⟩) ⟨kq_blind, va_recv hK hP (ci := 5) (q0 := 0) rfl rfl, kq_pre hG hZ hS hPc hDc hFc⟩ rfl rfl hl.1 rfl (lv_room (Nat.le_of_ble_eq_true rfl)) dX5_letter_57 ⟨Nat.le_of_ble_eq_true rfl, Nat.le_of_ble_eq_true rfl⟩) hS (fun q _ h => hFc q h) hFc (fun u t H1 locs ht hvm hw hB hz1 hk1 hS => ?_)
      obtain ⟨hP1, hD1⟩ := hB
      rw [ht] at hP1
      obtain ⟨hP, hD⟩ := va_join (wr := [(h_sort, .inl (cA 0, 120, .inl h_sort_v)), (h_x, .inl (cA 2, 120, .inr (.inl h_x_v))), (h_y, .inl (cA 2, 120, .inr (.inl h_y_v))), (h_z, .inl (cA 2, 120, .inr (.inl h_z_v))), (h_left, .inl (cA 0, 40, .inl h_left_v))]) (w1 := [(h, .inr (5, [.int h_code, .long h_seed, .long h_state, .ref h_many, .ref h_sort, .ref h_x, .ref h_y, .ref h_z, .ref h_fault, .ref h_faultAt, .ref h_left, .int h_lefts, .ref h_stays, .ref h_text, .int r13011.1])), (h_text, .inl (cA 3, 1600, .inl r13011.2))]) hP hD [0, 6] [1, 2, 3, 4, 5] rfl rfl (by decide) (by decide) hk1 hFc hP1 hD1
      have hP : va_P (dC, dI) vwCl [(h, .inr (5, [.int h_code, .long h_seed, .long h_state, .ref h_many, .ref h_sort, .ref h_x, .ref h_y, .ref h_z, .ref h_fault, .ref h_faultAt, .ref h_left, .int h_lefts, .ref h_stays, .ref h_text, .int r13011.1])), (h_sort, .inl (cA 0, 120, .inl h_sort_v)), (h_x, .inl (cA 2, 120, .inr (.inl h_x_v))), (h_y, .inl (cA 2, 120, .inr (.inl h_y_v))), (h_z, .inl (cA 2, 120, .inr (.inl h_z_v))), (h_left, .inl (cA 0, 40, .inl h_left_v)), (h_text, .inl (cA 3, 1600, .inl r13011.2))] H1 := hP.sub [5, 0, 1, 2, 3, 4, 6] rfl
      have hD : va_D A [(h, .inr (5, [.int h_code, .long h_seed, .long h_state, .ref h_many, .ref h_sort, .ref h_x, .ref h_y, .ref h_z, .ref h_fault, .ref h_faultAt, .ref h_left, .int h_lefts, .ref h_stays, .ref h_text, .int r13011.1])), (h_sort, .inl (cA 0, 120, .inl h_sort_v)), (h_x, .inl (cA 2, 120, .inr (.inl h_x_v))), (h_y, .inl (cA 2, 120, .inr (.inl h_y_v))), (h_z, .inl (cA 2, 120, .inr (.inl h_z_v))), (h_left, .inl (cA 0, 40, .inl h_left_v)), (h_text, .inl (cA 3, 1600, .inl r13011.2))] := hD.sub [5, 0, 1, 2, 3, 4, 6] (by decide) rfl
      generalize H1 = H at hP hS ⊢
      refine lv_aload_n hx hb dX5_letter_60 rfl (lv_at hl 1 rfl) ?_
      refine lv_aload_n hx hb dX5_letter_61 rfl (lv_at hl 1 rfl) ?_
      refine va_get (D := (dC, dI)) (ci := 5) (v := .ref h_z) (C := RX5) (T := TX5) (N := 15) hx hb hts iwX5 hown hK hP 0 rfl rfl 7 (by decide) (hts _ tw_342) (fun _ h9 => h9) rfl dX5_letter_62 ?_
      refine lv_iload_n hx hb dX5_letter_65 rfl (lv_at hl 0 rfl) ?_
      refine va_lald hx hb hK hP 4 2 rfl rfl hq13006 dX5_letter_66 ?_
      obtain ⟨r13013, hr13013, hf⟩ := kp_b hf
      have hPc := hP.sub (ws' := [(h, .inr (5, [.int h_code, .long h_seed, .long h_state, .ref h_many, .ref h_sort, .ref h_x, .ref h_y, .ref h_z, .ref h_fault, .ref h_faultAt, .ref h_left, .int h_lefts, .ref h_stays, .ref h_text, .int r13011.1])), (h_text, .inl (cA 3, 1600, .inl r13011.2))]) [0, 6] rfl
      have hDc := hD.sub (ws' := [(h, .inr (5, [.int h_code, .long h_seed, .long h_state, .ref h_many, .ref h_sort, .ref h_x, .ref h_y, .ref h_z, .ref h_fault, .ref h_faultAt, .ref h_left, .int h_lefts, .ref h_stays, .ref h_text, .int r13011.1])), (h_text, .inl (cA 3, 1600, .inl r13011.2))]) [0, 6] (by decide) rfl
      have hFc := va_free (wc := [(h, .inr (5, [.int h_code, .long h_seed, .long h_state, .ref h_many, .ref h_sort, .ref h_x, .ref h_y, .ref h_z, .ref h_fault, .ref h_faultAt, .ref h_left, .int h_lefts, .ref h_stays, .ref h_text, .int r13011.1])), (h_text, .inl (cA 3, 1600, .inl r13011.2))]) hD hS hA [0, 6] rfl
      refine va_callv (va_runV (As := [.long (h_z_v (h_left_v v2.toNatClampNeg).toNatClampNeg)]) (rest := []) ⟨hx, hb, hml, hown, hts⟩ (c_X5_typeNumber l dC dI cA tt h h_text h_many h_sort h_x h_y h_z h_fault h_faultAt h_left h_stays H.size h_code h_seed h_state h_lefts r13011.1 r13011.2 (h_z_v (h_left_v v2.toNatClampNeg).toNatClampNeg) r13013 hr13013) (cwV 1 hts (kq_gV tw_435 tw_437 tw_16 tw_25 tw_438) rfl rfl rfl (by decide +kernel) ⟨Nat.le_of_ble_eq_true rfl, Nat.le_of_ble_eq_true rfl⟩) ⟨kq_blind, va_recv hK hP (ci := 5) (q0 := 0) rfl rfl, kq_pre hG hZ hS hPc hDc hFc⟩ rfl rfl hl.1 rfl (lv_room (Nat.le_of_ble_eq_true rfl)) dX5_letter_67 ⟨Nat.le_of_ble_eq_true rfl, Nat.le_of_ble_eq_true rfl⟩) hS (fun q _ h => hFc q h) hFc (fun u t H1 locs ht hvm hw hB hz1 hk1 hS => ?_)
      obtain ⟨hP1, hD1⟩ := hB
      rw [ht] at hP1
      obtain ⟨hP, hD⟩ := va_join (wr := [(h_sort, .inl (cA 0, 120, .inl h_sort_v)), (h_x, .inl (cA 2, 120, .inr (.inl h_x_v))), (h_y, .inl (cA 2, 120, .inr (.inl h_y_v))), (h_z, .inl (cA 2, 120, .inr (.inl h_z_v))), (h_left, .inl (cA 0, 40, .inl h_left_v))]) (w1 := [(h, .inr (5, [.int h_code, .long h_seed, .long h_state, .ref h_many, .ref h_sort, .ref h_x, .ref h_y, .ref h_z, .ref h_fault, .ref h_faultAt, .ref h_left, .int h_lefts, .ref h_stays, .ref h_text, .int r13013.1])), (h_text, .inl (cA 3, 1600, .inl r13013.2))]) hP hD [0, 6] [1, 2, 3, 4, 5] rfl rfl (by decide) (by decide) hk1 hFc hP1 hD1
      have hP : va_P (dC, dI) vwCl [(h, .inr (5, [.int h_code, .long h_seed, .long h_state, .ref h_many, .ref h_sort, .ref h_x, .ref h_y, .ref h_z, .ref h_fault, .ref h_faultAt, .ref h_left, .int h_lefts, .ref h_stays, .ref h_text, .int r13013.1])), (h_sort, .inl (cA 0, 120, .inl h_sort_v)), (h_x, .inl (cA 2, 120, .inr (.inl h_x_v))), (h_y, .inl (cA 2, 120, .inr (.inl h_y_v))), (h_z, .inl (cA 2, 120, .inr (.inl h_z_v))), (h_left, .inl (cA 0, 40, .inl h_left_v)), (h_text, .inl (cA 3, 1600, .inl r13013.2))] H1 := hP.sub [5, 0, 1, 2, 3, 4, 6] rfl
      have hD : va_D A [(h, .inr (5, [.int h_code, .long h_seed, .long h_state, .ref h_many, .ref h_sort, .ref h_x, .ref h_y, .ref h_z, .ref h_fault, .ref h_faultAt, .ref h_left, .int h_lefts, .ref h_stays, .ref h_text, .int r13013.1])), (h_sort, .inl (cA 0, 120, .inl h_sort_v)), (h_x, .inl (cA 2, 120, .inr (.inl h_x_v))), (h_y, .inl (cA 2, 120, .inr (.inl h_y_v))), (h_z, .inl (cA 2, 120, .inr (.inl h_z_v))), (h_left, .inl (cA 0, 40, .inl h_left_v)), (h_text, .inl (cA 3, 1600, .inl r13013.2))] := hD.sub [5, 0, 1, 2, 3, 4, 6] (by decide) rfl
      generalize H1 = H at hP hS ⊢
      refine lv_aload_n hx hb dX5_letter_70 rfl (lv_at hl 1 rfl) ?_
      refine lv_bipush (v := 10) hx hb dX5_letter_71 (by decide) ?_
      obtain ⟨r13014, hr13014, hf⟩ := kp_b hf
      have hPc := hP.sub (ws' := [(h, .inr (5, [.int h_code, .long h_seed, .long h_state, .ref h_many, .ref h_sort, .ref h_x, .ref h_y, .ref h_z, .ref h_fault, .ref h_faultAt, .ref h_left, .int h_lefts, .ref h_stays, .ref h_text, .int r13013.1])), (h_text, .inl (cA 3, 1600, .inl r13013.2))]) [0, 6] rfl
      have hDc := hD.sub (ws' := [(h, .inr (5, [.int h_code, .long h_seed, .long h_state, .ref h_many, .ref h_sort, .ref h_x, .ref h_y, .ref h_z, .ref h_fault, .ref h_faultAt, .ref h_left, .int h_lefts, .ref h_stays, .ref h_text, .int r13013.1])), (h_text, .inl (cA 3, 1600, .inl r13013.2))]) [0, 6] (by decide) rfl
      have hFc := va_free (wc := [(h, .inr (5, [.int h_code, .long h_seed, .long h_state, .ref h_many, .ref h_sort, .ref h_x, .ref h_y, .ref h_z, .ref h_fault, .ref h_faultAt, .ref h_left, .int h_lefts, .ref h_stays, .ref h_text, .int r13013.1])), (h_text, .inl (cA 3, 1600, .inl r13013.2))]) hD hS hA [0, 6] rfl
      refine va_callv (va_runV (As := [.int 10]) (rest := []) ⟨hx, hb, hml, hown, hts⟩ (c_X5_type l dC dI cA tt h h_text h_many h_sort h_x h_y h_z h_fault h_faultAt h_left h_stays H.size h_code h_seed h_state h_lefts r13013.1 r13013.2 10 r13014 hr13014) (cwV 1 hts (kq_gV tw_431 tw_433 tw_15 tw_25 tw_434) rfl rfl rfl (by decide +kernel) ⟨Nat.le_of_ble_eq_true rfl, Nat.le_of_ble_eq_true rfl⟩) ⟨kq_blind, va_recv hK hP (ci := 5) (q0 := 0) rfl rfl, kq_pre hG hZ hS hPc hDc hFc⟩ rfl rfl hl.1 rfl (lv_room (Nat.le_of_ble_eq_true rfl)) dX5_letter_73 ⟨Nat.le_of_ble_eq_true rfl, Nat.le_of_ble_eq_true rfl⟩) hS (fun q _ h => hFc q h) hFc (fun u t H1 locs ht hvm hw hB hz1 hk1 hS => ?_)
      obtain ⟨hP1, hD1⟩ := hB
      rw [ht] at hP1
      obtain ⟨hP, hD⟩ := va_join (wr := [(h_sort, .inl (cA 0, 120, .inl h_sort_v)), (h_x, .inl (cA 2, 120, .inr (.inl h_x_v))), (h_y, .inl (cA 2, 120, .inr (.inl h_y_v))), (h_z, .inl (cA 2, 120, .inr (.inl h_z_v))), (h_left, .inl (cA 0, 40, .inl h_left_v))]) (w1 := [(h, .inr (5, [.int h_code, .long h_seed, .long h_state, .ref h_many, .ref h_sort, .ref h_x, .ref h_y, .ref h_z, .ref h_fault, .ref h_faultAt, .ref h_left, .int h_lefts, .ref h_stays, .ref h_text, .int r13014.1])), (h_text, .inl (cA 3, 1600, .inl r13014.2))]) hP hD [0, 6] [1, 2, 3, 4, 5] rfl rfl (by decide) (by decide) hk1 hFc hP1 hD1
      have hP : va_P (dC, dI) vwCl [(h, .inr (5, [.int h_code, .long h_seed, .long h_state, .ref h_many, .ref h_sort, .ref h_x, .ref h_y, .ref h_z, .ref h_fault, .ref h_faultAt, .ref h_left, .int h_lefts, .ref h_stays, .ref h_text, .int r13014.1])), (h_sort, .inl (cA 0, 120, .inl h_sort_v)), (h_x, .inl (cA 2, 120, .inr (.inl h_x_v))), (h_y, .inl (cA 2, 120, .inr (.inl h_y_v))), (h_z, .inl (cA 2, 120, .inr (.inl h_z_v))), (h_left, .inl (cA 0, 40, .inl h_left_v)), (h_text, .inl (cA 3, 1600, .inl r13014.2))] H1 := hP.sub [5, 0, 1, 2, 3, 4, 6] rfl
      have hD : va_D A [(h, .inr (5, [.int h_code, .long h_seed, .long h_state, .ref h_many, .ref h_sort, .ref h_x, .ref h_y, .ref h_z, .ref h_fault, .ref h_faultAt, .ref h_left, .int h_lefts, .ref h_stays, .ref h_text, .int r13014.1])), (h_sort, .inl (cA 0, 120, .inl h_sort_v)), (h_x, .inl (cA 2, 120, .inr (.inl h_x_v))), (h_y, .inl (cA 2, 120, .inr (.inl h_y_v))), (h_z, .inl (cA 2, 120, .inr (.inl h_z_v))), (h_left, .inl (cA 0, 40, .inl h_left_v)), (h_text, .inl (cA 3, 1600, .inl r13014.2))] := hD.sub [5, 0, 1, 2, 3, 4, 6] (by decide) rfl
      generalize H1 = H at hP hS ⊢
      refine lv_iinc (v := v2 + 1) (lv' := [(2, .int (v2 + 1)), (3, .int (h_left_v v2.toNatClampNeg)), (0, .ref h), (1, .int p0)]) hx hb dX5_letter_76 hl (k := 3) rfl rfl (by decide) rfl (fun ls hl => ?_)
      refine lv_goto (tgt := 12) hx hb dX5_letter_79 (by decide) ?_
      exact ih12 _ _ _ ⟨h_code, r13014.1, r13014.2, v2 + 1, ls, rfl, lv_sub hl [2, 3, 0] rfl, hP, hD, hS, hf⟩

def f_X5_signature_L8 (h_lefts : Int32) (h_sort_v : Nat → Int32) (h_z_v : Nat → Int64) (h_faultAt_v : Nat → Int32) (h_left_v : Nat → Int32) (p0 : Int32) (p1 : Int32) : Nat → Int32 → Int64 → Int32 → Option (Int32)
  | 0, _, _, _ => none
  | n8 + 1, v3, v4, v6 =>
    (if h_lefts ≤ v6 then
    (if (lg_cmp (v4 - v4 / 2 * 2) 0) = 0 then
    some (v3 + 0)
    else
    some (v3 + 32))
    else
    (if v6 < p0 then
    if v6 < 0 ∨ 40 ≤ v6.toNatClampNeg then none else
    if (h_left_v v6.toNatClampNeg) < 0 ∨ 120 ≤ (h_left_v v6.toNatClampNeg).toNatClampNeg then none else
    (if (h_left_v v6.toNatClampNeg) = (h_faultAt_v (0 : Int32).toNatClampNeg) then
    f_X5_signature_L8 h_lefts h_sort_v h_z_v h_faultAt_v h_left_v p0 p1 n8 ((v3 ||| (1 <<< (((h_sort_v (h_left_v v6.toNatClampNeg).toNatClampNeg) - (h_sort_v (h_left_v v6.toNatClampNeg).toNatClampNeg) / 4 * 4) &&& 31))) ||| 16) (v4 + (h_z_v (h_left_v v6.toNatClampNeg).toNatClampNeg)) (v6 + 1)
    else
    f_X5_signature_L8 h_lefts h_sort_v h_z_v h_faultAt_v h_left_v p0 p1 n8 ((v3 ||| (1 <<< (((h_sort_v (h_left_v v6.toNatClampNeg).toNatClampNeg) - (h_sort_v (h_left_v v6.toNatClampNeg).toNatClampNeg) / 4 * 4) &&& 31))) ||| 0) (v4 + (h_z_v (h_left_v v6.toNatClampNeg).toNatClampNeg)) (v6 + 1))
    else
    (if v6 < (p0 + p1) then
    f_X5_signature_L8 h_lefts h_sort_v h_z_v h_faultAt_v h_left_v p0 p1 n8 v3 v4 (v6 + 1)
    else
    if v6 < 0 ∨ 40 ≤ v6.toNatClampNeg then none else
    if (h_left_v v6.toNatClampNeg) < 0 ∨ 120 ≤ (h_left_v v6.toNatClampNeg).toNatClampNeg then none else
    (if (h_left_v v6.toNatClampNeg) = (h_faultAt_v (0 : Int32).toNatClampNeg) then
    f_X5_signature_L8 h_lefts h_sort_v h_z_v h_faultAt_v h_left_v p0 p1 n8 ((v3 ||| (1 <<< (((h_sort_v (h_left_v v6.toNatClampNeg).toNatClampNeg) - (h_sort_v (h_left_v v6.toNatClampNeg).toNatClampNeg) / 4 * 4) &&& 31))) ||| 16) (v4 + (h_z_v (h_left_v v6.toNatClampNeg).toNatClampNeg)) (v6 + 1)
    else
    f_X5_signature_L8 h_lefts h_sort_v h_z_v h_faultAt_v h_left_v p0 p1 n8 ((v3 ||| (1 <<< (((h_sort_v (h_left_v v6.toNatClampNeg).toNatClampNeg) - (h_sort_v (h_left_v v6.toNatClampNeg).toNatClampNeg) / 4 * 4) &&& 31))) ||| 0) (v4 + (h_z_v (h_left_v v6.toNatClampNeg).toNatClampNeg)) (v6 + 1)))))
theorem e_X5_signature_L8 (h_lefts : Int32) (h_sort_v : Nat → Int32) (h_z_v : Nat → Int64) (h_faultAt_v : Nat → Int32) (h_left_v : Nat → Int32) (p0 : Int32) (p1 : Int32) (n8 : Nat) (v3 : Int32) (v4 : Int64) (v6 : Int32) : f_X5_signature_L8 h_lefts h_sort_v h_z_v h_faultAt_v h_left_v p0 p1 (n8 + 1) v3 v4 v6 =
    ((if h_lefts ≤ v6 then
    (if (lg_cmp (v4 - v4 / 2 * 2) 0) = 0 then
    some (v3 + 0)
    else
    some (v3 + 32))
    else
    (if v6 < p0 then
    if v6 < 0 ∨ 40 ≤ v6.toNatClampNeg then none else
    if (h_left_v v6.toNatClampNeg) < 0 ∨ 120 ≤ (h_left_v v6.toNatClampNeg).toNatClampNeg then none else
    (if (h_left_v v6.toNatClampNeg) = (h_faultAt_v (0 : Int32).toNatClampNeg) then
    f_X5_signature_L8 h_lefts h_sort_v h_z_v h_faultAt_v h_left_v p0 p1 n8 ((v3 ||| (1 <<< (((h_sort_v (h_left_v v6.toNatClampNeg).toNatClampNeg) - (h_sort_v (h_left_v v6.toNatClampNeg).toNatClampNeg) / 4 * 4) &&& 31))) ||| 16) (v4 + (h_z_v (h_left_v v6.toNatClampNeg).toNatClampNeg)) (v6 + 1)
    else
    f_X5_signature_L8 h_lefts h_sort_v h_z_v h_faultAt_v h_left_v p0 p1 n8 ((v3 ||| (1 <<< (((h_sort_v (h_left_v v6.toNatClampNeg).toNatClampNeg) - (h_sort_v (h_left_v v6.toNatClampNeg).toNatClampNeg) / 4 * 4) &&& 31))) ||| 0) (v4 + (h_z_v (h_left_v v6.toNatClampNeg).toNatClampNeg)) (v6 + 1))
    else
    (if v6 < (p0 + p1) then
    f_X5_signature_L8 h_lefts h_sort_v h_z_v h_faultAt_v h_left_v p0 p1 n8 v3 v4 (v6 + 1)
    else
    if v6 < 0 ∨ 40 ≤ v6.toNatClampNeg then none else
    if (h_left_v v6.toNatClampNeg) < 0 ∨ 120 ≤ (h_left_v v6.toNatClampNeg).toNatClampNeg then none else
    (if (h_left_v v6.toNatClampNeg) = (h_faultAt_v (0 : Int32).toNatClampNeg) then
    f_X5_signature_L8 h_lefts h_sort_v h_z_v h_faultAt_v h_left_v p0 p1 n8 ((v3 ||| (1 <<< (((h_sort_v (h_left_v v6.toNatClampNeg).toNatClampNeg) - (h_sort_v (h_left_v v6.toNatClampNeg).toNatClampNeg) / 4 * 4) &&& 31))) ||| 16) (v4 + (h_z_v (h_left_v v6.toNatClampNeg).toNatClampNeg)) (v6 + 1)
    else
    f_X5_signature_L8 h_lefts h_sort_v h_z_v h_faultAt_v h_left_v p0 p1 n8 ((v3 ||| (1 <<< (((h_sort_v (h_left_v v6.toNatClampNeg).toNatClampNeg) - (h_sort_v (h_left_v v6.toNatClampNeg).toNatClampNeg) / 4 * 4) &&& 31))) ||| 0) (v4 + (h_z_v (h_left_v v6.toNatClampNeg).toNatClampNeg)) (v6 + 1)))))) := rfl
def f_X5_signature (h_lefts : Int32) (h_sort_v : Nat → Int32) (h_z_v : Nat → Int64) (h_faultAt_v : Nat → Int32) (h_left_v : Nat → Int32) (p0 : Int32) (p1 : Int32) : Option (Int32) :=
    f_X5_signature_L8 h_lefts h_sort_v h_z_v h_faultAt_v h_left_v p0 p1 64 0 0 0
set_option maxHeartbeats 4000000 in
set_option maxRecDepth 100000 in
theorem c_X5_signature (l : Launch) (dC : Nat → ClassId) (dI : Nat → Nat → Nat) (cA : Nat → ClassId) (tt : Nat → Nat) (h h_sort h_z h_faultAt h_left h_many h_x h_y h_fault h_stays h_text : Nat) (sz : Nat) (h_code : Int32) (h_seed : Int64) (h_state : Int64) (h_lefts : Int32) (h_size : Int32) (h_sort_v : Nat → Int32) (h_z_v : Nat → Int64) (h_faultAt_v : Nat → Int32) (h_left_v : Nat → Int32) (p0 : Int32) (p1 : Int32) (o : Int32) (hf : f_X5_signature h_lefts h_sort_v h_z_v h_faultAt_v h_left_v p0 p1 = some o) : Met l yX5_signature wX5_signature ({ frames := 0, cells := 0, slots := 0, locals := 0 }) (kq_Pc dC dI cA tt [.ref h, .int p0, .int p1] [(h, .inr (5, [.int h_code, .long h_seed, .long h_state, .ref h_many, .ref h_sort, .ref h_x, .ref h_y, .ref h_z, .ref h_fault, .ref h_faultAt, .ref h_left, .int h_lefts, .ref h_stays, .ref h_text, .int h_size])), (h_sort, .inl (cA 0, 120, .inl h_sort_v)), (h_z, .inl (cA 2, 120, .inr (.inl h_z_v))), (h_faultAt, .inl (cA 0, 3, .inl h_faultAt_v)), (h_left, .inl (cA 0, 40, .inl h_left_v))] sz) (va_Qi (fun r (_ : Unit) => r = o) (fun _ t => kq_B dC dI [(h, .inr (5, [.int h_code, .long h_seed, .long h_state, .ref h_many, .ref h_sort, .ref h_x, .ref h_y, .ref h_z, .ref h_fault, .ref h_faultAt, .ref h_left, .int h_lefts, .ref h_stays, .ref h_text, .int h_size])), (h_sort, .inl (cA 0, 120, .inl h_sort_v)), (h_z, .inl (cA 2, 120, .inr (.inl h_z_v))), (h_faultAt, .inl (cA 0, 3, .inl h_faultAt_v)), (h_left, .inl (cA 0, 40, .inl h_left_v))] (va_A [(h, .inr (5, [.int h_code, .long h_seed, .long h_state, .ref h_many, .ref h_sort, .ref h_x, .ref h_y, .ref h_z, .ref h_fault, .ref h_faultAt, .ref h_left, .int h_lefts, .ref h_stays, .ref h_text, .int h_size])), (h_sort, .inl (cA 0, 120, .inl h_sort_v)), (h_z, .inl (cA 2, 120, .inr (.inl h_z_v))), (h_faultAt, .inl (cA 0, 3, .inl h_faultAt_v)), (h_left, .inl (cA 0, 40, .inl h_left_v))] sz) t) (va_A [(h, .inr (5, [.int h_code, .long h_seed, .long h_state, .ref h_many, .ref h_sort, .ref h_x, .ref h_y, .ref h_z, .ref h_fault, .ref h_faultAt, .ref h_left, .int h_lefts, .ref h_stays, .ref h_text, .int h_size])), (h_sort, .inl (cA 0, 120, .inl h_sort_v)), (h_z, .inl (cA 2, 120, .inr (.inl h_z_v))), (h_faultAt, .inl (cA 0, 3, .inl h_faultAt_v)), (h_left, .inl (cA 0, 40, .inl h_left_v))] sz)) 0 0 (va_A [(h, .inr (5, [.int h_code, .long h_seed, .long h_state, .ref h_many, .ref h_sort, .ref h_x, .ref h_y, .ref h_z, .ref h_fault, .ref h_faultAt, .ref h_left, .int h_lefts, .ref h_stays, .ref h_text, .int h_size])), (h_sort, .inl (cA 0, 120, .inl h_sort_v)), (h_z, .inl (cA 2, 120, .inr (.inl h_z_v))), (h_faultAt, .inl (cA 0, 3, .inl h_faultAt_v)), (h_left, .inl (cA 0, 40, .inl h_left_v))] sz) := by
  refine Met.ofW (cc := cX5_signature) (maxL := 8) (ret := (some .int)) (by decide) rfl ?_
  intro p e s m args below meth c s₁ B hml hv
  obtain ⟨rfl, hsz, hP, hD0, hG, hZ⟩ := hv
  have hx := B.exec
  have hb := B.bytes
  have hr := B.returns
  have hts : ∀ w ∈ kq_T, w.before _ s = true := fun w h => atoms_spec (ws := wX5_signature) B.pre w (List.mem_cons_of_mem _ h)
  have hown : s.vm.findClass RX5 = some m.cls := findClass_of_methodNamed B.named
  have hlocks := B.notSynchronized
  have hK := hG.1
  subst hsz
  have hD := hD0.self (sz := s.heap.size)
  generalize hAe : va_A [(h, .inr (5, [.int h_code, .long h_seed, .long h_state, .ref h_many, .ref h_sort, .ref h_x, .ref h_y, .ref h_z, .ref h_fault, .ref h_faultAt, .ref h_left, .int h_lefts, .ref h_stays, .ref h_text, .int h_size])), (h_sort, .inl (cA 0, 120, .inl h_sort_v)), (h_z, .inl (cA 2, 120, .inr (.inl h_z_v))), (h_faultAt, .inl (cA 0, 3, .inl h_faultAt_v)), (h_left, .inl (cA 0, 40, .inl h_left_v))] s.heap.size = A at hD hZ ⊢
  have hA : ∀ q : Nat, s.heap.size ≤ q → A q := fun q h => by rw [← hAe]; exact Or.inr h
  have hl := lv_entry [.ref h, .int p0, .int p1] (n := 8) (Nat.le_of_ble_eq_true rfl)
  rw [lg_entry_eq]
  generalize (lg_sl [.ref h, .int p0, .int p1] ++ List.replicate (8 - (lg_sl [.ref h, .int p0, .int p1]).length) Slot.unset).toArray = ls at hl ⊢
  have hl : lv_has ls 8 [(0, .ref h), (1, .int p0), (2, .int p1)] := hl
  obtain ⟨H, hHe⟩ : ∃ H : Heap, H = s.heap := ⟨_, rfl⟩
  have hP : va_P (dC, dI) vwCl [(h, .inr (5, [.int h_code, .long h_seed, .long h_state, .ref h_many, .ref h_sort, .ref h_x, .ref h_y, .ref h_z, .ref h_fault, .ref h_faultAt, .ref h_left, .int h_lefts, .ref h_stays, .ref h_text, .int h_size])), (h_sort, .inl (cA 0, 120, .inl h_sort_v)), (h_z, .inl (cA 2, 120, .inr (.inl h_z_v))), (h_faultAt, .inl (cA 0, 3, .inl h_faultAt_v)), (h_left, .inl (cA 0, 40, .inl h_left_v))] H := by rw [hHe]; exact hP
  have hS : va_S A s.heap H [] := by rw [hHe]; exact va_S.rf
  rw [← hHe]
  unfold f_X5_signature at hf
  refine lv_iconst (v := 0) hx hb dX5_signature_0 (by decide) ?_
  refine lv_istore_n (lv' := [(3, .int 0), (0, .ref h), (1, .int p0), (2, .int p1)]) hx hb dX5_signature_1 rfl hl (by decide) rfl (fun ls hl => ?_)
  refine lv_lconst (v := 0) hx hb dX5_signature_2 (by decide) ?_
  refine lv_lstore (lv' := [(4, .long 0), (3, .int 0), (0, .ref h), (1, .int p0), (2, .int p1)]) hx hb dX5_signature_3 hl (by decide) rfl (fun ls hl => ?_)
  refine lv_iconst (v := 0) hx hb dX5_signature_5 (by decide) ?_
  refine lv_istore (lv' := [(6, .int 0), (4, .long 0), (3, .int 0), (0, .ref h), (1, .int p0), (2, .int p1)]) hx hb dX5_signature_6 hl (by decide) rfl (fun ls hl => ?_)
  refine kq_ind (fun n H locs g => ∃ (v3 : Int32) (v4 : Int64) (v6 : Int32) (ls : Array Slot), g = F0 m 8 ls [] ∧ lv_has ls 8 [(0, .ref h), (1, .int p0), (2, .int p1), (3, .int v3), (4, .long v4), (6, .int v6)] ∧ va_P (dC, dI) vwCl [(h, .inr (5, [.int h_code, .long h_seed, .long h_state, .ref h_many, .ref h_sort, .ref h_x, .ref h_y, .ref h_z, .ref h_fault, .ref h_faultAt, .ref h_left, .int h_lefts, .ref h_stays, .ref h_text, .int h_size])), (h_sort, .inl (cA 0, 120, .inl h_sort_v)), (h_z, .inl (cA 2, 120, .inr (.inl h_z_v))), (h_faultAt, .inl (cA 0, 3, .inl h_faultAt_v)), (h_left, .inl (cA 0, 40, .inl h_left_v))] H ∧ va_D A [(h, .inr (5, [.int h_code, .long h_seed, .long h_state, .ref h_many, .ref h_sort, .ref h_x, .ref h_y, .ref h_z, .ref h_fault, .ref h_faultAt, .ref h_left, .int h_lefts, .ref h_stays, .ref h_text, .int h_size])), (h_sort, .inl (cA 0, 120, .inl h_sort_v)), (h_z, .inl (cA 2, 120, .inr (.inl h_z_v))), (h_faultAt, .inl (cA 0, 3, .inl h_faultAt_v)), (h_left, .inl (cA 0, 40, .inl h_left_v))] ∧ va_S A s.heap H locs ∧ f_X5_signature_L8 h_lefts h_sort_v h_z_v h_faultAt_v h_left_v p0 p1 n v3 v4 v6 = some o) (fun H locs g h => ?_) (fun n8 ih8 H locs g h => ?_) 64 _ _ _ ⟨0, 0, 0, ls, rfl, lv_sub hl [3, 4, 5, 2, 1, 0] rfl, hP, hD, hS, hf⟩
  · obtain ⟨v3, v4, v6, ls, -, -, -, -, -, hf⟩ := h
    have hf : (none : Option (Int32)) = some o := hf
    cases hf
  · obtain ⟨v3, v4, v6, ls, rfl, hl, hP, hD, hS, hf⟩ := h
    have hf := (e_X5_signature_L8 h_lefts h_sort_v h_z_v h_faultAt_v h_left_v p0 p1 n8 v3 v4 v6).symm.trans hf
    refine lv_iload hx hb dX5_signature_8 (lv_at hl 5 rfl) ?_
    refine lv_aload_n hx hb dX5_signature_10 rfl (lv_at hl 0 rfl) ?_
    refine va_get (D := (dC, dI)) (ci := 5) (v := .int h_lefts) (C := RX5) (T := TX5) (N := 15) hx hb hts iwX5 hown hK hP 0 rfl rfl 11 (by decide) (hts _ tw_346) (fun _ h9 => h9) rfl dX5_signature_11 ?_
    refine lv_icmp_ge (tgt := 92) hx hb dX5_signature_14 (by decide) (fun c9001 => ?_) (fun c9001 => ?_)
    · have hf := kp_p c9001 hf
      refine lv_iload_n hx hb dX5_signature_92 rfl (lv_at hl 3 rfl) ?_
      refine lv_lload hx hb dX5_signature_93 (lv_at hl 4 rfl) ?_
      refine lv_ldc2 (v := 2) hx hb hown (hts _ tw_449) dX5_signature_95 ?_
      refine lv_lrem hx hb dX5_signature_98 (by decide) ?_
      refine lv_lconst (v := 0) hx hb dX5_signature_99 (by decide) ?_
      refine W.lcmp hx hb dX5_signature_100 ?_
      refine lv_if_eq (tgt := 109) hx hb dX5_signature_101 (by decide) (fun c9002 => ?_) (fun c9002 => ?_)
      · have hf := kp_p c9002 hf
        refine lv_iconst (v := 0) hx hb dX5_signature_109 (by decide) ?_
        refine lv_iadd hx hb dX5_signature_110 ?_
        have eo := Option.some.inj hf
        subst eo
        exact W.iret (v := v3 + 0) hx hb hr (fun t ht hW => ⟨⟨_, (), rfl, rfl, kq_mk ht hP hD⟩, hS.F ht⟩) hS.2.2 dX5_signature_111
      · have hf := kp_n c9002 hf
        refine lv_bipush (v := 32) hx hb dX5_signature_104 (by decide) ?_
        refine lv_goto (tgt := 110) hx hb dX5_signature_106 (by decide) ?_
        refine lv_iadd hx hb dX5_signature_110 ?_
        have eo := Option.some.inj hf
        subst eo
        exact W.iret (v := v3 + 32) hx hb hr (fun t ht hW => ⟨⟨_, (), rfl, rfl, kq_mk ht hP hD⟩, hS.F ht⟩) hS.2.2 dX5_signature_111
    · have hf := kp_n c9001 hf
      refine lv_iload hx hb dX5_signature_17 (lv_at hl 5 rfl) ?_
      refine lv_iload_n hx hb dX5_signature_19 rfl (lv_at hl 1 rfl) ?_
      refine lv_icmp_lt (tgt := 31) hx hb dX5_signature_20 (by decide) (fun c9003 => ?_) (fun c9003 => ?_)
      · have hf := kp_p c9003 hf
        refine lv_aload_n hx hb dX5_signature_31 rfl (lv_at hl 0 rfl) ?_
        refine va_get (D := (dC, dI)) (ci := 5) (v := .ref h_left) (C := RX5) (T := TX5) (N := 15) hx hb hts iwX5 hown hK hP 0 rfl rfl 10 (by decide) (hts _ tw_345) (fun _ h9 => h9) rfl dX5_signature_32 ?_
        refine lv_iload hx hb dX5_signature_35 (lv_at hl 5 rfl) ?_
        obtain ⟨hq9004, hf⟩ := kp_t hf
        refine va_iald hx hb hK hP 4 0 rfl rfl hq9004 dX5_signature_37 ?_
        refine lv_istore (lv' := [(7, .int (h_left_v v6.toNatClampNeg)), (0, .ref h), (1, .int p0), (2, .int p1), (3, .int v3), (4, .long v4), (6, .int v6)]) hx hb dX5_signature_38 hl (by decide) rfl (fun ls hl => ?_)
        refine lv_iload_n hx hb dX5_signature_40 rfl (lv_at hl 4 rfl) ?_
        refine lv_iconst (v := 1) hx hb dX5_signature_41 (by decide) ?_
        refine lv_aload_n hx hb dX5_signature_42 rfl (lv_at hl 1 rfl) ?_
        refine va_get (D := (dC, dI)) (ci := 5) (v := .ref h_sort) (C := RX5) (T := TX5) (N := 15) hx hb hts iwX5 hown hK hP 0 rfl rfl 4 (by decide) (hts _ tw_339) (fun _ h9 => h9) rfl dX5_signature_43 ?_
        refine lv_iload hx hb dX5_signature_46 (lv_at hl 0 rfl) ?_
        obtain ⟨hq9005, hf⟩ := kp_t hf
        refine va_iald hx hb hK hP 1 0 rfl rfl hq9005 dX5_signature_48 ?_
        refine lv_iconst (v := 4) hx hb dX5_signature_49 (by decide) ?_
        refine lv_irem hx hb dX5_signature_50 (by decide) ?_
        refine lv_ishl hx hb dX5_signature_51 ?_
        refine lv_ior hx hb dX5_signature_52 ?_
        refine lv_istore_n (lv' := [(3, .int (v3 ||| (1 <<< (((h_sort_v (h_left_v v6.toNatClampNeg).toNatClampNeg) - (h_sort_v (h_left_v v6.toNatClampNeg).toNatClampNeg) / 4 * 4) &&& 31)))), (7, .int (h_left_v v6.toNatClampNeg)), (0, .ref h), (1, .int p0), (2, .int p1), (4, .long v4), (6, .int v6)]) hx hb dX5_signature_53 rfl hl (by decide) rfl (fun ls hl => ?_)
        refine lv_iload_n hx hb dX5_signature_54 rfl (lv_at hl 0 rfl) ?_
        refine lv_iload hx hb dX5_signature_55 (lv_at hl 1 rfl) ?_
        refine lv_aload_n hx hb dX5_signature_57 rfl (lv_at hl 2 rfl) ?_
        refine va_get (D := (dC, dI)) (ci := 5) (v := .ref h_faultAt) (C := RX5) (T := TX5) (N := 15) hx hb hts iwX5 hown hK hP 0 rfl rfl 9 (by decide) (hts _ tw_344) (fun _ h9 => h9) rfl dX5_signature_58 ?_
        refine lv_iconst (v := 0) hx hb dX5_signature_61 (by decide) ?_
        refine va_iald hx hb hK hP 3 0 rfl rfl (show ¬ ((0 : Int32) < 0 ∨ 3 ≤ (0 : Int32).toNatClampNeg) by decide) dX5_signature_62 ?_
        refine lv_icmp_ne (tgt := 71) hx hb dX5_signature_63 (by decide) (fun c9007 => ?_) (fun c9007 => ?_)
        · have hf := kp_n c9007 hf
          refine lv_iconst (v := 0) hx hb dX5_signature_71 (by decide) ?_
          refine lv_ior hx hb dX5_signature_72 ?_
          refine lv_istore_n (lv' := [(3, .int ((v3 ||| (1 <<< (((h_sort_v (h_left_v v6.toNatClampNeg).toNatClampNeg) - (h_sort_v (h_left_v v6.toNatClampNeg).toNatClampNeg) / 4 * 4) &&& 31))) ||| 0)), (7, .int (h_left_v v6.toNatClampNeg)), (0, .ref h), (1, .int p0), (2, .int p1), (4, .long v4), (6, .int v6)]) hx hb dX5_signature_73 rfl hl (by decide) rfl (fun ls hl => ?_)
          refine lv_lload hx hb dX5_signature_74 (lv_at hl 5 rfl) ?_
          refine lv_aload_n hx hb dX5_signature_76 rfl (lv_at hl 2 rfl) ?_
          refine va_get (D := (dC, dI)) (ci := 5) (v := .ref h_z) (C := RX5) (T := TX5) (N := 15) hx hb hts iwX5 hown hK hP 0 rfl rfl 7 (by decide) (hts _ tw_342) (fun _ h9 => h9) rfl dX5_signature_77 ?_
          refine lv_iload hx hb dX5_signature_80 (lv_at hl 1 rfl) ?_
          refine va_lald hx hb hK hP 2 2 rfl rfl hq9005 dX5_signature_82 ?_
          refine lv_ladd hx hb dX5_signature_83 ?_
          refine lv_lstore (lv' := [(4, .long (v4 + (h_z_v (h_left_v v6.toNatClampNeg).toNatClampNeg))), (3, .int ((v3 ||| (1 <<< (((h_sort_v (h_left_v v6.toNatClampNeg).toNatClampNeg) - (h_sort_v (h_left_v v6.toNatClampNeg).toNatClampNeg) / 4 * 4) &&& 31))) ||| 0)), (7, .int (h_left_v v6.toNatClampNeg)), (0, .ref h), (1, .int p0), (2, .int p1), (6, .int v6)]) hx hb dX5_signature_84 hl (by decide) rfl (fun ls hl => ?_)
          refine lv_iinc (v := v6 + 1) (lv' := [(6, .int (v6 + 1)), (4, .long (v4 + (h_z_v (h_left_v v6.toNatClampNeg).toNatClampNeg))), (3, .int ((v3 ||| (1 <<< (((h_sort_v (h_left_v v6.toNatClampNeg).toNatClampNeg) - (h_sort_v (h_left_v v6.toNatClampNeg).toNatClampNeg) / 4 * 4) &&& 31))) ||| 0)), (7, .int (h_left_v v6.toNatClampNeg)), (0, .ref h), (1, .int p0), (2, .int p1)]) hx hb dX5_signature_86 hl (k := 6) rfl rfl (by decide) rfl (fun ls hl => ?_)
          refine lv_goto (tgt := 8) hx hb dX5_signature_89 (by decide) ?_
          exact ih8 _ _ _ ⟨(v3 ||| (1 <<< (((h_sort_v (h_left_v v6.toNatClampNeg).toNatClampNeg) - (h_sort_v (h_left_v v6.toNatClampNeg).toNatClampNeg) / 4 * 4) &&& 31))) ||| 0, v4 + (h_z_v (h_left_v v6.toNatClampNeg).toNatClampNeg), v6 + 1, ls, rfl, lv_sub hl [4, 5, 6, 2, 1, 0] rfl, hP, hD, hS, hf⟩
        · have hf := kp_p c9007 hf
          refine lv_bipush (v := 16) hx hb dX5_signature_66 (by decide) ?_
          refine lv_goto (tgt := 72) hx hb dX5_signature_68 (by decide) ?_
          refine lv_ior hx hb dX5_signature_72 ?_
          refine lv_istore_n (lv' := [(3, .int ((v3 ||| (1 <<< (((h_sort_v (h_left_v v6.toNatClampNeg).toNatClampNeg) - (h_sort_v (h_left_v v6.toNatClampNeg).toNatClampNeg) / 4 * 4) &&& 31))) ||| 16)), (7, .int (h_left_v v6.toNatClampNeg)), (0, .ref h), (1, .int p0), (2, .int p1), (4, .long v4), (6, .int v6)]) hx hb dX5_signature_73 rfl hl (by decide) rfl (fun ls hl => ?_)
          refine lv_lload hx hb dX5_signature_74 (lv_at hl 5 rfl) ?_
          refine lv_aload_n hx hb dX5_signature_76 rfl (lv_at hl 2 rfl) ?_
          refine va_get (D := (dC, dI)) (ci := 5) (v := .ref h_z) (C := RX5) (T := TX5) (N := 15) hx hb hts iwX5 hown hK hP 0 rfl rfl 7 (by decide) (hts _ tw_342) (fun _ h9 => h9) rfl dX5_signature_77 ?_
          refine lv_iload hx hb dX5_signature_80 (lv_at hl 1 rfl) ?_
          refine va_lald hx hb hK hP 2 2 rfl rfl hq9005 dX5_signature_82 ?_
          refine lv_ladd hx hb dX5_signature_83 ?_
          refine lv_lstore (lv' := [(4, .long (v4 + (h_z_v (h_left_v v6.toNatClampNeg).toNatClampNeg))), (3, .int ((v3 ||| (1 <<< (((h_sort_v (h_left_v v6.toNatClampNeg).toNatClampNeg) - (h_sort_v (h_left_v v6.toNatClampNeg).toNatClampNeg) / 4 * 4) &&& 31))) ||| 16)), (7, .int (h_left_v v6.toNatClampNeg)), (0, .ref h), (1, .int p0), (2, .int p1), (6, .int v6)]) hx hb dX5_signature_84 hl (by decide) rfl (fun ls hl => ?_)
          refine lv_iinc (v := v6 + 1) (lv' := [(6, .int (v6 + 1)), (4, .long (v4 + (h_z_v (h_left_v v6.toNatClampNeg).toNatClampNeg))), (3, .int ((v3 ||| (1 <<< (((h_sort_v (h_left_v v6.toNatClampNeg).toNatClampNeg) - (h_sort_v (h_left_v v6.toNatClampNeg).toNatClampNeg) / 4 * 4) &&& 31))) ||| 16)), (7, .int (h_left_v v6.toNatClampNeg)), (0, .ref h), (1, .int p0), (2, .int p1)]) hx hb dX5_signature_86 hl (k := 6) rfl rfl (by decide) rfl (fun ls hl => ?_)
          refine lv_goto (tgt := 8) hx hb dX5_signature_89 (by decide) ?_
          exact ih8 _ _ _ ⟨(v3 ||| (1 <<< (((h_sort_v (h_left_v v6.toNatClampNeg).toNatClampNeg) - (h_sort_v (h_left_v v6.toNatClampNeg).toNatClampNeg) / 4 * 4) &&& 31))) ||| 16, v4 + (h_z_v (h_left_v v6.toNatClampNeg).toNatClampNeg), v6 + 1, ls, rfl, lv_sub hl [4, 5, 6, 2, 1, 0] rfl, hP, hD, hS, hf⟩
      · have hf := kp_n c9003 hf
        refine lv_iload hx hb dX5_signature_23 (lv_at hl 5 rfl) ?_
        refine lv_iload_n hx hb dX5_signature_25 rfl (lv_at hl 1 rfl) ?_
        refine lv_iload_n hx hb dX5_signature_26 rfl (lv_at hl 2 rfl) ?_
        refine lv_iadd hx hb dX5_signature_27 ?_
        refine lv_icmp_lt (tgt := 86) hx hb dX5_signature_28 (by decide) (fun c9010 => ?_) (fun c9010 => ?_)
        · have hf := kp_p c9010 hf
          refine lv_iinc (v := v6 + 1) (lv' := [(6, .int (v6 + 1)), (0, .ref h), (1, .int p0), (2, .int p1), (3, .int v3), (4, .long v4)]) hx hb dX5_signature_86 hl (k := 5) rfl rfl (by decide) rfl (fun ls hl => ?_)
          refine lv_goto (tgt := 8) hx hb dX5_signature_89 (by decide) ?_
          exact ih8 _ _ _ ⟨v3, v4, v6 + 1, ls, rfl, lv_sub hl [1, 2, 3, 4, 5, 0] rfl, hP, hD, hS, hf⟩
        · have hf := kp_n c9010 hf
          refine lv_aload_n hx hb dX5_signature_31 rfl (lv_at hl 0 rfl) ?_
          refine va_get (D := (dC, dI)) (ci := 5) (v := .ref h_left) (C := RX5) (T := TX5) (N := 15) hx hb hts iwX5 hown hK hP 0 rfl rfl 10 (by decide) (hts _ tw_345) (fun _ h9 => h9) rfl dX5_signature_32 ?_
          refine lv_iload hx hb dX5_signature_35 (lv_at hl 5 rfl) ?_
          obtain ⟨hq9011, hf⟩ := kp_t hf
          refine va_iald hx hb hK hP 4 0 rfl rfl hq9011 dX5_signature_37 ?_
          refine lv_istore (lv' := [(7, .int (h_left_v v6.toNatClampNeg)), (0, .ref h), (1, .int p0), (2, .int p1), (3, .int v3), (4, .long v4), (6, .int v6)]) hx hb dX5_signature_38 hl (by decide) rfl (fun ls hl => ?_)
          refine lv_iload_n hx hb dX5_signature_40 rfl (lv_at hl 4 rfl) ?_
          refine lv_iconst (v := 1) hx hb dX5_signature_41 (by decide) ?_
          refine lv_aload_n hx hb dX5_signature_42 rfl (lv_at hl 1 rfl) ?_
          refine va_get (D := (dC, dI)) (ci := 5) (v := .ref h_sort) (C := RX5) (T := TX5) (N := 15) hx hb hts iwX5 hown hK hP 0 rfl rfl 4 (by decide) (hts _ tw_339) (fun _ h9 => h9) rfl dX5_signature_43 ?_
          refine lv_iload hx hb dX5_signature_46 (lv_at hl 0 rfl) ?_
          obtain ⟨hq9012, hf⟩ := kp_t hf
          refine va_iald hx hb hK hP 1 0 rfl rfl hq9012 dX5_signature_48 ?_
          refine lv_iconst (v := 4) hx hb dX5_signature_49 (by decide) ?_
          refine lv_irem hx hb dX5_signature_50 (by decide) ?_
          refine lv_ishl hx hb dX5_signature_51 ?_
          refine lv_ior hx hb dX5_signature_52 ?_
          refine lv_istore_n (lv' := [(3, .int (v3 ||| (1 <<< (((h_sort_v (h_left_v v6.toNatClampNeg).toNatClampNeg) - (h_sort_v (h_left_v v6.toNatClampNeg).toNatClampNeg) / 4 * 4) &&& 31)))), (7, .int (h_left_v v6.toNatClampNeg)), (0, .ref h), (1, .int p0), (2, .int p1), (4, .long v4), (6, .int v6)]) hx hb dX5_signature_53 rfl hl (by decide) rfl (fun ls hl => ?_)
          refine lv_iload_n hx hb dX5_signature_54 rfl (lv_at hl 0 rfl) ?_
          refine lv_iload hx hb dX5_signature_55 (lv_at hl 1 rfl) ?_
          refine lv_aload_n hx hb dX5_signature_57 rfl (lv_at hl 2 rfl) ?_
          refine va_get (D := (dC, dI)) (ci := 5) (v := .ref h_faultAt) (C := RX5) (T := TX5) (N := 15) hx hb hts iwX5 hown hK hP 0 rfl rfl 9 (by decide) (hts _ tw_344) (fun _ h9 => h9) rfl dX5_signature_58 ?_
          refine lv_iconst (v := 0) hx hb dX5_signature_61 (by decide) ?_
          refine va_iald hx hb hK hP 3 0 rfl rfl (show ¬ ((0 : Int32) < 0 ∨ 3 ≤ (0 : Int32).toNatClampNeg) by decide) dX5_signature_62 ?_
          refine lv_icmp_ne (tgt := 71) hx hb dX5_signature_63 (by decide) (fun c9014 => ?_) (fun c9014 => ?_)
          · have hf := kp_n c9014 hf
            refine lv_iconst (v := 0) hx hb dX5_signature_71 (by decide) ?_
            refine lv_ior hx hb dX5_signature_72 ?_
            refine lv_istore_n (lv' := [(3, .int ((v3 ||| (1 <<< (((h_sort_v (h_left_v v6.toNatClampNeg).toNatClampNeg) - (h_sort_v (h_left_v v6.toNatClampNeg).toNatClampNeg) / 4 * 4) &&& 31))) ||| 0)), (7, .int (h_left_v v6.toNatClampNeg)), (0, .ref h), (1, .int p0), (2, .int p1), (4, .long v4), (6, .int v6)]) hx hb dX5_signature_73 rfl hl (by decide) rfl (fun ls hl => ?_)
            refine lv_lload hx hb dX5_signature_74 (lv_at hl 5 rfl) ?_
            refine lv_aload_n hx hb dX5_signature_76 rfl (lv_at hl 2 rfl) ?_
            refine va_get (D := (dC, dI)) (ci := 5) (v := .ref h_z) (C := RX5) (T := TX5) (N := 15) hx hb hts iwX5 hown hK hP 0 rfl rfl 7 (by decide) (hts _ tw_342) (fun _ h9 => h9) rfl dX5_signature_77 ?_
            refine lv_iload hx hb dX5_signature_80 (lv_at hl 1 rfl) ?_
            refine va_lald hx hb hK hP 2 2 rfl rfl hq9012 dX5_signature_82 ?_
            refine lv_ladd hx hb dX5_signature_83 ?_
            refine lv_lstore (lv' := [(4, .long (v4 + (h_z_v (h_left_v v6.toNatClampNeg).toNatClampNeg))), (3, .int ((v3 ||| (1 <<< (((h_sort_v (h_left_v v6.toNatClampNeg).toNatClampNeg) - (h_sort_v (h_left_v v6.toNatClampNeg).toNatClampNeg) / 4 * 4) &&& 31))) ||| 0)), (7, .int (h_left_v v6.toNatClampNeg)), (0, .ref h), (1, .int p0), (2, .int p1), (6, .int v6)]) hx hb dX5_signature_84 hl (by decide) rfl (fun ls hl => ?_)
            refine lv_iinc (v := v6 + 1) (lv' := [(6, .int (v6 + 1)), (4, .long (v4 + (h_z_v (h_left_v v6.toNatClampNeg).toNatClampNeg))), (3, .int ((v3 ||| (1 <<< (((h_sort_v (h_left_v v6.toNatClampNeg).toNatClampNeg) - (h_sort_v (h_left_v v6.toNatClampNeg).toNatClampNeg) / 4 * 4) &&& 31))) ||| 0)), (7, .int (h_left_v v6.toNatClampNeg)), (0, .ref h), (1, .int p0), (2, .int p1)]) hx hb dX5_signature_86 hl (k := 6) rfl rfl (by decide) rfl (fun ls hl => ?_)
            refine lv_goto (tgt := 8) hx hb dX5_signature_89 (by decide) ?_
            exact ih8 _ _ _ ⟨(v3 ||| (1 <<< (((h_sort_v (h_left_v v6.toNatClampNeg).toNatClampNeg) - (h_sort_v (h_left_v v6.toNatClampNeg).toNatClampNeg) / 4 * 4) &&& 31))) ||| 0, v4 + (h_z_v (h_left_v v6.toNatClampNeg).toNatClampNeg), v6 + 1, ls, rfl, lv_sub hl [4, 5, 6, 2, 1, 0] rfl, hP, hD, hS, hf⟩
          · have hf := kp_p c9014 hf
            refine lv_bipush (v := 16) hx hb dX5_signature_66 (by decide) ?_
            refine lv_goto (tgt := 72) hx hb dX5_signature_68 (by decide) ?_
            refine lv_ior hx hb dX5_signature_72 ?_
            refine lv_istore_n (lv' := [(3, .int ((v3 ||| (1 <<< (((h_sort_v (h_left_v v6.toNatClampNeg).toNatClampNeg) - (h_sort_v (h_left_v v6.toNatClampNeg).toNatClampNeg) / 4 * 4) &&& 31))) ||| 16)), (7, .int (h_left_v v6.toNatClampNeg)), (0, .ref h), (1, .int p0), (2, .int p1), (4, .long v4), (6, .int v6)]) hx hb dX5_signature_73 rfl hl (by decide) rfl (fun ls hl => ?_)
            refine lv_lload hx hb dX5_signature_74 (lv_at hl 5 rfl) ?_
            refine lv_aload_n hx hb dX5_signature_76 rfl (lv_at hl 2 rfl) ?_
            refine va_get (D := (dC, dI)) (ci := 5) (v := .ref h_z) (C := RX5) (T := TX5) (N := 15) hx hb hts iwX5 hown hK hP 0 rfl rfl 7 (by decide) (hts _ tw_342) (fun _ h9 => h9) rfl dX5_signature_77 ?_
            refine lv_iload hx hb dX5_signature_80 (lv_at hl 1 rfl) ?_
            refine va_lald hx hb hK hP 2 2 rfl rfl hq9012 dX5_signature_82 ?_
            refine lv_ladd hx hb dX5_signature_83 ?_
            refine lv_lstore (lv' := [(4, .long (v4 + (h_z_v (h_left_v v6.toNatClampNeg).toNatClampNeg))), (3, .int ((v3 ||| (1 <<< (((h_sort_v (h_left_v v6.toNatClampNeg).toNatClampNeg) - (h_sort_v (h_left_v v6.toNatClampNeg).toNatClampNeg) / 4 * 4) &&& 31))) ||| 16)), (7, .int (h_left_v v6.toNatClampNeg)), (0, .ref h), (1, .int p0), (2, .int p1), (6, .int v6)]) hx hb dX5_signature_84 hl (by decide) rfl (fun ls hl => ?_)
            refine lv_iinc (v := v6 + 1) (lv' := [(6, .int (v6 + 1)), (4, .long (v4 + (h_z_v (h_left_v v6.toNatClampNeg).toNatClampNeg))), (3, .int ((v3 ||| (1 <<< (((h_sort_v (h_left_v v6.toNatClampNeg).toNatClampNeg) - (h_sort_v (h_left_v v6.toNatClampNeg).toNatClampNeg) / 4 * 4) &&& 31))) ||| 16)), (7, .int (h_left_v v6.toNatClampNeg)), (0, .ref h), (1, .int p0), (2, .int p1)]) hx hb dX5_signature_86 hl (k := 6) rfl rfl (by decide) rfl (fun ls hl => ?_)
            refine lv_goto (tgt := 8) hx hb dX5_signature_89 (by decide) ?_
            exact ih8 _ _ _ ⟨(v3 ||| (1 <<< (((h_sort_v (h_left_v v6.toNatClampNeg).toNatClampNeg) - (h_sort_v (h_left_v v6.toNatClampNeg).toNatClampNeg) / 4 * 4) &&& 31))) ||| 16, v4 + (h_z_v (h_left_v v6.toNatClampNeg).toNatClampNeg), v6 + 1, ls, rfl, lv_sub hl [4, 5, 6, 2, 1, 0] rfl, hP, hD, hS, hf⟩

def f_X5_planted (h_code : Int32) (h_lefts : Int32) (h_many_v : Nat → Int32) (h_sort_v : Nat → Int32) (h_z_v : Nat → Int64) (h_fault_v : Nat → Int32) (h_faultAt_v : Nat → Int32) (h_left_v : Nat → Int32) (p0 : Int32) : Option (Int32 × Int32) :=
    (if (h_many_v (0 : Int32).toNatClampNeg) ≤ 0 then
    (if p0 = 0 then
    some ((h_fault_v (0 : Int32).toNatClampNeg, 0))
    else
    (if p0 = 1 then
    (if (0 : Int32) = 0 then
    some (((-1), 0))
    else
    some ((h_faultAt_v (0 : Int32).toNatClampNeg, 0)))
    else
    (if p0 = 2 then
    (if (0 : Int32) = 0 then
    some ((0, 0))
    else
    (f_X5_signature h_lefts h_sort_v h_z_v h_faultAt_v h_left_v 0 0).bind fun r7 =>
    some ((r7, 0)))
    else
    some (((-2), 0)))))
    else
    (if p0 = 0 then
    some ((h_fault_v (0 : Int32).toNatClampNeg, 0))
    else
    (if p0 = 1 then
    (if (1 : Int32) = 0 then
    some (((-1), 0))
    else
    some ((h_faultAt_v (0 : Int32).toNatClampNeg, 0)))
    else
    (if p0 = 2 then
    (if (1 : Int32) = 0 then
    some ((0, 0))
    else
    (f_X5_signature h_lefts h_sort_v h_z_v h_faultAt_v h_left_v 0 0).bind fun r15 =>
    some ((r15, 0)))
    else
    some (((-2), 0))))))
set_option maxHeartbeats 4000000 in
set_option maxRecDepth 100000 in
theorem c_X5_planted (l : Launch) (dC : Nat → ClassId) (dI : Nat → Nat → Nat) (cA : Nat → ClassId) (tt : Nat → Nat) (h h_many h_sort h_z h_fault h_faultAt h_left h_x h_y h_stays h_text : Nat) (sz : Nat) (h_code : Int32) (h_seed : Int64) (h_state : Int64) (h_lefts : Int32) (h_size : Int32) (h_many_v : Nat → Int32) (h_sort_v : Nat → Int32) (h_z_v : Nat → Int64) (h_fault_v : Nat → Int32) (h_faultAt_v : Nat → Int32) (h_left_v : Nat → Int32) (p0 : Int32) (o : Int32 × Int32) (hf : f_X5_planted h_code h_lefts h_many_v h_sort_v h_z_v h_fault_v h_faultAt_v h_left_v p0 = some o) : Met l yX5_planted wX5_planted ({ frames := 1, cells := 0, slots := 0, locals := 27 }) (kq_Pc dC dI cA tt [.ref h, .int p0] [(h, .inr (5, [.int h_code, .long h_seed, .long h_state, .ref h_many, .ref h_sort, .ref h_x, .ref h_y, .ref h_z, .ref h_fault, .ref h_faultAt, .ref h_left, .int h_lefts, .ref h_stays, .ref h_text, .int h_size])), (h_many, .inl (cA 0, 3, .inl h_many_v)), (h_sort, .inl (cA 0, 120, .inl h_sort_v)), (h_z, .inl (cA 2, 120, .inr (.inl h_z_v))), (h_fault, .inl (cA 0, 3, .inl h_fault_v)), (h_faultAt, .inl (cA 0, 3, .inl h_faultAt_v)), (h_left, .inl (cA 0, 40, .inl h_left_v))] sz) (va_Qi (fun r (_ : Unit) => r = o.1) (fun _ t => kq_B dC dI [(h, .inr (5, [.int o.2, .long h_seed, .long h_state, .ref h_many, .ref h_sort, .ref h_x, .ref h_y, .ref h_z, .ref h_fault, .ref h_faultAt, .ref h_left, .int h_lefts, .ref h_stays, .ref h_text, .int h_size])), (h_many, .inl (cA 0, 3, .inl h_many_v)), (h_sort, .inl (cA 0, 120, .inl h_sort_v)), (h_z, .inl (cA 2, 120, .inr (.inl h_z_v))), (h_fault, .inl (cA 0, 3, .inl h_fault_v)), (h_faultAt, .inl (cA 0, 3, .inl h_faultAt_v)), (h_left, .inl (cA 0, 40, .inl h_left_v))] (va_A [(h, .inr (5, [.int h_code, .long h_seed, .long h_state, .ref h_many, .ref h_sort, .ref h_x, .ref h_y, .ref h_z, .ref h_fault, .ref h_faultAt, .ref h_left, .int h_lefts, .ref h_stays, .ref h_text, .int h_size])), (h_many, .inl (cA 0, 3, .inl h_many_v)), (h_sort, .inl (cA 0, 120, .inl h_sort_v)), (h_z, .inl (cA 2, 120, .inr (.inl h_z_v))), (h_fault, .inl (cA 0, 3, .inl h_fault_v)), (h_faultAt, .inl (cA 0, 3, .inl h_faultAt_v)), (h_left, .inl (cA 0, 40, .inl h_left_v))] sz) t) (va_A [(h, .inr (5, [.int h_code, .long h_seed, .long h_state, .ref h_many, .ref h_sort, .ref h_x, .ref h_y, .ref h_z, .ref h_fault, .ref h_faultAt, .ref h_left, .int h_lefts, .ref h_stays, .ref h_text, .int h_size])), (h_many, .inl (cA 0, 3, .inl h_many_v)), (h_sort, .inl (cA 0, 120, .inl h_sort_v)), (h_z, .inl (cA 2, 120, .inr (.inl h_z_v))), (h_fault, .inl (cA 0, 3, .inl h_fault_v)), (h_faultAt, .inl (cA 0, 3, .inl h_faultAt_v)), (h_left, .inl (cA 0, 40, .inl h_left_v))] sz)) 0 0 (va_A [(h, .inr (5, [.int h_code, .long h_seed, .long h_state, .ref h_many, .ref h_sort, .ref h_x, .ref h_y, .ref h_z, .ref h_fault, .ref h_faultAt, .ref h_left, .int h_lefts, .ref h_stays, .ref h_text, .int h_size])), (h_many, .inl (cA 0, 3, .inl h_many_v)), (h_sort, .inl (cA 0, 120, .inl h_sort_v)), (h_z, .inl (cA 2, 120, .inr (.inl h_z_v))), (h_fault, .inl (cA 0, 3, .inl h_fault_v)), (h_faultAt, .inl (cA 0, 3, .inl h_faultAt_v)), (h_left, .inl (cA 0, 40, .inl h_left_v))] sz) := by
  refine Met.ofW (cc := cX5_planted) (maxL := 3) (ret := (some .int)) (by decide) rfl ?_
  intro p e s m args below meth c s₁ B hml hv
  obtain ⟨rfl, hsz, hP, hD0, hG, hZ⟩ := hv
  have hx := B.exec
  have hb := B.bytes
  have hr := B.returns
  have hts : ∀ w ∈ kq_T, w.before _ s = true := fun w h => atoms_spec (ws := wX5_planted) B.pre w (List.mem_cons_of_mem _ h)
  have hown : s.vm.findClass RX5 = some m.cls := findClass_of_methodNamed B.named
  have hlocks := B.notSynchronized
  have hK := hG.1
  subst hsz
  have hD := hD0.self (sz := s.heap.size)
  generalize hAe : va_A [(h, .inr (5, [.int h_code, .long h_seed, .long h_state, .ref h_many, .ref h_sort, .ref h_x, .ref h_y, .ref h_z, .ref h_fault, .ref h_faultAt, .ref h_left, .int h_lefts, .ref h_stays, .ref h_text, .int h_size])), (h_many, .inl (cA 0, 3, .inl h_many_v)), (h_sort, .inl (cA 0, 120, .inl h_sort_v)), (h_z, .inl (cA 2, 120, .inr (.inl h_z_v))), (h_fault, .inl (cA 0, 3, .inl h_fault_v)), (h_faultAt, .inl (cA 0, 3, .inl h_faultAt_v)), (h_left, .inl (cA 0, 40, .inl h_left_v))] s.heap.size = A at hD hZ ⊢
  have hA : ∀ q : Nat, s.heap.size ≤ q → A q := fun q h => by rw [← hAe]; exact Or.inr h
  have hl := lv_entry [.ref h, .int p0] (n := 3) (Nat.le_of_ble_eq_true rfl)
  rw [lg_entry_eq]
  generalize (lg_sl [.ref h, .int p0] ++ List.replicate (3 - (lg_sl [.ref h, .int p0]).length) Slot.unset).toArray = ls at hl ⊢
  have hl : lv_has ls 3 [(0, .ref h), (1, .int p0)] := hl
  obtain ⟨H, hHe⟩ : ∃ H : Heap, H = s.heap := ⟨_, rfl⟩
  have hP : va_P (dC, dI) vwCl [(h, .inr (5, [.int h_code, .long h_seed, .long h_state, .ref h_many, .ref h_sort, .ref h_x, .ref h_y, .ref h_z, .ref h_fault, .ref h_faultAt, .ref h_left, .int h_lefts, .ref h_stays, .ref h_text, .int h_size])), (h_many, .inl (cA 0, 3, .inl h_many_v)), (h_sort, .inl (cA 0, 120, .inl h_sort_v)), (h_z, .inl (cA 2, 120, .inr (.inl h_z_v))), (h_fault, .inl (cA 0, 3, .inl h_fault_v)), (h_faultAt, .inl (cA 0, 3, .inl h_faultAt_v)), (h_left, .inl (cA 0, 40, .inl h_left_v))] H := by rw [hHe]; exact hP
  have hS : va_S A s.heap H [] := by rw [hHe]; exact va_S.rf
  rw [← hHe]
  unfold f_X5_planted at hf
  refine lv_aload_n hx hb dX5_planted_0 rfl (lv_at hl 0 rfl) ?_
  refine lv_iconst (v := 0) hx hb dX5_planted_1 (by decide) ?_
  refine va_put (D := (dC, dI)) (ci := 5) (v := .int 0) (ty := (.int)) (C := RX5) (T := TX5) (N := 15) hx hb hts iwX5 tyX5 tyX5_ok nmX5 hown hK hP hD hS 0 rfl rfl 0 (by decide) (hts _ tw_335) (fun _ h9 => h9) rfl (by decide +kernel) rfl rfl (Nat.le_of_ble_eq_true rfl) dX5_planted_2 (fun H locs hP hD hS => ?_)
  have hP : va_P (dC, dI) vwCl [(h, .inr (5, [.int 0, .long h_seed, .long h_state, .ref h_many, .ref h_sort, .ref h_x, .ref h_y, .ref h_z, .ref h_fault, .ref h_faultAt, .ref h_left, .int h_lefts, .ref h_stays, .ref h_text, .int h_size])), (h_many, .inl (cA 0, 3, .inl h_many_v)), (h_sort, .inl (cA 0, 120, .inl h_sort_v)), (h_z, .inl (cA 2, 120, .inr (.inl h_z_v))), (h_fault, .inl (cA 0, 3, .inl h_fault_v)), (h_faultAt, .inl (cA 0, 3, .inl h_faultAt_v)), (h_left, .inl (cA 0, 40, .inl h_left_v))] H := hP
  have hD : va_D A [(h, .inr (5, [.int 0, .long h_seed, .long h_state, .ref h_many, .ref h_sort, .ref h_x, .ref h_y, .ref h_z, .ref h_fault, .ref h_faultAt, .ref h_left, .int h_lefts, .ref h_stays, .ref h_text, .int h_size])), (h_many, .inl (cA 0, 3, .inl h_many_v)), (h_sort, .inl (cA 0, 120, .inl h_sort_v)), (h_z, .inl (cA 2, 120, .inr (.inl h_z_v))), (h_fault, .inl (cA 0, 3, .inl h_fault_v)), (h_faultAt, .inl (cA 0, 3, .inl h_faultAt_v)), (h_left, .inl (cA 0, 40, .inl h_left_v))] := hD
  refine lv_aload_n hx hb dX5_planted_5 rfl (lv_at hl 0 rfl) ?_
  refine va_get (D := (dC, dI)) (ci := 5) (v := .ref h_many) (C := RX5) (T := TX5) (N := 15) hx hb hts iwX5 hown hK hP 0 rfl rfl 3 (by decide) (hts _ tw_338) (fun _ h9 => h9) rfl dX5_planted_6 ?_
  refine lv_iconst (v := 0) hx hb dX5_planted_9 (by decide) ?_
  refine va_iald hx hb hK hP 1 0 rfl rfl (show ¬ ((0 : Int32) < 0 ∨ 3 ≤ (0 : Int32).toNatClampNeg) by decide) dX5_planted_10 ?_
  refine lv_if_le (tgt := 18) hx hb dX5_planted_11 (by decide) (fun c2 => ?_) (fun c2 => ?_)
  · have hf := kp_p c2 hf
    refine lv_iconst (v := 0) hx hb dX5_planted_18 (by decide) ?_
    refine lv_istore_n (lv' := [(2, .int 0), (0, .ref h), (1, .int p0)]) hx hb dX5_planted_19 rfl hl (by decide) rfl (fun ls hl => ?_)
    refine lv_iload_n hx hb dX5_planted_20 rfl (lv_at hl 2 rfl) ?_
    refine lv_if_ne (tgt := 33) hx hb dX5_planted_21 (by decide) (fun c3 => ?_) (fun c3 => ?_)
    · have hf := kp_n c3 hf
      refine lv_iload_n hx hb dX5_planted_33 rfl (lv_at hl 2 rfl) ?_
      refine lv_iconst (v := 1) hx hb dX5_planted_34 (by decide) ?_
      refine lv_icmp_ne (tgt := 55) hx hb dX5_planted_35 (by decide) (fun c4 => ?_) (fun c4 => ?_)
      · have hf := kp_n c4 hf
        refine lv_iload_n hx hb dX5_planted_55 rfl (lv_at hl 2 rfl) ?_
        refine lv_iconst (v := 2) hx hb dX5_planted_56 (by decide) ?_
        refine lv_icmp_ne (tgt := 77) hx hb dX5_planted_57 (by decide) (fun c5 => ?_) (fun c5 => ?_)
        · have hf := kp_n c5 hf
          refine lv_bipush (v := (-2)) hx hb dX5_planted_77 (by decide) ?_
          have eo := Option.some.inj hf
          subst eo
          exact W.iret (v := (-2)) hx hb hr (fun t ht hW => ⟨⟨_, (), rfl, rfl, kq_mk ht hP hD⟩, hS.F ht⟩) hS.2.2 dX5_planted_79
        · have hf := kp_p c5 hf
          refine lv_iload_n hx hb dX5_planted_60 rfl (lv_at hl 0 rfl) ?_
          refine lv_if_eq (tgt := 73) hx hb dX5_planted_61 (by decide) (fun c6 => ?_) (fun c6 => ?_)
          · have hf := kp_p c6 hf
            refine lv_iconst (v := 0) hx hb dX5_planted_73 (by decide) ?_
            refine lv_goto (tgt := 79) hx hb dX5_planted_74 (by decide) ?_
            have eo := Option.some.inj hf
            subst eo
            exact W.iret (v := 0) hx hb hr (fun t ht hW => ⟨⟨_, (), rfl, rfl, kq_mk ht hP hD⟩, hS.F ht⟩) hS.2.2 dX5_planted_79
          · have hf := kp_n c6 hf
            refine lv_aload_n hx hb dX5_planted_64 rfl (lv_at hl 1 rfl) ?_
            refine lv_iconst (v := 0) hx hb dX5_planted_65 (by decide) ?_
            refine lv_iconst (v := 0) hx hb dX5_planted_66 (by decide) ?_
            obtain ⟨r7, hr7, hf⟩ := kp_b hf
            have hPc := hP.sub (ws' := [(h, .inr (5, [.int 0, .long h_seed, .long h_state, .ref h_many, .ref h_sort, .ref h_x, .ref h_y, .ref h_z, .ref h_fault, .ref h_faultAt, .ref h_left, .int h_lefts, .ref h_stays, .ref h_text, .int h_size])), (h_sort, .inl (cA 0, 120, .inl h_sort_v)), (h_z, .inl (cA 2, 120, .inr (.inl h_z_v))), (h_faultAt, .inl (cA 0, 3, .inl h_faultAt_v)), (h_left, .inl (cA 0, 40, .inl h_left_v))]) [0, 2, 3, 5, 6] rfl
            have hDc := hD.sub (ws' := [(h, .inr (5, [.int 0, .long h_seed, .long h_state, .ref h_many, .ref h_sort, .ref h_x, .ref h_y, .ref h_z, .ref h_fault, .ref h_faultAt, .ref h_left, .int h_lefts, .ref h_stays, .ref h_text, .int h_size])), (h_sort, .inl (cA 0, 120, .inl h_sort_v)), (h_z, .inl (cA 2, 120, .inr (.inl h_z_v))), (h_faultAt, .inl (cA 0, 3, .inl h_faultAt_v)), (h_left, .inl (cA 0, 40, .inl h_left_v))]) [0, 2, 3, 5, 6] (by decide) rfl
            have hFc := va_free (wc := [(h, .inr (5, [.int 0, .long h_seed, .long h_state, .ref h_many, .ref h_sort, .ref h_x, .ref h_y, .ref h_z, .ref h_fault, .ref h_faultAt, .ref h_left, .int h_lefts, .ref h_stays, .ref h_text, .int h_size])), (h_sort, .inl (cA 0, 120, .inl h_sort_v)), (h_z, .inl (cA 2, 120, .inr (.inl h_z_v))), (h_faultAt, .inl (cA 0, 3, .inl h_faultAt_v)), (h_left, .inl (cA 0, 40, .inl h_left_v))]) hD hS hA [0, 2, 3, 5, 6] rfl
            refine va_calli (va_runV (As := [.int 0, .int 0]) (rest := []) ⟨hx, hb, hml, hown, hts⟩ (c_X5_signature l dC dI cA tt h h_sort h_z h_faultAt h_left h_many h_x h_y h_fault h_stays h_text H.size 0 h_seed h_state h_lefts h_size h_sort_v h_z_v h_faultAt_v h_left_v 0 0 r7 hr7) (cwV 2 hts (kq_gV tw_445 tw_447 tw_17 tw_25 tw_448) rfl rfl rfl (by decide +kernel) ⟨Nat.le_of_ble_eq_true rfl, Nat.le_of_ble_eq_true rfl⟩) ⟨kq_blind, va_recv hK hP (ci := 5) (q0 := 0) rfl rfl, kq_pre hG hZ hS hPc hDc hFc⟩ rfl rfl hl.1 rfl (lv_room (Nat.le_of_ble_eq_true rfl)) dX5_planted_67 ⟨Nat.le_of_ble_eq_true rfl, Nat.le_of_ble_eq_true rfl⟩) hS (fun q _ h => hFc q h) hFc (fun rv u t H1 locs ht hvm hw hB hz1 hk1 hS => ?_)
            obtain ⟨hP1, hD1⟩ := hB
            rw [ht] at hP1
            have hw := hw.symm
            subst hw
            obtain ⟨hP, hD⟩ := va_join (wr := [(h_many, .inl (cA 0, 3, .inl h_many_v)), (h_fault, .inl (cA 0, 3, .inl h_fault_v))]) (w1 := [(h, .inr (5, [.int 0, .long h_seed, .long h_state, .ref h_many, .ref h_sort, .ref h_x, .ref h_y, .ref h_z, .ref h_fault, .ref h_faultAt, .ref h_left, .int h_lefts, .ref h_stays, .ref h_text, .int h_size])), (h_sort, .inl (cA 0, 120, .inl h_sort_v)), (h_z, .inl (cA 2, 120, .inr (.inl h_z_v))), (h_faultAt, .inl (cA 0, 3, .inl h_faultAt_v)), (h_left, .inl (cA 0, 40, .inl h_left_v))]) hP hD [0, 2, 3, 5, 6] [1, 4] rfl rfl (by decide) (by decide) hk1 hFc hP1 hD1
            have hP : va_P (dC, dI) vwCl [(h, .inr (5, [.int 0, .long h_seed, .long h_state, .ref h_many, .ref h_sort, .ref h_x, .ref h_y, .ref h_z, .ref h_fault, .ref h_faultAt, .ref h_left, .int h_lefts, .ref h_stays, .ref h_text, .int h_size])), (h_many, .inl (cA 0, 3, .inl h_many_v)), (h_sort, .inl (cA 0, 120, .inl h_sort_v)), (h_z, .inl (cA 2, 120, .inr (.inl h_z_v))), (h_fault, .inl (cA 0, 3, .inl h_fault_v)), (h_faultAt, .inl (cA 0, 3, .inl h_faultAt_v)), (h_left, .inl (cA 0, 40, .inl h_left_v))] H1 := hP.sub [2, 0, 3, 4, 1, 5, 6] rfl
            have hD : va_D A [(h, .inr (5, [.int 0, .long h_seed, .long h_state, .ref h_many, .ref h_sort, .ref h_x, .ref h_y, .ref h_z, .ref h_fault, .ref h_faultAt, .ref h_left, .int h_lefts, .ref h_stays, .ref h_text, .int h_size])), (h_many, .inl (cA 0, 3, .inl h_many_v)), (h_sort, .inl (cA 0, 120, .inl h_sort_v)), (h_z, .inl (cA 2, 120, .inr (.inl h_z_v))), (h_fault, .inl (cA 0, 3, .inl h_fault_v)), (h_faultAt, .inl (cA 0, 3, .inl h_faultAt_v)), (h_left, .inl (cA 0, 40, .inl h_left_v))] := hD.sub [2, 0, 3, 4, 1, 5, 6] (by decide) rfl
            generalize H1 = H at hP hS ⊢
            refine lv_goto (tgt := 79) hx hb dX5_planted_70 (by decide) ?_
            have eo := Option.some.inj hf
            subst eo
            exact W.iret (v := r7) hx hb hr (fun t ht hW => ⟨⟨_, (), rfl, rfl, kq_mk ht hP hD⟩, hS.F ht⟩) hS.2.2 dX5_planted_79
      · have hf := kp_p c4 hf
        refine lv_iload_n hx hb dX5_planted_38 rfl (lv_at hl 0 rfl) ?_
        refine lv_if_eq (tgt := 51) hx hb dX5_planted_39 (by decide) (fun c8 => ?_) (fun c8 => ?_)
        · have hf := kp_p c8 hf
          refine lv_iconst (v := (-1)) hx hb dX5_planted_51 (by decide) ?_
          refine lv_goto (tgt := 79) hx hb dX5_planted_52 (by decide) ?_
          have eo := Option.some.inj hf
          subst eo
          exact W.iret (v := (-1)) hx hb hr (fun t ht hW => ⟨⟨_, (), rfl, rfl, kq_mk ht hP hD⟩, hS.F ht⟩) hS.2.2 dX5_planted_79
        · have hf := kp_n c8 hf
          refine lv_aload_n hx hb dX5_planted_42 rfl (lv_at hl 1 rfl) ?_
          refine va_get (D := (dC, dI)) (ci := 5) (v := .ref h_faultAt) (C := RX5) (T := TX5) (N := 15) hx hb hts iwX5 hown hK hP 0 rfl rfl 9 (by decide) (hts _ tw_344) (fun _ h9 => h9) rfl dX5_planted_43 ?_
          refine lv_iconst (v := 0) hx hb dX5_planted_46 (by decide) ?_
          refine va_iald hx hb hK hP 5 0 rfl rfl (show ¬ ((0 : Int32) < 0 ∨ 3 ≤ (0 : Int32).toNatClampNeg) by decide) dX5_planted_47 ?_
          refine lv_goto (tgt := 79) hx hb dX5_planted_48 (by decide) ?_
          have eo := Option.some.inj hf
          subst eo
          exact W.iret (v := h_faultAt_v (0 : Int32).toNatClampNeg) hx hb hr (fun t ht hW => ⟨⟨_, (), rfl, rfl, kq_mk ht hP hD⟩, hS.F ht⟩) hS.2.2 dX5_planted_79
    · have hf := kp_p c3 hf
      refine lv_aload_n hx hb dX5_planted_24 rfl (lv_at hl 1 rfl) ?_
      refine va_get (D := (dC, dI)) (ci := 5) (v := .ref h_fault) (C := RX5) (T := TX5) (N := 15) hx hb hts iwX5 hown hK hP 0 rfl rfl 8 (by decide) (hts _ tw_343) (fun _ h9 => h9) rfl dX5_planted_25 ?_
      refine lv_iconst (v := 0) hx hb dX5_planted_28 (by decide) ?_
      refine va_iald hx hb hK hP 4 0 rfl rfl (show ¬ ((0 : Int32) < 0 ∨ 3 ≤ (0 : Int32).toNatClampNeg) by decide) dX5_planted_29 ?_
      refine lv_goto (tgt := 79) hx hb dX5_planted_30 (by decide) ?_
      have eo := Option.some.inj hf
      subst eo
      exact W.iret (v := h_fault_v (0 : Int32).toNatClampNeg) hx hb hr (fun t ht hW => ⟨⟨_, (), rfl, rfl, kq_mk ht hP hD⟩, hS.F ht⟩) hS.2.2 dX5_planted_79
  · have hf := kp_n c2 hf
    refine lv_iconst (v := 1) hx hb dX5_planted_14 (by decide) ?_
    refine lv_goto (tgt := 19) hx hb dX5_planted_15 (by decide) ?_
    refine lv_istore_n (lv' := [(2, .int 1), (0, .ref h), (1, .int p0)]) hx hb dX5_planted_19 rfl hl (by decide) rfl (fun ls hl => ?_)
    refine lv_iload_n hx hb dX5_planted_20 rfl (lv_at hl 2 rfl) ?_
    refine lv_if_ne (tgt := 33) hx hb dX5_planted_21 (by decide) (fun c11 => ?_) (fun c11 => ?_)
    · have hf := kp_n c11 hf
      refine lv_iload_n hx hb dX5_planted_33 rfl (lv_at hl 2 rfl) ?_
      refine lv_iconst (v := 1) hx hb dX5_planted_34 (by decide) ?_
      refine lv_icmp_ne (tgt := 55) hx hb dX5_planted_35 (by decide) (fun c12 => ?_) (fun c12 => ?_)
      · have hf := kp_n c12 hf
        refine lv_iload_n hx hb dX5_planted_55 rfl (lv_at hl 2 rfl) ?_
        refine lv_iconst (v := 2) hx hb dX5_planted_56 (by decide) ?_
        refine lv_icmp_ne (tgt := 77) hx hb dX5_planted_57 (by decide) (fun c13 => ?_) (fun c13 => ?_)
        · have hf := kp_n c13 hf
          refine lv_bipush (v := (-2)) hx hb dX5_planted_77 (by decide) ?_
          have eo := Option.some.inj hf
          subst eo
          exact W.iret (v := (-2)) hx hb hr (fun t ht hW => ⟨⟨_, (), rfl, rfl, kq_mk ht hP hD⟩, hS.F ht⟩) hS.2.2 dX5_planted_79
        · have hf := kp_p c13 hf
          refine lv_iload_n hx hb dX5_planted_60 rfl (lv_at hl 0 rfl) ?_
          refine lv_if_eq (tgt := 73) hx hb dX5_planted_61 (by decide) (fun c14 => ?_) (fun c14 => ?_)
          · have hf := kp_p c14 hf
            refine lv_iconst (v := 0) hx hb dX5_planted_73 (by decide) ?_
            refine lv_goto (tgt := 79) hx hb dX5_planted_74 (by decide) ?_
            have eo := Option.some.inj hf
            subst eo
            exact W.iret (v := 0) hx hb hr (fun t ht hW => ⟨⟨_, (), rfl, rfl, kq_mk ht hP hD⟩, hS.F ht⟩) hS.2.2 dX5_planted_79
          · have hf := kp_n c14 hf
            refine lv_aload_n hx hb dX5_planted_64 rfl (lv_at hl 1 rfl) ?_
            refine lv_iconst (v := 0) hx hb dX5_planted_65 (by decide) ?_
            refine lv_iconst (v := 0) hx hb dX5_planted_66 (by decide) ?_
            obtain ⟨r15, hr15, hf⟩ := kp_b hf
            have hPc := hP.sub (ws' := [(h, .inr (5, [.int 0, .long h_seed, .long h_state, .ref h_many, .ref h_sort, .ref h_x, .ref h_y, .ref h_z, .ref h_fault, .ref h_faultAt, .ref h_left, .int h_lefts, .ref h_stays, .ref h_text, .int h_size])), (h_sort, .inl (cA 0, 120, .inl h_sort_v)), (h_z, .inl (cA 2, 120, .inr (.inl h_z_v))), (h_faultAt, .inl (cA 0, 3, .inl h_faultAt_v)), (h_left, .inl (cA 0, 40, .inl h_left_v))]) [0, 2, 3, 5, 6] rfl
            have hDc := hD.sub (ws' := [(h, .inr (5, [.int 0, .long h_seed, .long h_state, .ref h_many, .ref h_sort, .ref h_x, .ref h_y, .ref h_z, .ref h_fault, .ref h_faultAt, .ref h_left, .int h_lefts, .ref h_stays, .ref h_text, .int h_size])), (h_sort, .inl (cA 0, 120, .inl h_sort_v)), (h_z, .inl (cA 2, 120, .inr (.inl h_z_v))), (h_faultAt, .inl (cA 0, 3, .inl h_faultAt_v)), (h_left, .inl (cA 0, 40, .inl h_left_v))]) [0, 2, 3, 5, 6] (by decide) rfl
            have hFc := va_free (wc := [(h, .inr (5, [.int 0, .long h_seed, .long h_state, .ref h_many, .ref h_sort, .ref h_x, .ref h_y, .ref h_z, .ref h_fault, .ref h_faultAt, .ref h_left, .int h_lefts, .ref h_stays, .ref h_text, .int h_size])), (h_sort, .inl (cA 0, 120, .inl h_sort_v)), (h_z, .inl (cA 2, 120, .inr (.inl h_z_v))), (h_faultAt, .inl (cA 0, 3, .inl h_faultAt_v)), (h_left, .inl (cA 0, 40, .inl h_left_v))]) hD hS hA [0, 2, 3, 5, 6] rfl
            refine va_calli (va_runV (As := [.int 0, .int 0]) (rest := []) ⟨hx, hb, hml, hown, hts⟩ (c_X5_signature l dC dI cA tt h h_sort h_z h_faultAt h_left h_many h_x h_y h_fault h_stays h_text H.size 0 h_seed h_state h_lefts h_size h_sort_v h_z_v h_faultAt_v h_left_v 0 0 r15 hr15) (cwV 2 hts (kq_gV tw_445 tw_447 tw_17 tw_25 tw_448) rfl rfl rfl (by decide +kernel) ⟨Nat.le_of_ble_eq_true rfl, Nat.le_of_ble_eq_true rfl⟩) ⟨kq_blind, va_recv hK hP (ci := 5) (q0 := 0) rfl rfl, kq_pre hG hZ hS hPc hDc hFc⟩ rfl rfl hl.1 rfl (lv_room (Nat.le_of_ble_eq_true rfl)) dX5_planted_67 ⟨Nat.le_of_ble_eq_true rfl, Nat.le_of_ble_eq_true rfl⟩) hS (fun q _ h => hFc q h) hFc (fun rv u t H1 locs ht hvm hw hB hz1 hk1 hS => ?_)
            obtain ⟨hP1, hD1⟩ := hB
            rw [ht] at hP1
            have hw := hw.symm
            subst hw
            obtain ⟨hP, hD⟩ := va_join (wr := [(h_many, .inl (cA 0, 3, .inl h_many_v)), (h_fault, .inl (cA 0, 3, .inl h_fault_v))]) (w1 := [(h, .inr (5, [.int 0, .long h_seed, .long h_state, .ref h_many, .ref h_sort, .ref h_x, .ref h_y, .ref h_z, .ref h_fault, .ref h_faultAt, .ref h_left, .int h_lefts, .ref h_stays, .ref h_text, .int h_size])), (h_sort, .inl (cA 0, 120, .inl h_sort_v)), (h_z, .inl (cA 2, 120, .inr (.inl h_z_v))), (h_faultAt, .inl (cA 0, 3, .inl h_faultAt_v)), (h_left, .inl (cA 0, 40, .inl h_left_v))]) hP hD [0, 2, 3, 5, 6] [1, 4] rfl rfl (by decide) (by decide) hk1 hFc hP1 hD1
            have hP : va_P (dC, dI) vwCl [(h, .inr (5, [.int 0, .long h_seed, .long h_state, .ref h_many, .ref h_sort, .ref h_x, .ref h_y, .ref h_z, .ref h_fault, .ref h_faultAt, .ref h_left, .int h_lefts, .ref h_stays, .ref h_text, .int h_size])), (h_many, .inl (cA 0, 3, .inl h_many_v)), (h_sort, .inl (cA 0, 120, .inl h_sort_v)), (h_z, .inl (cA 2, 120, .inr (.inl h_z_v))), (h_fault, .inl (cA 0, 3, .inl h_fault_v)), (h_faultAt, .inl (cA 0, 3, .inl h_faultAt_v)), (h_left, .inl (cA 0, 40, .inl h_left_v))] H1 := hP.sub [2, 0, 3, 4, 1, 5, 6] rfl
            have hD : va_D A [(h, .inr (5, [.int 0, .long h_seed, .long h_state, .ref h_many, .ref h_sort, .ref h_x, .ref h_y, .ref h_z, .ref h_fault, .ref h_faultAt, .ref h_left, .int h_lefts, .ref h_stays, .ref h_text, .int h_size])), (h_many, .inl (cA 0, 3, .inl h_many_v)), (h_sort, .inl (cA 0, 120, .inl h_sort_v)), (h_z, .inl (cA 2, 120, .inr (.inl h_z_v))), (h_fault, .inl (cA 0, 3, .inl h_fault_v)), (h_faultAt, .inl (cA 0, 3, .inl h_faultAt_v)), (h_left, .inl (cA 0, 40, .inl h_left_v))] := hD.sub [2, 0, 3, 4, 1, 5, 6] (by decide) rfl
            generalize H1 = H at hP hS ⊢
            refine lv_goto (tgt := 79) hx hb dX5_planted_70 (by decide) ?_
            have eo := Option.some.inj hf
            subst eo
            exact W.iret (v := r15) hx hb hr (fun t ht hW => ⟨⟨_, (), rfl, rfl, kq_mk ht hP hD⟩, hS.F ht⟩) hS.2.2 dX5_planted_79
      · have hf := kp_p c12 hf
        refine lv_iload_n hx hb dX5_planted_38 rfl (lv_at hl 0 rfl) ?_
        refine lv_if_eq (tgt := 51) hx hb dX5_planted_39 (by decide) (fun c16 => ?_) (fun c16 => ?_)
        · have hf := kp_p c16 hf
          refine lv_iconst (v := (-1)) hx hb dX5_planted_51 (by decide) ?_
          refine lv_goto (tgt := 79) hx hb dX5_planted_52 (by decide) ?_
          have eo := Option.some.inj hf
          subst eo
          exact W.iret (v := (-1)) hx hb hr (fun t ht hW => ⟨⟨_, (), rfl, rfl, kq_mk ht hP hD⟩, hS.F ht⟩) hS.2.2 dX5_planted_79
        · have hf := kp_n c16 hf
          refine lv_aload_n hx hb dX5_planted_42 rfl (lv_at hl 1 rfl) ?_
          refine va_get (D := (dC, dI)) (ci := 5) (v := .ref h_faultAt) (C := RX5) (T := TX5) (N := 15) hx hb hts iwX5 hown hK hP 0 rfl rfl 9 (by decide) (hts _ tw_344) (fun _ h9 => h9) rfl dX5_planted_43 ?_
          refine lv_iconst (v := 0) hx hb dX5_planted_46 (by decide) ?_
          refine va_iald hx hb hK hP 5 0 rfl rfl (show ¬ ((0 : Int32) < 0 ∨ 3 ≤ (0 : Int32).toNatClampNeg) by decide) dX5_planted_47 ?_
          refine lv_goto (tgt := 79) hx hb dX5_planted_48 (by decide) ?_
          have eo := Option.some.inj hf
          subst eo
          exact W.iret (v := h_faultAt_v (0 : Int32).toNatClampNeg) hx hb hr (fun t ht hW => ⟨⟨_, (), rfl, rfl, kq_mk ht hP hD⟩, hS.F ht⟩) hS.2.2 dX5_planted_79
    · have hf := kp_p c11 hf
      refine lv_aload_n hx hb dX5_planted_24 rfl (lv_at hl 1 rfl) ?_
      refine va_get (D := (dC, dI)) (ci := 5) (v := .ref h_fault) (C := RX5) (T := TX5) (N := 15) hx hb hts iwX5 hown hK hP 0 rfl rfl 8 (by decide) (hts _ tw_343) (fun _ h9 => h9) rfl dX5_planted_25 ?_
      refine lv_iconst (v := 0) hx hb dX5_planted_28 (by decide) ?_
      refine va_iald hx hb hK hP 4 0 rfl rfl (show ¬ ((0 : Int32) < 0 ∨ 3 ≤ (0 : Int32).toNatClampNeg) by decide) dX5_planted_29 ?_
      refine lv_goto (tgt := 79) hx hb dX5_planted_30 (by decide) ?_
      have eo := Option.some.inj hf
      subst eo
      exact W.iret (v := h_fault_v (0 : Int32).toNatClampNeg) hx hb hr (fun t ht hW => ⟨⟨_, (), rfl, rfl, kq_mk ht hP hD⟩, hS.F ht⟩) hS.2.2 dX5_planted_79

def f_X5_verdict (h_code : Int32) (h_stays_v : Nat → Int32) (p0 : Int32) (p1 : Int32) : Option (Int32 × (Nat → Int32)) :=
    (if p0 < 0 then
    some ((0, h_stays_v))
    else
    (if 64 ≤ p0 then
    some ((0, h_stays_v))
    else
    if p0 < 0 ∨ 64 ≤ p0.toNatClampNeg then none else
    some ((0, upd h_stays_v p0.toNatClampNeg (vp_nar .boolean p1)))))
set_option maxHeartbeats 4000000 in
set_option maxRecDepth 100000 in
theorem c_X5_verdict (l : Launch) (dC : Nat → ClassId) (dI : Nat → Nat → Nat) (cA : Nat → ClassId) (tt : Nat → Nat) (h h_stays h_many h_sort h_x h_y h_z h_fault h_faultAt h_left h_text : Nat) (sz : Nat) (h_code : Int32) (h_seed : Int64) (h_state : Int64) (h_lefts : Int32) (h_size : Int32) (h_stays_v : Nat → Int32) (p0 : Int32) (p1 : Int32) (o : Int32 × (Nat → Int32)) (hf : f_X5_verdict h_code h_stays_v p0 p1 = some o) : Met l yX5_verdict wX5_verdict ({ frames := 0, cells := 0, slots := 0, locals := 0 }) (kq_Pc dC dI cA tt [.ref h, .int p0, .int p1] [(h, .inr (5, [.int h_code, .long h_seed, .long h_state, .ref h_many, .ref h_sort, .ref h_x, .ref h_y, .ref h_z, .ref h_fault, .ref h_faultAt, .ref h_left, .int h_lefts, .ref h_stays, .ref h_text, .int h_size])), (h_stays, .inl (cA 1, 64, .inl h_stays_v))] sz) (va_Qv (fun _ : Unit => True) (fun _ t => kq_B dC dI [(h, .inr (5, [.int o.1, .long h_seed, .long h_state, .ref h_many, .ref h_sort, .ref h_x, .ref h_y, .ref h_z, .ref h_fault, .ref h_faultAt, .ref h_left, .int h_lefts, .ref h_stays, .ref h_text, .int h_size])), (h_stays, .inl (cA 1, 64, .inl o.2))] (va_A [(h, .inr (5, [.int h_code, .long h_seed, .long h_state, .ref h_many, .ref h_sort, .ref h_x, .ref h_y, .ref h_z, .ref h_fault, .ref h_faultAt, .ref h_left, .int h_lefts, .ref h_stays, .ref h_text, .int h_size])), (h_stays, .inl (cA 1, 64, .inl h_stays_v))] sz) t) (va_A [(h, .inr (5, [.int h_code, .long h_seed, .long h_state, .ref h_many, .ref h_sort, .ref h_x, .ref h_y, .ref h_z, .ref h_fault, .ref h_faultAt, .ref h_left, .int h_lefts, .ref h_stays, .ref h_text, .int h_size])), (h_stays, .inl (cA 1, 64, .inl h_stays_v))] sz)) 0 0 (va_A [(h, .inr (5, [.int h_code, .long h_seed, .long h_state, .ref h_many, .ref h_sort, .ref h_x, .ref h_y, .ref h_z, .ref h_fault, .ref h_faultAt, .ref h_left, .int h_lefts, .ref h_stays, .ref h_text, .int h_size])), (h_stays, .inl (cA 1, 64, .inl h_stays_v))] sz) := by
  refine Met.ofW (cc := cX5_verdict) (maxL := 3) (ret := none) (by decide) rfl ?_
  intro p e s m args below meth c s₁ B hml hv
  obtain ⟨rfl, hsz, hP, hD0, hG, hZ⟩ := hv
  have hx := B.exec
  have hb := B.bytes
  have hr := B.returns
  have hts : ∀ w ∈ kq_T, w.before _ s = true := fun w h => atoms_spec (ws := wX5_verdict) B.pre w (List.mem_cons_of_mem _ h)
  have hown : s.vm.findClass RX5 = some m.cls := findClass_of_methodNamed B.named
  have hlocks := B.notSynchronized
  have hK := hG.1
  subst hsz
  have hD := hD0.self (sz := s.heap.size)
  generalize hAe : va_A [(h, .inr (5, [.int h_code, .long h_seed, .long h_state, .ref h_many, .ref h_sort, .ref h_x, .ref h_y, .ref h_z, .ref h_fault, .ref h_faultAt, .ref h_left, .int h_lefts, .ref h_stays, .ref h_text, .int h_size])), (h_stays, .inl (cA 1, 64, .inl h_stays_v))] s.heap.size = A at hD hZ ⊢
  have hA : ∀ q : Nat, s.heap.size ≤ q → A q := fun q h => by rw [← hAe]; exact Or.inr h
  have hl := lv_entry [.ref h, .int p0, .int p1] (n := 3) (Nat.le_of_ble_eq_true rfl)
  rw [lg_entry_eq]
  generalize (lg_sl [.ref h, .int p0, .int p1] ++ List.replicate (3 - (lg_sl [.ref h, .int p0, .int p1]).length) Slot.unset).toArray = ls at hl ⊢
  have hl : lv_has ls 3 [(0, .ref h), (1, .int p0), (2, .int p1)] := hl
  obtain ⟨H, hHe⟩ : ∃ H : Heap, H = s.heap := ⟨_, rfl⟩
  have hP : va_P (dC, dI) vwCl [(h, .inr (5, [.int h_code, .long h_seed, .long h_state, .ref h_many, .ref h_sort, .ref h_x, .ref h_y, .ref h_z, .ref h_fault, .ref h_faultAt, .ref h_left, .int h_lefts, .ref h_stays, .ref h_text, .int h_size])), (h_stays, .inl (cA 1, 64, .inl h_stays_v))] H := by rw [hHe]; exact hP
  have hS : va_S A s.heap H [] := by rw [hHe]; exact va_S.rf
  rw [← hHe]
  unfold f_X5_verdict at hf
  refine lv_aload_n hx hb dX5_verdict_0 rfl (lv_at hl 0 rfl) ?_
  refine lv_iconst (v := 0) hx hb dX5_verdict_1 (by decide) ?_
  refine va_put (D := (dC, dI)) (ci := 5) (v := .int 0) (ty := (.int)) (C := RX5) (T := TX5) (N := 15) hx hb hts iwX5 tyX5 tyX5_ok nmX5 hown hK hP hD hS 0 rfl rfl 0 (by decide) (hts _ tw_335) (fun _ h9 => h9) rfl (by decide +kernel) rfl rfl (Nat.le_of_ble_eq_true rfl) dX5_verdict_2 (fun H locs hP hD hS => ?_)
  have hP : va_P (dC, dI) vwCl [(h, .inr (5, [.int 0, .long h_seed, .long h_state, .ref h_many, .ref h_sort, .ref h_x, .ref h_y, .ref h_z, .ref h_fault, .ref h_faultAt, .ref h_left, .int h_lefts, .ref h_stays, .ref h_text, .int h_size])), (h_stays, .inl (cA 1, 64, .inl h_stays_v))] H := hP
  have hD : va_D A [(h, .inr (5, [.int 0, .long h_seed, .long h_state, .ref h_many, .ref h_sort, .ref h_x, .ref h_y, .ref h_z, .ref h_fault, .ref h_faultAt, .ref h_left, .int h_lefts, .ref h_stays, .ref h_text, .int h_size])), (h_stays, .inl (cA 1, 64, .inl h_stays_v))] := hD
  refine lv_iload_n hx hb dX5_verdict_5 rfl (lv_at hl 1 rfl) ?_
  refine lv_if_lt (tgt := 22) hx hb dX5_verdict_6 (by decide) (fun c1 => ?_) (fun c1 => ?_)
  · have hf := kp_p c1 hf
    have eo := Option.some.inj hf
    subst eo
    exact W.vret hx hb hr (fun t ht hW => ⟨⟨(), rfl, trivial, kq_mk ht hP hD⟩, hS.F ht⟩) hS.2.2 dX5_verdict_22
  · have hf := kp_n c1 hf
    refine lv_iload_n hx hb dX5_verdict_9 rfl (lv_at hl 1 rfl) ?_
    refine lv_bipush (v := 64) hx hb dX5_verdict_10 (by decide) ?_
    refine lv_icmp_ge (tgt := 22) hx hb dX5_verdict_12 (by decide) (fun c2 => ?_) (fun c2 => ?_)
    · have hf := kp_p c2 hf
      have eo := Option.some.inj hf
      subst eo
      exact W.vret hx hb hr (fun t ht hW => ⟨⟨(), rfl, trivial, kq_mk ht hP hD⟩, hS.F ht⟩) hS.2.2 dX5_verdict_22
    · have hf := kp_n c2 hf
      refine lv_aload_n hx hb dX5_verdict_15 rfl (lv_at hl 0 rfl) ?_
      refine va_get (D := (dC, dI)) (ci := 5) (v := .ref h_stays) (C := RX5) (T := TX5) (N := 15) hx hb hts iwX5 hown hK hP 0 rfl rfl 12 (by decide) (hts _ tw_347) (fun _ h9 => h9) rfl dX5_verdict_16 ?_
      refine lv_iload_n hx hb dX5_verdict_19 rfl (lv_at hl 1 rfl) ?_
      refine lv_iload_n hx hb dX5_verdict_20 rfl (lv_at hl 2 rfl) ?_
      obtain ⟨hq3, hf⟩ := kp_t hf
      refine va_zast hx hb hK hP hD hS 1 1 rfl rfl hq3 dX5_verdict_21 (fun H locs hP hD hS => ?_)
      have hP : va_P (dC, dI) vwCl [(h, .inr (5, [.int 0, .long h_seed, .long h_state, .ref h_many, .ref h_sort, .ref h_x, .ref h_y, .ref h_z, .ref h_fault, .ref h_faultAt, .ref h_left, .int h_lefts, .ref h_stays, .ref h_text, .int h_size])), (h_stays, .inl (cA 1, 64, .inl (upd h_stays_v p0.toNatClampNeg (vp_nar .boolean p1))))] H := hP
      have hD : va_D A [(h, .inr (5, [.int 0, .long h_seed, .long h_state, .ref h_many, .ref h_sort, .ref h_x, .ref h_y, .ref h_z, .ref h_fault, .ref h_faultAt, .ref h_left, .int h_lefts, .ref h_stays, .ref h_text, .int h_size])), (h_stays, .inl (cA 1, 64, .inl (upd h_stays_v p0.toNatClampNeg (vp_nar .boolean p1))))] := hD
      have eo := Option.some.inj hf
      subst eo
      exact W.vret hx hb hr (fun t ht hW => ⟨⟨(), rfl, trivial, kq_mk ht hP hD⟩, hS.F ht⟩) hS.2.2 dX5_verdict_22

def f_X5_pass_L61 (h_sort_v : Nat → Int32) (h_z_v : Nat → Int64) (h_faultAt_v : Nat → Int32) (h_stays_v : Nat → Int32) (p0 : Int32) : Nat → Int32 → (Nat → Int32) → Int32 → Int32 → Int32 → Option (Int32 × (Nat → Int32) × Int32 × Int32)
  | 0, _, _, _, _, _ => none
  | n61 + 1, h_lefts, h_left_v, v3, v4, v5 =>
    (if (h_lefts - v4) ≤ v5 then
    some ((h_lefts, h_left_v, v3, v4))
    else
    if (v5 + v4) < 0 ∨ 40 ≤ (v5 + v4).toNatClampNeg then none else
    if v5 < 0 ∨ 40 ≤ v5.toNatClampNeg then none else
    f_X5_pass_L61 h_sort_v h_z_v h_faultAt_v h_stays_v p0 n61 h_lefts (upd h_left_v v5.toNatClampNeg (h_left_v (v5 + v4).toNatClampNeg)) v3 v4 (v5 + 1))
theorem e_X5_pass_L61 (h_sort_v : Nat → Int32) (h_z_v : Nat → Int64) (h_faultAt_v : Nat → Int32) (h_stays_v : Nat → Int32) (p0 : Int32) (n61 : Nat) (h_lefts : Int32) (h_left_v : Nat → Int32) (v3 : Int32) (v4 : Int32) (v5 : Int32) : f_X5_pass_L61 h_sort_v h_z_v h_faultAt_v h_stays_v p0 (n61 + 1) h_lefts h_left_v v3 v4 v5 =
    ((if (h_lefts - v4) ≤ v5 then
    some ((h_lefts, h_left_v, v3, v4))
    else
    if (v5 + v4) < 0 ∨ 40 ≤ (v5 + v4).toNatClampNeg then none else
    if v5 < 0 ∨ 40 ≤ v5.toNatClampNeg then none else
    f_X5_pass_L61 h_sort_v h_z_v h_faultAt_v h_stays_v p0 n61 h_lefts (upd h_left_v v5.toNatClampNeg (h_left_v (v5 + v4).toNatClampNeg)) v3 v4 (v5 + 1))) := rfl
def f_X5_pass_L4 (h_sort_v : Nat → Int32) (h_z_v : Nat → Int64) (h_faultAt_v : Nat → Int32) (h_stays_v : Nat → Int32) (p0 : Int32) : Nat → Int32 → (Nat → Int32) → Int32 → Int32 → Option (Int32 × Int32 × (Nat → Int32))
  | 0, _, _, _, _ => none
  | n4 + 1, h_lefts, h_left_v, v2, v3 =>
    (if h_lefts ≤ v3 then
    if ¬ (v2 = 0 ∨ v2 = 1) then none else
    some ((v2, h_lefts, h_left_v))
    else
    (if p0 ≤ (h_lefts - v3) then
    (if h_lefts ≤ p0 then
    f_X5_pass_L4 h_sort_v h_z_v h_faultAt_v h_stays_v p0 n4 h_lefts h_left_v v2 (v3 + p0)
    else
    (f_X5_signature h_lefts h_sort_v h_z_v h_faultAt_v h_left_v v3 p0).bind fun r5005 =>
    if r5005 < 0 ∨ 64 ≤ r5005.toNatClampNeg then none else
    (if (h_stays_v r5005.toNatClampNeg) = 0 then
    f_X5_pass_L4 h_sort_v h_z_v h_faultAt_v h_stays_v p0 n4 h_lefts h_left_v v2 (v3 + p0)
    else
    (f_X5_pass_L61 h_sort_v h_z_v h_faultAt_v h_stays_v p0 64 h_lefts h_left_v v3 p0 v3).bind fun r5008 =>
    f_X5_pass_L4 h_sort_v h_z_v h_faultAt_v h_stays_v p0 n4 (r5008.1 - r5008.2.2.2) r5008.2.1 1 r5008.2.2.1))
    else
    (if h_lefts ≤ (h_lefts - v3) then
    f_X5_pass_L4 h_sort_v h_z_v h_faultAt_v h_stays_v p0 n4 h_lefts h_left_v v2 (v3 + (h_lefts - v3))
    else
    (f_X5_signature h_lefts h_sort_v h_z_v h_faultAt_v h_left_v v3 (h_lefts - v3)).bind fun r5010 =>
    if r5010 < 0 ∨ 64 ≤ r5010.toNatClampNeg then none else
    (if (h_stays_v r5010.toNatClampNeg) = 0 then
    f_X5_pass_L4 h_sort_v h_z_v h_faultAt_v h_stays_v p0 n4 h_lefts h_left_v v2 (v3 + (h_lefts - v3))
    else
    (f_X5_pass_L61 h_sort_v h_z_v h_faultAt_v h_stays_v p0 64 h_lefts h_left_v v3 (h_lefts - v3) v3).bind fun r5013 =>
    f_X5_pass_L4 h_sort_v h_z_v h_faultAt_v h_stays_v p0 n4 (r5013.1 - r5013.2.2.2) r5013.2.1 1 r5013.2.2.1))))
theorem e_X5_pass_L4 (h_sort_v : Nat → Int32) (h_z_v : Nat → Int64) (h_faultAt_v : Nat → Int32) (h_stays_v : Nat → Int32) (p0 : Int32) (n4 : Nat) (h_lefts : Int32) (h_left_v : Nat → Int32) (v2 : Int32) (v3 : Int32) : f_X5_pass_L4 h_sort_v h_z_v h_faultAt_v h_stays_v p0 (n4 + 1) h_lefts h_left_v v2 v3 =
    ((if h_lefts ≤ v3 then
    if ¬ (v2 = 0 ∨ v2 = 1) then none else
    some ((v2, h_lefts, h_left_v))
    else
    (if p0 ≤ (h_lefts - v3) then
    (if h_lefts ≤ p0 then
    f_X5_pass_L4 h_sort_v h_z_v h_faultAt_v h_stays_v p0 n4 h_lefts h_left_v v2 (v3 + p0)
    else
    (f_X5_signature h_lefts h_sort_v h_z_v h_faultAt_v h_left_v v3 p0).bind fun r5005 =>
    if r5005 < 0 ∨ 64 ≤ r5005.toNatClampNeg then none else
    (if (h_stays_v r5005.toNatClampNeg) = 0 then
    f_X5_pass_L4 h_sort_v h_z_v h_faultAt_v h_stays_v p0 n4 h_lefts h_left_v v2 (v3 + p0)
    else
    (f_X5_pass_L61 h_sort_v h_z_v h_faultAt_v h_stays_v p0 64 h_lefts h_left_v v3 p0 v3).bind fun r5008 =>
    f_X5_pass_L4 h_sort_v h_z_v h_faultAt_v h_stays_v p0 n4 (r5008.1 - r5008.2.2.2) r5008.2.1 1 r5008.2.2.1))
    else
    (if h_lefts ≤ (h_lefts - v3) then
    f_X5_pass_L4 h_sort_v h_z_v h_faultAt_v h_stays_v p0 n4 h_lefts h_left_v v2 (v3 + (h_lefts - v3))
    else
    (f_X5_signature h_lefts h_sort_v h_z_v h_faultAt_v h_left_v v3 (h_lefts - v3)).bind fun r5010 =>
    if r5010 < 0 ∨ 64 ≤ r5010.toNatClampNeg then none else
    (if (h_stays_v r5010.toNatClampNeg) = 0 then
    f_X5_pass_L4 h_sort_v h_z_v h_faultAt_v h_stays_v p0 n4 h_lefts h_left_v v2 (v3 + (h_lefts - v3))
    else
    (f_X5_pass_L61 h_sort_v h_z_v h_faultAt_v h_stays_v p0 64 h_lefts h_left_v v3 (h_lefts - v3) v3).bind fun r5013 =>
    f_X5_pass_L4 h_sort_v h_z_v h_faultAt_v h_stays_v p0 n4 (r5013.1 - r5013.2.2.2) r5013.2.1 1 r5013.2.2.1))))) := rfl
def f_X5_pass (h_lefts : Int32) (h_sort_v : Nat → Int32) (h_z_v : Nat → Int64) (h_faultAt_v : Nat → Int32) (h_left_v : Nat → Int32) (h_stays_v : Nat → Int32) (p0 : Int32) : Option (Int32 × Int32 × (Nat → Int32)) :=
    f_X5_pass_L4 h_sort_v h_z_v h_faultAt_v h_stays_v p0 64 h_lefts h_left_v 0 0
set_option maxHeartbeats 4000000 in
set_option maxRecDepth 100000 in
theorem c_X5_pass (l : Launch) (dC : Nat → ClassId) (dI : Nat → Nat → Nat) (cA : Nat → ClassId) (tt : Nat → Nat) (h h_sort h_z h_faultAt h_left h_stays h_many h_x h_y h_fault h_text : Nat) (sz : Nat) (h_code : Int32) (h_seed : Int64) (h_state : Int64) (h_lefts : Int32) (h_size : Int32) (h_sort_v : Nat → Int32) (h_z_v : Nat → Int64) (h_faultAt_v : Nat → Int32) (h_left_v : Nat → Int32) (h_stays_v : Nat → Int32) (p0 : Int32) (o : Int32 × Int32 × (Nat → Int32)) (hf : f_X5_pass h_lefts h_sort_v h_z_v h_faultAt_v h_left_v h_stays_v p0 = some o) : Met l yX5_pass wX5_pass ({ frames := 1, cells := 0, slots := 0, locals := 27 }) (kq_Pc dC dI cA tt [.ref h, .int p0] [(h, .inr (5, [.int h_code, .long h_seed, .long h_state, .ref h_many, .ref h_sort, .ref h_x, .ref h_y, .ref h_z, .ref h_fault, .ref h_faultAt, .ref h_left, .int h_lefts, .ref h_stays, .ref h_text, .int h_size])), (h_sort, .inl (cA 0, 120, .inl h_sort_v)), (h_z, .inl (cA 2, 120, .inr (.inl h_z_v))), (h_faultAt, .inl (cA 0, 3, .inl h_faultAt_v)), (h_left, .inl (cA 0, 40, .inl h_left_v)), (h_stays, .inl (cA 1, 64, .inl h_stays_v))] sz) (va_Qi (fun r (_ : Unit) => r = o.1) (fun _ t => kq_B dC dI [(h, .inr (5, [.int h_code, .long h_seed, .long h_state, .ref h_many, .ref h_sort, .ref h_x, .ref h_y, .ref h_z, .ref h_fault, .ref h_faultAt, .ref h_left, .int o.2.1, .ref h_stays, .ref h_text, .int h_size])), (h_sort, .inl (cA 0, 120, .inl h_sort_v)), (h_z, .inl (cA 2, 120, .inr (.inl h_z_v))), (h_faultAt, .inl (cA 0, 3, .inl h_faultAt_v)), (h_left, .inl (cA 0, 40, .inl o.2.2)), (h_stays, .inl (cA 1, 64, .inl h_stays_v))] (va_A [(h, .inr (5, [.int h_code, .long h_seed, .long h_state, .ref h_many, .ref h_sort, .ref h_x, .ref h_y, .ref h_z, .ref h_fault, .ref h_faultAt, .ref h_left, .int h_lefts, .ref h_stays, .ref h_text, .int h_size])), (h_sort, .inl (cA 0, 120, .inl h_sort_v)), (h_z, .inl (cA 2, 120, .inr (.inl h_z_v))), (h_faultAt, .inl (cA 0, 3, .inl h_faultAt_v)), (h_left, .inl (cA 0, 40, .inl h_left_v)), (h_stays, .inl (cA 1, 64, .inl h_stays_v))] sz) t) (va_A [(h, .inr (5, [.int h_code, .long h_seed, .long h_state, .ref h_many, .ref h_sort, .ref h_x, .ref h_y, .ref h_z, .ref h_fault, .ref h_faultAt, .ref h_left, .int h_lefts, .ref h_stays, .ref h_text, .int h_size])), (h_sort, .inl (cA 0, 120, .inl h_sort_v)), (h_z, .inl (cA 2, 120, .inr (.inl h_z_v))), (h_faultAt, .inl (cA 0, 3, .inl h_faultAt_v)), (h_left, .inl (cA 0, 40, .inl h_left_v)), (h_stays, .inl (cA 1, 64, .inl h_stays_v))] sz)) 0 0 (va_A [(h, .inr (5, [.int h_code, .long h_seed, .long h_state, .ref h_many, .ref h_sort, .ref h_x, .ref h_y, .ref h_z, .ref h_fault, .ref h_faultAt, .ref h_left, .int h_lefts, .ref h_stays, .ref h_text, .int h_size])), (h_sort, .inl (cA 0, 120, .inl h_sort_v)), (h_z, .inl (cA 2, 120, .inr (.inl h_z_v))), (h_faultAt, .inl (cA 0, 3, .inl h_faultAt_v)), (h_left, .inl (cA 0, 40, .inl h_left_v)), (h_stays, .inl (cA 1, 64, .inl h_stays_v))] sz) := by
  refine Met.ofW (cc := cX5_pass) (maxL := 6) (ret := (some .boolean)) (by decide) rfl ?_
  intro p e s m args below meth c s₁ B hml hv
  obtain ⟨rfl, hsz, hP, hD0, hG, hZ⟩ := hv
  have hx := B.exec
  have hb := B.bytes
  have hr := B.returns
  have hts : ∀ w ∈ kq_T, w.before _ s = true := fun w h => atoms_spec (ws := wX5_pass) B.pre w (List.mem_cons_of_mem _ h)
  have hown : s.vm.findClass RX5 = some m.cls := findClass_of_methodNamed B.named
  have hlocks := B.notSynchronized
  have hK := hG.1
  subst hsz
  have hD := hD0.self (sz := s.heap.size)
  generalize hAe : va_A [(h, .inr (5, [.int h_code, .long h_seed, .long h_state, .ref h_many, .ref h_sort, .ref h_x, .ref h_y, .ref h_z, .ref h_fault, .ref h_faultAt, .ref h_left, .int h_lefts, .ref h_stays, .ref h_text, .int h_size])), (h_sort, .inl (cA 0, 120, .inl h_sort_v)), (h_z, .inl (cA 2, 120, .inr (.inl h_z_v))), (h_faultAt, .inl (cA 0, 3, .inl h_faultAt_v)), (h_left, .inl (cA 0, 40, .inl h_left_v)), (h_stays, .inl (cA 1, 64, .inl h_stays_v))] s.heap.size = A at hD hZ ⊢
  have hA : ∀ q : Nat, s.heap.size ≤ q → A q := fun q h => by rw [← hAe]; exact Or.inr h
  have hl := lv_entry [.ref h, .int p0] (n := 6) (Nat.le_of_ble_eq_true rfl)
  rw [lg_entry_eq]
  generalize (lg_sl [.ref h, .int p0] ++ List.replicate (6 - (lg_sl [.ref h, .int p0]).length) Slot.unset).toArray = ls at hl ⊢
  have hl : lv_has ls 6 [(0, .ref h), (1, .int p0)] := hl
  obtain ⟨H, hHe⟩ : ∃ H : Heap, H = s.heap := ⟨_, rfl⟩
  have hP : va_P (dC, dI) vwCl [(h, .inr (5, [.int h_code, .long h_seed, .long h_state, .ref h_many, .ref h_sort, .ref h_x, .ref h_y, .ref h_z, .ref h_fault, .ref h_faultAt, .ref h_left, .int h_lefts, .ref h_stays, .ref h_text, .int h_size])), (h_sort, .inl (cA 0, 120, .inl h_sort_v)), (h_z, .inl (cA 2, 120, .inr (.inl h_z_v))), (h_faultAt, .inl (cA 0, 3, .inl h_faultAt_v)), (h_left, .inl (cA 0, 40, .inl h_left_v)), (h_stays, .inl (cA 1, 64, .inl h_stays_v))] H := by rw [hHe]; exact hP
  have hS : va_S A s.heap H [] := by rw [hHe]; exact va_S.rf
  rw [← hHe]
  unfold f_X5_pass at hf
  refine lv_iconst (v := 0) hx hb dX5_pass_0 (by decide) ?_
  refine lv_istore_n (lv' := [(2, .int 0), (0, .ref h), (1, .int p0)]) hx hb dX5_pass_1 rfl hl (by decide) rfl (fun ls hl => ?_)
  refine lv_iconst (v := 0) hx hb dX5_pass_2 (by decide) ?_
  refine lv_istore_n (lv' := [(3, .int 0), (2, .int 0), (0, .ref h), (1, .int p0)]) hx hb dX5_pass_3 rfl hl (by decide) rfl (fun ls hl => ?_)
  refine kq_ind (fun n H locs g => ∃ (h_lefts : Int32) (h_left_v : Nat → Int32) (v2 : Int32) (v3 : Int32) (ls : Array Slot), g = F0 m 4 ls [] ∧ lv_has ls 6 [(0, .ref h), (1, .int p0), (2, .int v2), (3, .int v3)] ∧ va_P (dC, dI) vwCl [(h, .inr (5, [.int h_code, .long h_seed, .long h_state, .ref h_many, .ref h_sort, .ref h_x, .ref h_y, .ref h_z, .ref h_fault, .ref h_faultAt, .ref h_left, .int h_lefts, .ref h_stays, .ref h_text, .int h_size])), (h_sort, .inl (cA 0, 120, .inl h_sort_v)), (h_z, .inl (cA 2, 120, .inr (.inl h_z_v))), (h_faultAt, .inl (cA 0, 3, .inl h_faultAt_v)), (h_left, .inl (cA 0, 40, .inl h_left_v)), (h_stays, .inl (cA 1, 64, .inl h_stays_v))] H ∧ va_D A [(h, .inr (5, [.int h_code, .long h_seed, .long h_state, .ref h_many, .ref h_sort, .ref h_x, .ref h_y, .ref h_z, .ref h_fault, .ref h_faultAt, .ref h_left, .int h_lefts, .ref h_stays, .ref h_text, .int h_size])), (h_sort, .inl (cA 0, 120, .inl h_sort_v)), (h_z, .inl (cA 2, 120, .inr (.inl h_z_v))), (h_faultAt, .inl (cA 0, 3, .inl h_faultAt_v)), (h_left, .inl (cA 0, 40, .inl h_left_v)), (h_stays, .inl (cA 1, 64, .inl h_stays_v))] ∧ va_S A s.heap H locs ∧ f_X5_pass_L4 h_sort_v h_z_v h_faultAt_v h_stays_v p0 n h_lefts h_left_v v2 v3 = some o) (fun H locs g h => ?_) (fun n4 ih4 H locs g h => ?_) 64 _ _ _ ⟨h_lefts, h_left_v, 0, 0, ls, rfl, lv_sub hl [2, 3, 1, 0] rfl, hP, hD, hS, hf⟩
  · obtain ⟨h_lefts, h_left_v, v2, v3, ls, -, -, -, -, -, hf⟩ := h
    have hf : (none : Option (Int32 × Int32 × (Nat → Int32))) = some o := hf
    cases hf
  · obtain ⟨h_lefts, h_left_v, v2, v3, ls, rfl, hl, hP, hD, hS, hf⟩ := h
    have hf := (e_X5_pass_L4 h_sort_v h_z_v h_faultAt_v h_stays_v p0 n4 h_lefts h_left_v v2 v3).symm.trans hf
    refine lv_iload_n hx hb dX5_pass_4 rfl (lv_at hl 3 rfl) ?_
    refine lv_aload_n hx hb dX5_pass_5 rfl (lv_at hl 0 rfl) ?_
    refine va_get (D := (dC, dI)) (ci := 5) (v := .int h_lefts) (C := RX5) (T := TX5) (N := 15) hx hb hts iwX5 hown hK hP 0 rfl rfl 11 (by decide) (hts _ tw_346) (fun _ h9 => h9) rfl dX5_pass_6 ?_
    refine lv_icmp_ge (tgt := 120) hx hb dX5_pass_9 (by decide) (fun c5001 => ?_) (fun c5001 => ?_)
    · have hf := kp_p c5001 hf
      refine lv_iload_n hx hb dX5_pass_120 rfl (lv_at hl 2 rfl) ?_
      obtain ⟨hq5002, hf⟩ := kp_t hf
      have eo := Option.some.inj hf
      subst eo
      exact W.zret (v := v2) hx hb hr (kq_z hq5002) (fun t ht hW => ⟨⟨_, (), rfl, rfl, kq_mk ht hP hD⟩, hS.F ht⟩) hS.2.2 dX5_pass_121
    · have hf := kp_n c5001 hf
      refine lv_aload_n hx hb dX5_pass_12 rfl (lv_at hl 0 rfl) ?_
      refine va_get (D := (dC, dI)) (ci := 5) (v := .int h_lefts) (C := RX5) (T := TX5) (N := 15) hx hb hts iwX5 hown hK hP 0 rfl rfl 11 (by decide) (hts _ tw_346) (fun _ h9 => h9) rfl dX5_pass_13 ?_
      refine lv_iload_n hx hb dX5_pass_16 rfl (lv_at hl 3 rfl) ?_
      refine lv_isub hx hb dX5_pass_17 ?_
      refine lv_iload_n hx hb dX5_pass_18 rfl (lv_at hl 1 rfl) ?_
      refine lv_icmp_ge (tgt := 31) hx hb dX5_pass_19 (by decide) (fun c5003 => ?_) (fun c5003 => ?_)
      · have hf := kp_p c5003 hf
        refine lv_iload_n hx hb dX5_pass_31 rfl (lv_at hl 1 rfl) ?_
        refine lv_istore (lv' := [(4, .int p0), (0, .ref h), (1, .int p0), (2, .int v2), (3, .int v3)]) hx hb dX5_pass_32 hl (by decide) rfl (fun ls hl => ?_)
        refine lv_iload hx hb dX5_pass_34 (lv_at hl 0 rfl) ?_
        refine lv_aload_n hx hb dX5_pass_36 rfl (lv_at hl 1 rfl) ?_
        refine va_get (D := (dC, dI)) (ci := 5) (v := .int h_lefts) (C := RX5) (T := TX5) (N := 15) hx hb hts iwX5 hown hK hP 0 rfl rfl 11 (by decide) (hts _ tw_346) (fun _ h9 => h9) rfl dX5_pass_37 ?_
        refine lv_icmp_ge (tgt := 112) hx hb dX5_pass_40 (by decide) (fun c5004 => ?_) (fun c5004 => ?_)
        · have hf := kp_p c5004 hf
          refine lv_iload_n hx hb dX5_pass_112 rfl (lv_at hl 4 rfl) ?_
          refine lv_iload hx hb dX5_pass_113 (lv_at hl 0 rfl) ?_
          refine lv_iadd hx hb dX5_pass_115 ?_
          refine lv_istore_n (lv' := [(3, .int (v3 + p0)), (4, .int p0), (0, .ref h), (1, .int p0), (2, .int v2)]) hx hb dX5_pass_116 rfl hl (by decide) rfl (fun ls hl => ?_)
          refine lv_goto (tgt := 4) hx hb dX5_pass_117 (by decide) ?_
          exact ih4 _ _ _ ⟨h_lefts, h_left_v, v2, v3 + p0, ls, rfl, lv_sub hl [2, 3, 4, 0] rfl, hP, hD, hS, hf⟩
        · have hf := kp_n c5004 hf
          refine lv_aload_n hx hb dX5_pass_43 rfl (lv_at hl 1 rfl) ?_
          refine va_get (D := (dC, dI)) (ci := 5) (v := .ref h_stays) (C := RX5) (T := TX5) (N := 15) hx hb hts iwX5 hown hK hP 0 rfl rfl 12 (by decide) (hts _ tw_347) (fun _ h9 => h9) rfl dX5_pass_44 ?_
          refine lv_aload_n hx hb dX5_pass_47 rfl (lv_at hl 1 rfl) ?_
          refine lv_iload_n hx hb dX5_pass_48 rfl (lv_at hl 4 rfl) ?_
          refine lv_iload hx hb dX5_pass_49 (lv_at hl 0 rfl) ?_
          obtain ⟨r5005, hr5005, hf⟩ := kp_b hf
          have hPc := hP.sub (ws' := [(h, .inr (5, [.int h_code, .long h_seed, .long h_state, .ref h_many, .ref h_sort, .ref h_x, .ref h_y, .ref h_z, .ref h_fault, .ref h_faultAt, .ref h_left, .int h_lefts, .ref h_stays, .ref h_text, .int h_size])), (h_sort, .inl (cA 0, 120, .inl h_sort_v)), (h_z, .inl (cA 2, 120, .inr (.inl h_z_v))), (h_faultAt, .inl (cA 0, 3, .inl h_faultAt_v)), (h_left, .inl (cA 0, 40, .inl h_left_v))]) [0, 1, 2, 3, 4] rfl
          have hDc := hD.sub (ws' := [(h, .inr (5, [.int h_code, .long h_seed, .long h_state, .ref h_many, .ref h_sort, .ref h_x, .ref h_y, .ref h_z, .ref h_fault, .ref h_faultAt, .ref h_left, .int h_lefts, .ref h_stays, .ref h_text, .int h_size])), (h_sort, .inl (cA 0, 120, .inl h_sort_v)), (h_z, .inl (cA 2, 120, .inr (.inl h_z_v))), (h_faultAt, .inl (cA 0, 3, .inl h_faultAt_v)), (h_left, .inl (cA 0, 40, .inl h_left_v))]) [0, 1, 2, 3, 4] (by decide) rfl
          have hFc := va_free (wc := [(h, .inr (5, [.int h_code, .long h_seed, .long h_state, .ref h_many, .ref h_sort, .ref h_x, .ref h_y, .ref h_z, .ref h_fault, .ref h_faultAt, .ref h_left, .int h_lefts, .ref h_stays, .ref h_text, .int h_size])), (h_sort, .inl (cA 0, 120, .inl h_sort_v)), (h_z, .inl (cA 2, 120, .inr (.inl h_z_v))), (h_faultAt, .inl (cA 0, 3, .inl h_faultAt_v)), (h_left, .inl (cA 0, 40, .inl h_left_v))]) hD hS hA [0, 1, 2, 3, 4] rfl
          refine va_calli (va_runV (As := [.int v3, .int p0]) (rest := [.ref h_stays]) ⟨hx, hb, hml, hown, hts⟩ (c_X5_signature l dC dI cA tt h h_sort h_z h_faultAt h_left h_many h_x h_y h_fault h_stays h_text H.size h_code h_seed h_state h_lefts h_size h_sort_v h_z_v h_faultAt_v h_left_v v3 p0 r5005 hr5005) (cwV 2 hts (kq_gV tw_445 tw_447 tw_17 tw_25 tw_448) rfl rfl rfl (by decide +kernel) ⟨Nat.le_of_ble_eq_true rfl, Nat.le_of_ble_eq_true rfl⟩) ⟨kq_blind, va_recv hK hP (ci := 5) (q0 := 0) rfl rfl, kq_pre hG hZ hS hPc hDc hFc⟩ rfl rfl hl.1 rfl (lv_room (Nat.le_of_ble_eq_true rfl)) dX5_pass_51 ⟨Nat.le_of_ble_eq_true rfl, Nat.le_of_ble_eq_true rfl⟩) hS (fun q _ h => hFc q h) hFc (fun rv u t H1 locs ht hvm hw hB hz1 hk1 hS => ?_)
          obtain ⟨hP1, hD1⟩ := hB
          rw [ht] at hP1
          have hw := hw.symm
          subst hw
          obtain ⟨hP, hD⟩ := va_join (wr := [(h_stays, .inl (cA 1, 64, .inl h_stays_v))]) (w1 := [(h, .inr (5, [.int h_code, .long h_seed, .long h_state, .ref h_many, .ref h_sort, .ref h_x, .ref h_y, .ref h_z, .ref h_fault, .ref h_faultAt, .ref h_left, .int h_lefts, .ref h_stays, .ref h_text, .int h_size])), (h_sort, .inl (cA 0, 120, .inl h_sort_v)), (h_z, .inl (cA 2, 120, .inr (.inl h_z_v))), (h_faultAt, .inl (cA 0, 3, .inl h_faultAt_v)), (h_left, .inl (cA 0, 40, .inl h_left_v))]) hP hD [0, 1, 2, 3, 4] [5] rfl rfl (by decide) (by decide) hk1 hFc hP1 hD1
          have hP : va_P (dC, dI) vwCl [(h, .inr (5, [.int h_code, .long h_seed, .long h_state, .ref h_many, .ref h_sort, .ref h_x, .ref h_y, .ref h_z, .ref h_fault, .ref h_faultAt, .ref h_left, .int h_lefts, .ref h_stays, .ref h_text, .int h_size])), (h_sort, .inl (cA 0, 120, .inl h_sort_v)), (h_z, .inl (cA 2, 120, .inr (.inl h_z_v))), (h_faultAt, .inl (cA 0, 3, .inl h_faultAt_v)), (h_left, .inl (cA 0, 40, .inl h_left_v)), (h_stays, .inl (cA 1, 64, .inl h_stays_v))] H1 := hP.sub [1, 2, 3, 4, 5, 0] rfl
          have hD : va_D A [(h, .inr (5, [.int h_code, .long h_seed, .long h_state, .ref h_many, .ref h_sort, .ref h_x, .ref h_y, .ref h_z, .ref h_fault, .ref h_faultAt, .ref h_left, .int h_lefts, .ref h_stays, .ref h_text, .int h_size])), (h_sort, .inl (cA 0, 120, .inl h_sort_v)), (h_z, .inl (cA 2, 120, .inr (.inl h_z_v))), (h_faultAt, .inl (cA 0, 3, .inl h_faultAt_v)), (h_left, .inl (cA 0, 40, .inl h_left_v)), (h_stays, .inl (cA 1, 64, .inl h_stays_v))] := hD.sub [1, 2, 3, 4, 5, 0] (by decide) rfl
          generalize H1 = H at hP hS ⊢
          obtain ⟨hq5006, hf⟩ := kp_t hf
          refine va_zald hx hb hK hP 5 1 rfl rfl hq5006 dX5_pass_54 ?_
          refine lv_if_eq (tgt := 112) hx hb dX5_pass_55 (by decide) (fun c5007 => ?_) (fun c5007 => ?_)
          · have hf := kp_p c5007 hf
            refine lv_iload_n hx hb dX5_pass_112 rfl (lv_at hl 4 rfl) ?_
            refine lv_iload hx hb dX5_pass_113 (lv_at hl 0 rfl) ?_
            refine lv_iadd hx hb dX5_pass_115 ?_
            refine lv_istore_n (lv' := [(3, .int (v3 + p0)), (4, .int p0), (0, .ref h), (1, .int p0), (2, .int v2)]) hx hb dX5_pass_116 rfl hl (by decide) rfl (fun ls hl => ?_)
            refine lv_goto (tgt := 4) hx hb dX5_pass_117 (by decide) ?_
            exact ih4 _ _ _ ⟨h_lefts, h_left_v, v2, v3 + p0, ls, rfl, lv_sub hl [2, 3, 4, 0] rfl, hP, hD, hS, hf⟩
          · have hf := kp_n c5007 hf
            refine lv_iload_n hx hb dX5_pass_58 rfl (lv_at hl 4 rfl) ?_
            refine lv_istore (lv' := [(5, .int v3), (4, .int p0), (0, .ref h), (1, .int p0), (2, .int v2), (3, .int v3)]) hx hb dX5_pass_59 hl (by decide) rfl (fun ls hl => ?_)
            obtain ⟨r5008, hr5008, hf⟩ := kp_b hf
            refine kq_cut (fun H locs g => ∃ (ls : Array Slot), g = F0 m 96 ls [] ∧ lv_has ls 6 [(0, .ref h), (1, .int p0), (3, .int r5008.2.2.1), (4, .int r5008.2.2.2)] ∧ va_P (dC, dI) vwCl [(h, .inr (5, [.int h_code, .long h_seed, .long h_state, .ref h_many, .ref h_sort, .ref h_x, .ref h_y, .ref h_z, .ref h_fault, .ref h_faultAt, .ref h_left, .int r5008.1, .ref h_stays, .ref h_text, .int h_size])), (h_sort, .inl (cA 0, 120, .inl h_sort_v)), (h_z, .inl (cA 2, 120, .inr (.inl h_z_v))), (h_faultAt, .inl (cA 0, 3, .inl h_faultAt_v)), (h_left, .inl (cA 0, 40, .inl r5008.2.1)), (h_stays, .inl (cA 1, 64, .inl h_stays_v))] H ∧ va_D A [(h, .inr (5, [.int h_code, .long h_seed, .long h_state, .ref h_many, .ref h_sort, .ref h_x, .ref h_y, .ref h_z, .ref h_fault, .ref h_faultAt, .ref h_left, .int r5008.1, .ref h_stays, .ref h_text, .int h_size])), (h_sort, .inl (cA 0, 120, .inl h_sort_v)), (h_z, .inl (cA 2, 120, .inr (.inl h_z_v))), (h_faultAt, .inl (cA 0, 3, .inl h_faultAt_v)), (h_left, .inl (cA 0, 40, .inl r5008.2.1)), (h_stays, .inl (cA 1, 64, .inl h_stays_v))] ∧ va_S A s.heap H locs) (fun H locs g h => ?_) (fun J96 => ?_)
            · obtain ⟨ls, rfl, hl, hP, hD, hS⟩ := h
              refine lv_aload_n hx hb dX5_pass_96 rfl (lv_at hl 0 rfl) ?_
              refine lv_aload_n hx hb dX5_pass_97 rfl (lv_at hl 0 rfl) ?_
              refine va_get (D := (dC, dI)) (ci := 5) (v := .int r5008.1) (C := RX5) (T := TX5) (N := 15) hx hb hts iwX5 hown hK hP 0 rfl rfl 11 (by decide) (hts _ tw_346) (fun _ h9 => h9) rfl dX5_pass_98 ?_
              refine lv_iload hx hb dX5_pass_101 (lv_at hl 3 rfl) ?_
              refine lv_isub hx hb dX5_pass_103 ?_
              refine va_put (D := (dC, dI)) (ci := 5) (v := .int (r5008.1 - r5008.2.2.2)) (ty := (.int)) (C := RX5) (T := TX5) (N := 15) hx hb hts iwX5 tyX5 tyX5_ok nmX5 hown hK hP hD hS 0 rfl rfl 11 (by decide) (hts _ tw_346) (fun _ h9 => h9) rfl (by decide +kernel) rfl rfl (Nat.le_of_ble_eq_true rfl) dX5_pass_104 (fun H locs hP hD hS => ?_)
              have hP : va_P (dC, dI) vwCl [(h, .inr (5, [.int h_code, .long h_seed, .long h_state, .ref h_many, .ref h_sort, .ref h_x, .ref h_y, .ref h_z, .ref h_fault, .ref h_faultAt, .ref h_left, .int (r5008.1 - r5008.2.2.2), .ref h_stays, .ref h_text, .int h_size])), (h_sort, .inl (cA 0, 120, .inl h_sort_v)), (h_z, .inl (cA 2, 120, .inr (.inl h_z_v))), (h_faultAt, .inl (cA 0, 3, .inl h_faultAt_v)), (h_left, .inl (cA 0, 40, .inl r5008.2.1)), (h_stays, .inl (cA 1, 64, .inl h_stays_v))] H := hP
              have hD : va_D A [(h, .inr (5, [.int h_code, .long h_seed, .long h_state, .ref h_many, .ref h_sort, .ref h_x, .ref h_y, .ref h_z, .ref h_fault, .ref h_faultAt, .ref h_left, .int (r5008.1 - r5008.2.2.2), .ref h_stays, .ref h_text, .int h_size])), (h_sort, .inl (cA 0, 120, .inl h_sort_v)), (h_z, .inl (cA 2, 120, .inr (.inl h_z_v))), (h_faultAt, .inl (cA 0, 3, .inl h_faultAt_v)), (h_left, .inl (cA 0, 40, .inl r5008.2.1)), (h_stays, .inl (cA 1, 64, .inl h_stays_v))] := hD
              refine lv_iconst (v := 1) hx hb dX5_pass_107 (by decide) ?_
              refine lv_istore_n (lv' := [(2, .int 1), (0, .ref h), (1, .int p0), (3, .int r5008.2.2.1), (4, .int r5008.2.2.2)]) hx hb dX5_pass_108 rfl hl (by decide) rfl (fun ls hl => ?_)
              refine lv_goto (tgt := 117) hx hb dX5_pass_109 (by decide) ?_
              refine lv_goto (tgt := 4) hx hb dX5_pass_117 (by decide) ?_
              exact ih4 _ _ _ ⟨r5008.1 - r5008.2.2.2, r5008.2.1, 1, r5008.2.2.1, ls, rfl, lv_sub hl [1, 2, 0, 3] rfl, hP, hD, hS, hf⟩
            · have hf := hr5008
              refine kq_ind (fun n H locs g => ∃ (h_lefts : Int32) (h_left_v : Nat → Int32) (v3 : Int32) (v4 : Int32) (v5 : Int32) (ls : Array Slot), g = F0 m 61 ls [] ∧ lv_has ls 6 [(0, .ref h), (1, .int p0), (3, .int v3), (4, .int v4), (5, .int v5)] ∧ va_P (dC, dI) vwCl [(h, .inr (5, [.int h_code, .long h_seed, .long h_state, .ref h_many, .ref h_sort, .ref h_x, .ref h_y, .ref h_z, .ref h_fault, .ref h_faultAt, .ref h_left, .int h_lefts, .ref h_stays, .ref h_text, .int h_size])), (h_sort, .inl (cA 0, 120, .inl h_sort_v)), (h_z, .inl (cA 2, 120, .inr (.inl h_z_v))), (h_faultAt, .inl (cA 0, 3, .inl h_faultAt_v)), (h_left, .inl (cA 0, 40, .inl h_left_v)), (h_stays, .inl (cA 1, 64, .inl h_stays_v))] H ∧ va_D A [(h, .inr (5, [.int h_code, .long h_seed, .long h_state, .ref h_many, .ref h_sort, .ref h_x, .ref h_y, .ref h_z, .ref h_fault, .ref h_faultAt, .ref h_left, .int h_lefts, .ref h_stays, .ref h_text, .int h_size])), (h_sort, .inl (cA 0, 120, .inl h_sort_v)), (h_z, .inl (cA 2, 120, .inr (.inl h_z_v))), (h_faultAt, .inl (cA 0, 3, .inl h_faultAt_v)), (h_left, .inl (cA 0, 40, .inl h_left_v)), (h_stays, .inl (cA 1, 64, .inl h_stays_v))] ∧ va_S A s.heap H locs ∧ f_X5_pass_L61 h_sort_v h_z_v h_faultAt_v h_stays_v p0 n h_lefts h_left_v v3 v4 v5 = some r5008) (fun H locs g h => ?_) (fun n61 ih61 H locs g h => ?_) 64 _ _ _ ⟨h_lefts, h_left_v, v3, p0, v3, ls, rfl, lv_sub hl [2, 3, 5, 1, 0] rfl, hP, hD, hS, hf⟩
              · obtain ⟨h_lefts, h_left_v, v3, v4, v5, ls, -, -, -, -, -, hf⟩ := h
                have hf : (none : Option (Int32 × (Nat → Int32) × Int32 × Int32)) = some r5008 := hf
                cases hf
              · obtain ⟨h_lefts, h_left_v, v3, v4, v5, ls, rfl, hl, hP, hD, hS, hf⟩ := h
                have hf := (e_X5_pass_L61 h_sort_v h_z_v h_faultAt_v h_stays_v p0 n61 h_lefts h_left_v v3 v4 v5).symm.trans hf
                refine lv_iload hx hb dX5_pass_61 (lv_at hl 4 rfl) ?_
                refine lv_aload_n hx hb dX5_pass_63 rfl (lv_at hl 0 rfl) ?_
                refine va_get (D := (dC, dI)) (ci := 5) (v := .int h_lefts) (C := RX5) (T := TX5) (N := 15) hx hb hts iwX5 hown hK hP 0 rfl rfl 11 (by decide) (hts _ tw_346) (fun _ h9 => h9) rfl dX5_pass_64 ?_
                refine lv_iload hx hb dX5_pass_67 (lv_at hl 3 rfl) ?_
                refine lv_isub hx hb dX5_pass_69 ?_
                refine lv_icmp_ge (tgt := 96) hx hb dX5_pass_70 (by decide) (fun c62001 => ?_) (fun c62001 => ?_)
                · have hf := kp_p c62001 hf
                  have er := Option.some.inj hf
                  subst er
                  exact J96 _ _ _ ⟨ls, rfl, lv_sub hl [0, 1, 2, 3] rfl, hP, hD, hS⟩
                · have hf := kp_n c62001 hf
                  refine lv_aload_n hx hb dX5_pass_73 rfl (lv_at hl 0 rfl) ?_
                  refine va_get (D := (dC, dI)) (ci := 5) (v := .ref h_left) (C := RX5) (T := TX5) (N := 15) hx hb hts iwX5 hown hK hP 0 rfl rfl 10 (by decide) (hts _ tw_345) (fun _ h9 => h9) rfl dX5_pass_74 ?_
                  refine lv_iload hx hb dX5_pass_77 (lv_at hl 4 rfl) ?_
                  refine lv_aload_n hx hb dX5_pass_79 rfl (lv_at hl 0 rfl) ?_
                  refine va_get (D := (dC, dI)) (ci := 5) (v := .ref h_left) (C := RX5) (T := TX5) (N := 15) hx hb hts iwX5 hown hK hP 0 rfl rfl 10 (by decide) (hts _ tw_345) (fun _ h9 => h9) rfl dX5_pass_80 ?_
                  refine lv_iload hx hb dX5_pass_83 (lv_at hl 4 rfl) ?_
                  refine lv_iload hx hb dX5_pass_85 (lv_at hl 3 rfl) ?_
                  refine lv_iadd hx hb dX5_pass_87 ?_
                  obtain ⟨hq62002, hf⟩ := kp_t hf
                  refine va_iald hx hb hK hP 4 0 rfl rfl hq62002 dX5_pass_88 ?_
                  obtain ⟨hq62003, hf⟩ := kp_t hf
                  refine va_iast hx hb hK hP hD hS 4 0 rfl rfl hq62003 dX5_pass_89 (fun H locs hP hD hS => ?_)
                  have hP : va_P (dC, dI) vwCl [(h, .inr (5, [.int h_code, .long h_seed, .long h_state, .ref h_many, .ref h_sort, .ref h_x, .ref h_y, .ref h_z, .ref h_fault, .ref h_faultAt, .ref h_left, .int h_lefts, .ref h_stays, .ref h_text, .int h_size])), (h_sort, .inl (cA 0, 120, .inl h_sort_v)), (h_z, .inl (cA 2, 120, .inr (.inl h_z_v))), (h_faultAt, .inl (cA 0, 3, .inl h_faultAt_v)), (h_left, .inl (cA 0, 40, .inl (upd h_left_v v5.toNatClampNeg (h_left_v (v5 + v4).toNatClampNeg)))), (h_stays, .inl (cA 1, 64, .inl h_stays_v))] H := hP
                  have hD : va_D A [(h, .inr (5, [.int h_code, .long h_seed, .long h_state, .ref h_many, .ref h_sort, .ref h_x, .ref h_y, .ref h_z, .ref h_fault, .ref h_faultAt, .ref h_left, .int h_lefts, .ref h_stays, .ref h_text, .int h_size])), (h_sort, .inl (cA 0, 120, .inl h_sort_v)), (h_z, .inl (cA 2, 120, .inr (.inl h_z_v))), (h_faultAt, .inl (cA 0, 3, .inl h_faultAt_v)), (h_left, .inl (cA 0, 40, .inl (upd h_left_v v5.toNatClampNeg (h_left_v (v5 + v4).toNatClampNeg)))), (h_stays, .inl (cA 1, 64, .inl h_stays_v))] := hD
                  refine lv_iinc (v := v5 + 1) (lv' := [(5, .int (v5 + 1)), (0, .ref h), (1, .int p0), (3, .int v3), (4, .int v4)]) hx hb dX5_pass_90 hl (k := 4) rfl rfl (by decide) rfl (fun ls hl => ?_)
                  refine lv_goto (tgt := 61) hx hb dX5_pass_93 (by decide) ?_
                  exact ih61 _ _ _ ⟨h_lefts, upd h_left_v v5.toNatClampNeg (h_left_v (v5 + v4).toNatClampNeg), v3, v4, v5 + 1, ls, rfl, lv_sub hl [1, 2, 3, 4, 0] rfl, hP, hD, hS, hf⟩
      · have hf := kp_n c5003 hf
        refine lv_aload_n hx hb dX5_pass_22 rfl (lv_at hl 0 rfl) ?_
        refine va_get (D := (dC, dI)) (ci := 5) (v := .int h_lefts) (C := RX5) (T := TX5) (N := 15) hx hb hts iwX5 hown hK hP 0 rfl rfl 11 (by decide) (hts _ tw_346) (fun _ h9 => h9) rfl dX5_pass_23 ?_
        refine lv_iload_n hx hb dX5_pass_26 rfl (lv_at hl 3 rfl) ?_
        refine lv_isub hx hb dX5_pass_27 ?_
        refine lv_goto (tgt := 32) hx hb dX5_pass_28 (by decide) ?_
        refine lv_istore (lv' := [(4, .int (h_lefts - v3)), (0, .ref h), (1, .int p0), (2, .int v2), (3, .int v3)]) hx hb dX5_pass_32 hl (by decide) rfl (fun ls hl => ?_)
        refine lv_iload hx hb dX5_pass_34 (lv_at hl 0 rfl) ?_
        refine lv_aload_n hx hb dX5_pass_36 rfl (lv_at hl 1 rfl) ?_
        refine va_get (D := (dC, dI)) (ci := 5) (v := .int h_lefts) (C := RX5) (T := TX5) (N := 15) hx hb hts iwX5 hown hK hP 0 rfl rfl 11 (by decide) (hts _ tw_346) (fun _ h9 => h9) rfl dX5_pass_37 ?_
        refine lv_icmp_ge (tgt := 112) hx hb dX5_pass_40 (by decide) (fun c5009 => ?_) (fun c5009 => ?_)
        · have hf := kp_p c5009 hf
          refine lv_iload_n hx hb dX5_pass_112 rfl (lv_at hl 4 rfl) ?_
          refine lv_iload hx hb dX5_pass_113 (lv_at hl 0 rfl) ?_
          refine lv_iadd hx hb dX5_pass_115 ?_
          refine lv_istore_n (lv' := [(3, .int (v3 + (h_lefts - v3))), (4, .int (h_lefts - v3)), (0, .ref h), (1, .int p0), (2, .int v2)]) hx hb dX5_pass_116 rfl hl (by decide) rfl (fun ls hl => ?_)
          refine lv_goto (tgt := 4) hx hb dX5_pass_117 (by decide) ?_
          exact ih4 _ _ _ ⟨h_lefts, h_left_v, v2, v3 + (h_lefts - v3), ls, rfl, lv_sub hl [2, 3, 4, 0] rfl, hP, hD, hS, hf⟩
        · have hf := kp_n c5009 hf
          refine lv_aload_n hx hb dX5_pass_43 rfl (lv_at hl 1 rfl) ?_
          refine va_get (D := (dC, dI)) (ci := 5) (v := .ref h_stays) (C := RX5) (T := TX5) (N := 15) hx hb hts iwX5 hown hK hP 0 rfl rfl 12 (by decide) (hts _ tw_347) (fun _ h9 => h9) rfl dX5_pass_44 ?_
          refine lv_aload_n hx hb dX5_pass_47 rfl (lv_at hl 1 rfl) ?_
          refine lv_iload_n hx hb dX5_pass_48 rfl (lv_at hl 4 rfl) ?_
          refine lv_iload hx hb dX5_pass_49 (lv_at hl 0 rfl) ?_
          obtain ⟨r5010, hr5010, hf⟩ := kp_b hf
          have hPc := hP.sub (ws' := [(h, .inr (5, [.int h_code, .long h_seed, .long h_state, .ref h_many, .ref h_sort, .ref h_x, .ref h_y, .ref h_z, .ref h_fault, .ref h_faultAt, .ref h_left, .int h_lefts, .ref h_stays, .ref h_text, .int h_size])), (h_sort, .inl (cA 0, 120, .inl h_sort_v)), (h_z, .inl (cA 2, 120, .inr (.inl h_z_v))), (h_faultAt, .inl (cA 0, 3, .inl h_faultAt_v)), (h_left, .inl (cA 0, 40, .inl h_left_v))]) [0, 1, 2, 3, 4] rfl
          have hDc := hD.sub (ws' := [(h, .inr (5, [.int h_code, .long h_seed, .long h_state, .ref h_many, .ref h_sort, .ref h_x, .ref h_y, .ref h_z, .ref h_fault, .ref h_faultAt, .ref h_left, .int h_lefts, .ref h_stays, .ref h_text, .int h_size])), (h_sort, .inl (cA 0, 120, .inl h_sort_v)), (h_z, .inl (cA 2, 120, .inr (.inl h_z_v))), (h_faultAt, .inl (cA 0, 3, .inl h_faultAt_v)), (h_left, .inl (cA 0, 40, .inl h_left_v))]) [0, 1, 2, 3, 4] (by decide) rfl
          have hFc := va_free (wc := [(h, .inr (5, [.int h_code, .long h_seed, .long h_state, .ref h_many, .ref h_sort, .ref h_x, .ref h_y, .ref h_z, .ref h_fault, .ref h_faultAt, .ref h_left, .int h_lefts, .ref h_stays, .ref h_text, .int h_size])), (h_sort, .inl (cA 0, 120, .inl h_sort_v)), (h_z, .inl (cA 2, 120, .inr (.inl h_z_v))), (h_faultAt, .inl (cA 0, 3, .inl h_faultAt_v)), (h_left, .inl (cA 0, 40, .inl h_left_v))]) hD hS hA [0, 1, 2, 3, 4] rfl
          refine va_calli (va_runV (As := [.int v3, .int (h_lefts - v3)]) (rest := [.ref h_stays]) ⟨hx, hb, hml, hown, hts⟩ (c_X5_signature l dC dI cA tt h h_sort h_z h_faultAt h_left h_many h_x h_y h_fault h_stays h_text H.size h_code h_seed h_state h_lefts h_size h_sort_v h_z_v h_faultAt_v h_left_v v3 (h_lefts - v3) r5010 hr5010) (cwV 2 hts (kq_gV tw_445 tw_447 tw_17 tw_25 tw_448) rfl rfl rfl (by decide +kernel) ⟨Nat.le_of_ble_eq_true rfl, Nat.le_of_ble_eq_true rfl⟩) ⟨kq_blind, va_recv hK hP (ci := 5) (q0 := 0) rfl rfl, kq_pre hG hZ hS hPc hDc hFc⟩ rfl rfl hl.1 rfl (lv_room (Nat.le_of_ble_eq_true rfl)) dX5_pass_51 ⟨Nat.le_of_ble_eq_true rfl, Nat.le_of_ble_eq_true rfl⟩) hS (fun q _ h => hFc q h) hFc (fun rv u t H1 locs ht hvm hw hB hz1 hk1 hS => ?_)
          obtain ⟨hP1, hD1⟩ := hB
          rw [ht] at hP1
          have hw := hw.symm
          subst hw
          obtain ⟨hP, hD⟩ := va_join (wr := [(h_stays, .inl (cA 1, 64, .inl h_stays_v))]) (w1 := [(h, .inr (5, [.int h_code, .long h_seed, .long h_state, .ref h_many, .ref h_sort, .ref h_x, .ref h_y, .ref h_z, .ref h_fault, .ref h_faultAt, .ref h_left, .int h_lefts, .ref h_stays, .ref h_text, .int h_size])), (h_sort, .inl (cA 0, 120, .inl h_sort_v)), (h_z, .inl (cA 2, 120, .inr (.inl h_z_v))), (h_faultAt, .inl (cA 0, 3, .inl h_faultAt_v)), (h_left, .inl (cA 0, 40, .inl h_left_v))]) hP hD [0, 1, 2, 3, 4] [5] rfl rfl (by decide) (by decide) hk1 hFc hP1 hD1
          have hP : va_P (dC, dI) vwCl [(h, .inr (5, [.int h_code, .long h_seed, .long h_state, .ref h_many, .ref h_sort, .ref h_x, .ref h_y, .ref h_z, .ref h_fault, .ref h_faultAt, .ref h_left, .int h_lefts, .ref h_stays, .ref h_text, .int h_size])), (h_sort, .inl (cA 0, 120, .inl h_sort_v)), (h_z, .inl (cA 2, 120, .inr (.inl h_z_v))), (h_faultAt, .inl (cA 0, 3, .inl h_faultAt_v)), (h_left, .inl (cA 0, 40, .inl h_left_v)), (h_stays, .inl (cA 1, 64, .inl h_stays_v))] H1 := hP.sub [1, 2, 3, 4, 5, 0] rfl
          have hD : va_D A [(h, .inr (5, [.int h_code, .long h_seed, .long h_state, .ref h_many, .ref h_sort, .ref h_x, .ref h_y, .ref h_z, .ref h_fault, .ref h_faultAt, .ref h_left, .int h_lefts, .ref h_stays, .ref h_text, .int h_size])), (h_sort, .inl (cA 0, 120, .inl h_sort_v)), (h_z, .inl (cA 2, 120, .inr (.inl h_z_v))), (h_faultAt, .inl (cA 0, 3, .inl h_faultAt_v)), (h_left, .inl (cA 0, 40, .inl h_left_v)), (h_stays, .inl (cA 1, 64, .inl h_stays_v))] := hD.sub [1, 2, 3, 4, 5, 0] (by decide) rfl
          generalize H1 = H at hP hS ⊢
          obtain ⟨hq5011, hf⟩ := kp_t hf
          refine va_zald hx hb hK hP 5 1 rfl rfl hq5011 dX5_pass_54 ?_
          refine lv_if_eq (tgt := 112) hx hb dX5_pass_55 (by decide) (fun c5012 => ?_) (fun c5012 => ?_)
          · have hf := kp_p c5012 hf
            refine lv_iload_n hx hb dX5_pass_112 rfl (lv_at hl 4 rfl) ?_
            refine lv_iload hx hb dX5_pass_113 (lv_at hl 0 rfl) ?_
            refine lv_iadd hx hb dX5_pass_115 ?_
            refine lv_istore_n (lv' := [(3, .int (v3 + (h_lefts - v3))), (4, .int (h_lefts - v3)), (0, .ref h), (1, .int p0), (2, .int v2)]) hx hb dX5_pass_116 rfl hl (by decide) rfl (fun ls hl => ?_)
            refine lv_goto (tgt := 4) hx hb dX5_pass_117 (by decide) ?_
            exact ih4 _ _ _ ⟨h_lefts, h_left_v, v2, v3 + (h_lefts - v3), ls, rfl, lv_sub hl [2, 3, 4, 0] rfl, hP, hD, hS, hf⟩
          · have hf := kp_n c5012 hf
            refine lv_iload_n hx hb dX5_pass_58 rfl (lv_at hl 4 rfl) ?_
            refine lv_istore (lv' := [(5, .int v3), (4, .int (h_lefts - v3)), (0, .ref h), (1, .int p0), (2, .int v2), (3, .int v3)]) hx hb dX5_pass_59 hl (by decide) rfl (fun ls hl => ?_)
            obtain ⟨r5013, hr5013, hf⟩ := kp_b hf
            refine kq_cut (fun H locs g => ∃ (ls : Array Slot), g = F0 m 96 ls [] ∧ lv_has ls 6 [(0, .ref h), (1, .int p0), (3, .int r5013.2.2.1), (4, .int r5013.2.2.2)] ∧ va_P (dC, dI) vwCl [(h, .inr (5, [.int h_code, .long h_seed, .long h_state, .ref h_many, .ref h_sort, .ref h_x, .ref h_y, .ref h_z, .ref h_fault, .ref h_faultAt, .ref h_left, .int r5013.1, .ref h_stays, .ref h_text, .int h_size])), (h_sort, .inl (cA 0, 120, .inl h_sort_v)), (h_z, .inl (cA 2, 120, .inr (.inl h_z_v))), (h_faultAt, .inl (cA 0, 3, .inl h_faultAt_v)), (h_left, .inl (cA 0, 40, .inl r5013.2.1)), (h_stays, .inl (cA 1, 64, .inl h_stays_v))] H ∧ va_D A [(h, .inr (5, [.int h_code, .long h_seed, .long h_state, .ref h_many, .ref h_sort, .ref h_x, .ref h_y, .ref h_z, .ref h_fault, .ref h_faultAt, .ref h_left, .int r5013.1, .ref h_stays, .ref h_text, .int h_size])), (h_sort, .inl (cA 0, 120, .inl h_sort_v)), (h_z, .inl (cA 2, 120, .inr (.inl h_z_v))), (h_faultAt, .inl (cA 0, 3, .inl h_faultAt_v)), (h_left, .inl (cA 0, 40, .inl r5013.2.1)), (h_stays, .inl (cA 1, 64, .inl h_stays_v))] ∧ va_S A s.heap H locs) (fun H locs g h => ?_) (fun J96 => ?_)
            · obtain ⟨ls, rfl, hl, hP, hD, hS⟩ := h
              refine lv_aload_n hx hb dX5_pass_96 rfl (lv_at hl 0 rfl) ?_
              refine lv_aload_n hx hb dX5_pass_97 rfl (lv_at hl 0 rfl) ?_
              refine va_get (D := (dC, dI)) (ci := 5) (v := .int r5013.1) (C := RX5) (T := TX5) (N := 15) hx hb hts iwX5 hown hK hP 0 rfl rfl 11 (by decide) (hts _ tw_346) (fun _ h9 => h9) rfl dX5_pass_98 ?_
              refine lv_iload hx hb dX5_pass_101 (lv_at hl 3 rfl) ?_
              refine lv_isub hx hb dX5_pass_103 ?_
              refine va_put (D := (dC, dI)) (ci := 5) (v := .int (r5013.1 - r5013.2.2.2)) (ty := (.int)) (C := RX5) (T := TX5) (N := 15) hx hb hts iwX5 tyX5 tyX5_ok nmX5 hown hK hP hD hS 0 rfl rfl 11 (by decide) (hts _ tw_346) (fun _ h9 => h9) rfl (by decide +kernel) rfl rfl (Nat.le_of_ble_eq_true rfl) dX5_pass_104 (fun H locs hP hD hS => ?_)
              have hP : va_P (dC, dI) vwCl [(h, .inr (5, [.int h_code, .long h_seed, .long h_state, .ref h_many, .ref h_sort, .ref h_x, .ref h_y, .ref h_z, .ref h_fault, .ref h_faultAt, .ref h_left, .int (r5013.1 - r5013.2.2.2), .ref h_stays, .ref h_text, .int h_size])), (h_sort, .inl (cA 0, 120, .inl h_sort_v)), (h_z, .inl (cA 2, 120, .inr (.inl h_z_v))), (h_faultAt, .inl (cA 0, 3, .inl h_faultAt_v)), (h_left, .inl (cA 0, 40, .inl r5013.2.1)), (h_stays, .inl (cA 1, 64, .inl h_stays_v))] H := hP
              have hD : va_D A [(h, .inr (5, [.int h_code, .long h_seed, .long h_state, .ref h_many, .ref h_sort, .ref h_x, .ref h_y, .ref h_z, .ref h_fault, .ref h_faultAt, .ref h_left, .int (r5013.1 - r5013.2.2.2), .ref h_stays, .ref h_text, .int h_size])), (h_sort, .inl (cA 0, 120, .inl h_sort_v)), (h_z, .inl (cA 2, 120, .inr (.inl h_z_v))), (h_faultAt, .inl (cA 0, 3, .inl h_faultAt_v)), (h_left, .inl (cA 0, 40, .inl r5013.2.1)), (h_stays, .inl (cA 1, 64, .inl h_stays_v))] := hD
              refine lv_iconst (v := 1) hx hb dX5_pass_107 (by decide) ?_
              refine lv_istore_n (lv' := [(2, .int 1), (0, .ref h), (1, .int p0), (3, .int r5013.2.2.1), (4, .int r5013.2.2.2)]) hx hb dX5_pass_108 rfl hl (by decide) rfl (fun ls hl => ?_)
              refine lv_goto (tgt := 117) hx hb dX5_pass_109 (by decide) ?_
              refine lv_goto (tgt := 4) hx hb dX5_pass_117 (by decide) ?_
              exact ih4 _ _ _ ⟨r5013.1 - r5013.2.2.2, r5013.2.1, 1, r5013.2.2.1, ls, rfl, lv_sub hl [1, 2, 0, 3] rfl, hP, hD, hS, hf⟩
            · have hf := hr5013
              refine kq_ind (fun n H locs g => ∃ (h_lefts : Int32) (h_left_v : Nat → Int32) (v3 : Int32) (v4 : Int32) (v5 : Int32) (ls : Array Slot), g = F0 m 61 ls [] ∧ lv_has ls 6 [(0, .ref h), (1, .int p0), (3, .int v3), (4, .int v4), (5, .int v5)] ∧ va_P (dC, dI) vwCl [(h, .inr (5, [.int h_code, .long h_seed, .long h_state, .ref h_many, .ref h_sort, .ref h_x, .ref h_y, .ref h_z, .ref h_fault, .ref h_faultAt, .ref h_left, .int h_lefts, .ref h_stays, .ref h_text, .int h_size])), (h_sort, .inl (cA 0, 120, .inl h_sort_v)), (h_z, .inl (cA 2, 120, .inr (.inl h_z_v))), (h_faultAt, .inl (cA 0, 3, .inl h_faultAt_v)), (h_left, .inl (cA 0, 40, .inl h_left_v)), (h_stays, .inl (cA 1, 64, .inl h_stays_v))] H ∧ va_D A [(h, .inr (5, [.int h_code, .long h_seed, .long h_state, .ref h_many, .ref h_sort, .ref h_x, .ref h_y, .ref h_z, .ref h_fault, .ref h_faultAt, .ref h_left, .int h_lefts, .ref h_stays, .ref h_text, .int h_size])), (h_sort, .inl (cA 0, 120, .inl h_sort_v)), (h_z, .inl (cA 2, 120, .inr (.inl h_z_v))), (h_faultAt, .inl (cA 0, 3, .inl h_faultAt_v)), (h_left, .inl (cA 0, 40, .inl h_left_v)), (h_stays, .inl (cA 1, 64, .inl h_stays_v))] ∧ va_S A s.heap H locs ∧ f_X5_pass_L61 h_sort_v h_z_v h_faultAt_v h_stays_v p0 n h_lefts h_left_v v3 v4 v5 = some r5013) (fun H locs g h => ?_) (fun n61 ih61 H locs g h => ?_) 64 _ _ _ ⟨h_lefts, h_left_v, v3, h_lefts - v3, v3, ls, rfl, lv_sub hl [2, 3, 5, 1, 0] rfl, hP, hD, hS, hf⟩
              · obtain ⟨h_lefts, h_left_v, v3, v4, v5, ls, -, -, -, -, -, hf⟩ := h
                have hf : (none : Option (Int32 × (Nat → Int32) × Int32 × Int32)) = some r5013 := hf
                cases hf
              · obtain ⟨h_lefts, h_left_v, v3, v4, v5, ls, rfl, hl, hP, hD, hS, hf⟩ := h
                have hf := (e_X5_pass_L61 h_sort_v h_z_v h_faultAt_v h_stays_v p0 n61 h_lefts h_left_v v3 v4 v5).symm.trans hf
                refine lv_iload hx hb dX5_pass_61 (lv_at hl 4 rfl) ?_
                refine lv_aload_n hx hb dX5_pass_63 rfl (lv_at hl 0 rfl) ?_
                refine va_get (D := (dC, dI)) (ci := 5) (v := .int h_lefts) (C := RX5) (T := TX5) (N := 15) hx hb hts iwX5 hown hK hP 0 rfl rfl 11 (by decide) (hts _ tw_346) (fun _ h9 => h9) rfl dX5_pass_64 ?_
                refine lv_iload hx hb dX5_pass_67 (lv_at hl 3 rfl) ?_
                refine lv_isub hx hb dX5_pass_69 ?_
                refine lv_icmp_ge (tgt := 96) hx hb dX5_pass_70 (by decide) (fun c62001 => ?_) (fun c62001 => ?_)
                · have hf := kp_p c62001 hf
                  have er := Option.some.inj hf
                  subst er
                  exact J96 _ _ _ ⟨ls, rfl, lv_sub hl [0, 1, 2, 3] rfl, hP, hD, hS⟩
                · have hf := kp_n c62001 hf
                  refine lv_aload_n hx hb dX5_pass_73 rfl (lv_at hl 0 rfl) ?_
                  refine va_get (D := (dC, dI)) (ci := 5) (v := .ref h_left) (C := RX5) (T := TX5) (N := 15) hx hb hts iwX5 hown hK hP 0 rfl rfl 10 (by decide) (hts _ tw_345) (fun _ h9 => h9) rfl dX5_pass_74 ?_
                  refine lv_iload hx hb dX5_pass_77 (lv_at hl 4 rfl) ?_
                  refine lv_aload_n hx hb dX5_pass_79 rfl (lv_at hl 0 rfl) ?_
                  refine va_get (D := (dC, dI)) (ci := 5) (v := .ref h_left) (C := RX5) (T := TX5) (N := 15) hx hb hts iwX5 hown hK hP 0 rfl rfl 10 (by decide) (hts _ tw_345) (fun _ h9 => h9) rfl dX5_pass_80 ?_
                  refine lv_iload hx hb dX5_pass_83 (lv_at hl 4 rfl) ?_
                  refine lv_iload hx hb dX5_pass_85 (lv_at hl 3 rfl) ?_
                  refine lv_iadd hx hb dX5_pass_87 ?_
                  obtain ⟨hq62002, hf⟩ := kp_t hf
                  refine va_iald hx hb hK hP 4 0 rfl rfl hq62002 dX5_pass_88 ?_
                  obtain ⟨hq62003, hf⟩ := kp_t hf
                  refine va_iast hx hb hK hP hD hS 4 0 rfl rfl hq62003 dX5_pass_89 (fun H locs hP hD hS => ?_)
                  have hP : va_P (dC, dI) vwCl [(h, .inr (5, [.int h_code, .long h_seed, .long h_state, .ref h_many, .ref h_sort, .ref h_x, .ref h_y, .ref h_z, .ref h_fault, .ref h_faultAt, .ref h_left, .int h_lefts, .ref h_stays, .ref h_text, .int h_size])), (h_sort, .inl (cA 0, 120, .inl h_sort_v)), (h_z, .inl (cA 2, 120, .inr (.inl h_z_v))), (h_faultAt, .inl (cA 0, 3, .inl h_faultAt_v)), (h_left, .inl (cA 0, 40, .inl (upd h_left_v v5.toNatClampNeg (h_left_v (v5 + v4).toNatClampNeg)))), (h_stays, .inl (cA 1, 64, .inl h_stays_v))] H := hP
                  have hD : va_D A [(h, .inr (5, [.int h_code, .long h_seed, .long h_state, .ref h_many, .ref h_sort, .ref h_x, .ref h_y, .ref h_z, .ref h_fault, .ref h_faultAt, .ref h_left, .int h_lefts, .ref h_stays, .ref h_text, .int h_size])), (h_sort, .inl (cA 0, 120, .inl h_sort_v)), (h_z, .inl (cA 2, 120, .inr (.inl h_z_v))), (h_faultAt, .inl (cA 0, 3, .inl h_faultAt_v)), (h_left, .inl (cA 0, 40, .inl (upd h_left_v v5.toNatClampNeg (h_left_v (v5 + v4).toNatClampNeg)))), (h_stays, .inl (cA 1, 64, .inl h_stays_v))] := hD
                  refine lv_iinc (v := v5 + 1) (lv' := [(5, .int (v5 + 1)), (0, .ref h), (1, .int p0), (3, .int v3), (4, .int v4)]) hx hb dX5_pass_90 hl (k := 4) rfl rfl (by decide) rfl (fun ls hl => ?_)
                  refine lv_goto (tgt := 61) hx hb dX5_pass_93 (by decide) ?_
                  exact ih61 _ _ _ ⟨h_lefts, upd h_left_v v5.toNatClampNeg (h_left_v (v5 + v4).toNatClampNeg), v3, v4, v5 + 1, ls, rfl, lv_sub hl [1, 2, 3, 4, 0] rfl, hP, hD, hS, hf⟩

def f_X5_shorter_L38 (h_many_v : Nat → Int32) (h_sort_v : Nat → Int32) (h_z_v : Nat → Int64) (h_faultAt_v : Nat → Int32) (h_stays_v : Nat → Int32) : Nat → Int32 → Int32 → (Nat → Int32) → Int32 → Option (Int32 × Int32 × Int32 × (Nat → Int32))
  | 0, _, _, _, _ => none
  | n38 + 1, h_code, h_lefts, h_left_v, v1 =>
    (if v1 ≤ 0 then
    some ((h_lefts, h_code, h_lefts, h_left_v))
    else
    (f_X5_pass h_lefts h_sort_v h_z_v h_faultAt_v h_left_v h_stays_v v1).bind fun r39002 =>
    (if v1 ≤ 1 then
    (if r39002.1 = 0 then
    f_X5_shorter_L38 h_many_v h_sort_v h_z_v h_faultAt_v h_stays_v n38 h_code r39002.2.1 r39002.2.2 0
    else
    f_X5_shorter_L38 h_many_v h_sort_v h_z_v h_faultAt_v h_stays_v n38 h_code r39002.2.1 r39002.2.2 1)
    else
    f_X5_shorter_L38 h_many_v h_sort_v h_z_v h_faultAt_v h_stays_v n38 h_code r39002.2.1 r39002.2.2 (v1 / 2)))
theorem e_X5_shorter_L38 (h_many_v : Nat → Int32) (h_sort_v : Nat → Int32) (h_z_v : Nat → Int64) (h_faultAt_v : Nat → Int32) (h_stays_v : Nat → Int32) (n38 : Nat) (h_code : Int32) (h_lefts : Int32) (h_left_v : Nat → Int32) (v1 : Int32) : f_X5_shorter_L38 h_many_v h_sort_v h_z_v h_faultAt_v h_stays_v (n38 + 1) h_code h_lefts h_left_v v1 =
    ((if v1 ≤ 0 then
    some ((h_lefts, h_code, h_lefts, h_left_v))
    else
    (f_X5_pass h_lefts h_sort_v h_z_v h_faultAt_v h_left_v h_stays_v v1).bind fun r39002 =>
    (if v1 ≤ 1 then
    (if r39002.1 = 0 then
    f_X5_shorter_L38 h_many_v h_sort_v h_z_v h_faultAt_v h_stays_v n38 h_code r39002.2.1 r39002.2.2 0
    else
    f_X5_shorter_L38 h_many_v h_sort_v h_z_v h_faultAt_v h_stays_v n38 h_code r39002.2.1 r39002.2.2 1)
    else
    f_X5_shorter_L38 h_many_v h_sort_v h_z_v h_faultAt_v h_stays_v n38 h_code r39002.2.1 r39002.2.2 (v1 / 2)))) := rfl
def f_X5_shorter (h_code : Int32) (h_lefts : Int32) (h_many_v : Nat → Int32) (h_sort_v : Nat → Int32) (h_z_v : Nat → Int64) (h_faultAt_v : Nat → Int32) (h_left_v : Nat → Int32) (h_stays_v : Nat → Int32) : Option (Int32 × Int32 × Int32 × (Nat → Int32)) :=
    (if (h_many_v (0 : Int32).toNatClampNeg) = 0 then
    some (((-3), 0, h_lefts, h_left_v))
    else
    (f_X5_signature h_lefts h_sort_v h_z_v h_faultAt_v h_left_v 0 0).bind fun r3 =>
    if r3 < 0 ∨ 64 ≤ r3.toNatClampNeg then none else
    (if (h_stays_v r3.toNatClampNeg) = 0 then
    some ((h_lefts, 0, h_lefts, h_left_v))
    else
    f_X5_shorter_L38 h_many_v h_sort_v h_z_v h_faultAt_v h_stays_v 64 0 h_lefts h_left_v (h_lefts / 2)))
set_option maxHeartbeats 4000000 in
set_option maxRecDepth 100000 in
theorem c_X5_shorter (l : Launch) (dC : Nat → ClassId) (dI : Nat → Nat → Nat) (cA : Nat → ClassId) (tt : Nat → Nat) (h h_many h_sort h_z h_faultAt h_left h_stays h_x h_y h_fault h_text : Nat) (sz : Nat) (h_code : Int32) (h_seed : Int64) (h_state : Int64) (h_lefts : Int32) (h_size : Int32) (h_many_v : Nat → Int32) (h_sort_v : Nat → Int32) (h_z_v : Nat → Int64) (h_faultAt_v : Nat → Int32) (h_left_v : Nat → Int32) (h_stays_v : Nat → Int32) (o : Int32 × Int32 × Int32 × (Nat → Int32)) (hf : f_X5_shorter h_code h_lefts h_many_v h_sort_v h_z_v h_faultAt_v h_left_v h_stays_v = some o) : Met l yX5_shorter wX5_shorter ({ frames := 2, cells := 0, slots := 0, locals := 52 }) (kq_Pc dC dI cA tt [.ref h] [(h, .inr (5, [.int h_code, .long h_seed, .long h_state, .ref h_many, .ref h_sort, .ref h_x, .ref h_y, .ref h_z, .ref h_fault, .ref h_faultAt, .ref h_left, .int h_lefts, .ref h_stays, .ref h_text, .int h_size])), (h_many, .inl (cA 0, 3, .inl h_many_v)), (h_sort, .inl (cA 0, 120, .inl h_sort_v)), (h_z, .inl (cA 2, 120, .inr (.inl h_z_v))), (h_faultAt, .inl (cA 0, 3, .inl h_faultAt_v)), (h_left, .inl (cA 0, 40, .inl h_left_v)), (h_stays, .inl (cA 1, 64, .inl h_stays_v))] sz) (va_Qi (fun r (_ : Unit) => r = o.1) (fun _ t => kq_B dC dI [(h, .inr (5, [.int o.2.1, .long h_seed, .long h_state, .ref h_many, .ref h_sort, .ref h_x, .ref h_y, .ref h_z, .ref h_fault, .ref h_faultAt, .ref h_left, .int o.2.2.1, .ref h_stays, .ref h_text, .int h_size])), (h_many, .inl (cA 0, 3, .inl h_many_v)), (h_sort, .inl (cA 0, 120, .inl h_sort_v)), (h_z, .inl (cA 2, 120, .inr (.inl h_z_v))), (h_faultAt, .inl (cA 0, 3, .inl h_faultAt_v)), (h_left, .inl (cA 0, 40, .inl o.2.2.2)), (h_stays, .inl (cA 1, 64, .inl h_stays_v))] (va_A [(h, .inr (5, [.int h_code, .long h_seed, .long h_state, .ref h_many, .ref h_sort, .ref h_x, .ref h_y, .ref h_z, .ref h_fault, .ref h_faultAt, .ref h_left, .int h_lefts, .ref h_stays, .ref h_text, .int h_size])), (h_many, .inl (cA 0, 3, .inl h_many_v)), (h_sort, .inl (cA 0, 120, .inl h_sort_v)), (h_z, .inl (cA 2, 120, .inr (.inl h_z_v))), (h_faultAt, .inl (cA 0, 3, .inl h_faultAt_v)), (h_left, .inl (cA 0, 40, .inl h_left_v)), (h_stays, .inl (cA 1, 64, .inl h_stays_v))] sz) t) (va_A [(h, .inr (5, [.int h_code, .long h_seed, .long h_state, .ref h_many, .ref h_sort, .ref h_x, .ref h_y, .ref h_z, .ref h_fault, .ref h_faultAt, .ref h_left, .int h_lefts, .ref h_stays, .ref h_text, .int h_size])), (h_many, .inl (cA 0, 3, .inl h_many_v)), (h_sort, .inl (cA 0, 120, .inl h_sort_v)), (h_z, .inl (cA 2, 120, .inr (.inl h_z_v))), (h_faultAt, .inl (cA 0, 3, .inl h_faultAt_v)), (h_left, .inl (cA 0, 40, .inl h_left_v)), (h_stays, .inl (cA 1, 64, .inl h_stays_v))] sz)) 0 0 (va_A [(h, .inr (5, [.int h_code, .long h_seed, .long h_state, .ref h_many, .ref h_sort, .ref h_x, .ref h_y, .ref h_z, .ref h_fault, .ref h_faultAt, .ref h_left, .int h_lefts, .ref h_stays, .ref h_text, .int h_size])), (h_many, .inl (cA 0, 3, .inl h_many_v)), (h_sort, .inl (cA 0, 120, .inl h_sort_v)), (h_z, .inl (cA 2, 120, .inr (.inl h_z_v))), (h_faultAt, .inl (cA 0, 3, .inl h_faultAt_v)), (h_left, .inl (cA 0, 40, .inl h_left_v)), (h_stays, .inl (cA 1, 64, .inl h_stays_v))] sz) := by
  refine Met.ofW (cc := cX5_shorter) (maxL := 3) (ret := (some .int)) (by decide) rfl ?_
  intro p e s m args below meth c s₁ B hml hv
  obtain ⟨rfl, hsz, hP, hD0, hG, hZ⟩ := hv
  have hx := B.exec
  have hb := B.bytes
  have hr := B.returns
  have hts : ∀ w ∈ kq_T, w.before _ s = true := fun w h => atoms_spec (ws := wX5_shorter) B.pre w (List.mem_cons_of_mem _ h)
  have hown : s.vm.findClass RX5 = some m.cls := findClass_of_methodNamed B.named
  have hlocks := B.notSynchronized
  have hK := hG.1
  subst hsz
  have hD := hD0.self (sz := s.heap.size)
  generalize hAe : va_A [(h, .inr (5, [.int h_code, .long h_seed, .long h_state, .ref h_many, .ref h_sort, .ref h_x, .ref h_y, .ref h_z, .ref h_fault, .ref h_faultAt, .ref h_left, .int h_lefts, .ref h_stays, .ref h_text, .int h_size])), (h_many, .inl (cA 0, 3, .inl h_many_v)), (h_sort, .inl (cA 0, 120, .inl h_sort_v)), (h_z, .inl (cA 2, 120, .inr (.inl h_z_v))), (h_faultAt, .inl (cA 0, 3, .inl h_faultAt_v)), (h_left, .inl (cA 0, 40, .inl h_left_v)), (h_stays, .inl (cA 1, 64, .inl h_stays_v))] s.heap.size = A at hD hZ ⊢
  have hA : ∀ q : Nat, s.heap.size ≤ q → A q := fun q h => by rw [← hAe]; exact Or.inr h
  have hl := lv_entry [.ref h] (n := 3) (Nat.le_of_ble_eq_true rfl)
  rw [lg_entry_eq]
  generalize (lg_sl [.ref h] ++ List.replicate (3 - (lg_sl [.ref h]).length) Slot.unset).toArray = ls at hl ⊢
  have hl : lv_has ls 3 [(0, .ref h)] := hl
  obtain ⟨H, hHe⟩ : ∃ H : Heap, H = s.heap := ⟨_, rfl⟩
  have hP : va_P (dC, dI) vwCl [(h, .inr (5, [.int h_code, .long h_seed, .long h_state, .ref h_many, .ref h_sort, .ref h_x, .ref h_y, .ref h_z, .ref h_fault, .ref h_faultAt, .ref h_left, .int h_lefts, .ref h_stays, .ref h_text, .int h_size])), (h_many, .inl (cA 0, 3, .inl h_many_v)), (h_sort, .inl (cA 0, 120, .inl h_sort_v)), (h_z, .inl (cA 2, 120, .inr (.inl h_z_v))), (h_faultAt, .inl (cA 0, 3, .inl h_faultAt_v)), (h_left, .inl (cA 0, 40, .inl h_left_v)), (h_stays, .inl (cA 1, 64, .inl h_stays_v))] H := by rw [hHe]; exact hP
  have hS : va_S A s.heap H [] := by rw [hHe]; exact va_S.rf
  rw [← hHe]
  unfold f_X5_shorter at hf
  refine lv_aload_n hx hb dX5_shorter_0 rfl (lv_at hl 0 rfl) ?_
  refine lv_iconst (v := 0) hx hb dX5_shorter_1 (by decide) ?_
  refine va_put (D := (dC, dI)) (ci := 5) (v := .int 0) (ty := (.int)) (C := RX5) (T := TX5) (N := 15) hx hb hts iwX5 tyX5 tyX5_ok nmX5 hown hK hP hD hS 0 rfl rfl 0 (by decide) (hts _ tw_335) (fun _ h9 => h9) rfl (by decide +kernel) rfl rfl (Nat.le_of_ble_eq_true rfl) dX5_shorter_2 (fun H locs hP hD hS => ?_)
  have hP : va_P (dC, dI) vwCl [(h, .inr (5, [.int 0, .long h_seed, .long h_state, .ref h_many, .ref h_sort, .ref h_x, .ref h_y, .ref h_z, .ref h_fault, .ref h_faultAt, .ref h_left, .int h_lefts, .ref h_stays, .ref h_text, .int h_size])), (h_many, .inl (cA 0, 3, .inl h_many_v)), (h_sort, .inl (cA 0, 120, .inl h_sort_v)), (h_z, .inl (cA 2, 120, .inr (.inl h_z_v))), (h_faultAt, .inl (cA 0, 3, .inl h_faultAt_v)), (h_left, .inl (cA 0, 40, .inl h_left_v)), (h_stays, .inl (cA 1, 64, .inl h_stays_v))] H := hP
  have hD : va_D A [(h, .inr (5, [.int 0, .long h_seed, .long h_state, .ref h_many, .ref h_sort, .ref h_x, .ref h_y, .ref h_z, .ref h_fault, .ref h_faultAt, .ref h_left, .int h_lefts, .ref h_stays, .ref h_text, .int h_size])), (h_many, .inl (cA 0, 3, .inl h_many_v)), (h_sort, .inl (cA 0, 120, .inl h_sort_v)), (h_z, .inl (cA 2, 120, .inr (.inl h_z_v))), (h_faultAt, .inl (cA 0, 3, .inl h_faultAt_v)), (h_left, .inl (cA 0, 40, .inl h_left_v)), (h_stays, .inl (cA 1, 64, .inl h_stays_v))] := hD
  refine lv_aload_n hx hb dX5_shorter_5 rfl (lv_at hl 0 rfl) ?_
  refine va_get (D := (dC, dI)) (ci := 5) (v := .ref h_many) (C := RX5) (T := TX5) (N := 15) hx hb hts iwX5 hown hK hP 0 rfl rfl 3 (by decide) (hts _ tw_338) (fun _ h9 => h9) rfl dX5_shorter_6 ?_
  refine lv_iconst (v := 0) hx hb dX5_shorter_9 (by decide) ?_
  refine va_iald hx hb hK hP 1 0 rfl rfl (show ¬ ((0 : Int32) < 0 ∨ 3 ≤ (0 : Int32).toNatClampNeg) by decide) dX5_shorter_10 ?_
  refine lv_if_ne (tgt := 17) hx hb dX5_shorter_11 (by decide) (fun c2 => ?_) (fun c2 => ?_)
  · have hf := kp_n c2 hf
    refine lv_aload_n hx hb dX5_shorter_17 rfl (lv_at hl 0 rfl) ?_
    refine va_get (D := (dC, dI)) (ci := 5) (v := .ref h_stays) (C := RX5) (T := TX5) (N := 15) hx hb hts iwX5 hown hK hP 0 rfl rfl 12 (by decide) (hts _ tw_347) (fun _ h9 => h9) rfl dX5_shorter_18 ?_
    refine lv_aload_n hx hb dX5_shorter_21 rfl (lv_at hl 0 rfl) ?_
    refine lv_iconst (v := 0) hx hb dX5_shorter_22 (by decide) ?_
    refine lv_iconst (v := 0) hx hb dX5_shorter_23 (by decide) ?_
    obtain ⟨r3, hr3, hf⟩ := kp_b hf
    have hPc := hP.sub (ws' := [(h, .inr (5, [.int 0, .long h_seed, .long h_state, .ref h_many, .ref h_sort, .ref h_x, .ref h_y, .ref h_z, .ref h_fault, .ref h_faultAt, .ref h_left, .int h_lefts, .ref h_stays, .ref h_text, .int h_size])), (h_sort, .inl (cA 0, 120, .inl h_sort_v)), (h_z, .inl (cA 2, 120, .inr (.inl h_z_v))), (h_faultAt, .inl (cA 0, 3, .inl h_faultAt_v)), (h_left, .inl (cA 0, 40, .inl h_left_v))]) [0, 2, 3, 4, 5] rfl
    have hDc := hD.sub (ws' := [(h, .inr (5, [.int 0, .long h_seed, .long h_state, .ref h_many, .ref h_sort, .ref h_x, .ref h_y, .ref h_z, .ref h_fault, .ref h_faultAt, .ref h_left, .int h_lefts, .ref h_stays, .ref h_text, .int h_size])), (h_sort, .inl (cA 0, 120, .inl h_sort_v)), (h_z, .inl (cA 2, 120, .inr (.inl h_z_v))), (h_faultAt, .inl (cA 0, 3, .inl h_faultAt_v)), (h_left, .inl (cA 0, 40, .inl h_left_v))]) [0, 2, 3, 4, 5] (by decide) rfl
    have hFc := va_free (wc := [(h, .inr (5, [.int 0, .long h_seed, .long h_state, .ref h_many, .ref h_sort, .ref h_x, .ref h_y, .ref h_z, .ref h_fault, .ref h_faultAt, .ref h_left, .int h_lefts, .ref h_stays, .ref h_text, .int h_size])), (h_sort, .inl (cA 0, 120, .inl h_sort_v)), (h_z, .inl (cA 2, 120, .inr (.inl h_z_v))), (h_faultAt, .inl (cA 0, 3, .inl h_faultAt_v)), (h_left, .inl (cA 0, 40, .inl h_left_v))]) hD hS hA [0, 2, 3, 4, 5] rfl
    refine va_calli (va_runV (As := [.int 0, .int 0]) (rest := [.ref h_stays]) ⟨hx, hb, hml, hown, hts⟩ (c_X5_signature l dC dI cA tt h h_sort h_z h_faultAt h_left h_many h_x h_y h_fault h_stays h_text H.size 0 h_seed h_state h_lefts h_size h_sort_v h_z_v h_faultAt_v h_left_v 0 0 r3 hr3) (cwV 2 hts (kq_gV tw_445 tw_447 tw_17 tw_25 tw_448) rfl rfl rfl (by decide +kernel) ⟨Nat.le_of_ble_eq_true rfl, Nat.le_of_ble_eq_true rfl⟩) ⟨kq_blind, va_recv hK hP (ci := 5) (q0 := 0) rfl rfl, kq_pre hG hZ hS hPc hDc hFc⟩ rfl rfl hl.1 rfl (lv_room (Nat.le_of_ble_eq_true rfl)) dX5_shorter_24 ⟨Nat.le_of_ble_eq_true rfl, Nat.le_of_ble_eq_true rfl⟩) hS (fun q _ h => hFc q h) hFc (fun rv u t H1 locs ht hvm hw hB hz1 hk1 hS => ?_)
    obtain ⟨hP1, hD1⟩ := hB
    rw [ht] at hP1
    have hw := hw.symm
    subst hw
    obtain ⟨hP, hD⟩ := va_join (wr := [(h_many, .inl (cA 0, 3, .inl h_many_v)), (h_stays, .inl (cA 1, 64, .inl h_stays_v))]) (w1 := [(h, .inr (5, [.int 0, .long h_seed, .long h_state, .ref h_many, .ref h_sort, .ref h_x, .ref h_y, .ref h_z, .ref h_fault, .ref h_faultAt, .ref h_left, .int h_lefts, .ref h_stays, .ref h_text, .int h_size])), (h_sort, .inl (cA 0, 120, .inl h_sort_v)), (h_z, .inl (cA 2, 120, .inr (.inl h_z_v))), (h_faultAt, .inl (cA 0, 3, .inl h_faultAt_v)), (h_left, .inl (cA 0, 40, .inl h_left_v))]) hP hD [0, 2, 3, 4, 5] [1, 6] rfl rfl (by decide) (by decide) hk1 hFc hP1 hD1
    have hP : va_P (dC, dI) vwCl [(h, .inr (5, [.int 0, .long h_seed, .long h_state, .ref h_many, .ref h_sort, .ref h_x, .ref h_y, .ref h_z, .ref h_fault, .ref h_faultAt, .ref h_left, .int h_lefts, .ref h_stays, .ref h_text, .int h_size])), (h_many, .inl (cA 0, 3, .inl h_many_v)), (h_sort, .inl (cA 0, 120, .inl h_sort_v)), (h_z, .inl (cA 2, 120, .inr (.inl h_z_v))), (h_faultAt, .inl (cA 0, 3, .inl h_faultAt_v)), (h_left, .inl (cA 0, 40, .inl h_left_v)), (h_stays, .inl (cA 1, 64, .inl h_stays_v))] H1 := hP.sub [2, 0, 3, 4, 5, 6, 1] rfl
    have hD : va_D A [(h, .inr (5, [.int 0, .long h_seed, .long h_state, .ref h_many, .ref h_sort, .ref h_x, .ref h_y, .ref h_z, .ref h_fault, .ref h_faultAt, .ref h_left, .int h_lefts, .ref h_stays, .ref h_text, .int h_size])), (h_many, .inl (cA 0, 3, .inl h_many_v)), (h_sort, .inl (cA 0, 120, .inl h_sort_v)), (h_z, .inl (cA 2, 120, .inr (.inl h_z_v))), (h_faultAt, .inl (cA 0, 3, .inl h_faultAt_v)), (h_left, .inl (cA 0, 40, .inl h_left_v)), (h_stays, .inl (cA 1, 64, .inl h_stays_v))] := hD.sub [2, 0, 3, 4, 5, 6, 1] (by decide) rfl
    generalize H1 = H at hP hS ⊢
    obtain ⟨hq4, hf⟩ := kp_t hf
    refine va_zald hx hb hK hP 6 1 rfl rfl hq4 dX5_shorter_27 ?_
    refine lv_if_eq (tgt := 72) hx hb dX5_shorter_28 (by decide) (fun c5 => ?_) (fun c5 => ?_)
    · have hf := kp_p c5 hf
      refine lv_aload_n hx hb dX5_shorter_72 rfl (lv_at hl 0 rfl) ?_
      refine va_get (D := (dC, dI)) (ci := 5) (v := .int h_lefts) (C := RX5) (T := TX5) (N := 15) hx hb hts iwX5 hown hK hP 0 rfl rfl 11 (by decide) (hts _ tw_346) (fun _ h9 => h9) rfl dX5_shorter_73 ?_
      have eo := Option.some.inj hf
      subst eo
      exact W.iret (v := h_lefts) hx hb hr (fun t ht hW => ⟨⟨_, (), rfl, rfl, kq_mk ht hP hD⟩, hS.F ht⟩) hS.2.2 dX5_shorter_76
    · have hf := kp_n c5 hf
      refine lv_aload_n hx hb dX5_shorter_31 rfl (lv_at hl 0 rfl) ?_
      refine va_get (D := (dC, dI)) (ci := 5) (v := .int h_lefts) (C := RX5) (T := TX5) (N := 15) hx hb hts iwX5 hown hK hP 0 rfl rfl 11 (by decide) (hts _ tw_346) (fun _ h9 => h9) rfl dX5_shorter_32 ?_
      refine lv_iconst (v := 2) hx hb dX5_shorter_35 (by decide) ?_
      refine lv_idiv hx hb dX5_shorter_36 (by decide) ?_
      refine lv_istore_n (lv' := [(1, .int (h_lefts / 2)), (0, .ref h)]) hx hb dX5_shorter_37 rfl hl (by decide) rfl (fun ls hl => ?_)
      refine kq_ind (fun n H locs g => ∃ (h_code : Int32) (h_lefts : Int32) (h_left_v : Nat → Int32) (v1 : Int32) (ls : Array Slot), g = F0 m 38 ls [] ∧ lv_has ls 3 [(0, .ref h), (1, .int v1)] ∧ va_P (dC, dI) vwCl [(h, .inr (5, [.int h_code, .long h_seed, .long h_state, .ref h_many, .ref h_sort, .ref h_x, .ref h_y, .ref h_z, .ref h_fault, .ref h_faultAt, .ref h_left, .int h_lefts, .ref h_stays, .ref h_text, .int h_size])), (h_many, .inl (cA 0, 3, .inl h_many_v)), (h_sort, .inl (cA 0, 120, .inl h_sort_v)), (h_z, .inl (cA 2, 120, .inr (.inl h_z_v))), (h_faultAt, .inl (cA 0, 3, .inl h_faultAt_v)), (h_left, .inl (cA 0, 40, .inl h_left_v)), (h_stays, .inl (cA 1, 64, .inl h_stays_v))] H ∧ va_D A [(h, .inr (5, [.int h_code, .long h_seed, .long h_state, .ref h_many, .ref h_sort, .ref h_x, .ref h_y, .ref h_z, .ref h_fault, .ref h_faultAt, .ref h_left, .int h_lefts, .ref h_stays, .ref h_text, .int h_size])), (h_many, .inl (cA 0, 3, .inl h_many_v)), (h_sort, .inl (cA 0, 120, .inl h_sort_v)), (h_z, .inl (cA 2, 120, .inr (.inl h_z_v))), (h_faultAt, .inl (cA 0, 3, .inl h_faultAt_v)), (h_left, .inl (cA 0, 40, .inl h_left_v)), (h_stays, .inl (cA 1, 64, .inl h_stays_v))] ∧ va_S A s.heap H locs ∧ f_X5_shorter_L38 h_many_v h_sort_v h_z_v h_faultAt_v h_stays_v n h_code h_lefts h_left_v v1 = some o) (fun H locs g h => ?_) (fun n38 ih38 H locs g h => ?_) 64 _ _ _ ⟨0, h_lefts, h_left_v, h_lefts / 2, ls, rfl, lv_sub hl [1, 0] rfl, hP, hD, hS, hf⟩
      · obtain ⟨h_code, h_lefts, h_left_v, v1, ls, -, -, -, -, -, hf⟩ := h
        have hf : (none : Option (Int32 × Int32 × Int32 × (Nat → Int32))) = some o := hf
        cases hf
      · obtain ⟨h_code, h_lefts, h_left_v, v1, ls, rfl, hl, hP, hD, hS, hf⟩ := h
        have hf := (e_X5_shorter_L38 h_many_v h_sort_v h_z_v h_faultAt_v h_stays_v n38 h_code h_lefts h_left_v v1).symm.trans hf
        refine lv_iload_n hx hb dX5_shorter_38 rfl (lv_at hl 1 rfl) ?_
        refine lv_if_le (tgt := 72) hx hb dX5_shorter_39 (by decide) (fun c39001 => ?_) (fun c39001 => ?_)
        · have hf := kp_p c39001 hf
          refine lv_aload_n hx hb dX5_shorter_72 rfl (lv_at hl 0 rfl) ?_
          refine va_get (D := (dC, dI)) (ci := 5) (v := .int h_lefts) (C := RX5) (T := TX5) (N := 15) hx hb hts iwX5 hown hK hP 0 rfl rfl 11 (by decide) (hts _ tw_346) (fun _ h9 => h9) rfl dX5_shorter_73 ?_
          have eo := Option.some.inj hf
          subst eo
          exact W.iret (v := h_lefts) hx hb hr (fun t ht hW => ⟨⟨_, (), rfl, rfl, kq_mk ht hP hD⟩, hS.F ht⟩) hS.2.2 dX5_shorter_76
        · have hf := kp_n c39001 hf
          refine lv_aload_n hx hb dX5_shorter_42 rfl (lv_at hl 0 rfl) ?_
          refine lv_iload_n hx hb dX5_shorter_43 rfl (lv_at hl 1 rfl) ?_
          obtain ⟨r39002, hr39002, hf⟩ := kp_b hf
          have hPc := hP.sub (ws' := [(h, .inr (5, [.int h_code, .long h_seed, .long h_state, .ref h_many, .ref h_sort, .ref h_x, .ref h_y, .ref h_z, .ref h_fault, .ref h_faultAt, .ref h_left, .int h_lefts, .ref h_stays, .ref h_text, .int h_size])), (h_sort, .inl (cA 0, 120, .inl h_sort_v)), (h_z, .inl (cA 2, 120, .inr (.inl h_z_v))), (h_faultAt, .inl (cA 0, 3, .inl h_faultAt_v)), (h_left, .inl (cA 0, 40, .inl h_left_v)), (h_stays, .inl (cA 1, 64, .inl h_stays_v))]) [0, 2, 3, 4, 5, 6] rfl
          have hDc := hD.sub (ws' := [(h, .inr (5, [.int h_code, .long h_seed, .long h_state, .ref h_many, .ref h_sort, .ref h_x, .ref h_y, .ref h_z, .ref h_fault, .ref h_faultAt, .ref h_left, .int h_lefts, .ref h_stays, .ref h_text, .int h_size])), (h_sort, .inl (cA 0, 120, .inl h_sort_v)), (h_z, .inl (cA 2, 120, .inr (.inl h_z_v))), (h_faultAt, .inl (cA 0, 3, .inl h_faultAt_v)), (h_left, .inl (cA 0, 40, .inl h_left_v)), (h_stays, .inl (cA 1, 64, .inl h_stays_v))]) [0, 2, 3, 4, 5, 6] (by decide) rfl
          have hFc := va_free (wc := [(h, .inr (5, [.int h_code, .long h_seed, .long h_state, .ref h_many, .ref h_sort, .ref h_x, .ref h_y, .ref h_z, .ref h_fault, .ref h_faultAt, .ref h_left, .int h_lefts, .ref h_stays, .ref h_text, .int h_size])), (h_sort, .inl (cA 0, 120, .inl h_sort_v)), (h_z, .inl (cA 2, 120, .inr (.inl h_z_v))), (h_faultAt, .inl (cA 0, 3, .inl h_faultAt_v)), (h_left, .inl (cA 0, 40, .inl h_left_v)), (h_stays, .inl (cA 1, 64, .inl h_stays_v))]) hD hS hA [0, 2, 3, 4, 5, 6] rfl
          refine va_calli (va_runV (As := [.int v1]) (rest := []) ⟨hx, hb, hml, hown, hts⟩ (c_X5_pass l dC dI cA tt h h_sort h_z h_faultAt h_left h_stays h_many h_x h_y h_fault h_text H.size h_code h_seed h_state h_lefts h_size h_sort_v h_z_v h_faultAt_v h_left_v h_stays_v v1 r39002 hr39002) (cwV 1 hts (kq_gV tw_458 tw_460 tw_18 tw_25 tw_461) rfl rfl rfl (by decide +kernel) ⟨Nat.le_of_ble_eq_true rfl, Nat.le_of_ble_eq_true rfl⟩) ⟨kq_blind, va_recv hK hP (ci := 5) (q0 := 0) rfl rfl, kq_pre hG hZ hS hPc hDc hFc⟩ rfl rfl hl.1 rfl (lv_room (Nat.le_of_ble_eq_true rfl)) dX5_shorter_44 ⟨Nat.le_of_ble_eq_true rfl, Nat.le_of_ble_eq_true rfl⟩) hS (fun q _ h => hFc q h) hFc (fun rv u t H1 locs ht hvm hw hB hz1 hk1 hS => ?_)
          obtain ⟨hP1, hD1⟩ := hB
          rw [ht] at hP1
          have hw := hw.symm
          subst hw
          obtain ⟨hP, hD⟩ := va_join (wr := [(h_many, .inl (cA 0, 3, .inl h_many_v))]) (w1 := [(h, .inr (5, [.int h_code, .long h_seed, .long h_state, .ref h_many, .ref h_sort, .ref h_x, .ref h_y, .ref h_z, .ref h_fault, .ref h_faultAt, .ref h_left, .int r39002.2.1, .ref h_stays, .ref h_text, .int h_size])), (h_sort, .inl (cA 0, 120, .inl h_sort_v)), (h_z, .inl (cA 2, 120, .inr (.inl h_z_v))), (h_faultAt, .inl (cA 0, 3, .inl h_faultAt_v)), (h_left, .inl (cA 0, 40, .inl r39002.2.2)), (h_stays, .inl (cA 1, 64, .inl h_stays_v))]) hP hD [0, 2, 3, 4, 5, 6] [1] rfl rfl (by decide) (by decide) hk1 hFc hP1 hD1
          have hP : va_P (dC, dI) vwCl [(h, .inr (5, [.int h_code, .long h_seed, .long h_state, .ref h_many, .ref h_sort, .ref h_x, .ref h_y, .ref h_z, .ref h_fault, .ref h_faultAt, .ref h_left, .int r39002.2.1, .ref h_stays, .ref h_text, .int h_size])), (h_many, .inl (cA 0, 3, .inl h_many_v)), (h_sort, .inl (cA 0, 120, .inl h_sort_v)), (h_z, .inl (cA 2, 120, .inr (.inl h_z_v))), (h_faultAt, .inl (cA 0, 3, .inl h_faultAt_v)), (h_left, .inl (cA 0, 40, .inl r39002.2.2)), (h_stays, .inl (cA 1, 64, .inl h_stays_v))] H1 := hP.sub [1, 0, 2, 3, 4, 5, 6] rfl
          have hD : va_D A [(h, .inr (5, [.int h_code, .long h_seed, .long h_state, .ref h_many, .ref h_sort, .ref h_x, .ref h_y, .ref h_z, .ref h_fault, .ref h_faultAt, .ref h_left, .int r39002.2.1, .ref h_stays, .ref h_text, .int h_size])), (h_many, .inl (cA 0, 3, .inl h_many_v)), (h_sort, .inl (cA 0, 120, .inl h_sort_v)), (h_z, .inl (cA 2, 120, .inr (.inl h_z_v))), (h_faultAt, .inl (cA 0, 3, .inl h_faultAt_v)), (h_left, .inl (cA 0, 40, .inl r39002.2.2)), (h_stays, .inl (cA 1, 64, .inl h_stays_v))] := hD.sub [1, 0, 2, 3, 4, 5, 6] (by decide) rfl
          generalize H1 = H at hP hS ⊢
          refine lv_istore_n (lv' := [(2, .int r39002.1), (0, .ref h), (1, .int v1)]) hx hb dX5_shorter_47 rfl hl (by decide) rfl (fun ls hl => ?_)
          refine lv_iload_n hx hb dX5_shorter_48 rfl (lv_at hl 2 rfl) ?_
          refine lv_iconst (v := 1) hx hb dX5_shorter_49 (by decide) ?_
          refine lv_icmp_le (tgt := 59) hx hb dX5_shorter_50 (by decide) (fun c39003 => ?_) (fun c39003 => ?_)
          · have hf := kp_p c39003 hf
            refine lv_iload_n hx hb dX5_shorter_59 rfl (lv_at hl 0 rfl) ?_
            refine lv_if_eq (tgt := 67) hx hb dX5_shorter_60 (by decide) (fun c39004 => ?_) (fun c39004 => ?_)
            · have hf := kp_p c39004 hf
              refine lv_iconst (v := 0) hx hb dX5_shorter_67 (by decide) ?_
              refine lv_istore_n (lv' := [(1, .int 0), (2, .int r39002.1), (0, .ref h)]) hx hb dX5_shorter_68 rfl hl (by decide) rfl (fun ls hl => ?_)
              refine lv_goto (tgt := 38) hx hb dX5_shorter_69 (by decide) ?_
              exact ih38 _ _ _ ⟨h_code, r39002.2.1, r39002.2.2, 0, ls, rfl, lv_sub hl [2, 0] rfl, hP, hD, hS, hf⟩
            · have hf := kp_n c39004 hf
              refine lv_iconst (v := 1) hx hb dX5_shorter_63 (by decide) ?_
              refine lv_goto (tgt := 68) hx hb dX5_shorter_64 (by decide) ?_
              refine lv_istore_n (lv' := [(1, .int 1), (2, .int r39002.1), (0, .ref h)]) hx hb dX5_shorter_68 rfl hl (by decide) rfl (fun ls hl => ?_)
              refine lv_goto (tgt := 38) hx hb dX5_shorter_69 (by decide) ?_
              exact ih38 _ _ _ ⟨h_code, r39002.2.1, r39002.2.2, 1, ls, rfl, lv_sub hl [2, 0] rfl, hP, hD, hS, hf⟩
          · have hf := kp_n c39003 hf
            refine lv_iload_n hx hb dX5_shorter_53 rfl (lv_at hl 2 rfl) ?_
            refine lv_iconst (v := 2) hx hb dX5_shorter_54 (by decide) ?_
            refine lv_idiv hx hb dX5_shorter_55 (by decide) ?_
            refine lv_goto (tgt := 68) hx hb dX5_shorter_56 (by decide) ?_
            refine lv_istore_n (lv' := [(1, .int (v1 / 2)), (2, .int r39002.1), (0, .ref h)]) hx hb dX5_shorter_68 rfl hl (by decide) rfl (fun ls hl => ?_)
            refine lv_goto (tgt := 38) hx hb dX5_shorter_69 (by decide) ?_
            exact ih38 _ _ _ ⟨h_code, r39002.2.1, r39002.2.2, v1 / 2, ls, rfl, lv_sub hl [2, 0] rfl, hP, hD, hS, hf⟩
  · have hf := kp_p c2 hf
    refine lv_bipush (v := (-3)) hx hb dX5_shorter_14 (by decide) ?_
    have eo := Option.some.inj hf
    subst eo
    exact W.iret (v := (-3)) hx hb hr (fun t ht hW => ⟨⟨_, (), rfl, rfl, kq_mk ht hP hD⟩, hS.F ht⟩) hS.2.2 dX5_shorter_16

def f_X5_left (h_code : Int32) (h_lefts : Int32) (h_left_v : Nat → Int32) (p0 : Int32) : Option (Int32 × Int32) :=
    (if p0 < 0 then
    some (((-1), 0))
    else
    (if h_lefts ≤ p0 then
    some (((-1), 0))
    else
    if p0 < 0 ∨ 40 ≤ p0.toNatClampNeg then none else
    some ((h_left_v p0.toNatClampNeg, 0))))
set_option maxHeartbeats 4000000 in
set_option maxRecDepth 100000 in
theorem c_X5_left (l : Launch) (dC : Nat → ClassId) (dI : Nat → Nat → Nat) (cA : Nat → ClassId) (tt : Nat → Nat) (h h_left h_many h_sort h_x h_y h_z h_fault h_faultAt h_stays h_text : Nat) (sz : Nat) (h_code : Int32) (h_seed : Int64) (h_state : Int64) (h_lefts : Int32) (h_size : Int32) (h_left_v : Nat → Int32) (p0 : Int32) (o : Int32 × Int32) (hf : f_X5_left h_code h_lefts h_left_v p0 = some o) : Met l yX5_left wX5_left ({ frames := 0, cells := 0, slots := 0, locals := 0 }) (kq_Pc dC dI cA tt [.ref h, .int p0] [(h, .inr (5, [.int h_code, .long h_seed, .long h_state, .ref h_many, .ref h_sort, .ref h_x, .ref h_y, .ref h_z, .ref h_fault, .ref h_faultAt, .ref h_left, .int h_lefts, .ref h_stays, .ref h_text, .int h_size])), (h_left, .inl (cA 0, 40, .inl h_left_v))] sz) (va_Qi (fun r (_ : Unit) => r = o.1) (fun _ t => kq_B dC dI [(h, .inr (5, [.int o.2, .long h_seed, .long h_state, .ref h_many, .ref h_sort, .ref h_x, .ref h_y, .ref h_z, .ref h_fault, .ref h_faultAt, .ref h_left, .int h_lefts, .ref h_stays, .ref h_text, .int h_size])), (h_left, .inl (cA 0, 40, .inl h_left_v))] (va_A [(h, .inr (5, [.int h_code, .long h_seed, .long h_state, .ref h_many, .ref h_sort, .ref h_x, .ref h_y, .ref h_z, .ref h_fault, .ref h_faultAt, .ref h_left, .int h_lefts, .ref h_stays, .ref h_text, .int h_size])), (h_left, .inl (cA 0, 40, .inl h_left_v))] sz) t) (va_A [(h, .inr (5, [.int h_code, .long h_seed, .long h_state, .ref h_many, .ref h_sort, .ref h_x, .ref h_y, .ref h_z, .ref h_fault, .ref h_faultAt, .ref h_left, .int h_lefts, .ref h_stays, .ref h_text, .int h_size])), (h_left, .inl (cA 0, 40, .inl h_left_v))] sz)) 0 0 (va_A [(h, .inr (5, [.int h_code, .long h_seed, .long h_state, .ref h_many, .ref h_sort, .ref h_x, .ref h_y, .ref h_z, .ref h_fault, .ref h_faultAt, .ref h_left, .int h_lefts, .ref h_stays, .ref h_text, .int h_size])), (h_left, .inl (cA 0, 40, .inl h_left_v))] sz) := by
  refine Met.ofW (cc := cX5_left) (maxL := 2) (ret := (some .int)) (by decide) rfl ?_
  intro p e s m args below meth c s₁ B hml hv
  obtain ⟨rfl, hsz, hP, hD0, hG, hZ⟩ := hv
  have hx := B.exec
  have hb := B.bytes
  have hr := B.returns
  have hts : ∀ w ∈ kq_T, w.before _ s = true := fun w h => atoms_spec (ws := wX5_left) B.pre w (List.mem_cons_of_mem _ h)
  have hown : s.vm.findClass RX5 = some m.cls := findClass_of_methodNamed B.named
  have hlocks := B.notSynchronized
  have hK := hG.1
  subst hsz
  have hD := hD0.self (sz := s.heap.size)
  generalize hAe : va_A [(h, .inr (5, [.int h_code, .long h_seed, .long h_state, .ref h_many, .ref h_sort, .ref h_x, .ref h_y, .ref h_z, .ref h_fault, .ref h_faultAt, .ref h_left, .int h_lefts, .ref h_stays, .ref h_text, .int h_size])), (h_left, .inl (cA 0, 40, .inl h_left_v))] s.heap.size = A at hD hZ ⊢
  have hA : ∀ q : Nat, s.heap.size ≤ q → A q := fun q h => by rw [← hAe]; exact Or.inr h
  have hl := lv_entry [.ref h, .int p0] (n := 2) (Nat.le_of_ble_eq_true rfl)
  rw [lg_entry_eq]
  generalize (lg_sl [.ref h, .int p0] ++ List.replicate (2 - (lg_sl [.ref h, .int p0]).length) Slot.unset).toArray = ls at hl ⊢
  have hl : lv_has ls 2 [(0, .ref h), (1, .int p0)] := hl
  obtain ⟨H, hHe⟩ : ∃ H : Heap, H = s.heap := ⟨_, rfl⟩
  have hP : va_P (dC, dI) vwCl [(h, .inr (5, [.int h_code, .long h_seed, .long h_state, .ref h_many, .ref h_sort, .ref h_x, .ref h_y, .ref h_z, .ref h_fault, .ref h_faultAt, .ref h_left, .int h_lefts, .ref h_stays, .ref h_text, .int h_size])), (h_left, .inl (cA 0, 40, .inl h_left_v))] H := by rw [hHe]; exact hP
  have hS : va_S A s.heap H [] := by rw [hHe]; exact va_S.rf
  rw [← hHe]
  unfold f_X5_left at hf
  refine lv_aload_n hx hb dX5_left_0 rfl (lv_at hl 0 rfl) ?_
  refine lv_iconst (v := 0) hx hb dX5_left_1 (by decide) ?_
  refine va_put (D := (dC, dI)) (ci := 5) (v := .int 0) (ty := (.int)) (C := RX5) (T := TX5) (N := 15) hx hb hts iwX5 tyX5 tyX5_ok nmX5 hown hK hP hD hS 0 rfl rfl 0 (by decide) (hts _ tw_335) (fun _ h9 => h9) rfl (by decide +kernel) rfl rfl (Nat.le_of_ble_eq_true rfl) dX5_left_2 (fun H locs hP hD hS => ?_)
  have hP : va_P (dC, dI) vwCl [(h, .inr (5, [.int 0, .long h_seed, .long h_state, .ref h_many, .ref h_sort, .ref h_x, .ref h_y, .ref h_z, .ref h_fault, .ref h_faultAt, .ref h_left, .int h_lefts, .ref h_stays, .ref h_text, .int h_size])), (h_left, .inl (cA 0, 40, .inl h_left_v))] H := hP
  have hD : va_D A [(h, .inr (5, [.int 0, .long h_seed, .long h_state, .ref h_many, .ref h_sort, .ref h_x, .ref h_y, .ref h_z, .ref h_fault, .ref h_faultAt, .ref h_left, .int h_lefts, .ref h_stays, .ref h_text, .int h_size])), (h_left, .inl (cA 0, 40, .inl h_left_v))] := hD
  refine lv_iload_n hx hb dX5_left_5 rfl (lv_at hl 1 rfl) ?_
  refine lv_if_lt (tgt := 26) hx hb dX5_left_6 (by decide) (fun c1 => ?_) (fun c1 => ?_)
  · have hf := kp_p c1 hf
    refine lv_iconst (v := (-1)) hx hb dX5_left_26 (by decide) ?_
    have eo := Option.some.inj hf
    subst eo
    exact W.iret (v := (-1)) hx hb hr (fun t ht hW => ⟨⟨_, (), rfl, rfl, kq_mk ht hP hD⟩, hS.F ht⟩) hS.2.2 dX5_left_27
  · have hf := kp_n c1 hf
    refine lv_iload_n hx hb dX5_left_9 rfl (lv_at hl 1 rfl) ?_
    refine lv_aload_n hx hb dX5_left_10 rfl (lv_at hl 0 rfl) ?_
    refine va_get (D := (dC, dI)) (ci := 5) (v := .int h_lefts) (C := RX5) (T := TX5) (N := 15) hx hb hts iwX5 hown hK hP 0 rfl rfl 11 (by decide) (hts _ tw_346) (fun _ h9 => h9) rfl dX5_left_11 ?_
    refine lv_icmp_ge (tgt := 26) hx hb dX5_left_14 (by decide) (fun c2 => ?_) (fun c2 => ?_)
    · have hf := kp_p c2 hf
      refine lv_iconst (v := (-1)) hx hb dX5_left_26 (by decide) ?_
      have eo := Option.some.inj hf
      subst eo
      exact W.iret (v := (-1)) hx hb hr (fun t ht hW => ⟨⟨_, (), rfl, rfl, kq_mk ht hP hD⟩, hS.F ht⟩) hS.2.2 dX5_left_27
    · have hf := kp_n c2 hf
      refine lv_aload_n hx hb dX5_left_17 rfl (lv_at hl 0 rfl) ?_
      refine va_get (D := (dC, dI)) (ci := 5) (v := .ref h_left) (C := RX5) (T := TX5) (N := 15) hx hb hts iwX5 hown hK hP 0 rfl rfl 10 (by decide) (hts _ tw_345) (fun _ h9 => h9) rfl dX5_left_18 ?_
      refine lv_iload_n hx hb dX5_left_21 rfl (lv_at hl 1 rfl) ?_
      obtain ⟨hq3, hf⟩ := kp_t hf
      refine va_iald hx hb hK hP 1 0 rfl rfl hq3 dX5_left_22 ?_
      refine lv_goto (tgt := 27) hx hb dX5_left_23 (by decide) ?_
      have eo := Option.some.inj hf
      subst eo
      exact W.iret (v := h_left_v p0.toNatClampNeg) hx hb hr (fun t ht hW => ⟨⟨_, (), rfl, rfl, kq_mk ht hP hD⟩, hS.F ht⟩) hS.2.2 dX5_left_27

def f_X5_minimal_L36 (h_lefts : Int32) (h_many_v : Nat → Int32) (h_sort_v : Nat → Int32) (h_z_v : Nat → Int64) (h_faultAt_v : Nat → Int32) (h_left_v : Nat → Int32) (h_stays_v : Nat → Int32) : Nat → Int32 → Int32 → Int32 → Option (Int32 × Int32)
  | 0, _, _, _ => none
  | n36 + 1, h_code, v1, v2 =>
    (if h_lefts ≤ v2 then
    if ¬ (v1 = 0 ∨ v1 = 1) then none else
    some ((v1, h_code))
    else
    (if v1 = 0 then
    if ¬ (v1 = 0 ∨ v1 = 1) then none else
    some ((v1, h_code))
    else
    (if h_lefts = 1 then
    f_X5_minimal_L36 h_lefts h_many_v h_sort_v h_z_v h_faultAt_v h_left_v h_stays_v n36 h_code 1 (v2 + 1)
    else
    (f_X5_signature h_lefts h_sort_v h_z_v h_faultAt_v h_left_v v2 1).bind fun r37006 =>
    if r37006 < 0 ∨ 64 ≤ r37006.toNatClampNeg then none else
    (if (h_stays_v r37006.toNatClampNeg) = 0 then
    f_X5_minimal_L36 h_lefts h_many_v h_sort_v h_z_v h_faultAt_v h_left_v h_stays_v n36 h_code 1 (v2 + 1)
    else
    f_X5_minimal_L36 h_lefts h_many_v h_sort_v h_z_v h_faultAt_v h_left_v h_stays_v n36 h_code 0 (v2 + 1)))))
theorem e_X5_minimal_L36 (h_lefts : Int32) (h_many_v : Nat → Int32) (h_sort_v : Nat → Int32) (h_z_v : Nat → Int64) (h_faultAt_v : Nat → Int32) (h_left_v : Nat → Int32) (h_stays_v : Nat → Int32) (n36 : Nat) (h_code : Int32) (v1 : Int32) (v2 : Int32) : f_X5_minimal_L36 h_lefts h_many_v h_sort_v h_z_v h_faultAt_v h_left_v h_stays_v (n36 + 1) h_code v1 v2 =
    ((if h_lefts ≤ v2 then
    if ¬ (v1 = 0 ∨ v1 = 1) then none else
    some ((v1, h_code))
    else
    (if v1 = 0 then
    if ¬ (v1 = 0 ∨ v1 = 1) then none else
    some ((v1, h_code))
    else
    (if h_lefts = 1 then
    f_X5_minimal_L36 h_lefts h_many_v h_sort_v h_z_v h_faultAt_v h_left_v h_stays_v n36 h_code 1 (v2 + 1)
    else
    (f_X5_signature h_lefts h_sort_v h_z_v h_faultAt_v h_left_v v2 1).bind fun r37006 =>
    if r37006 < 0 ∨ 64 ≤ r37006.toNatClampNeg then none else
    (if (h_stays_v r37006.toNatClampNeg) = 0 then
    f_X5_minimal_L36 h_lefts h_many_v h_sort_v h_z_v h_faultAt_v h_left_v h_stays_v n36 h_code 1 (v2 + 1)
    else
    f_X5_minimal_L36 h_lefts h_many_v h_sort_v h_z_v h_faultAt_v h_left_v h_stays_v n36 h_code 0 (v2 + 1)))))) := rfl
def f_X5_minimal (h_code : Int32) (h_lefts : Int32) (h_many_v : Nat → Int32) (h_sort_v : Nat → Int32) (h_z_v : Nat → Int64) (h_faultAt_v : Nat → Int32) (h_left_v : Nat → Int32) (h_stays_v : Nat → Int32) : Option (Int32 × Int32) :=
    (if (h_many_v (0 : Int32).toNatClampNeg) ≤ 0 then
    f_X5_minimal_L36 h_lefts h_many_v h_sort_v h_z_v h_faultAt_v h_left_v h_stays_v 64 0 0 0
    else
    (f_X5_signature h_lefts h_sort_v h_z_v h_faultAt_v h_left_v 0 0).bind fun r3 =>
    if r3 < 0 ∨ 64 ≤ r3.toNatClampNeg then none else
    (if (h_stays_v r3.toNatClampNeg) = 0 then
    f_X5_minimal_L36 h_lefts h_many_v h_sort_v h_z_v h_faultAt_v h_left_v h_stays_v 64 0 0 0
    else
    f_X5_minimal_L36 h_lefts h_many_v h_sort_v h_z_v h_faultAt_v h_left_v h_stays_v 64 0 1 0))
set_option maxHeartbeats 4000000 in
set_option maxRecDepth 100000 in
theorem c_X5_minimal (l : Launch) (dC : Nat → ClassId) (dI : Nat → Nat → Nat) (cA : Nat → ClassId) (tt : Nat → Nat) (h h_many h_sort h_z h_faultAt h_left h_stays h_x h_y h_fault h_text : Nat) (sz : Nat) (h_code : Int32) (h_seed : Int64) (h_state : Int64) (h_lefts : Int32) (h_size : Int32) (h_many_v : Nat → Int32) (h_sort_v : Nat → Int32) (h_z_v : Nat → Int64) (h_faultAt_v : Nat → Int32) (h_left_v : Nat → Int32) (h_stays_v : Nat → Int32) (o : Int32 × Int32) (hf : f_X5_minimal h_code h_lefts h_many_v h_sort_v h_z_v h_faultAt_v h_left_v h_stays_v = some o) : Met l yX5_minimal wX5_minimal ({ frames := 1, cells := 0, slots := 0, locals := 27 }) (kq_Pc dC dI cA tt [.ref h] [(h, .inr (5, [.int h_code, .long h_seed, .long h_state, .ref h_many, .ref h_sort, .ref h_x, .ref h_y, .ref h_z, .ref h_fault, .ref h_faultAt, .ref h_left, .int h_lefts, .ref h_stays, .ref h_text, .int h_size])), (h_many, .inl (cA 0, 3, .inl h_many_v)), (h_sort, .inl (cA 0, 120, .inl h_sort_v)), (h_z, .inl (cA 2, 120, .inr (.inl h_z_v))), (h_faultAt, .inl (cA 0, 3, .inl h_faultAt_v)), (h_left, .inl (cA 0, 40, .inl h_left_v)), (h_stays, .inl (cA 1, 64, .inl h_stays_v))] sz) (va_Qi (fun r (_ : Unit) => r = o.1) (fun _ t => kq_B dC dI [(h, .inr (5, [.int o.2, .long h_seed, .long h_state, .ref h_many, .ref h_sort, .ref h_x, .ref h_y, .ref h_z, .ref h_fault, .ref h_faultAt, .ref h_left, .int h_lefts, .ref h_stays, .ref h_text, .int h_size])), (h_many, .inl (cA 0, 3, .inl h_many_v)), (h_sort, .inl (cA 0, 120, .inl h_sort_v)), (h_z, .inl (cA 2, 120, .inr (.inl h_z_v))), (h_faultAt, .inl (cA 0, 3, .inl h_faultAt_v)), (h_left, .inl (cA 0, 40, .inl h_left_v)), (h_stays, .inl (cA 1, 64, .inl h_stays_v))] (va_A [(h, .inr (5, [.int h_code, .long h_seed, .long h_state, .ref h_many, .ref h_sort, .ref h_x, .ref h_y, .ref h_z, .ref h_fault, .ref h_faultAt, .ref h_left, .int h_lefts, .ref h_stays, .ref h_text, .int h_size])), (h_many, .inl (cA 0, 3, .inl h_many_v)), (h_sort, .inl (cA 0, 120, .inl h_sort_v)), (h_z, .inl (cA 2, 120, .inr (.inl h_z_v))), (h_faultAt, .inl (cA 0, 3, .inl h_faultAt_v)), (h_left, .inl (cA 0, 40, .inl h_left_v)), (h_stays, .inl (cA 1, 64, .inl h_stays_v))] sz) t) (va_A [(h, .inr (5, [.int h_code, .long h_seed, .long h_state, .ref h_many, .ref h_sort, .ref h_x, .ref h_y, .ref h_z, .ref h_fault, .ref h_faultAt, .ref h_left, .int h_lefts, .ref h_stays, .ref h_text, .int h_size])), (h_many, .inl (cA 0, 3, .inl h_many_v)), (h_sort, .inl (cA 0, 120, .inl h_sort_v)), (h_z, .inl (cA 2, 120, .inr (.inl h_z_v))), (h_faultAt, .inl (cA 0, 3, .inl h_faultAt_v)), (h_left, .inl (cA 0, 40, .inl h_left_v)), (h_stays, .inl (cA 1, 64, .inl h_stays_v))] sz)) 0 0 (va_A [(h, .inr (5, [.int h_code, .long h_seed, .long h_state, .ref h_many, .ref h_sort, .ref h_x, .ref h_y, .ref h_z, .ref h_fault, .ref h_faultAt, .ref h_left, .int h_lefts, .ref h_stays, .ref h_text, .int h_size])), (h_many, .inl (cA 0, 3, .inl h_many_v)), (h_sort, .inl (cA 0, 120, .inl h_sort_v)), (h_z, .inl (cA 2, 120, .inr (.inl h_z_v))), (h_faultAt, .inl (cA 0, 3, .inl h_faultAt_v)), (h_left, .inl (cA 0, 40, .inl h_left_v)), (h_stays, .inl (cA 1, 64, .inl h_stays_v))] sz) := by
  refine Met.ofW (cc := cX5_minimal) (maxL := 3) (ret := (some .boolean)) (by decide) rfl ?_
  intro p e s m args below meth c s₁ B hml hv
  obtain ⟨rfl, hsz, hP, hD0, hG, hZ⟩ := hv
  have hx := B.exec
  have hb := B.bytes
  have hr := B.returns
  have hts : ∀ w ∈ kq_T, w.before _ s = true := fun w h => atoms_spec (ws := wX5_minimal) B.pre w (List.mem_cons_of_mem _ h)
  have hown : s.vm.findClass RX5 = some m.cls := findClass_of_methodNamed B.named
  have hlocks := B.notSynchronized
  have hK := hG.1
  subst hsz
  have hD := hD0.self (sz := s.heap.size)
  generalize hAe : va_A [(h, .inr (5, [.int h_code, .long h_seed, .long h_state, .ref h_many, .ref h_sort, .ref h_x, .ref h_y, .ref h_z, .ref h_fault, .ref h_faultAt, .ref h_left, .int h_lefts, .ref h_stays, .ref h_text, .int h_size])), (h_many, .inl (cA 0, 3, .inl h_many_v)), (h_sort, .inl (cA 0, 120, .inl h_sort_v)), (h_z, .inl (cA 2, 120, .inr (.inl h_z_v))), (h_faultAt, .inl (cA 0, 3, .inl h_faultAt_v)), (h_left, .inl (cA 0, 40, .inl h_left_v)), (h_stays, .inl (cA 1, 64, .inl h_stays_v))] s.heap.size = A at hD hZ ⊢
  have hA : ∀ q : Nat, s.heap.size ≤ q → A q := fun q h => by rw [← hAe]; exact Or.inr h
  have hl := lv_entry [.ref h] (n := 3) (Nat.le_of_ble_eq_true rfl)
  rw [lg_entry_eq]
  generalize (lg_sl [.ref h] ++ List.replicate (3 - (lg_sl [.ref h]).length) Slot.unset).toArray = ls at hl ⊢
  have hl : lv_has ls 3 [(0, .ref h)] := hl
  obtain ⟨H, hHe⟩ : ∃ H : Heap, H = s.heap := ⟨_, rfl⟩
  have hP : va_P (dC, dI) vwCl [(h, .inr (5, [.int h_code, .long h_seed, .long h_state, .ref h_many, .ref h_sort, .ref h_x, .ref h_y, .ref h_z, .ref h_fault, .ref h_faultAt, .ref h_left, .int h_lefts, .ref h_stays, .ref h_text, .int h_size])), (h_many, .inl (cA 0, 3, .inl h_many_v)), (h_sort, .inl (cA 0, 120, .inl h_sort_v)), (h_z, .inl (cA 2, 120, .inr (.inl h_z_v))), (h_faultAt, .inl (cA 0, 3, .inl h_faultAt_v)), (h_left, .inl (cA 0, 40, .inl h_left_v)), (h_stays, .inl (cA 1, 64, .inl h_stays_v))] H := by rw [hHe]; exact hP
  have hS : va_S A s.heap H [] := by rw [hHe]; exact va_S.rf
  rw [← hHe]
  unfold f_X5_minimal at hf
  refine lv_aload_n hx hb dX5_minimal_0 rfl (lv_at hl 0 rfl) ?_
  refine lv_iconst (v := 0) hx hb dX5_minimal_1 (by decide) ?_
  refine va_put (D := (dC, dI)) (ci := 5) (v := .int 0) (ty := (.int)) (C := RX5) (T := TX5) (N := 15) hx hb hts iwX5 tyX5 tyX5_ok nmX5 hown hK hP hD hS 0 rfl rfl 0 (by decide) (hts _ tw_335) (fun _ h9 => h9) rfl (by decide +kernel) rfl rfl (Nat.le_of_ble_eq_true rfl) dX5_minimal_2 (fun H locs hP hD hS => ?_)
  have hP : va_P (dC, dI) vwCl [(h, .inr (5, [.int 0, .long h_seed, .long h_state, .ref h_many, .ref h_sort, .ref h_x, .ref h_y, .ref h_z, .ref h_fault, .ref h_faultAt, .ref h_left, .int h_lefts, .ref h_stays, .ref h_text, .int h_size])), (h_many, .inl (cA 0, 3, .inl h_many_v)), (h_sort, .inl (cA 0, 120, .inl h_sort_v)), (h_z, .inl (cA 2, 120, .inr (.inl h_z_v))), (h_faultAt, .inl (cA 0, 3, .inl h_faultAt_v)), (h_left, .inl (cA 0, 40, .inl h_left_v)), (h_stays, .inl (cA 1, 64, .inl h_stays_v))] H := hP
  have hD : va_D A [(h, .inr (5, [.int 0, .long h_seed, .long h_state, .ref h_many, .ref h_sort, .ref h_x, .ref h_y, .ref h_z, .ref h_fault, .ref h_faultAt, .ref h_left, .int h_lefts, .ref h_stays, .ref h_text, .int h_size])), (h_many, .inl (cA 0, 3, .inl h_many_v)), (h_sort, .inl (cA 0, 120, .inl h_sort_v)), (h_z, .inl (cA 2, 120, .inr (.inl h_z_v))), (h_faultAt, .inl (cA 0, 3, .inl h_faultAt_v)), (h_left, .inl (cA 0, 40, .inl h_left_v)), (h_stays, .inl (cA 1, 64, .inl h_stays_v))] := hD
  refine lv_aload_n hx hb dX5_minimal_5 rfl (lv_at hl 0 rfl) ?_
  refine va_get (D := (dC, dI)) (ci := 5) (v := .ref h_many) (C := RX5) (T := TX5) (N := 15) hx hb hts iwX5 hown hK hP 0 rfl rfl 3 (by decide) (hts _ tw_338) (fun _ h9 => h9) rfl dX5_minimal_6 ?_
  refine lv_iconst (v := 0) hx hb dX5_minimal_9 (by decide) ?_
  refine va_iald hx hb hK hP 1 0 rfl rfl (show ¬ ((0 : Int32) < 0 ∨ 3 ≤ (0 : Int32).toNatClampNeg) by decide) dX5_minimal_10 ?_
  refine lv_if_le (tgt := 32) hx hb dX5_minimal_11 (by decide) (fun c2 => ?_) (fun c2 => ?_)
  · have hf := kp_p c2 hf
    refine lv_iconst (v := 0) hx hb dX5_minimal_32 (by decide) ?_
    refine lv_istore_n (lv' := [(1, .int 0), (0, .ref h)]) hx hb dX5_minimal_33 rfl hl (by decide) rfl (fun ls hl => ?_)
    refine lv_iconst (v := 0) hx hb dX5_minimal_34 (by decide) ?_
    refine lv_istore_n (lv' := [(2, .int 0), (1, .int 0), (0, .ref h)]) hx hb dX5_minimal_35 rfl hl (by decide) rfl (fun ls hl => ?_)
    refine kq_ind (fun n H locs g => ∃ (h_code : Int32) (v1 : Int32) (v2 : Int32) (ls : Array Slot), g = F0 m 36 ls [] ∧ lv_has ls 3 [(0, .ref h), (1, .int v1), (2, .int v2)] ∧ va_P (dC, dI) vwCl [(h, .inr (5, [.int h_code, .long h_seed, .long h_state, .ref h_many, .ref h_sort, .ref h_x, .ref h_y, .ref h_z, .ref h_fault, .ref h_faultAt, .ref h_left, .int h_lefts, .ref h_stays, .ref h_text, .int h_size])), (h_many, .inl (cA 0, 3, .inl h_many_v)), (h_sort, .inl (cA 0, 120, .inl h_sort_v)), (h_z, .inl (cA 2, 120, .inr (.inl h_z_v))), (h_faultAt, .inl (cA 0, 3, .inl h_faultAt_v)), (h_left, .inl (cA 0, 40, .inl h_left_v)), (h_stays, .inl (cA 1, 64, .inl h_stays_v))] H ∧ va_D A [(h, .inr (5, [.int h_code, .long h_seed, .long h_state, .ref h_many, .ref h_sort, .ref h_x, .ref h_y, .ref h_z, .ref h_fault, .ref h_faultAt, .ref h_left, .int h_lefts, .ref h_stays, .ref h_text, .int h_size])), (h_many, .inl (cA 0, 3, .inl h_many_v)), (h_sort, .inl (cA 0, 120, .inl h_sort_v)), (h_z, .inl (cA 2, 120, .inr (.inl h_z_v))), (h_faultAt, .inl (cA 0, 3, .inl h_faultAt_v)), (h_left, .inl (cA 0, 40, .inl h_left_v)), (h_stays, .inl (cA 1, 64, .inl h_stays_v))] ∧ va_S A s.heap H locs ∧ f_X5_minimal_L36 h_lefts h_many_v h_sort_v h_z_v h_faultAt_v h_left_v h_stays_v n h_code v1 v2 = some o) (fun H locs g h => ?_) (fun n36 ih36 H locs g h => ?_) 64 _ _ _ ⟨0, 0, 0, ls, rfl, lv_sub hl [2, 1, 0] rfl, hP, hD, hS, hf⟩
    · obtain ⟨h_code, v1, v2, ls, -, -, -, -, -, hf⟩ := h
      have hf : (none : Option (Int32 × Int32)) = some o := hf
      cases hf
    · obtain ⟨h_code, v1, v2, ls, rfl, hl, hP, hD, hS, hf⟩ := h
      have hf := (e_X5_minimal_L36 h_lefts h_many_v h_sort_v h_z_v h_faultAt_v h_left_v h_stays_v n36 h_code v1 v2).symm.trans hf
      refine lv_iload_n hx hb dX5_minimal_36 rfl (lv_at hl 2 rfl) ?_
      refine lv_aload_n hx hb dX5_minimal_37 rfl (lv_at hl 0 rfl) ?_
      refine va_get (D := (dC, dI)) (ci := 5) (v := .int h_lefts) (C := RX5) (T := TX5) (N := 15) hx hb hts iwX5 hown hK hP 0 rfl rfl 11 (by decide) (hts _ tw_346) (fun _ h9 => h9) rfl dX5_minimal_38 ?_
      refine lv_icmp_ge (tgt := 82) hx hb dX5_minimal_41 (by decide) (fun c37001 => ?_) (fun c37001 => ?_)
      · have hf := kp_p c37001 hf
        refine lv_iload_n hx hb dX5_minimal_82 rfl (lv_at hl 1 rfl) ?_
        obtain ⟨hq37002, hf⟩ := kp_t hf
        have eo := Option.some.inj hf
        subst eo
        exact W.zret (v := v1) hx hb hr (kq_z hq37002) (fun t ht hW => ⟨⟨_, (), rfl, rfl, kq_mk ht hP hD⟩, hS.F ht⟩) hS.2.2 dX5_minimal_83
      · have hf := kp_n c37001 hf
        refine lv_iload_n hx hb dX5_minimal_44 rfl (lv_at hl 1 rfl) ?_
        refine lv_if_eq (tgt := 82) hx hb dX5_minimal_45 (by decide) (fun c37003 => ?_) (fun c37003 => ?_)
        · have hf := kp_p c37003 hf
          refine lv_iload_n hx hb dX5_minimal_82 rfl (lv_at hl 1 rfl) ?_
          obtain ⟨hq37004, hf⟩ := kp_t hf
          have eo := Option.some.inj hf
          subst eo
          exact W.zret (v := v1) hx hb hr (kq_z hq37004) (fun t ht hW => ⟨⟨_, (), rfl, rfl, kq_mk ht hP hD⟩, hS.F ht⟩) hS.2.2 dX5_minimal_83
        · have hf := kp_n c37003 hf
          refine lv_aload_n hx hb dX5_minimal_48 rfl (lv_at hl 0 rfl) ?_
          refine va_get (D := (dC, dI)) (ci := 5) (v := .int h_lefts) (C := RX5) (T := TX5) (N := 15) hx hb hts iwX5 hown hK hP 0 rfl rfl 11 (by decide) (hts _ tw_346) (fun _ h9 => h9) rfl dX5_minimal_49 ?_
          refine lv_iconst (v := 1) hx hb dX5_minimal_52 (by decide) ?_
          refine lv_icmp_eq (tgt := 70) hx hb dX5_minimal_53 (by decide) (fun c37005 => ?_) (fun c37005 => ?_)
          · have hf := kp_p c37005 hf
            refine lv_iconst (v := 1) hx hb dX5_minimal_70 (by decide) ?_
            refine lv_goto (tgt := 75) hx hb dX5_minimal_71 (by decide) ?_
            refine lv_istore_n (lv' := [(1, .int 1), (0, .ref h), (2, .int v2)]) hx hb dX5_minimal_75 rfl hl (by decide) rfl (fun ls hl => ?_)
            refine lv_iinc (v := v2 + 1) (lv' := [(2, .int (v2 + 1)), (1, .int 1), (0, .ref h)]) hx hb dX5_minimal_76 hl (k := 2) rfl rfl (by decide) rfl (fun ls hl => ?_)
            refine lv_goto (tgt := 36) hx hb dX5_minimal_79 (by decide) ?_
            exact ih36 _ _ _ ⟨h_code, 1, v2 + 1, ls, rfl, lv_sub hl [2, 1, 0] rfl, hP, hD, hS, hf⟩
          · have hf := kp_n c37005 hf
            refine lv_aload_n hx hb dX5_minimal_56 rfl (lv_at hl 0 rfl) ?_
            refine va_get (D := (dC, dI)) (ci := 5) (v := .ref h_stays) (C := RX5) (T := TX5) (N := 15) hx hb hts iwX5 hown hK hP 0 rfl rfl 12 (by decide) (hts _ tw_347) (fun _ h9 => h9) rfl dX5_minimal_57 ?_
            refine lv_aload_n hx hb dX5_minimal_60 rfl (lv_at hl 0 rfl) ?_
            refine lv_iload_n hx hb dX5_minimal_61 rfl (lv_at hl 2 rfl) ?_
            refine lv_iconst (v := 1) hx hb dX5_minimal_62 (by decide) ?_
            obtain ⟨r37006, hr37006, hf⟩ := kp_b hf
            have hPc := hP.sub (ws' := [(h, .inr (5, [.int h_code, .long h_seed, .long h_state, .ref h_many, .ref h_sort, .ref h_x, .ref h_y, .ref h_z, .ref h_fault, .ref h_faultAt, .ref h_left, .int h_lefts, .ref h_stays, .ref h_text, .int h_size])), (h_sort, .inl (cA 0, 120, .inl h_sort_v)), (h_z, .inl (cA 2, 120, .inr (.inl h_z_v))), (h_faultAt, .inl (cA 0, 3, .inl h_faultAt_v)), (h_left, .inl (cA 0, 40, .inl h_left_v))]) [0, 2, 3, 4, 5] rfl
            have hDc := hD.sub (ws' := [(h, .inr (5, [.int h_code, .long h_seed, .long h_state, .ref h_many, .ref h_sort, .ref h_x, .ref h_y, .ref h_z, .ref h_fault, .ref h_faultAt, .ref h_left, .int h_lefts, .ref h_stays, .ref h_text, .int h_size])), (h_sort, .inl (cA 0, 120, .inl h_sort_v)), (h_z, .inl (cA 2, 120, .inr (.inl h_z_v))), (h_faultAt, .inl (cA 0, 3, .inl h_faultAt_v)), (h_left, .inl (cA 0, 40, .inl h_left_v))]) [0, 2, 3, 4, 5] (by decide) rfl
            have hFc := va_free (wc := [(h, .inr (5, [.int h_code, .long h_seed, .long h_state, .ref h_many, .ref h_sort, .ref h_x, .ref h_y, .ref h_z, .ref h_fault, .ref h_faultAt, .ref h_left, .int h_lefts, .ref h_stays, .ref h_text, .int h_size])), (h_sort, .inl (cA 0, 120, .inl h_sort_v)), (h_z, .inl (cA 2, 120, .inr (.inl h_z_v))), (h_faultAt, .inl (cA 0, 3, .inl h_faultAt_v)), (h_left, .inl (cA 0, 40, .inl h_left_v))]) hD hS hA [0, 2, 3, 4, 5] rfl
            refine va_calli (va_runV (As := [.int v2, .int 1]) (rest := [.ref h_stays]) ⟨hx, hb, hml, hown, hts⟩ (c_X5_signature l dC dI cA tt h h_sort h_z h_faultAt h_left h_many h_x h_y h_fault h_stays h_text H.size h_code h_seed h_state h_lefts h_size h_sort_v h_z_v h_faultAt_v h_left_v v2 1 r37006 hr37006) (cwV 2 hts (kq_gV tw_445 tw_447 tw_17 tw_25 tw_448) rfl rfl rfl (by decide +kernel) ⟨Nat.le_of_ble_eq_true rfl, Nat.le_of_ble_eq_true rfl⟩) ⟨kq_blind, va_recv hK hP (ci := 5) (q0 := 0) rfl rfl, kq_pre hG hZ hS hPc hDc hFc⟩ rfl rfl hl.1 rfl (lv_room (Nat.le_of_ble_eq_true rfl)) dX5_minimal_63 ⟨Nat.le_of_ble_eq_true rfl, Nat.le_of_ble_eq_true rfl⟩) hS (fun q _ h => hFc q h) hFc (fun rv u t H1 locs ht hvm hw hB hz1 hk1 hS => ?_)
            obtain ⟨hP1, hD1⟩ := hB
            rw [ht] at hP1
            have hw := hw.symm
            subst hw
            obtain ⟨hP, hD⟩ := va_join (wr := [(h_many, .inl (cA 0, 3, .inl h_many_v)), (h_stays, .inl (cA 1, 64, .inl h_stays_v))]) (w1 := [(h, .inr (5, [.int h_code, .long h_seed, .long h_state, .ref h_many, .ref h_sort, .ref h_x, .ref h_y, .ref h_z, .ref h_fault, .ref h_faultAt, .ref h_left, .int h_lefts, .ref h_stays, .ref h_text, .int h_size])), (h_sort, .inl (cA 0, 120, .inl h_sort_v)), (h_z, .inl (cA 2, 120, .inr (.inl h_z_v))), (h_faultAt, .inl (cA 0, 3, .inl h_faultAt_v)), (h_left, .inl (cA 0, 40, .inl h_left_v))]) hP hD [0, 2, 3, 4, 5] [1, 6] rfl rfl (by decide) (by decide) hk1 hFc hP1 hD1
            have hP : va_P (dC, dI) vwCl [(h, .inr (5, [.int h_code, .long h_seed, .long h_state, .ref h_many, .ref h_sort, .ref h_x, .ref h_y, .ref h_z, .ref h_fault, .ref h_faultAt, .ref h_left, .int h_lefts, .ref h_stays, .ref h_text, .int h_size])), (h_many, .inl (cA 0, 3, .inl h_many_v)), (h_sort, .inl (cA 0, 120, .inl h_sort_v)), (h_z, .inl (cA 2, 120, .inr (.inl h_z_v))), (h_faultAt, .inl (cA 0, 3, .inl h_faultAt_v)), (h_left, .inl (cA 0, 40, .inl h_left_v)), (h_stays, .inl (cA 1, 64, .inl h_stays_v))] H1 := hP.sub [2, 0, 3, 4, 5, 6, 1] rfl
            have hD : va_D A [(h, .inr (5, [.int h_code, .long h_seed, .long h_state, .ref h_many, .ref h_sort, .ref h_x, .ref h_y, .ref h_z, .ref h_fault, .ref h_faultAt, .ref h_left, .int h_lefts, .ref h_stays, .ref h_text, .int h_size])), (h_many, .inl (cA 0, 3, .inl h_many_v)), (h_sort, .inl (cA 0, 120, .inl h_sort_v)), (h_z, .inl (cA 2, 120, .inr (.inl h_z_v))), (h_faultAt, .inl (cA 0, 3, .inl h_faultAt_v)), (h_left, .inl (cA 0, 40, .inl h_left_v)), (h_stays, .inl (cA 1, 64, .inl h_stays_v))] := hD.sub [2, 0, 3, 4, 5, 6, 1] (by decide) rfl
            generalize H1 = H at hP hS ⊢
            obtain ⟨hq37007, hf⟩ := kp_t hf
            refine va_zald hx hb hK hP 6 1 rfl rfl hq37007 dX5_minimal_66 ?_
            refine lv_if_ne (tgt := 74) hx hb dX5_minimal_67 (by decide) (fun c37008 => ?_) (fun c37008 => ?_)
            · have hf := kp_n c37008 hf
              refine lv_iconst (v := 0) hx hb dX5_minimal_74 (by decide) ?_
              refine lv_istore_n (lv' := [(1, .int 0), (0, .ref h), (2, .int v2)]) hx hb dX5_minimal_75 rfl hl (by decide) rfl (fun ls hl => ?_)
              refine lv_iinc (v := v2 + 1) (lv' := [(2, .int (v2 + 1)), (1, .int 0), (0, .ref h)]) hx hb dX5_minimal_76 hl (k := 2) rfl rfl (by decide) rfl (fun ls hl => ?_)
              refine lv_goto (tgt := 36) hx hb dX5_minimal_79 (by decide) ?_
              exact ih36 _ _ _ ⟨h_code, 0, v2 + 1, ls, rfl, lv_sub hl [2, 1, 0] rfl, hP, hD, hS, hf⟩
            · have hf := kp_p c37008 hf
              refine lv_iconst (v := 1) hx hb dX5_minimal_70 (by decide) ?_
              refine lv_goto (tgt := 75) hx hb dX5_minimal_71 (by decide) ?_
              refine lv_istore_n (lv' := [(1, .int 1), (0, .ref h), (2, .int v2)]) hx hb dX5_minimal_75 rfl hl (by decide) rfl (fun ls hl => ?_)
              refine lv_iinc (v := v2 + 1) (lv' := [(2, .int (v2 + 1)), (1, .int 1), (0, .ref h)]) hx hb dX5_minimal_76 hl (k := 2) rfl rfl (by decide) rfl (fun ls hl => ?_)
              refine lv_goto (tgt := 36) hx hb dX5_minimal_79 (by decide) ?_
              exact ih36 _ _ _ ⟨h_code, 1, v2 + 1, ls, rfl, lv_sub hl [2, 1, 0] rfl, hP, hD, hS, hf⟩
  · have hf := kp_n c2 hf
    refine lv_aload_n hx hb dX5_minimal_14 rfl (lv_at hl 0 rfl) ?_
    refine va_get (D := (dC, dI)) (ci := 5) (v := .ref h_stays) (C := RX5) (T := TX5) (N := 15) hx hb hts iwX5 hown hK hP 0 rfl rfl 12 (by decide) (hts _ tw_347) (fun _ h9 => h9) rfl dX5_minimal_15 ?_
    refine lv_aload_n hx hb dX5_minimal_18 rfl (lv_at hl 0 rfl) ?_
    refine lv_iconst (v := 0) hx hb dX5_minimal_19 (by decide) ?_
    refine lv_iconst (v := 0) hx hb dX5_minimal_20 (by decide) ?_
    obtain ⟨r3, hr3, hf⟩ := kp_b hf
    have hPc := hP.sub (ws' := [(h, .inr (5, [.int 0, .long h_seed, .long h_state, .ref h_many, .ref h_sort, .ref h_x, .ref h_y, .ref h_z, .ref h_fault, .ref h_faultAt, .ref h_left, .int h_lefts, .ref h_stays, .ref h_text, .int h_size])), (h_sort, .inl (cA 0, 120, .inl h_sort_v)), (h_z, .inl (cA 2, 120, .inr (.inl h_z_v))), (h_faultAt, .inl (cA 0, 3, .inl h_faultAt_v)), (h_left, .inl (cA 0, 40, .inl h_left_v))]) [0, 2, 3, 4, 5] rfl
    have hDc := hD.sub (ws' := [(h, .inr (5, [.int 0, .long h_seed, .long h_state, .ref h_many, .ref h_sort, .ref h_x, .ref h_y, .ref h_z, .ref h_fault, .ref h_faultAt, .ref h_left, .int h_lefts, .ref h_stays, .ref h_text, .int h_size])), (h_sort, .inl (cA 0, 120, .inl h_sort_v)), (h_z, .inl (cA 2, 120, .inr (.inl h_z_v))), (h_faultAt, .inl (cA 0, 3, .inl h_faultAt_v)), (h_left, .inl (cA 0, 40, .inl h_left_v))]) [0, 2, 3, 4, 5] (by decide) rfl
    have hFc := va_free (wc := [(h, .inr (5, [.int 0, .long h_seed, .long h_state, .ref h_many, .ref h_sort, .ref h_x, .ref h_y, .ref h_z, .ref h_fault, .ref h_faultAt, .ref h_left, .int h_lefts, .ref h_stays, .ref h_text, .int h_size])), (h_sort, .inl (cA 0, 120, .inl h_sort_v)), (h_z, .inl (cA 2, 120, .inr (.inl h_z_v))), (h_faultAt, .inl (cA 0, 3, .inl h_faultAt_v)), (h_left, .inl (cA 0, 40, .inl h_left_v))]) hD hS hA [0, 2, 3, 4, 5] rfl
    refine va_calli (va_runV (As := [.int 0, .int 0]) (rest := [.ref h_stays]) ⟨hx, hb, hml, hown, hts⟩ (c_X5_signature l dC dI cA tt h h_sort h_z h_faultAt h_left h_many h_x h_y h_fault h_stays h_text H.size 0 h_seed h_state h_lefts h_size h_sort_v h_z_v h_faultAt_v h_left_v 0 0 r3 hr3) (cwV 2 hts (kq_gV tw_445 tw_447 tw_17 tw_25 tw_448) rfl rfl rfl (by decide +kernel) ⟨Nat.le_of_ble_eq_true rfl, Nat.le_of_ble_eq_true rfl⟩) ⟨kq_blind, va_recv hK hP (ci := 5) (q0 := 0) rfl rfl, kq_pre hG hZ hS hPc hDc hFc⟩ rfl rfl hl.1 rfl (lv_room (Nat.le_of_ble_eq_true rfl)) dX5_minimal_21 ⟨Nat.le_of_ble_eq_true rfl, Nat.le_of_ble_eq_true rfl⟩) hS (fun q _ h => hFc q h) hFc (fun rv u t H1 locs ht hvm hw hB hz1 hk1 hS => ?_)
    obtain ⟨hP1, hD1⟩ := hB
    rw [ht] at hP1
    have hw := hw.symm
    subst hw
    obtain ⟨hP, hD⟩ := va_join (wr := [(h_many, .inl (cA 0, 3, .inl h_many_v)), (h_stays, .inl (cA 1, 64, .inl h_stays_v))]) (w1 := [(h, .inr (5, [.int 0, .long h_seed, .long h_state, .ref h_many, .ref h_sort, .ref h_x, .ref h_y, .ref h_z, .ref h_fault, .ref h_faultAt, .ref h_left, .int h_lefts, .ref h_stays, .ref h_text, .int h_size])), (h_sort, .inl (cA 0, 120, .inl h_sort_v)), (h_z, .inl (cA 2, 120, .inr (.inl h_z_v))), (h_faultAt, .inl (cA 0, 3, .inl h_faultAt_v)), (h_left, .inl (cA 0, 40, .inl h_left_v))]) hP hD [0, 2, 3, 4, 5] [1, 6] rfl rfl (by decide) (by decide) hk1 hFc hP1 hD1
    have hP : va_P (dC, dI) vwCl [(h, .inr (5, [.int 0, .long h_seed, .long h_state, .ref h_many, .ref h_sort, .ref h_x, .ref h_y, .ref h_z, .ref h_fault, .ref h_faultAt, .ref h_left, .int h_lefts, .ref h_stays, .ref h_text, .int h_size])), (h_many, .inl (cA 0, 3, .inl h_many_v)), (h_sort, .inl (cA 0, 120, .inl h_sort_v)), (h_z, .inl (cA 2, 120, .inr (.inl h_z_v))), (h_faultAt, .inl (cA 0, 3, .inl h_faultAt_v)), (h_left, .inl (cA 0, 40, .inl h_left_v)), (h_stays, .inl (cA 1, 64, .inl h_stays_v))] H1 := hP.sub [2, 0, 3, 4, 5, 6, 1] rfl
    have hD : va_D A [(h, .inr (5, [.int 0, .long h_seed, .long h_state, .ref h_many, .ref h_sort, .ref h_x, .ref h_y, .ref h_z, .ref h_fault, .ref h_faultAt, .ref h_left, .int h_lefts, .ref h_stays, .ref h_text, .int h_size])), (h_many, .inl (cA 0, 3, .inl h_many_v)), (h_sort, .inl (cA 0, 120, .inl h_sort_v)), (h_z, .inl (cA 2, 120, .inr (.inl h_z_v))), (h_faultAt, .inl (cA 0, 3, .inl h_faultAt_v)), (h_left, .inl (cA 0, 40, .inl h_left_v)), (h_stays, .inl (cA 1, 64, .inl h_stays_v))] := hD.sub [2, 0, 3, 4, 5, 6, 1] (by decide) rfl
    generalize H1 = H at hP hS ⊢
    obtain ⟨hq4, hf⟩ := kp_t hf
    refine va_zald hx hb hK hP 6 1 rfl rfl hq4 dX5_minimal_24 ?_
    refine lv_if_eq (tgt := 32) hx hb dX5_minimal_25 (by decide) (fun c5 => ?_) (fun c5 => ?_)
    · have hf := kp_p c5 hf
      refine lv_iconst (v := 0) hx hb dX5_minimal_32 (by decide) ?_
      refine lv_istore_n (lv' := [(1, .int 0), (0, .ref h)]) hx hb dX5_minimal_33 rfl hl (by decide) rfl (fun ls hl => ?_)
      refine lv_iconst (v := 0) hx hb dX5_minimal_34 (by decide) ?_
      refine lv_istore_n (lv' := [(2, .int 0), (1, .int 0), (0, .ref h)]) hx hb dX5_minimal_35 rfl hl (by decide) rfl (fun ls hl => ?_)
      refine kq_ind (fun n H locs g => ∃ (h_code : Int32) (v1 : Int32) (v2 : Int32) (ls : Array Slot), g = F0 m 36 ls [] ∧ lv_has ls 3 [(0, .ref h), (1, .int v1), (2, .int v2)] ∧ va_P (dC, dI) vwCl [(h, .inr (5, [.int h_code, .long h_seed, .long h_state, .ref h_many, .ref h_sort, .ref h_x, .ref h_y, .ref h_z, .ref h_fault, .ref h_faultAt, .ref h_left, .int h_lefts, .ref h_stays, .ref h_text, .int h_size])), (h_many, .inl (cA 0, 3, .inl h_many_v)), (h_sort, .inl (cA 0, 120, .inl h_sort_v)), (h_z, .inl (cA 2, 120, .inr (.inl h_z_v))), (h_faultAt, .inl (cA 0, 3, .inl h_faultAt_v)), (h_left, .inl (cA 0, 40, .inl h_left_v)), (h_stays, .inl (cA 1, 64, .inl h_stays_v))] H ∧ va_D A [(h, .inr (5, [.int h_code, .long h_seed, .long h_state, .ref h_many, .ref h_sort, .ref h_x, .ref h_y, .ref h_z, .ref h_fault, .ref h_faultAt, .ref h_left, .int h_lefts, .ref h_stays, .ref h_text, .int h_size])), (h_many, .inl (cA 0, 3, .inl h_many_v)), (h_sort, .inl (cA 0, 120, .inl h_sort_v)), (h_z, .inl (cA 2, 120, .inr (.inl h_z_v))), (h_faultAt, .inl (cA 0, 3, .inl h_faultAt_v)), (h_left, .inl (cA 0, 40, .inl h_left_v)), (h_stays, .inl (cA 1, 64, .inl h_stays_v))] ∧ va_S A s.heap H locs ∧ f_X5_minimal_L36 h_lefts h_many_v h_sort_v h_z_v h_faultAt_v h_left_v h_stays_v n h_code v1 v2 = some o) (fun H locs g h => ?_) (fun n36 ih36 H locs g h => ?_) 64 _ _ _ ⟨0, 0, 0, ls, rfl, lv_sub hl [2, 1, 0] rfl, hP, hD, hS, hf⟩
      · obtain ⟨h_code, v1, v2, ls, -, -, -, -, -, hf⟩ := h
        have hf : (none : Option (Int32 × Int32)) = some o := hf
        cases hf
      · obtain ⟨h_code, v1, v2, ls, rfl, hl, hP, hD, hS, hf⟩ := h
        have hf := (e_X5_minimal_L36 h_lefts h_many_v h_sort_v h_z_v h_faultAt_v h_left_v h_stays_v n36 h_code v1 v2).symm.trans hf
        refine lv_iload_n hx hb dX5_minimal_36 rfl (lv_at hl 2 rfl) ?_
        refine lv_aload_n hx hb dX5_minimal_37 rfl (lv_at hl 0 rfl) ?_
        refine va_get (D := (dC, dI)) (ci := 5) (v := .int h_lefts) (C := RX5) (T := TX5) (N := 15) hx hb hts iwX5 hown hK hP 0 rfl rfl 11 (by decide) (hts _ tw_346) (fun _ h9 => h9) rfl dX5_minimal_38 ?_
        refine lv_icmp_ge (tgt := 82) hx hb dX5_minimal_41 (by decide) (fun c37001 => ?_) (fun c37001 => ?_)
        · have hf := kp_p c37001 hf
          refine lv_iload_n hx hb dX5_minimal_82 rfl (lv_at hl 1 rfl) ?_
          obtain ⟨hq37002, hf⟩ := kp_t hf
          have eo := Option.some.inj hf
          subst eo
          exact W.zret (v := v1) hx hb hr (kq_z hq37002) (fun t ht hW => ⟨⟨_, (), rfl, rfl, kq_mk ht hP hD⟩, hS.F ht⟩) hS.2.2 dX5_minimal_83
        · have hf := kp_n c37001 hf
          refine lv_iload_n hx hb dX5_minimal_44 rfl (lv_at hl 1 rfl) ?_
          refine lv_if_eq (tgt := 82) hx hb dX5_minimal_45 (by decide) (fun c37003 => ?_) (fun c37003 => ?_)
          · have hf := kp_p c37003 hf
            refine lv_iload_n hx hb dX5_minimal_82 rfl (lv_at hl 1 rfl) ?_
            obtain ⟨hq37004, hf⟩ := kp_t hf
            have eo := Option.some.inj hf
            subst eo
            exact W.zret (v := v1) hx hb hr (kq_z hq37004) (fun t ht hW => ⟨⟨_, (), rfl, rfl, kq_mk ht hP hD⟩, hS.F ht⟩) hS.2.2 dX5_minimal_83
          · have hf := kp_n c37003 hf
            refine lv_aload_n hx hb dX5_minimal_48 rfl (lv_at hl 0 rfl) ?_
            refine va_get (D := (dC, dI)) (ci := 5) (v := .int h_lefts) (C := RX5) (T := TX5) (N := 15) hx hb hts iwX5 hown hK hP 0 rfl rfl 11 (by decide) (hts _ tw_346) (fun _ h9 => h9) rfl dX5_minimal_49 ?_
            refine lv_iconst (v := 1) hx hb dX5_minimal_52 (by decide) ?_
            refine lv_icmp_eq (tgt := 70) hx hb dX5_minimal_53 (by decide) (fun c37005 => ?_) (fun c37005 => ?_)
            · have hf := kp_p c37005 hf
              refine lv_iconst (v := 1) hx hb dX5_minimal_70 (by decide) ?_
              refine lv_goto (tgt := 75) hx hb dX5_minimal_71 (by decide) ?_
              refine lv_istore_n (lv' := [(1, .int 1), (0, .ref h), (2, .int v2)]) hx hb dX5_minimal_75 rfl hl (by decide) rfl (fun ls hl => ?_)
              refine lv_iinc (v := v2 + 1) (lv' := [(2, .int (v2 + 1)), (1, .int 1), (0, .ref h)]) hx hb dX5_minimal_76 hl (k := 2) rfl rfl (by decide) rfl (fun ls hl => ?_)
              refine lv_goto (tgt := 36) hx hb dX5_minimal_79 (by decide) ?_
              exact ih36 _ _ _ ⟨h_code, 1, v2 + 1, ls, rfl, lv_sub hl [2, 1, 0] rfl, hP, hD, hS, hf⟩
            · have hf := kp_n c37005 hf
              refine lv_aload_n hx hb dX5_minimal_56 rfl (lv_at hl 0 rfl) ?_
              refine va_get (D := (dC, dI)) (ci := 5) (v := .ref h_stays) (C := RX5) (T := TX5) (N := 15) hx hb hts iwX5 hown hK hP 0 rfl rfl 12 (by decide) (hts _ tw_347) (fun _ h9 => h9) rfl dX5_minimal_57 ?_
              refine lv_aload_n hx hb dX5_minimal_60 rfl (lv_at hl 0 rfl) ?_
              refine lv_iload_n hx hb dX5_minimal_61 rfl (lv_at hl 2 rfl) ?_
              refine lv_iconst (v := 1) hx hb dX5_minimal_62 (by decide) ?_
              obtain ⟨r37006, hr37006, hf⟩ := kp_b hf
              have hPc := hP.sub (ws' := [(h, .inr (5, [.int h_code, .long h_seed, .long h_state, .ref h_many, .ref h_sort, .ref h_x, .ref h_y, .ref h_z, .ref h_fault, .ref h_faultAt, .ref h_left, .int h_lefts, .ref h_stays, .ref h_text, .int h_size])), (h_sort, .inl (cA 0, 120, .inl h_sort_v)), (h_z, .inl (cA 2, 120, .inr (.inl h_z_v))), (h_faultAt, .inl (cA 0, 3, .inl h_faultAt_v)), (h_left, .inl (cA 0, 40, .inl h_left_v))]) [0, 2, 3, 4, 5] rfl
              have hDc := hD.sub (ws' := [(h, .inr (5, [.int h_code, .long h_seed, .long h_state, .ref h_many, .ref h_sort, .ref h_x, .ref h_y, .ref h_z, .ref h_fault, .ref h_faultAt, .ref h_left, .int h_lefts, .ref h_stays, .ref h_text, .int h_size])), (h_sort, .inl (cA 0, 120, .inl h_sort_v)), (h_z, .inl (cA 2, 120, .inr (.inl h_z_v))), (h_faultAt, .inl (cA 0, 3, .inl h_faultAt_v)), (h_left, .inl (cA 0, 40, .inl h_left_v))]) [0, 2, 3, 4, 5] (by decide) rfl
              have hFc := va_free (wc := [(h, .inr (5, [.int h_code, .long h_seed, .long h_state, .ref h_many, .ref h_sort, .ref h_x, .ref h_y, .ref h_z, .ref h_fault, .ref h_faultAt, .ref h_left, .int h_lefts, .ref h_stays, .ref h_text, .int h_size])), (h_sort, .inl (cA 0, 120, .inl h_sort_v)), (h_z, .inl (cA 2, 120, .inr (.inl h_z_v))), (h_faultAt, .inl (cA 0, 3, .inl h_faultAt_v)), (h_left, .inl (cA 0, 40, .inl h_left_v))]) hD hS hA [0, 2, 3, 4, 5] rfl
              refine va_calli (va_runV (As := [.int v2, .int 1]) (rest := [.ref h_stays]) ⟨hx, hb, hml, hown, hts⟩ (c_X5_signature l dC dI cA tt h h_sort h_z h_faultAt h_left h_many h_x h_y h_fault h_stays h_text H.size h_code h_seed h_state h_lefts h_size h_sort_v h_z_v h_faultAt_v h_left_v v2 1 r37006 hr37006) (cwV 2 hts (kq_gV tw_445 tw_447 tw_17 tw_25 tw_448) rfl rfl rfl (by decide +kernel) ⟨Nat.le_of_ble_eq_true rfl, Nat.le_of_ble_eq_true rfl⟩) ⟨kq_blind, va_recv hK hP (ci := 5) (q0 := 0) rfl rfl, kq_pre hG hZ hS hPc hDc hFc⟩ rfl rfl hl.1 rfl (lv_room (Nat.le_of_ble_eq_true rfl)) dX5_minimal_63 ⟨Nat.le_of_ble_eq_true rfl, Nat.le_of_ble_eq_true rfl⟩) hS (fun q _ h => hFc q h) hFc (fun rv u t H1 locs ht hvm hw hB hz1 hk1 hS => ?_)
              obtain ⟨hP1, hD1⟩ := hB
              rw [ht] at hP1
              have hw := hw.symm
              subst hw
              obtain ⟨hP, hD⟩ := va_join (wr := [(h_many, .inl (cA 0, 3, .inl h_many_v)), (h_stays, .inl (cA 1, 64, .inl h_stays_v))]) (w1 := [(h, .inr (5, [.int h_code, .long h_seed, .long h_state, .ref h_many, .ref h_sort, .ref h_x, .ref h_y, .ref h_z, .ref h_fault, .ref h_faultAt, .ref h_left, .int h_lefts, .ref h_stays, .ref h_text, .int h_size])), (h_sort, .inl (cA 0, 120, .inl h_sort_v)), (h_z, .inl (cA 2, 120, .inr (.inl h_z_v))), (h_faultAt, .inl (cA 0, 3, .inl h_faultAt_v)), (h_left, .inl (cA 0, 40, .inl h_left_v))]) hP hD [0, 2, 3, 4, 5] [1, 6] rfl rfl (by decide) (by decide) hk1 hFc hP1 hD1
              have hP : va_P (dC, dI) vwCl [(h, .inr (5, [.int h_code, .long h_seed, .long h_state, .ref h_many, .ref h_sort, .ref h_x, .ref h_y, .ref h_z, .ref h_fault, .ref h_faultAt, .ref h_left, .int h_lefts, .ref h_stays, .ref h_text, .int h_size])), (h_many, .inl (cA 0, 3, .inl h_many_v)), (h_sort, .inl (cA 0, 120, .inl h_sort_v)), (h_z, .inl (cA 2, 120, .inr (.inl h_z_v))), (h_faultAt, .inl (cA 0, 3, .inl h_faultAt_v)), (h_left, .inl (cA 0, 40, .inl h_left_v)), (h_stays, .inl (cA 1, 64, .inl h_stays_v))] H1 := hP.sub [2, 0, 3, 4, 5, 6, 1] rfl
              have hD : va_D A [(h, .inr (5, [.int h_code, .long h_seed, .long h_state, .ref h_many, .ref h_sort, .ref h_x, .ref h_y, .ref h_z, .ref h_fault, .ref h_faultAt, .ref h_left, .int h_lefts, .ref h_stays, .ref h_text, .int h_size])), (h_many, .inl (cA 0, 3, .inl h_many_v)), (h_sort, .inl (cA 0, 120, .inl h_sort_v)), (h_z, .inl (cA 2, 120, .inr (.inl h_z_v))), (h_faultAt, .inl (cA 0, 3, .inl h_faultAt_v)), (h_left, .inl (cA 0, 40, .inl h_left_v)), (h_stays, .inl (cA 1, 64, .inl h_stays_v))] := hD.sub [2, 0, 3, 4, 5, 6, 1] (by decide) rfl
              generalize H1 = H at hP hS ⊢
              obtain ⟨hq37007, hf⟩ := kp_t hf
              refine va_zald hx hb hK hP 6 1 rfl rfl hq37007 dX5_minimal_66 ?_
              refine lv_if_ne (tgt := 74) hx hb dX5_minimal_67 (by decide) (fun c37008 => ?_) (fun c37008 => ?_)
              · have hf := kp_n c37008 hf
                refine lv_iconst (v := 0) hx hb dX5_minimal_74 (by decide) ?_
                refine lv_istore_n (lv' := [(1, .int 0), (0, .ref h), (2, .int v2)]) hx hb dX5_minimal_75 rfl hl (by decide) rfl (fun ls hl => ?_)
                refine lv_iinc (v := v2 + 1) (lv' := [(2, .int (v2 + 1)), (1, .int 0), (0, .ref h)]) hx hb dX5_minimal_76 hl (k := 2) rfl rfl (by decide) rfl (fun ls hl => ?_)
                refine lv_goto (tgt := 36) hx hb dX5_minimal_79 (by decide) ?_
                exact ih36 _ _ _ ⟨h_code, 0, v2 + 1, ls, rfl, lv_sub hl [2, 1, 0] rfl, hP, hD, hS, hf⟩
              · have hf := kp_p c37008 hf
                refine lv_iconst (v := 1) hx hb dX5_minimal_70 (by decide) ?_
                refine lv_goto (tgt := 75) hx hb dX5_minimal_71 (by decide) ?_
                refine lv_istore_n (lv' := [(1, .int 1), (0, .ref h), (2, .int v2)]) hx hb dX5_minimal_75 rfl hl (by decide) rfl (fun ls hl => ?_)
                refine lv_iinc (v := v2 + 1) (lv' := [(2, .int (v2 + 1)), (1, .int 1), (0, .ref h)]) hx hb dX5_minimal_76 hl (k := 2) rfl rfl (by decide) rfl (fun ls hl => ?_)
                refine lv_goto (tgt := 36) hx hb dX5_minimal_79 (by decide) ?_
                exact ih36 _ _ _ ⟨h_code, 1, v2 + 1, ls, rfl, lv_sub hl [2, 1, 0] rfl, hP, hD, hS, hf⟩
    · have hf := kp_n c5 hf
      refine lv_iconst (v := 1) hx hb dX5_minimal_28 (by decide) ?_
      refine lv_goto (tgt := 33) hx hb dX5_minimal_29 (by decide) ?_
      refine lv_istore_n (lv' := [(1, .int 1), (0, .ref h)]) hx hb dX5_minimal_33 rfl hl (by decide) rfl (fun ls hl => ?_)
      refine lv_iconst (v := 0) hx hb dX5_minimal_34 (by decide) ?_
      refine lv_istore_n (lv' := [(2, .int 0), (1, .int 1), (0, .ref h)]) hx hb dX5_minimal_35 rfl hl (by decide) rfl (fun ls hl => ?_)
      refine kq_ind (fun n H locs g => ∃ (h_code : Int32) (v1 : Int32) (v2 : Int32) (ls : Array Slot), g = F0 m 36 ls [] ∧ lv_has ls 3 [(0, .ref h), (1, .int v1), (2, .int v2)] ∧ va_P (dC, dI) vwCl [(h, .inr (5, [.int h_code, .long h_seed, .long h_state, .ref h_many, .ref h_sort, .ref h_x, .ref h_y, .ref h_z, .ref h_fault, .ref h_faultAt, .ref h_left, .int h_lefts, .ref h_stays, .ref h_text, .int h_size])), (h_many, .inl (cA 0, 3, .inl h_many_v)), (h_sort, .inl (cA 0, 120, .inl h_sort_v)), (h_z, .inl (cA 2, 120, .inr (.inl h_z_v))), (h_faultAt, .inl (cA 0, 3, .inl h_faultAt_v)), (h_left, .inl (cA 0, 40, .inl h_left_v)), (h_stays, .inl (cA 1, 64, .inl h_stays_v))] H ∧ va_D A [(h, .inr (5, [.int h_code, .long h_seed, .long h_state, .ref h_many, .ref h_sort, .ref h_x, .ref h_y, .ref h_z, .ref h_fault, .ref h_faultAt, .ref h_left, .int h_lefts, .ref h_stays, .ref h_text, .int h_size])), (h_many, .inl (cA 0, 3, .inl h_many_v)), (h_sort, .inl (cA 0, 120, .inl h_sort_v)), (h_z, .inl (cA 2, 120, .inr (.inl h_z_v))), (h_faultAt, .inl (cA 0, 3, .inl h_faultAt_v)), (h_left, .inl (cA 0, 40, .inl h_left_v)), (h_stays, .inl (cA 1, 64, .inl h_stays_v))] ∧ va_S A s.heap H locs ∧ f_X5_minimal_L36 h_lefts h_many_v h_sort_v h_z_v h_faultAt_v h_left_v h_stays_v n h_code v1 v2 = some o) (fun H locs g h => ?_) (fun n36 ih36 H locs g h => ?_) 64 _ _ _ ⟨0, 1, 0, ls, rfl, lv_sub hl [2, 1, 0] rfl, hP, hD, hS, hf⟩
      · obtain ⟨h_code, v1, v2, ls, -, -, -, -, -, hf⟩ := h
        have hf : (none : Option (Int32 × Int32)) = some o := hf
        cases hf
      · obtain ⟨h_code, v1, v2, ls, rfl, hl, hP, hD, hS, hf⟩ := h
        have hf := (e_X5_minimal_L36 h_lefts h_many_v h_sort_v h_z_v h_faultAt_v h_left_v h_stays_v n36 h_code v1 v2).symm.trans hf
        refine lv_iload_n hx hb dX5_minimal_36 rfl (lv_at hl 2 rfl) ?_
        refine lv_aload_n hx hb dX5_minimal_37 rfl (lv_at hl 0 rfl) ?_
        refine va_get (D := (dC, dI)) (ci := 5) (v := .int h_lefts) (C := RX5) (T := TX5) (N := 15) hx hb hts iwX5 hown hK hP 0 rfl rfl 11 (by decide) (hts _ tw_346) (fun _ h9 => h9) rfl dX5_minimal_38 ?_
        refine lv_icmp_ge (tgt := 82) hx hb dX5_minimal_41 (by decide) (fun c37001 => ?_) (fun c37001 => ?_)
        · have hf := kp_p c37001 hf
          refine lv_iload_n hx hb dX5_minimal_82 rfl (lv_at hl 1 rfl) ?_
          obtain ⟨hq37002, hf⟩ := kp_t hf
          have eo := Option.some.inj hf
          subst eo
          exact W.zret (v := v1) hx hb hr (kq_z hq37002) (fun t ht hW => ⟨⟨_, (), rfl, rfl, kq_mk ht hP hD⟩, hS.F ht⟩) hS.2.2 dX5_minimal_83
        · have hf := kp_n c37001 hf
          refine lv_iload_n hx hb dX5_minimal_44 rfl (lv_at hl 1 rfl) ?_
          refine lv_if_eq (tgt := 82) hx hb dX5_minimal_45 (by decide) (fun c37003 => ?_) (fun c37003 => ?_)
          · have hf := kp_p c37003 hf
            refine lv_iload_n hx hb dX5_minimal_82 rfl (lv_at hl 1 rfl) ?_
            obtain ⟨hq37004, hf⟩ := kp_t hf
            have eo := Option.some.inj hf
            subst eo
            exact W.zret (v := v1) hx hb hr (kq_z hq37004) (fun t ht hW => ⟨⟨_, (), rfl, rfl, kq_mk ht hP hD⟩, hS.F ht⟩) hS.2.2 dX5_minimal_83
          · have hf := kp_n c37003 hf
            refine lv_aload_n hx hb dX5_minimal_48 rfl (lv_at hl 0 rfl) ?_
            refine va_get (D := (dC, dI)) (ci := 5) (v := .int h_lefts) (C := RX5) (T := TX5) (N := 15) hx hb hts iwX5 hown hK hP 0 rfl rfl 11 (by decide) (hts _ tw_346) (fun _ h9 => h9) rfl dX5_minimal_49 ?_
            refine lv_iconst (v := 1) hx hb dX5_minimal_52 (by decide) ?_
            refine lv_icmp_eq (tgt := 70) hx hb dX5_minimal_53 (by decide) (fun c37005 => ?_) (fun c37005 => ?_)
            · have hf := kp_p c37005 hf
              refine lv_iconst (v := 1) hx hb dX5_minimal_70 (by decide) ?_
              refine lv_goto (tgt := 75) hx hb dX5_minimal_71 (by decide) ?_
              refine lv_istore_n (lv' := [(1, .int 1), (0, .ref h), (2, .int v2)]) hx hb dX5_minimal_75 rfl hl (by decide) rfl (fun ls hl => ?_)
              refine lv_iinc (v := v2 + 1) (lv' := [(2, .int (v2 + 1)), (1, .int 1), (0, .ref h)]) hx hb dX5_minimal_76 hl (k := 2) rfl rfl (by decide) rfl (fun ls hl => ?_)
              refine lv_goto (tgt := 36) hx hb dX5_minimal_79 (by decide) ?_
              exact ih36 _ _ _ ⟨h_code, 1, v2 + 1, ls, rfl, lv_sub hl [2, 1, 0] rfl, hP, hD, hS, hf⟩
            · have hf := kp_n c37005 hf
              refine lv_aload_n hx hb dX5_minimal_56 rfl (lv_at hl 0 rfl) ?_
              refine va_get (D := (dC, dI)) (ci := 5) (v := .ref h_stays) (C := RX5) (T := TX5) (N := 15) hx hb hts iwX5 hown hK hP 0 rfl rfl 12 (by decide) (hts _ tw_347) (fun _ h9 => h9) rfl dX5_minimal_57 ?_
              refine lv_aload_n hx hb dX5_minimal_60 rfl (lv_at hl 0 rfl) ?_
              refine lv_iload_n hx hb dX5_minimal_61 rfl (lv_at hl 2 rfl) ?_
              refine lv_iconst (v := 1) hx hb dX5_minimal_62 (by decide) ?_
              obtain ⟨r37006, hr37006, hf⟩ := kp_b hf
              have hPc := hP.sub (ws' := [(h, .inr (5, [.int h_code, .long h_seed, .long h_state, .ref h_many, .ref h_sort, .ref h_x, .ref h_y, .ref h_z, .ref h_fault, .ref h_faultAt, .ref h_left, .int h_lefts, .ref h_stays, .ref h_text, .int h_size])), (h_sort, .inl (cA 0, 120, .inl h_sort_v)), (h_z, .inl (cA 2, 120, .inr (.inl h_z_v))), (h_faultAt, .inl (cA 0, 3, .inl h_faultAt_v)), (h_left, .inl (cA 0, 40, .inl h_left_v))]) [0, 2, 3, 4, 5] rfl
              have hDc := hD.sub (ws' := [(h, .inr (5, [.int h_code, .long h_seed, .long h_state, .ref h_many, .ref h_sort, .ref h_x, .ref h_y, .ref h_z, .ref h_fault, .ref h_faultAt, .ref h_left, .int h_lefts, .ref h_stays, .ref h_text, .int h_size])), (h_sort, .inl (cA 0, 120, .inl h_sort_v)), (h_z, .inl (cA 2, 120, .inr (.inl h_z_v))), (h_faultAt, .inl (cA 0, 3, .inl h_faultAt_v)), (h_left, .inl (cA 0, 40, .inl h_left_v))]) [0, 2, 3, 4, 5] (by decide) rfl
              have hFc := va_free (wc := [(h, .inr (5, [.int h_code, .long h_seed, .long h_state, .ref h_many, .ref h_sort, .ref h_x, .ref h_y, .ref h_z, .ref h_fault, .ref h_faultAt, .ref h_left, .int h_lefts, .ref h_stays, .ref h_text, .int h_size])), (h_sort, .inl (cA 0, 120, .inl h_sort_v)), (h_z, .inl (cA 2, 120, .inr (.inl h_z_v))), (h_faultAt, .inl (cA 0, 3, .inl h_faultAt_v)), (h_left, .inl (cA 0, 40, .inl h_left_v))]) hD hS hA [0, 2, 3, 4, 5] rfl
              refine va_calli (va_runV (As := [.int v2, .int 1]) (rest := [.ref h_stays]) ⟨hx, hb, hml, hown, hts⟩ (c_X5_signature l dC dI cA tt h h_sort h_z h_faultAt h_left h_many h_x h_y h_fault h_stays h_text H.size h_code h_seed h_state h_lefts h_size h_sort_v h_z_v h_faultAt_v h_left_v v2 1 r37006 hr37006) (cwV 2 hts (kq_gV tw_445 tw_447 tw_17 tw_25 tw_448) rfl rfl rfl (by decide +kernel) ⟨Nat.le_of_ble_eq_true rfl, Nat.le_of_ble_eq_true rfl⟩) ⟨kq_blind, va_recv hK hP (ci := 5) (q0 := 0) rfl rfl, kq_pre hG hZ hS hPc hDc hFc⟩ rfl rfl hl.1 rfl (lv_room (Nat.le_of_ble_eq_true rfl)) dX5_minimal_63 ⟨Nat.le_of_ble_eq_true rfl, Nat.le_of_ble_eq_true rfl⟩) hS (fun q _ h => hFc q h) hFc (fun rv u t H1 locs ht hvm hw hB hz1 hk1 hS => ?_)
              obtain ⟨hP1, hD1⟩ := hB
              rw [ht] at hP1
              have hw := hw.symm
              subst hw
              obtain ⟨hP, hD⟩ := va_join (wr := [(h_many, .inl (cA 0, 3, .inl h_many_v)), (h_stays, .inl (cA 1, 64, .inl h_stays_v))]) (w1 := [(h, .inr (5, [.int h_code, .long h_seed, .long h_state, .ref h_many, .ref h_sort, .ref h_x, .ref h_y, .ref h_z, .ref h_fault, .ref h_faultAt, .ref h_left, .int h_lefts, .ref h_stays, .ref h_text, .int h_size])), (h_sort, .inl (cA 0, 120, .inl h_sort_v)), (h_z, .inl (cA 2, 120, .inr (.inl h_z_v))), (h_faultAt, .inl (cA 0, 3, .inl h_faultAt_v)), (h_left, .inl (cA 0, 40, .inl h_left_v))]) hP hD [0, 2, 3, 4, 5] [1, 6] rfl rfl (by decide) (by decide) hk1 hFc hP1 hD1
              have hP : va_P (dC, dI) vwCl [(h, .inr (5, [.int h_code, .long h_seed, .long h_state, .ref h_many, .ref h_sort, .ref h_x, .ref h_y, .ref h_z, .ref h_fault, .ref h_faultAt, .ref h_left, .int h_lefts, .ref h_stays, .ref h_text, .int h_size])), (h_many, .inl (cA 0, 3, .inl h_many_v)), (h_sort, .inl (cA 0, 120, .inl h_sort_v)), (h_z, .inl (cA 2, 120, .inr (.inl h_z_v))), (h_faultAt, .inl (cA 0, 3, .inl h_faultAt_v)), (h_left, .inl (cA 0, 40, .inl h_left_v)), (h_stays, .inl (cA 1, 64, .inl h_stays_v))] H1 := hP.sub [2, 0, 3, 4, 5, 6, 1] rfl
              have hD : va_D A [(h, .inr (5, [.int h_code, .long h_seed, .long h_state, .ref h_many, .ref h_sort, .ref h_x, .ref h_y, .ref h_z, .ref h_fault, .ref h_faultAt, .ref h_left, .int h_lefts, .ref h_stays, .ref h_text, .int h_size])), (h_many, .inl (cA 0, 3, .inl h_many_v)), (h_sort, .inl (cA 0, 120, .inl h_sort_v)), (h_z, .inl (cA 2, 120, .inr (.inl h_z_v))), (h_faultAt, .inl (cA 0, 3, .inl h_faultAt_v)), (h_left, .inl (cA 0, 40, .inl h_left_v)), (h_stays, .inl (cA 1, 64, .inl h_stays_v))] := hD.sub [2, 0, 3, 4, 5, 6, 1] (by decide) rfl
              generalize H1 = H at hP hS ⊢
              obtain ⟨hq37007, hf⟩ := kp_t hf
              refine va_zald hx hb hK hP 6 1 rfl rfl hq37007 dX5_minimal_66 ?_
              refine lv_if_ne (tgt := 74) hx hb dX5_minimal_67 (by decide) (fun c37008 => ?_) (fun c37008 => ?_)
              · have hf := kp_n c37008 hf
                refine lv_iconst (v := 0) hx hb dX5_minimal_74 (by decide) ?_
                refine lv_istore_n (lv' := [(1, .int 0), (0, .ref h), (2, .int v2)]) hx hb dX5_minimal_75 rfl hl (by decide) rfl (fun ls hl => ?_)
                refine lv_iinc (v := v2 + 1) (lv' := [(2, .int (v2 + 1)), (1, .int 0), (0, .ref h)]) hx hb dX5_minimal_76 hl (k := 2) rfl rfl (by decide) rfl (fun ls hl => ?_)
                refine lv_goto (tgt := 36) hx hb dX5_minimal_79 (by decide) ?_
                exact ih36 _ _ _ ⟨h_code, 0, v2 + 1, ls, rfl, lv_sub hl [2, 1, 0] rfl, hP, hD, hS, hf⟩
              · have hf := kp_p c37008 hf
                refine lv_iconst (v := 1) hx hb dX5_minimal_70 (by decide) ?_
                refine lv_goto (tgt := 75) hx hb dX5_minimal_71 (by decide) ?_
                refine lv_istore_n (lv' := [(1, .int 1), (0, .ref h), (2, .int v2)]) hx hb dX5_minimal_75 rfl hl (by decide) rfl (fun ls hl => ?_)
                refine lv_iinc (v := v2 + 1) (lv' := [(2, .int (v2 + 1)), (1, .int 1), (0, .ref h)]) hx hb dX5_minimal_76 hl (k := 2) rfl rfl (by decide) rfl (fun ls hl => ?_)
                refine lv_goto (tgt := 36) hx hb dX5_minimal_79 (by decide) ?_
                exact ih36 _ _ _ ⟨h_code, 1, v2 + 1, ls, rfl, lv_sub hl [2, 1, 0] rfl, hP, hD, hS, hf⟩

def f_X5_answers_L9 (h_many_v : Nat → Int32) (h_z_v : Nat → Int64) : Nat → Int32 → Int64 → Int32 → Option (Int32 × Int32)
  | 0, _, _, _ => none
  | n9 + 1, h_code, v1, v3 =>
    (if (h_many_v (0 : Int32).toNatClampNeg) ≤ v3 then
    (if (h_many_v (0 : Int32).toNatClampNeg) ≤ 0 then
    some ((0, h_code))
    else
    (if (lg_cmp (v1 - v1 / 2 * 2) 0) = 0 then
    some ((1, h_code))
    else
    some ((0, h_code))))
    else
    if v3 < 0 ∨ 120 ≤ v3.toNatClampNeg then none else
    f_X5_answers_L9 h_many_v h_z_v n9 h_code (v1 + (h_z_v v3.toNatClampNeg)) (v3 + 1))
theorem e_X5_answers_L9 (h_many_v : Nat → Int32) (h_z_v : Nat → Int64) (n9 : Nat) (h_code : Int32) (v1 : Int64) (v3 : Int32) : f_X5_answers_L9 h_many_v h_z_v (n9 + 1) h_code v1 v3 =
    ((if (h_many_v (0 : Int32).toNatClampNeg) ≤ v3 then
    (if (h_many_v (0 : Int32).toNatClampNeg) ≤ 0 then
    some ((0, h_code))
    else
    (if (lg_cmp (v1 - v1 / 2 * 2) 0) = 0 then
    some ((1, h_code))
    else
    some ((0, h_code))))
    else
    if v3 < 0 ∨ 120 ≤ v3.toNatClampNeg then none else
    f_X5_answers_L9 h_many_v h_z_v n9 h_code (v1 + (h_z_v v3.toNatClampNeg)) (v3 + 1))) := rfl
def f_X5_answers (h_code : Int32) (h_many_v : Nat → Int32) (h_z_v : Nat → Int64) : Option (Int32 × Int32) :=
    f_X5_answers_L9 h_many_v h_z_v 64 0 0 0
set_option maxHeartbeats 4000000 in
set_option maxRecDepth 100000 in
theorem c_X5_answers (l : Launch) (dC : Nat → ClassId) (dI : Nat → Nat → Nat) (cA : Nat → ClassId) (tt : Nat → Nat) (h h_many h_z h_sort h_x h_y h_fault h_faultAt h_left h_stays h_text : Nat) (sz : Nat) (h_code : Int32) (h_seed : Int64) (h_state : Int64) (h_lefts : Int32) (h_size : Int32) (h_many_v : Nat → Int32) (h_z_v : Nat → Int64) (o : Int32 × Int32) (hf : f_X5_answers h_code h_many_v h_z_v = some o) : Met l yX5_answers wX5_answers ({ frames := 0, cells := 0, slots := 0, locals := 0 }) (kq_Pc dC dI cA tt [.ref h] [(h, .inr (5, [.int h_code, .long h_seed, .long h_state, .ref h_many, .ref h_sort, .ref h_x, .ref h_y, .ref h_z, .ref h_fault, .ref h_faultAt, .ref h_left, .int h_lefts, .ref h_stays, .ref h_text, .int h_size])), (h_many, .inl (cA 0, 3, .inl h_many_v)), (h_z, .inl (cA 2, 120, .inr (.inl h_z_v)))] sz) (va_Qi (fun r (_ : Unit) => r = o.1) (fun _ t => kq_B dC dI [(h, .inr (5, [.int o.2, .long h_seed, .long h_state, .ref h_many, .ref h_sort, .ref h_x, .ref h_y, .ref h_z, .ref h_fault, .ref h_faultAt, .ref h_left, .int h_lefts, .ref h_stays, .ref h_text, .int h_size])), (h_many, .inl (cA 0, 3, .inl h_many_v)), (h_z, .inl (cA 2, 120, .inr (.inl h_z_v)))] (va_A [(h, .inr (5, [.int h_code, .long h_seed, .long h_state, .ref h_many, .ref h_sort, .ref h_x, .ref h_y, .ref h_z, .ref h_fault, .ref h_faultAt, .ref h_left, .int h_lefts, .ref h_stays, .ref h_text, .int h_size])), (h_many, .inl (cA 0, 3, .inl h_many_v)), (h_z, .inl (cA 2, 120, .inr (.inl h_z_v)))] sz) t) (va_A [(h, .inr (5, [.int h_code, .long h_seed, .long h_state, .ref h_many, .ref h_sort, .ref h_x, .ref h_y, .ref h_z, .ref h_fault, .ref h_faultAt, .ref h_left, .int h_lefts, .ref h_stays, .ref h_text, .int h_size])), (h_many, .inl (cA 0, 3, .inl h_many_v)), (h_z, .inl (cA 2, 120, .inr (.inl h_z_v)))] sz)) 0 0 (va_A [(h, .inr (5, [.int h_code, .long h_seed, .long h_state, .ref h_many, .ref h_sort, .ref h_x, .ref h_y, .ref h_z, .ref h_fault, .ref h_faultAt, .ref h_left, .int h_lefts, .ref h_stays, .ref h_text, .int h_size])), (h_many, .inl (cA 0, 3, .inl h_many_v)), (h_z, .inl (cA 2, 120, .inr (.inl h_z_v)))] sz) := by
  refine Met.ofW (cc := cX5_answers) (maxL := 4) (ret := (some .boolean)) (by decide) rfl ?_
  intro p e s m args below meth c s₁ B hml hv
  obtain ⟨rfl, hsz, hP, hD0, hG, hZ⟩ := hv
  have hx := B.exec
  have hb := B.bytes
  have hr := B.returns
  have hts : ∀ w ∈ kq_T, w.before _ s = true := fun w h => atoms_spec (ws := wX5_answers) B.pre w (List.mem_cons_of_mem _ h)
  have hown : s.vm.findClass RX5 = some m.cls := findClass_of_methodNamed B.named
  have hlocks := B.notSynchronized
  have hK := hG.1
  subst hsz
  have hD := hD0.self (sz := s.heap.size)
  generalize hAe : va_A [(h, .inr (5, [.int h_code, .long h_seed, .long h_state, .ref h_many, .ref h_sort, .ref h_x, .ref h_y, .ref h_z, .ref h_fault, .ref h_faultAt, .ref h_left, .int h_lefts, .ref h_stays, .ref h_text, .int h_size])), (h_many, .inl (cA 0, 3, .inl h_many_v)), (h_z, .inl (cA 2, 120, .inr (.inl h_z_v)))] s.heap.size = A at hD hZ ⊢
  have hA : ∀ q : Nat, s.heap.size ≤ q → A q := fun q h => by rw [← hAe]; exact Or.inr h
  have hl := lv_entry [.ref h] (n := 4) (Nat.le_of_ble_eq_true rfl)
  rw [lg_entry_eq]
  generalize (lg_sl [.ref h] ++ List.replicate (4 - (lg_sl [.ref h]).length) Slot.unset).toArray = ls at hl ⊢
  have hl : lv_has ls 4 [(0, .ref h)] := hl
  obtain ⟨H, hHe⟩ : ∃ H : Heap, H = s.heap := ⟨_, rfl⟩
  have hP : va_P (dC, dI) vwCl [(h, .inr (5, [.int h_code, .long h_seed, .long h_state, .ref h_many, .ref h_sort, .ref h_x, .ref h_y, .ref h_z, .ref h_fault, .ref h_faultAt, .ref h_left, .int h_lefts, .ref h_stays, .ref h_text, .int h_size])), (h_many, .inl (cA 0, 3, .inl h_many_v)), (h_z, .inl (cA 2, 120, .inr (.inl h_z_v)))] H := by rw [hHe]; exact hP
  have hS : va_S A s.heap H [] := by rw [hHe]; exact va_S.rf
  rw [← hHe]
  unfold f_X5_answers at hf
  refine lv_aload_n hx hb dX5_answers_0 rfl (lv_at hl 0 rfl) ?_
  refine lv_iconst (v := 0) hx hb dX5_answers_1 (by decide) ?_
  refine va_put (D := (dC, dI)) (ci := 5) (v := .int 0) (ty := (.int)) (C := RX5) (T := TX5) (N := 15) hx hb hts iwX5 tyX5 tyX5_ok nmX5 hown hK hP hD hS 0 rfl rfl 0 (by decide) (hts _ tw_335) (fun _ h9 => h9) rfl (by decide +kernel) rfl rfl (Nat.le_of_ble_eq_true rfl) dX5_answers_2 (fun H locs hP hD hS => ?_)
  have hP : va_P (dC, dI) vwCl [(h, .inr (5, [.int 0, .long h_seed, .long h_state, .ref h_many, .ref h_sort, .ref h_x, .ref h_y, .ref h_z, .ref h_fault, .ref h_faultAt, .ref h_left, .int h_lefts, .ref h_stays, .ref h_text, .int h_size])), (h_many, .inl (cA 0, 3, .inl h_many_v)), (h_z, .inl (cA 2, 120, .inr (.inl h_z_v)))] H := hP
  have hD : va_D A [(h, .inr (5, [.int 0, .long h_seed, .long h_state, .ref h_many, .ref h_sort, .ref h_x, .ref h_y, .ref h_z, .ref h_fault, .ref h_faultAt, .ref h_left, .int h_lefts, .ref h_stays, .ref h_text, .int h_size])), (h_many, .inl (cA 0, 3, .inl h_many_v)), (h_z, .inl (cA 2, 120, .inr (.inl h_z_v)))] := hD
  refine lv_lconst (v := 0) hx hb dX5_answers_5 (by decide) ?_
  refine lv_lstore_n (lv' := [(1, .long 0), (0, .ref h)]) hx hb dX5_answers_6 rfl hl (by decide) rfl (fun ls hl => ?_)
  refine lv_iconst (v := 0) hx hb dX5_answers_7 (by decide) ?_
  refine lv_istore_n (lv' := [(3, .int 0), (1, .long 0), (0, .ref h)]) hx hb dX5_answers_8 rfl hl (by decide) rfl (fun ls hl => ?_)
  refine kq_ind (fun n H locs g => ∃ (h_code : Int32) (v1 : Int64) (v3 : Int32) (ls : Array Slot), g = F0 m 9 ls [] ∧ lv_has ls 4 [(0, .ref h), (1, .long v1), (3, .int v3)] ∧ va_P (dC, dI) vwCl [(h, .inr (5, [.int h_code, .long h_seed, .long h_state, .ref h_many, .ref h_sort, .ref h_x, .ref h_y, .ref h_z, .ref h_fault, .ref h_faultAt, .ref h_left, .int h_lefts, .ref h_stays, .ref h_text, .int h_size])), (h_many, .inl (cA 0, 3, .inl h_many_v)), (h_z, .inl (cA 2, 120, .inr (.inl h_z_v)))] H ∧ va_D A [(h, .inr (5, [.int h_code, .long h_seed, .long h_state, .ref h_many, .ref h_sort, .ref h_x, .ref h_y, .ref h_z, .ref h_fault, .ref h_faultAt, .ref h_left, .int h_lefts, .ref h_stays, .ref h_text, .int h_size])), (h_many, .inl (cA 0, 3, .inl h_many_v)), (h_z, .inl (cA 2, 120, .inr (.inl h_z_v)))] ∧ va_S A s.heap H locs ∧ f_X5_answers_L9 h_many_v h_z_v n h_code v1 v3 = some o) (fun H locs g h => ?_) (fun n9 ih9 H locs g h => ?_) 64 _ _ _ ⟨0, 0, 0, ls, rfl, lv_sub hl [2, 1, 0] rfl, hP, hD, hS, hf⟩
  · obtain ⟨h_code, v1, v3, ls, -, -, -, -, -, hf⟩ := h
    have hf : (none : Option (Int32 × Int32)) = some o := hf
    cases hf
  · obtain ⟨h_code, v1, v3, ls, rfl, hl, hP, hD, hS, hf⟩ := h
    have hf := (e_X5_answers_L9 h_many_v h_z_v n9 h_code v1 v3).symm.trans hf
    refine lv_iload_n hx hb dX5_answers_9 rfl (lv_at hl 2 rfl) ?_
    refine lv_aload_n hx hb dX5_answers_10 rfl (lv_at hl 0 rfl) ?_
    refine va_get (D := (dC, dI)) (ci := 5) (v := .ref h_many) (C := RX5) (T := TX5) (N := 15) hx hb hts iwX5 hown hK hP 0 rfl rfl 3 (by decide) (hts _ tw_338) (fun _ h9 => h9) rfl dX5_answers_11 ?_
    refine lv_iconst (v := 0) hx hb dX5_answers_14 (by decide) ?_
    refine va_iald hx hb hK hP 1 0 rfl rfl (show ¬ ((0 : Int32) < 0 ∨ 3 ≤ (0 : Int32).toNatClampNeg) by decide) dX5_answers_15 ?_
    refine lv_icmp_ge (tgt := 34) hx hb dX5_answers_16 (by decide) (fun c10002 => ?_) (fun c10002 => ?_)
    · have hf := kp_p c10002 hf
      refine lv_aload_n hx hb dX5_answers_34 rfl (lv_at hl 0 rfl) ?_
      refine va_get (D := (dC, dI)) (ci := 5) (v := .ref h_many) (C := RX5) (T := TX5) (N := 15) hx hb hts iwX5 hown hK hP 0 rfl rfl 3 (by decide) (hts _ tw_338) (fun _ h9 => h9) rfl dX5_answers_35 ?_
      refine lv_iconst (v := 0) hx hb dX5_answers_38 (by decide) ?_
      refine va_iald hx hb hK hP 1 0 rfl rfl (show ¬ ((0 : Int32) < 0 ∨ 3 ≤ (0 : Int32).toNatClampNeg) by decide) dX5_answers_39 ?_
      refine lv_if_le (tgt := 57) hx hb dX5_answers_40 (by decide) (fun c10004 => ?_) (fun c10004 => ?_)
      · have hf := kp_p c10004 hf
        refine lv_iconst (v := 0) hx hb dX5_answers_57 (by decide) ?_
        have eo := Option.some.inj hf
        subst eo
        exact W.zret (v := 0) hx hb hr rfl (fun t ht hW => ⟨⟨_, (), rfl, rfl, kq_mk ht hP hD⟩, hS.F ht⟩) hS.2.2 dX5_answers_58
      · have hf := kp_n c10004 hf
        refine lv_lload_n hx hb dX5_answers_43 rfl (lv_at hl 1 rfl) ?_
        refine lv_ldc2 (v := 2) hx hb hown (hts _ tw_449) dX5_answers_44 ?_
        refine lv_lrem hx hb dX5_answers_47 (by decide) ?_
        refine lv_lconst (v := 0) hx hb dX5_answers_48 (by decide) ?_
        refine W.lcmp hx hb dX5_answers_49 ?_
        refine lv_if_ne (tgt := 57) hx hb dX5_answers_50 (by decide) (fun c10005 => ?_) (fun c10005 => ?_)
        · have hf := kp_n c10005 hf
          refine lv_iconst (v := 0) hx hb dX5_answers_57 (by decide) ?_
          have eo := Option.some.inj hf
          subst eo
          exact W.zret (v := 0) hx hb hr rfl (fun t ht hW => ⟨⟨_, (), rfl, rfl, kq_mk ht hP hD⟩, hS.F ht⟩) hS.2.2 dX5_answers_58
        · have hf := kp_p c10005 hf
          refine lv_iconst (v := 1) hx hb dX5_answers_53 (by decide) ?_
          refine lv_goto (tgt := 58) hx hb dX5_answers_54 (by decide) ?_
          have eo := Option.some.inj hf
          subst eo
          exact W.zret (v := 1) hx hb hr rfl (fun t ht hW => ⟨⟨_, (), rfl, rfl, kq_mk ht hP hD⟩, hS.F ht⟩) hS.2.2 dX5_answers_58
    · have hf := kp_n c10002 hf
      refine lv_lload_n hx hb dX5_answers_19 rfl (lv_at hl 1 rfl) ?_
      refine lv_aload_n hx hb dX5_answers_20 rfl (lv_at hl 0 rfl) ?_
      refine va_get (D := (dC, dI)) (ci := 5) (v := .ref h_z) (C := RX5) (T := TX5) (N := 15) hx hb hts iwX5 hown hK hP 0 rfl rfl 7 (by decide) (hts _ tw_342) (fun _ h9 => h9) rfl dX5_answers_21 ?_
      refine lv_iload_n hx hb dX5_answers_24 rfl (lv_at hl 2 rfl) ?_
      obtain ⟨hq10006, hf⟩ := kp_t hf
      refine va_lald hx hb hK hP 2 2 rfl rfl hq10006 dX5_answers_25 ?_
      refine lv_ladd hx hb dX5_answers_26 ?_
      refine lv_lstore_n (lv' := [(1, .long (v1 + (h_z_v v3.toNatClampNeg))), (0, .ref h), (3, .int v3)]) hx hb dX5_answers_27 rfl hl (by decide) rfl (fun ls hl => ?_)
      refine lv_iinc (v := v3 + 1) (lv' := [(3, .int (v3 + 1)), (1, .long (v1 + (h_z_v v3.toNatClampNeg))), (0, .ref h)]) hx hb dX5_answers_28 hl (k := 2) rfl rfl (by decide) rfl (fun ls hl => ?_)
      refine lv_goto (tgt := 9) hx hb dX5_answers_31 (by decide) ?_
      exact ih9 _ _ _ ⟨h_code, v1 + (h_z_v v3.toNatClampNeg), v3 + 1, ls, rfl, lv_sub hl [2, 1, 0] rfl, hP, hD, hS, hf⟩
