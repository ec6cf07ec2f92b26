
set_option maxHeartbeats 4000000 in
set_option maxRecDepth 100000 in
theorem c_X3_init (l : Launch) (dC : Nat → ClassId) (dI : Nat → Nat → Nat) (cA : Nat → ClassId) (tt : Nat → Nat) (h : Nat) (sz : Nat) : Met l yX3_init wX3_init ({ frames := 2, cells := 8, slots := 272, locals := 40 }) (kq_Pc dC dI cA tt [.ref h] [(h, .inr (3, [.null, .null, .null, .int 0]))] sz) (va_Qv (fun _ : Nat × Nat × Nat × Nat × Nat × Nat × Nat × Nat => True) (fun u t => kq_B dC dI [(h, .inr (3, [.ref u.1, .ref u.2.2.2.2.2.1, .ref u.2.2.2.2.2.2.2, .int 0])), (u.1, .inr (1, [.ref u.2.1, .ref u.2.2.1, .ref u.2.2.2.1, .ref u.2.2.2.2.1, .int 0, .int 0, .int ((-1))])), (u.2.1, .inl (cA 0, 40, .inl (fun _ => 0))), (u.2.2.1, .inl (cA 0, 40, .inl (fun _ => 0))), (u.2.2.2.1, .inl (cA 0, 40, .inl (fun _ => 0))), (u.2.2.2.2.1, .inl (cA 0, 40, .inl (fun _ => 0))), (u.2.2.2.2.2.1, .inr (2, [.ref u.2.2.2.2.2.2.1])), (u.2.2.2.2.2.2.1, .inl (cA 1, 64, .inl (fun _ => 0))), (u.2.2.2.2.2.2.2, .inl (cA 0, 40, .inl (fun _ => 0)))] (va_A [(h, .inr (3, [.null, .null, .null, .int 0]))] sz) t) (va_A [(h, .inr (3, [.null, .null, .null, .int 0]))] sz)) 8 272 (va_A [(h, .inr (3, [.null, .null, .null, .int 0]))] sz) := by
  refine Met.ofW (cc := cX3_init) (maxL := 1) (ret := none) (by decide) rfl ?_
  intro p e s m args below meth c s₁ B hml hv
  obtain ⟨rfl, hsz, hP, hD0, hG, hZ⟩ := hv
  have hx := B.exec
  have hb := B.bytes
  have hr := B.returns
  have hts : ∀ w ∈ kq_T, w.before _ s = true := fun w h => atoms_spec (ws := wX3_init) B.pre w (List.mem_cons_of_mem _ h)
  have hown : s.vm.findClass RX3 = some m.cls := findClass_of_methodNamed B.named
  have hlocks := B.notSynchronized
  have hK := hG.1
  subst hsz
  have hD := hD0.self (sz := s.heap.size)
  generalize hAe : va_A [(h, .inr (3, [.null, .null, .null, .int 0]))] s.heap.size = A at hD hZ ⊢
  have hA : ∀ q : Nat, s.heap.size ≤ q → A q := fun q h => by rw [← hAe]; exact Or.inr h
  have hl := lv_entry [.ref h] (n := 1) (Nat.le_of_ble_eq_true rfl)
  rw [lg_entry_eq]
  generalize (lg_sl [.ref h] ++ List.replicate (1 - (lg_sl [.ref h]).length) Slot.unset).toArray = ls at hl ⊢
  have hl : lv_has ls 1 [(0, .ref h)] := hl
  obtain ⟨H, hHe⟩ : ∃ H : Heap, H = s.heap := ⟨_, rfl⟩
  have hP : va_P (dC, dI) vwCl [(h, .inr (3, [.null, .null, .null, .int 0]))] H := by rw [hHe]; exact hP
  have hS : va_S A s.heap H [] := by rw [hHe]; exact va_S.rf
  rw [← hHe]
  have hin : meth.name = "<init>" := (name_of_methodNamed B.named B.method).1
  refine lv_aload_n hx hb dX3_init_0 rfl (lv_at hl 0 rfl) ?_
  refine W.objInit hx hb hown (hts _ tw_51) (hts _ tw_34) (hts _ tw_35) rfl (by rw [hml]; exact hl.1) rfl dX3_init_1 (Nat.le_of_ble_eq_true rfl) (Nat.le_of_ble_eq_true rfl) ?_
  refine W.eq (g2 := F0 m 4 ls []) rfl ?_
  refine lv_aload_n hx hb dX3_init_4 rfl (lv_at hl 0 rfl) ?_
  refine va_new (ci := 1) (fs := [.null, .null, .null, .null, .int 0, .int 0, .int 0]) (C := RX1) (T := TX1) (N := 7) hx hb hts iwX1 tyX1 tyX1_ok hown (hts _ tw_52) (hts _ tw_53) (hts _ tw_23) hK hP hD hS hA rfl (fun j hj => by rcases (show j = 0 ∨ j = 1 ∨ j = 2 ∨ j = 3 ∨ j = 4 ∨ j = 5 ∨ j = 6 by omega) with rfl | rfl | rfl | rfl | rfl | rfl | rfl <;> rfl) (Nat.le_of_ble_eq_true rfl) (Nat.le_of_ble_eq_true rfl) dX3_init_5 (fun n5 H hP hD hS => ?_)
  have hP : va_P (dC, dI) vwCl [(h, .inr (3, [.null, .null, .null, .int 0])), (n5, .inr (1, [.null, .null, .null, .null, .int 0, .int 0, .int 0]))] H := hP
  have hD : va_D A [(h, .inr (3, [.null, .null, .null, .int 0])), (n5, .inr (1, [.null, .null, .null, .null, .int 0, .int 0, .int 0]))] := hD
  refine W.widen (k := 1) (n := 7) (by omega) (by omega) ?_
  refine lv_dup hx hb dX3_init_8 rfl ?_
  have hPc := hP.sub (ws' := [(n5, .inr (1, [.null, .null, .null, .null, .int 0, .int 0, .int 0]))]) [1] rfl
  have hDc := hD.sub (ws' := [(n5, .inr (1, [.null, .null, .null, .null, .int 0, .int 0, .int 0]))]) [1] (by decide) rfl
  have hFc := va_free (wc := [(n5, .inr (1, [.null, .null, .null, .null, .int 0, .int 0, .int 0]))]) hD hS hA [1] rfl
  refine va_callv (va_runIN (As := []) (rest := [.ref n5, .ref h]) ⟨hx, hb, hml, hown, hts⟩ (c_X1_init l dC dI cA tt n5 H.size) ⟨(va_cnB 0 hts (kq_g1 tw_56) rfl rfl rfl (kq_nm hG (RX3, 11, yX1_init, "CarDrawer") (by decide +kernel)) (hts _ tw_23) (by decide +kernel) ⟨Nat.le_of_ble_eq_true rfl, Nat.le_of_ble_eq_true rfl⟩), rfl, (hts _ tw_55)⟩ ⟨kq_blind, kq_pre hG hZ hS hPc hDc hFc⟩ rfl rfl hl.1 rfl (lv_room (Nat.le_of_ble_eq_true rfl)) dX3_init_9 ⟨Nat.le_of_ble_eq_true rfl, Nat.le_of_ble_eq_true rfl⟩) hS (fun q _ h => hFc q h) hFc (fun u t H1 locs ht hvm hw hB hz1 hk1 hS => ?_)
  obtain ⟨n5_n7, n5_n15, n5_n23, n5_n31⟩ := u
  obtain ⟨hP1, hD1⟩ := hB
  rw [ht] at hP1
  obtain ⟨hP, hD⟩ := va_join (wr := [(h, .inr (3, [.null, .null, .null, .int 0]))]) (w1 := [(n5, .inr (1, [.ref n5_n7, .ref n5_n15, .ref n5_n23, .ref n5_n31, .int 0, .int 0, .int ((-1))])), (n5_n7, .inl (cA 0, 40, .inl (fun _ => 0))), (n5_n15, .inl (cA 0, 40, .inl (fun _ => 0))), (n5_n23, .inl (cA 0, 40, .inl (fun _ => 0))), (n5_n31, .inl (cA 0, 40, .inl (fun _ => 0)))]) hP hD [1] [0] rfl rfl (by decide) (by decide) hk1 hFc hP1 hD1
  generalize H1 = H at hP hS ⊢
  have hP : va_P (dC, dI) vwCl [(h, .inr (3, [.null, .null, .null, .int 0])), (n5, .inr (1, [.ref n5_n7, .ref n5_n15, .ref n5_n23, .ref n5_n31, .int 0, .int 0, .int ((-1))])), (n5_n7, .inl (cA 0, 40, .inl (fun _ => 0))), (n5_n15, .inl (cA 0, 40, .inl (fun _ => 0))), (n5_n23, .inl (cA 0, 40, .inl (fun _ => 0))), (n5_n31, .inl (cA 0, 40, .inl (fun _ => 0)))] H := hP
  have hD : va_D A [(h, .inr (3, [.null, .null, .null, .int 0])), (n5, .inr (1, [.ref n5_n7, .ref n5_n15, .ref n5_n23, .ref n5_n31, .int 0, .int 0, .int ((-1))])), (n5_n7, .inl (cA 0, 40, .inl (fun _ => 0))), (n5_n15, .inl (cA 0, 40, .inl (fun _ => 0))), (n5_n23, .inl (cA 0, 40, .inl (fun _ => 0))), (n5_n31, .inl (cA 0, 40, .inl (fun _ => 0)))] := hD
  refine W.widen (k := 5) (n := 167) (by omega) (by omega) ?_
  refine va_putF (D := (dC, dI)) (ci := 3) (v := .ref n5) (ty := (.object "CarDrawer$Drawing")) (C := RX3) (T := TX3) (N := 4) hx hb hts iwX3 tyX3 tyX3_ok nmX3 hown hK hP hD hS 0 rfl rfl 0 (by decide) (hts _ tw_99) (fun _ h9 => h9) rfl hin rfl (by decide +kernel) rfl rfl (Nat.le_of_ble_eq_true rfl) dX3_init_12 (fun H locs hP hD hS => ?_)
  have hP : va_P (dC, dI) vwCl [(h, .inr (3, [.ref n5, .null, .null, .int 0])), (n5, .inr (1, [.ref n5_n7, .ref n5_n15, .ref n5_n23, .ref n5_n31, .int 0, .int 0, .int ((-1))])), (n5_n7, .inl (cA 0, 40, .inl (fun _ => 0))), (n5_n15, .inl (cA 0, 40, .inl (fun _ => 0))), (n5_n23, .inl (cA 0, 40, .inl (fun _ => 0))), (n5_n31, .inl (cA 0, 40, .inl (fun _ => 0)))] H := hP
  have hD : va_D A [(h, .inr (3, [.ref n5, .null, .null, .int 0])), (n5, .inr (1, [.ref n5_n7, .ref n5_n15, .ref n5_n23, .ref n5_n31, .int 0, .int 0, .int ((-1))])), (n5_n7, .inl (cA 0, 40, .inl (fun _ => 0))), (n5_n15, .inl (cA 0, 40, .inl (fun _ => 0))), (n5_n23, .inl (cA 0, 40, .inl (fun _ => 0))), (n5_n31, .inl (cA 0, 40, .inl (fun _ => 0)))] := hD
  refine lv_aload_n hx hb dX3_init_15 rfl (lv_at hl 0 rfl) ?_
  refine va_new (ci := 2) (fs := [.null]) (C := RX2) (T := TX2) (N := 1) hx hb hts iwX2 tyX2 tyX2_ok hown (hts _ tw_88) (hts _ tw_89) (hts _ tw_24) hK hP hD hS hA rfl (fun j hj => by rcases (show j = 0 by omega) with rfl <;> rfl) (Nat.le_of_ble_eq_true rfl) (Nat.le_of_ble_eq_true rfl) dX3_init_16 (fun n16 H hP hD hS => ?_)
  have hP : va_P (dC, dI) vwCl [(h, .inr (3, [.ref n5, .null, .null, .int 0])), (n5, .inr (1, [.ref n5_n7, .ref n5_n15, .ref n5_n23, .ref n5_n31, .int 0, .int 0, .int ((-1))])), (n5_n7, .inl (cA 0, 40, .inl (fun _ => 0))), (n5_n15, .inl (cA 0, 40, .inl (fun _ => 0))), (n5_n23, .inl (cA 0, 40, .inl (fun _ => 0))), (n5_n31, .inl (cA 0, 40, .inl (fun _ => 0))), (n16, .inr (2, [.null]))] H := hP
  have hD : va_D A [(h, .inr (3, [.ref n5, .null, .null, .int 0])), (n5, .inr (1, [.ref n5_n7, .ref n5_n15, .ref n5_n23, .ref n5_n31, .int 0, .int 0, .int ((-1))])), (n5_n7, .inl (cA 0, 40, .inl (fun _ => 0))), (n5_n15, .inl (cA 0, 40, .inl (fun _ => 0))), (n5_n23, .inl (cA 0, 40, .inl (fun _ => 0))), (n5_n31, .inl (cA 0, 40, .inl (fun _ => 0))), (n16, .inr (2, [.null]))] := hD
  refine W.widen (k := 6) (n := 168) (by omega) (by omega) ?_
  refine lv_dup hx hb dX3_init_19 rfl ?_
  have hPc := hP.sub (ws' := [(n16, .inr (2, [.null]))]) [6] rfl
  have hDc := hD.sub (ws' := [(n16, .inr (2, [.null]))]) [6] (by decide) rfl
  have hFc := va_free (wc := [(n16, .inr (2, [.null]))]) hD hS hA [6] rfl
  refine va_callv (va_runIN (As := []) (rest := [.ref n16, .ref h]) ⟨hx, hb, hml, hown, hts⟩ (c_X2_init l dC dI cA tt n16 H.size) ⟨(va_cnB 0 hts (kq_g1 tw_92) rfl rfl rfl (kq_nm hG (RX3, 20, yX2_init, "CarDrawer") (by decide +kernel)) (hts _ tw_24) (by decide +kernel) ⟨Nat.le_of_ble_eq_true rfl, Nat.le_of_ble_eq_true rfl⟩), rfl, (hts _ tw_91)⟩ ⟨kq_blind, kq_pre hG hZ hS hPc hDc hFc⟩ rfl rfl hl.1 rfl (lv_room (Nat.le_of_ble_eq_true rfl)) dX3_init_20 ⟨Nat.le_of_ble_eq_true rfl, Nat.le_of_ble_eq_true rfl⟩) hS (fun q _ h => hFc q h) hFc (fun u t H1 locs ht hvm hw hB hz1 hk1 hS => ?_)
  obtain ⟨n16_n7, rfl⟩ : ∃ z, z = u := ⟨_, rfl⟩
  obtain ⟨hP1, hD1⟩ := hB
  rw [ht] at hP1
  obtain ⟨hP, hD⟩ := va_join (wr := [(h, .inr (3, [.ref n5, .null, .null, .int 0])), (n5, .inr (1, [.ref n5_n7, .ref n5_n15, .ref n5_n23, .ref n5_n31, .int 0, .int 0, .int ((-1))])), (n5_n7, .inl (cA 0, 40, .inl (fun _ => 0))), (n5_n15, .inl (cA 0, 40, .inl (fun _ => 0))), (n5_n23, .inl (cA 0, 40, .inl (fun _ => 0))), (n5_n31, .inl (cA 0, 40, .inl (fun _ => 0)))]) (w1 := [(n16, .inr (2, [.ref n16_n7])), (n16_n7, .inl (cA 1, 64, .inl (fun _ => 0)))]) hP hD [6] [0, 1, 2, 3, 4, 5] rfl rfl (by decide) (by decide) hk1 hFc hP1 hD1
  generalize H1 = H at hP hS ⊢
  have hP : va_P (dC, dI) vwCl [(h, .inr (3, [.ref n5, .null, .null, .int 0])), (n5, .inr (1, [.ref n5_n7, .ref n5_n15, .ref n5_n23, .ref n5_n31, .int 0, .int 0, .int ((-1))])), (n5_n7, .inl (cA 0, 40, .inl (fun _ => 0))), (n5_n15, .inl (cA 0, 40, .inl (fun _ => 0))), (n5_n23, .inl (cA 0, 40, .inl (fun _ => 0))), (n5_n31, .inl (cA 0, 40, .inl (fun _ => 0))), (n16, .inr (2, [.ref n16_n7])), (n16_n7, .inl (cA 1, 64, .inl (fun _ => 0)))] H := hP
  have hD : va_D A [(h, .inr (3, [.ref n5, .null, .null, .int 0])), (n5, .inr (1, [.ref n5_n7, .ref n5_n15, .ref n5_n23, .ref n5_n31, .int 0, .int 0, .int ((-1))])), (n5_n7, .inl (cA 0, 40, .inl (fun _ => 0))), (n5_n15, .inl (cA 0, 40, .inl (fun _ => 0))), (n5_n23, .inl (cA 0, 40, .inl (fun _ => 0))), (n5_n31, .inl (cA 0, 40, .inl (fun _ => 0))), (n16, .inr (2, [.ref n16_n7])), (n16_n7, .inl (cA 1, 64, .inl (fun _ => 0)))] := hD
  refine W.widen (k := 7) (n := 232) (by omega) (by omega) ?_
  refine va_putF (D := (dC, dI)) (ci := 3) (v := .ref n16) (ty := (.object "CarDrawer$Verdict")) (C := RX3) (T := TX3) (N := 4) hx hb hts iwX3 tyX3 tyX3_ok nmX3 hown hK hP hD hS 0 rfl rfl 1 (by decide) (hts _ tw_101) (fun _ h9 => h9) rfl hin rfl (by decide +kernel) rfl rfl (Nat.le_of_ble_eq_true rfl) dX3_init_23 (fun H locs hP hD hS => ?_)
  have hP : va_P (dC, dI) vwCl [(h, .inr (3, [.ref n5, .ref n16, .null, .int 0])), (n5, .inr (1, [.ref n5_n7, .ref n5_n15, .ref n5_n23, .ref n5_n31, .int 0, .int 0, .int ((-1))])), (n5_n7, .inl (cA 0, 40, .inl (fun _ => 0))), (n5_n15, .inl (cA 0, 40, .inl (fun _ => 0))), (n5_n23, .inl (cA 0, 40, .inl (fun _ => 0))), (n5_n31, .inl (cA 0, 40, .inl (fun _ => 0))), (n16, .inr (2, [.ref n16_n7])), (n16_n7, .inl (cA 1, 64, .inl (fun _ => 0)))] H := hP
  have hD : va_D A [(h, .inr (3, [.ref n5, .ref n16, .null, .int 0])), (n5, .inr (1, [.ref n5_n7, .ref n5_n15, .ref n5_n23, .ref n5_n31, .int 0, .int 0, .int ((-1))])), (n5_n7, .inl (cA 0, 40, .inl (fun _ => 0))), (n5_n15, .inl (cA 0, 40, .inl (fun _ => 0))), (n5_n23, .inl (cA 0, 40, .inl (fun _ => 0))), (n5_n31, .inl (cA 0, 40, .inl (fun _ => 0))), (n16, .inr (2, [.ref n16_n7])), (n16_n7, .inl (cA 1, 64, .inl (fun _ => 0)))] := hD
  refine lv_aload_n hx hb dX3_init_26 rfl (lv_at hl 0 rfl) ?_
  refine lv_bipush (v := 40) hx hb dX3_init_27 (by decide) ?_
  refine va_newa (atype := .int) (a0 := (40, .inl (fun _ => 0))) (N' := 40) hx hb (hts _ tw_87) (ty := .int) rfl hK hP hD hS hA (fun _ => rfl) (by decide) (by decide) (by decide) (Nat.le_of_ble_eq_true rfl) (Nat.le_of_ble_eq_true rfl) dX3_init_29 (fun n29 cn29 H hK9 hP hD hS => ?_)
  rw [kq_same hK9 4 0 rfl rfl] at hP hD
  have hP : va_P (dC, dI) vwCl [(h, .inr (3, [.ref n5, .ref n16, .null, .int 0])), (n5, .inr (1, [.ref n5_n7, .ref n5_n15, .ref n5_n23, .ref n5_n31, .int 0, .int 0, .int ((-1))])), (n5_n7, .inl (cA 0, 40, .inl (fun _ => 0))), (n5_n15, .inl (cA 0, 40, .inl (fun _ => 0))), (n5_n23, .inl (cA 0, 40, .inl (fun _ => 0))), (n5_n31, .inl (cA 0, 40, .inl (fun _ => 0))), (n16, .inr (2, [.ref n16_n7])), (n16_n7, .inl (cA 1, 64, .inl (fun _ => 0))), (n29, .inl (cA 0, 40, .inl (fun _ => 0)))] H := hP
  have hD : va_D A [(h, .inr (3, [.ref n5, .ref n16, .null, .int 0])), (n5, .inr (1, [.ref n5_n7, .ref n5_n15, .ref n5_n23, .ref n5_n31, .int 0, .int 0, .int ((-1))])), (n5_n7, .inl (cA 0, 40, .inl (fun _ => 0))), (n5_n15, .inl (cA 0, 40, .inl (fun _ => 0))), (n5_n23, .inl (cA 0, 40, .inl (fun _ => 0))), (n5_n31, .inl (cA 0, 40, .inl (fun _ => 0))), (n16, .inr (2, [.ref n16_n7])), (n16_n7, .inl (cA 1, 64, .inl (fun _ => 0))), (n29, .inl (cA 0, 40, .inl (fun _ => 0)))] := hD
  refine W.widen (k := 8) (n := 272) (by omega) (by omega) ?_
  refine va_putF (D := (dC, dI)) (ci := 3) (v := .ref n29) (ty := (.array .int)) (C := RX3) (T := TX3) (N := 4) hx hb hts iwX3 tyX3 tyX3_ok nmX3 hown hK hP hD hS 0 rfl rfl 2 (by decide) (hts _ tw_103) (fun _ h9 => h9) rfl hin rfl (by decide +kernel) rfl rfl (Nat.le_of_ble_eq_true rfl) dX3_init_31 (fun H locs hP hD hS => ?_)
  have hP : va_P (dC, dI) vwCl [(h, .inr (3, [.ref n5, .ref n16, .ref n29, .int 0])), (n5, .inr (1, [.ref n5_n7, .ref n5_n15, .ref n5_n23, .ref n5_n31, .int 0, .int 0, .int ((-1))])), (n5_n7, .inl (cA 0, 40, .inl (fun _ => 0))), (n5_n15, .inl (cA 0, 40, .inl (fun _ => 0))), (n5_n23, .inl (cA 0, 40, .inl (fun _ => 0))), (n5_n31, .inl (cA 0, 40, .inl (fun _ => 0))), (n16, .inr (2, [.ref n16_n7])), (n16_n7, .inl (cA 1, 64, .inl (fun _ => 0))), (n29, .inl (cA 0, 40, .inl (fun _ => 0)))] H := hP
  have hD : va_D A [(h, .inr (3, [.ref n5, .ref n16, .ref n29, .int 0])), (n5, .inr (1, [.ref n5_n7, .ref n5_n15, .ref n5_n23, .ref n5_n31, .int 0, .int 0, .int ((-1))])), (n5_n7, .inl (cA 0, 40, .inl (fun _ => 0))), (n5_n15, .inl (cA 0, 40, .inl (fun _ => 0))), (n5_n23, .inl (cA 0, 40, .inl (fun _ => 0))), (n5_n31, .inl (cA 0, 40, .inl (fun _ => 0))), (n16, .inr (2, [.ref n16_n7])), (n16_n7, .inl (cA 1, 64, .inl (fun _ => 0))), (n29, .inl (cA 0, 40, .inl (fun _ => 0)))] := hD
  refine lv_aload_n hx hb dX3_init_34 rfl (lv_at hl 0 rfl) ?_
  refine lv_iconst (v := 0) hx hb dX3_init_35 (by decide) ?_
  refine va_put (D := (dC, dI)) (ci := 3) (v := .int 0) (ty := (.int)) (C := RX3) (T := TX3) (N := 4) hx hb hts iwX3 tyX3 tyX3_ok nmX3 hown hK hP hD hS 0 rfl rfl 3 (by decide) (hts _ tw_104) (fun _ h9 => h9) rfl (by decide +kernel) rfl rfl (Nat.le_of_ble_eq_true rfl) dX3_init_36 (fun H locs hP hD hS => ?_)
  have hP : va_P (dC, dI) vwCl [(h, .inr (3, [.ref n5, .ref n16, .ref n29, .int 0])), (n5, .inr (1, [.ref n5_n7, .ref n5_n15, .ref n5_n23, .ref n5_n31, .int 0, .int 0, .int ((-1))])), (n5_n7, .inl (cA 0, 40, .inl (fun _ => 0))), (n5_n15, .inl (cA 0, 40, .inl (fun _ => 0))), (n5_n23, .inl (cA 0, 40, .inl (fun _ => 0))), (n5_n31, .inl (cA 0, 40, .inl (fun _ => 0))), (n16, .inr (2, [.ref n16_n7])), (n16_n7, .inl (cA 1, 64, .inl (fun _ => 0))), (n29, .inl (cA 0, 40, .inl (fun _ => 0)))] H := hP
  have hD : va_D A [(h, .inr (3, [.ref n5, .ref n16, .ref n29, .int 0])), (n5, .inr (1, [.ref n5_n7, .ref n5_n15, .ref n5_n23, .ref n5_n31, .int 0, .int 0, .int ((-1))])), (n5_n7, .inl (cA 0, 40, .inl (fun _ => 0))), (n5_n15, .inl (cA 0, 40, .inl (fun _ => 0))), (n5_n23, .inl (cA 0, 40, .inl (fun _ => 0))), (n5_n31, .inl (cA 0, 40, .inl (fun _ => 0))), (n16, .inr (2, [.ref n16_n7])), (n16_n7, .inl (cA 1, 64, .inl (fun _ => 0))), (n29, .inl (cA 0, 40, .inl (fun _ => 0)))] := hD
  refine W.widen (k := 8) (n := 272) (by omega) (by omega) ?_
  exact W.vret hx hb hr (fun t ht hW => ⟨⟨(n5, n5_n7, n5_n15, n5_n23, n5_n31, n16, n16_n7, n29), rfl, trivial, kq_mk ht hP hD⟩, hS.F ht⟩) hS.2.2 dX3_init_39

def f_X3_takeAll_L13 (h_drawing_count : Int32) : Nat → Int32 → (Nat → Int32) → Int32 → Option (Int32 × (Nat → Int32))
  | 0, _, _, _ => none
  | n13 + 1, h_count, h_numbers_v, v1 =>
    (if h_count ≤ v1 then
    some ((h_count, h_numbers_v))
    else
    if v1 < 0 ∨ 40 ≤ v1.toNatClampNeg then none else
    f_X3_takeAll_L13 h_drawing_count n13 h_count (upd h_numbers_v v1.toNatClampNeg v1) (v1 + 1))
theorem e_X3_takeAll_L13 (h_drawing_count : Int32) (n13 : Nat) (h_count : Int32) (h_numbers_v : Nat → Int32) (v1 : Int32) : f_X3_takeAll_L13 h_drawing_count (n13 + 1) h_count h_numbers_v v1 =
    ((if h_count ≤ v1 then
    some ((h_count, h_numbers_v))
    else
    if v1 < 0 ∨ 40 ≤ v1.toNatClampNeg then none else
    f_X3_takeAll_L13 h_drawing_count n13 h_count (upd h_numbers_v v1.toNatClampNeg v1) (v1 + 1))) := rfl
def f_X3_takeAll (h_count : Int32) (h_drawing_count : Int32) (h_numbers_v : Nat → Int32) : Option (Int32 × (Nat → Int32)) :=
    f_X3_takeAll_L13 h_drawing_count 64 h_drawing_count h_numbers_v 0
set_option maxHeartbeats 4000000 in
set_option maxRecDepth 100000 in
theorem c_X3_takeAll (l : Launch) (dC : Nat → ClassId) (dI : Nat → Nat → Nat) (cA : Nat → ClassId) (tt : Nat → Nat) (h h_drawing h_numbers h_saying h_drawing_sort h_drawing_x h_drawing_y h_drawing_z : Nat) (sz : Nat) (h_count : Int32) (h_drawing_count : Int32) (h_drawing_fault : Int32) (h_drawing_faultPart : Int32) (h_numbers_v : Nat → Int32) (o : Int32 × (Nat → Int32)) (hf : f_X3_takeAll h_count h_drawing_count h_numbers_v = some o) : Met l yX3_takeAll wX3_takeAll ({ frames := 0, cells := 0, slots := 0, locals := 0 }) (kq_Pc dC dI cA tt [.ref h] [(h, .inr (3, [.ref h_drawing, .ref h_saying, .ref h_numbers, .int h_count])), (h_drawing, .inr (1, [.ref h_drawing_sort, .ref h_drawing_x, .ref h_drawing_y, .ref h_drawing_z, .int h_drawing_count, .int h_drawing_fault, .int h_drawing_faultPart])), (h_numbers, .inl (cA 0, 40, .inl h_numbers_v))] sz) (va_Qv (fun _ : Unit => True) (fun _ t => kq_B dC dI [(h, .inr (3, [.ref h_drawing, .ref h_saying, .ref h_numbers, .int o.1])), (h_drawing, .inr (1, [.ref h_drawing_sort, .ref h_drawing_x, .ref h_drawing_y, .ref h_drawing_z, .int h_drawing_count, .int h_drawing_fault, .int h_drawing_faultPart])), (h_numbers, .inl (cA 0, 40, .inl o.2))] (va_A [(h, .inr (3, [.ref h_drawing, .ref h_saying, .ref h_numbers, .int h_count])), (h_drawing, .inr (1, [.ref h_drawing_sort, .ref h_drawing_x, .ref h_drawing_y, .ref h_drawing_z, .int h_drawing_count, .int h_drawing_fault, .int h_drawing_faultPart])), (h_numbers, .inl (cA 0, 40, .inl h_numbers_v))] sz) t) (va_A [(h, .inr (3, [.ref h_drawing, .ref h_saying, .ref h_numbers, .int h_count])), (h_drawing, .inr (1, [.ref h_drawing_sort, .ref h_drawing_x, .ref h_drawing_y, .ref h_drawing_z, .int h_drawing_count, .int h_drawing_fault, .int h_drawing_faultPart])), (h_numbers, .inl (cA 0, 40, .inl h_numbers_v))] sz)) 0 0 (va_A [(h, .inr (3, [.ref h_drawing, .ref h_saying, .ref h_numbers, .int h_count])), (h_drawing, .inr (1, [.ref h_drawing_sort, .ref h_drawing_x, .ref h_drawing_y, .ref h_drawing_z, .int h_drawing_count, .int h_drawing_fault, .int h_drawing_faultPart])), (h_numbers, .inl (cA 0, 40, .inl h_numbers_v))] sz) := by
  refine Met.ofW (cc := cX3_takeAll) (maxL := 2) (ret := none) (by decide) rfl ?_
  intro p e s m args below meth c s₁ B hml hv
  obtain ⟨rfl, hsz, hP, hD0, hG, hZ⟩ := hv
  have hx := B.exec
  have hb := B.bytes
  have hr := B.returns
  have hts : ∀ w ∈ kq_T, w.before _ s = true := fun w h => atoms_spec (ws := wX3_takeAll) B.pre w (List.mem_cons_of_mem _ h)
  have hown : s.vm.findClass RX3 = some m.cls := findClass_of_methodNamed B.named
  have hlocks := B.notSynchronized
  have hK := hG.1
  subst hsz
  have hD := hD0.self (sz := s.heap.size)
  generalize hAe : va_A [(h, .inr (3, [.ref h_drawing, .ref h_saying, .ref h_numbers, .int h_count])), (h_drawing, .inr (1, [.ref h_drawing_sort, .ref h_drawing_x, .ref h_drawing_y, .ref h_drawing_z, .int h_drawing_count, .int h_drawing_fault, .int h_drawing_faultPart])), (h_numbers, .inl (cA 0, 40, .inl h_numbers_v))] s.heap.size = A at hD hZ ⊢
  have hA : ∀ q : Nat, s.heap.size ≤ q → A q := fun q h => by rw [← hAe]; exact Or.inr h
  have hl := lv_entry [.ref h] (n := 2) (Nat.le_of_ble_eq_true rfl)
  rw [lg_entry_eq]
  generalize (lg_sl [.ref h] ++ List.replicate (2 - (lg_sl [.ref h]).length) Slot.unset).toArray = ls at hl ⊢
  have hl : lv_has ls 2 [(0, .ref h)] := hl
  obtain ⟨H, hHe⟩ : ∃ H : Heap, H = s.heap := ⟨_, rfl⟩
  have hP : va_P (dC, dI) vwCl [(h, .inr (3, [.ref h_drawing, .ref h_saying, .ref h_numbers, .int h_count])), (h_drawing, .inr (1, [.ref h_drawing_sort, .ref h_drawing_x, .ref h_drawing_y, .ref h_drawing_z, .int h_drawing_count, .int h_drawing_fault, .int h_drawing_faultPart])), (h_numbers, .inl (cA 0, 40, .inl h_numbers_v))] H := by rw [hHe]; exact hP
  have hS : va_S A s.heap H [] := by rw [hHe]; exact va_S.rf
  rw [← hHe]
  unfold f_X3_takeAll at hf
  refine lv_aload_n hx hb dX3_takeAll_0 rfl (lv_at hl 0 rfl) ?_
  refine lv_aload_n hx hb dX3_takeAll_1 rfl (lv_at hl 0 rfl) ?_
  refine va_get (D := (dC, dI)) (ci := 3) (v := .ref h_drawing) (C := RX3) (T := TX3) (N := 4) hx hb hts iwX3 hown hK hP 0 rfl rfl 0 (by decide) (hts _ tw_99) (fun _ h9 => h9) rfl dX3_takeAll_2 ?_
  refine va_getN (D := (dC, dI)) (ci := 1) (v := .int h_drawing_count) (C := RX1) (T := TX1) (N := 7) hx hb hts iwX1 hown hK hP 1 rfl rfl 4 (by decide) (kq_nf hG (RX3, 33, RX1, "count", "I", "CarDrawer") (by decide +kernel)) (fun _ h9 => h9) rfl dX3_takeAll_5 ?_
  refine va_put (D := (dC, dI)) (ci := 3) (v := .int h_drawing_count) (ty := (.int)) (C := RX3) (T := TX3) (N := 4) hx hb hts iwX3 tyX3 tyX3_ok nmX3 hown hK hP hD hS 0 rfl rfl 3 (by decide) (hts _ tw_104) (fun _ h9 => h9) rfl (by decide +kernel) rfl rfl (Nat.le_of_ble_eq_true rfl) dX3_takeAll_8 (fun H locs hP hD hS => ?_)
  have hP : va_P (dC, dI) vwCl [(h, .inr (3, [.ref h_drawing, .ref h_saying, .ref h_numbers, .int h_drawing_count])), (h_drawing, .inr (1, [.ref h_drawing_sort, .ref h_drawing_x, .ref h_drawing_y, .ref h_drawing_z, .int h_drawing_count, .int h_drawing_fault, .int h_drawing_faultPart])), (h_numbers, .inl (cA 0, 40, .inl h_numbers_v))] H := hP
  have hD : va_D A [(h, .inr (3, [.ref h_drawing, .ref h_saying, .ref h_numbers, .int h_drawing_count])), (h_drawing, .inr (1, [.ref h_drawing_sort, .ref h_drawing_x, .ref h_drawing_y, .ref h_drawing_z, .int h_drawing_count, .int h_drawing_fault, .int h_drawing_faultPart])), (h_numbers, .inl (cA 0, 40, .inl h_numbers_v))] := hD
  refine lv_iconst (v := 0) hx hb dX3_takeAll_11 (by decide) ?_
  refine lv_istore_n (lv' := [(1, .int 0), (0, .ref h)]) hx hb dX3_takeAll_12 rfl hl (by decide) rfl (fun ls hl => ?_)
  refine kq_ind (fun n H locs g => ∃ (h_count : Int32) (h_numbers_v : Nat → Int32) (v1 : Int32) (ls : Array Slot), g = F0 m 13 ls [] ∧ lv_has ls 2 [(0, .ref h), (1, .int v1)] ∧ va_P (dC, dI) vwCl [(h, .inr (3, [.ref h_drawing, .ref h_saying, .ref h_numbers, .int h_count])), (h_drawing, .inr (1, [.ref h_drawing_sort, .ref h_drawing_x, .ref h_drawing_y, .ref h_drawing_z, .int h_drawing_count, .int h_drawing_fault, .int h_drawing_faultPart])), (h_numbers, .inl (cA 0, 40, .inl h_numbers_v))] H ∧ va_D A [(h, .inr (3, [.ref h_drawing, .ref h_saying, .ref h_numbers, .int h_count])), (h_drawing, .inr (1, [.ref h_drawing_sort, .ref h_drawing_x, .ref h_drawing_y, .ref h_drawing_z, .int h_drawing_count, .int h_drawing_fault, .int h_drawing_faultPart])), (h_numbers, .inl (cA 0, 40, .inl h_numbers_v))] ∧ va_S A s.heap H locs ∧ f_X3_takeAll_L13 h_drawing_count n h_count h_numbers_v v1 = some o) (fun H locs g h => ?_) (fun n13 ih13 H locs g h => ?_) 64 _ _ _ ⟨h_drawing_count, h_numbers_v, 0, ls, rfl, lv_sub hl [1, 0] rfl, hP, hD, hS, hf⟩
  · obtain ⟨h_count, h_numbers_v, v1, ls, -, -, -, -, -, hf⟩ := h
    have hf : (none : Option (Int32 × (Nat → Int32))) = some o := hf
    cases hf
  · obtain ⟨h_count, h_numbers_v, v1, ls, rfl, hl, hP, hD, hS, hf⟩ := h
    have hf := (e_X3_takeAll_L13 h_drawing_count n13 h_count h_numbers_v v1).symm.trans hf
    refine lv_iload_n hx hb dX3_takeAll_13 rfl (lv_at hl 1 rfl) ?_
    refine lv_aload_n hx hb dX3_takeAll_14 rfl (lv_at hl 0 rfl) ?_
    refine va_get (D := (dC, dI)) (ci := 3) (v := .int h_count) (C := RX3) (T := TX3) (N := 4) hx hb hts iwX3 hown hK hP 0 rfl rfl 3 (by decide) (hts _ tw_104) (fun _ h9 => h9) rfl dX3_takeAll_15 ?_
    refine lv_icmp_ge (tgt := 34) hx hb dX3_takeAll_18 (by decide) (fun c14001 => ?_) (fun c14001 => ?_)
    · have hf := kp_p c14001 hf
      have eo := Option.some.inj hf
      subst eo
      exact W.vret hx hb hr (fun t ht hW => ⟨⟨(), rfl, trivial, kq_mk ht hP hD⟩, hS.F ht⟩) hS.2.2 dX3_takeAll_34
    · have hf := kp_n c14001 hf
      refine lv_aload_n hx hb dX3_takeAll_21 rfl (lv_at hl 0 rfl) ?_
      refine va_get (D := (dC, dI)) (ci := 3) (v := .ref h_numbers) (C := RX3) (T := TX3) (N := 4) hx hb hts iwX3 hown hK hP 0 rfl rfl 2 (by decide) (hts _ tw_103) (fun _ h9 => h9) rfl dX3_takeAll_22 ?_
      refine lv_iload_n hx hb dX3_takeAll_25 rfl (lv_at hl 1 rfl) ?_
      refine lv_iload_n hx hb dX3_takeAll_26 rfl (lv_at hl 1 rfl) ?_
      obtain ⟨hq14002, hf⟩ := kp_t hf
      refine va_iast hx hb hK hP hD hS 2 0 rfl rfl hq14002 dX3_takeAll_27 (fun H locs hP hD hS => ?_)
      have hP : va_P (dC, dI) vwCl [(h, .inr (3, [.ref h_drawing, .ref h_saying, .ref h_numbers, .int h_count])), (h_drawing, .inr (1, [.ref h_drawing_sort, .ref h_drawing_x, .ref h_drawing_y, .ref h_drawing_z, .int h_drawing_count, .int h_drawing_fault, .int h_drawing_faultPart])), (h_numbers, .inl (cA 0, 40, .inl (upd h_numbers_v v1.toNatClampNeg v1)))] H := hP
      have hD : va_D A [(h, .inr (3, [.ref h_drawing, .ref h_saying, .ref h_numbers, .int h_count])), (h_drawing, .inr (1, [.ref h_drawing_sort, .ref h_drawing_x, .ref h_drawing_y, .ref h_drawing_z, .int h_drawing_count, .int h_drawing_fault, .int h_drawing_faultPart])), (h_numbers, .inl (cA 0, 40, .inl (upd h_numbers_v v1.toNatClampNeg v1)))] := hD
      refine lv_iinc (v := v1 + 1) (lv' := [(1, .int (v1 + 1)), (0, .ref h)]) hx hb dX3_takeAll_28 hl (k := 1) rfl rfl (by decide) rfl (fun ls hl => ?_)
      refine lv_goto (tgt := 13) hx hb dX3_takeAll_31 (by decide) ?_
      exact ih13 _ _ _ ⟨h_count, upd h_numbers_v v1.toNatClampNeg v1, v1 + 1, ls, rfl, lv_sub hl [1, 0] rfl, hP, hD, hS, hf⟩

def f_X3_holds_L2 (h_count : Int32) (h_numbers_v : Nat → Int32) (p0 : Int32) : Nat → Int32 → Option (Int32)
  | 0, _ => none
  | n2 + 1, v2 =>
    (if h_count ≤ v2 then
    some 0
    else
    if v2 < 0 ∨ 40 ≤ v2.toNatClampNeg then none else
    (if (h_numbers_v v2.toNatClampNeg) = p0 then
    some 1
    else
    f_X3_holds_L2 h_count h_numbers_v p0 n2 (v2 + 1)))
theorem e_X3_holds_L2 (h_count : Int32) (h_numbers_v : Nat → Int32) (p0 : Int32) (n2 : Nat) (v2 : Int32) : f_X3_holds_L2 h_count h_numbers_v p0 (n2 + 1) v2 =
    ((if h_count ≤ v2 then
    some 0
    else
    if v2 < 0 ∨ 40 ≤ v2.toNatClampNeg then none else
    (if (h_numbers_v v2.toNatClampNeg) = p0 then
    some 1
    else
    f_X3_holds_L2 h_count h_numbers_v p0 n2 (v2 + 1)))) := rfl
def f_X3_holds (h_count : Int32) (h_numbers_v : Nat → Int32) (p0 : Int32) : Option (Int32) :=
    f_X3_holds_L2 h_count h_numbers_v p0 64 0
set_option maxHeartbeats 4000000 in
set_option maxRecDepth 100000 in
theorem c_X3_holds (l : Launch) (dC : Nat → ClassId) (dI : Nat → Nat → Nat) (cA : Nat → ClassId) (tt : Nat → Nat) (h h_numbers h_drawing h_saying : Nat) (sz : Nat) (h_count : Int32) (h_numbers_v : Nat → Int32) (p0 : Int32) (o : Int32) (hf : f_X3_holds h_count h_numbers_v p0 = some o) : Met l yX3_holds wX3_holds ({ frames := 0, cells := 0, slots := 0, locals := 0 }) (kq_Pc dC dI cA tt [.ref h, .int p0] [(h, .inr (3, [.ref h_drawing, .ref h_saying, .ref h_numbers, .int h_count])), (h_numbers, .inl (cA 0, 40, .inl h_numbers_v))] sz) (va_Qi (fun r (_ : Unit) => r = o) (fun _ t => kq_B dC dI [(h, .inr (3, [.ref h_drawing, .ref h_saying, .ref h_numbers, .int h_count])), (h_numbers, .inl (cA 0, 40, .inl h_numbers_v))] (va_A [(h, .inr (3, [.ref h_drawing, .ref h_saying, .ref h_numbers, .int h_count])), (h_numbers, .inl (cA 0, 40, .inl h_numbers_v))] sz) t) (va_A [(h, .inr (3, [.ref h_drawing, .ref h_saying, .ref h_numbers, .int h_count])), (h_numbers, .inl (cA 0, 40, .inl h_numbers_v))] sz)) 0 0 (va_A [(h, .inr (3, [.ref h_drawing, .ref h_saying, .ref h_numbers, .int h_count])), (h_numbers, .inl (cA 0, 40, .inl h_numbers_v))] sz) := by
  refine Met.ofW (cc := cX3_holds) (maxL := 3) (ret := (some .boolean)) (by decide) rfl ?_
  intro p e s m args below meth c s₁ B hml hv
  obtain ⟨rfl, hsz, hP, hD0, hG, hZ⟩ := hv
  have hx := B.exec
  have hb := B.bytes
  have hr := B.returns
  have hts : ∀ w ∈ kq_T, w.before _ s = true := fun w h => atoms_spec (ws := wX3_holds) B.pre w (List.mem_cons_of_mem _ h)
  have hown : s.vm.findClass RX3 = some m.cls := findClass_of_methodNamed B.named
  have hlocks := B.notSynchronized
  have hK := hG.1
  subst hsz
  have hD := hD0.self (sz := s.heap.size)
  generalize hAe : va_A [(h, .inr (3, [.ref h_drawing, .ref h_saying, .ref h_numbers, .int h_count])), (h_numbers, .inl (cA 0, 40, .inl h_numbers_v))] s.heap.size = A at hD hZ ⊢
  have hA : ∀ q : Nat, s.heap.size ≤ q → A q := fun q h => by rw [← hAe]; exact Or.inr h
  have hl := lv_entry [.ref h, .int p0] (n := 3) (Nat.le_of_ble_eq_true rfl)
  rw [lg_entry_eq]
  generalize (lg_sl [.ref h, .int p0] ++ List.replicate (3 - (lg_sl [.ref h, .int p0]).length) Slot.unset).toArray = ls at hl ⊢
  have hl : lv_has ls 3 [(0, .ref h), (1, .int p0)] := hl
  obtain ⟨H, hHe⟩ : ∃ H : Heap, H = s.heap := ⟨_, rfl⟩
  have hP : va_P (dC, dI) vwCl [(h, .inr (3, [.ref h_drawing, .ref h_saying, .ref h_numbers, .int h_count])), (h_numbers, .inl (cA 0, 40, .inl h_numbers_v))] H := by rw [hHe]; exact hP
  have hS : va_S A s.heap H [] := by rw [hHe]; exact va_S.rf
  rw [← hHe]
  unfold f_X3_holds at hf
  refine lv_iconst (v := 0) hx hb dX3_holds_0 (by decide) ?_
  refine lv_istore_n (lv' := [(2, .int 0), (0, .ref h), (1, .int p0)]) hx hb dX3_holds_1 rfl hl (by decide) rfl (fun ls hl => ?_)
  refine kq_ind (fun n H locs g => ∃ (v2 : Int32) (ls : Array Slot), g = F0 m 2 ls [] ∧ lv_has ls 3 [(0, .ref h), (1, .int p0), (2, .int v2)] ∧ va_P (dC, dI) vwCl [(h, .inr (3, [.ref h_drawing, .ref h_saying, .ref h_numbers, .int h_count])), (h_numbers, .inl (cA 0, 40, .inl h_numbers_v))] H ∧ va_D A [(h, .inr (3, [.ref h_drawing, .ref h_saying, .ref h_numbers, .int h_count])), (h_numbers, .inl (cA 0, 40, .inl h_numbers_v))] ∧ va_S A s.heap H locs ∧ f_X3_holds_L2 h_count h_numbers_v p0 n v2 = some o) (fun H locs g h => ?_) (fun n2 ih2 H locs g h => ?_) 64 _ _ _ ⟨0, ls, rfl, lv_sub hl [1, 2, 0] rfl, hP, hD, hS, hf⟩
  · obtain ⟨v2, ls, -, -, -, -, -, hf⟩ := h
    have hf : (none : Option (Int32)) = some o := hf
    cases hf
  · obtain ⟨v2, ls, rfl, hl, hP, hD, hS, hf⟩ := h
    have hf := (e_X3_holds_L2 h_count h_numbers_v p0 n2 v2).symm.trans hf
    refine lv_iload_n hx hb dX3_holds_2 rfl (lv_at hl 2 rfl) ?_
    refine lv_aload_n hx hb dX3_holds_3 rfl (lv_at hl 0 rfl) ?_
    refine va_get (D := (dC, dI)) (ci := 3) (v := .int h_count) (C := RX3) (T := TX3) (N := 4) hx hb hts iwX3 hown hK hP 0 rfl rfl 3 (by decide) (hts _ tw_104) (fun _ h9 => h9) rfl dX3_holds_4 ?_
    refine lv_icmp_ge (tgt := 28) hx hb dX3_holds_7 (by decide) (fun c3001 => ?_) (fun c3001 => ?_)
    · have hf := kp_p c3001 hf
      refine lv_iconst (v := 0) hx hb dX3_holds_28 (by decide) ?_
      have eo := Option.some.inj hf
      subst eo
      exact W.zret (v := 0) hx hb hr rfl (fun t ht hW => ⟨⟨_, (), rfl, rfl, kq_mk ht hP hD⟩, hS.F ht⟩) hS.2.2 dX3_holds_29
    · have hf := kp_n c3001 hf
      refine lv_aload_n hx hb dX3_holds_10 rfl (lv_at hl 0 rfl) ?_
      refine va_get (D := (dC, dI)) (ci := 3) (v := .ref h_numbers) (C := RX3) (T := TX3) (N := 4) hx hb hts iwX3 hown hK hP 0 rfl rfl 2 (by decide) (hts _ tw_103) (fun _ h9 => h9) rfl dX3_holds_11 ?_
      refine lv_iload_n hx hb dX3_holds_14 rfl (lv_at hl 2 rfl) ?_
      obtain ⟨hq3002, hf⟩ := kp_t hf
      refine va_iald hx hb hK hP 1 0 rfl rfl hq3002 dX3_holds_15 ?_
      refine lv_iload_n hx hb dX3_holds_16 rfl (lv_at hl 1 rfl) ?_
      refine lv_icmp_ne (tgt := 22) hx hb dX3_holds_17 (by decide) (fun c3003 => ?_) (fun c3003 => ?_)
      · have hf := kp_n c3003 hf
        refine lv_iinc (v := v2 + 1) (lv' := [(2, .int (v2 + 1)), (0, .ref h), (1, .int p0)]) hx hb dX3_holds_22 hl (k := 2) rfl rfl (by decide) rfl (fun ls hl => ?_)
        refine lv_goto (tgt := 2) hx hb dX3_holds_25 (by decide) ?_
        exact ih2 _ _ _ ⟨v2 + 1, ls, rfl, lv_sub hl [1, 2, 0] rfl, hP, hD, hS, hf⟩
      · have hf := kp_p c3003 hf
        refine lv_iconst (v := 1) hx hb dX3_holds_20 (by decide) ?_
        have eo := Option.some.inj hf
        subst eo
        exact W.zret (v := 1) hx hb hr rfl (fun t ht hW => ⟨⟨_, (), rfl, rfl, kq_mk ht hP hD⟩, hS.F ht⟩) hS.2.2 dX3_holds_21

def f_X3_lineLength_L4 (h_drawing_sort_v : Nat → Int32) (h_drawing_x_v : Nat → Int32) (h_drawing_y_v : Nat → Int32) (h_drawing_z_v : Nat → Int32) (p0 : Int32) : Nat → Int32 → Int32 → Option (Int32)
  | 0, _, _ => none
  | n4 + 1, v2, v3 =>
    (if 3 < v3 then
    some v2
    else
    (f_X1_number h_drawing_sort_v h_drawing_x_v h_drawing_y_v h_drawing_z_v p0 v3).bind fun r5002 =>
    (f_X6_length r5002).bind fun r5003 =>
    f_X3_lineLength_L4 h_drawing_sort_v h_drawing_x_v h_drawing_y_v h_drawing_z_v p0 n4 (v2 + (1 + r5003)) (v3 + 1))
theorem e_X3_lineLength_L4 (h_drawing_sort_v : Nat → Int32) (h_drawing_x_v : Nat → Int32) (h_drawing_y_v : Nat → Int32) (h_drawing_z_v : Nat → Int32) (p0 : Int32) (n4 : Nat) (v2 : Int32) (v3 : Int32) : f_X3_lineLength_L4 h_drawing_sort_v h_drawing_x_v h_drawing_y_v h_drawing_z_v p0 (n4 + 1) v2 v3 =
    ((if 3 < v3 then
    some v2
    else
    (f_X1_number h_drawing_sort_v h_drawing_x_v h_drawing_y_v h_drawing_z_v p0 v3).bind fun r5002 =>
    (f_X6_length r5002).bind fun r5003 =>
    f_X3_lineLength_L4 h_drawing_sort_v h_drawing_x_v h_drawing_y_v h_drawing_z_v p0 n4 (v2 + (1 + r5003)) (v3 + 1))) := rfl
def f_X3_lineLength (h_drawing_sort_v : Nat → Int32) (h_drawing_x_v : Nat → Int32) (h_drawing_y_v : Nat → Int32) (h_drawing_z_v : Nat → Int32) (p0 : Int32) : Option (Int32) :=
    f_X3_lineLength_L4 h_drawing_sort_v h_drawing_x_v h_drawing_y_v h_drawing_z_v p0 64 2 1
set_option maxHeartbeats 4000000 in
set_option maxRecDepth 100000 in
theorem c_X3_lineLength (l : Launch) (dC : Nat → ClassId) (dI : Nat → Nat → Nat) (cA : Nat → ClassId) (tt : Nat → Nat) (h h_drawing h_drawing_sort h_drawing_x h_drawing_y h_drawing_z h_saying h_numbers : Nat) (sz : Nat) (h_count : Int32) (h_drawing_count : Int32) (h_drawing_fault : Int32) (h_drawing_faultPart : Int32) (h_drawing_sort_v : Nat → Int32) (h_drawing_x_v : Nat → Int32) (h_drawing_y_v : Nat → Int32) (h_drawing_z_v : Nat → Int32) (p0 : Int32) (o : Int32) (hf : f_X3_lineLength h_drawing_sort_v h_drawing_x_v h_drawing_y_v h_drawing_z_v p0 = some o) : Met l yX3_lineLength wX3_lineLength ({ frames := 2, cells := 0, slots := 0, locals := 43 }) (kq_Pc dC dI cA tt [.ref h, .int p0] [(h, .inr (3, [.ref h_drawing, .ref h_saying, .ref h_numbers, .int h_count])), (h_drawing, .inr (1, [.ref h_drawing_sort, .ref h_drawing_x, .ref h_drawing_y, .ref h_drawing_z, .int h_drawing_count, .int h_drawing_fault, .int h_drawing_faultPart])), (h_drawing_sort, .inl (cA 0, 40, .inl h_drawing_sort_v)), (h_drawing_x, .inl (cA 0, 40, .inl h_drawing_x_v)), (h_drawing_y, .inl (cA 0, 40, .inl h_drawing_y_v)), (h_drawing_z, .inl (cA 0, 40, .inl h_drawing_z_v))] sz) (va_Qi (fun r (_ : Unit) => r = o) (fun _ t => kq_B dC dI [(h, .inr (3, [.ref h_drawing, .ref h_saying, .ref h_numbers, .int h_count])), (h_drawing, .inr (1, [.ref h_drawing_sort, .ref h_drawing_x, .ref h_drawing_y, .ref h_drawing_z, .int h_drawing_count, .int h_drawing_fault, .int h_drawing_faultPart])), (h_drawing_sort, .inl (cA 0, 40, .inl h_drawing_sort_v)), (h_drawing_x, .inl (cA 0, 40, .inl h_drawing_x_v)), (h_drawing_y, .inl (cA 0, 40, .inl h_drawing_y_v)), (h_drawing_z, .inl (cA 0, 40, .inl h_drawing_z_v))] (va_A [(h, .inr (3, [.ref h_drawing, .ref h_saying, .ref h_numbers, .int h_count])), (h_drawing, .inr (1, [.ref h_drawing_sort, .ref h_drawing_x, .ref h_drawing_y, .ref h_drawing_z, .int h_drawing_count, .int h_drawing_fault, .int h_drawing_faultPart])), (h_drawing_sort, .inl (cA 0, 40, .inl h_drawing_sort_v)), (h_drawing_x, .inl (cA 0, 40, .inl h_drawing_x_v)), (h_drawing_y, .inl (cA 0, 40, .inl h_drawing_y_v)), (h_drawing_z, .inl (cA 0, 40, .inl h_drawing_z_v))] sz) t) (va_A [(h, .inr (3, [.ref h_drawing, .ref h_saying, .ref h_numbers, .int h_count])), (h_drawing, .inr (1, [.ref h_drawing_sort, .ref h_drawing_x, .ref h_drawing_y, .ref h_drawing_z, .int h_drawing_count, .int h_drawing_fault, .int h_drawing_faultPart])), (h_drawing_sort, .inl (cA 0, 40, .inl h_drawing_sort_v)), (h_drawing_x, .inl (cA 0, 40, .inl h_drawing_x_v)), (h_drawing_y, .inl (cA 0, 40, .inl h_drawing_y_v)), (h_drawing_z, .inl (cA 0, 40, .inl h_drawing_z_v))] sz)) 0 0 (va_A [(h, .inr (3, [.ref h_drawing, .ref h_saying, .ref h_numbers, .int h_count])), (h_drawing, .inr (1, [.ref h_drawing_sort, .ref h_drawing_x, .ref h_drawing_y, .ref h_drawing_z, .int h_drawing_count, .int h_drawing_fault, .int h_drawing_faultPart])), (h_drawing_sort, .inl (cA 0, 40, .inl h_drawing_sort_v)), (h_drawing_x, .inl (cA 0, 40, .inl h_drawing_x_v)), (h_drawing_y, .inl (cA 0, 40, .inl h_drawing_y_v)), (h_drawing_z, .inl (cA 0, 40, .inl h_drawing_z_v))] sz) := by
  refine Met.ofW (cc := cX3_lineLength) (maxL := 4) (ret := (some .int)) (by decide) rfl ?_
  intro p e s m args below meth c s₁ B hml hv
  obtain ⟨rfl, hsz, hP, hD0, hG, hZ⟩ := hv
  have hx := B.exec
  have hb := B.bytes
  have hr := B.returns
  have hts : ∀ w ∈ kq_T, w.before _ s = true := fun w h => atoms_spec (ws := wX3_lineLength) B.pre w (List.mem_cons_of_mem _ h)
  have hown : s.vm.findClass RX3 = some m.cls := findClass_of_methodNamed B.named
  have hlocks := B.notSynchronized
  have hK := hG.1
  subst hsz
  have hD := hD0.self (sz := s.heap.size)
  generalize hAe : va_A [(h, .inr (3, [.ref h_drawing, .ref h_saying, .ref h_numbers, .int h_count])), (h_drawing, .inr (1, [.ref h_drawing_sort, .ref h_drawing_x, .ref h_drawing_y, .ref h_drawing_z, .int h_drawing_count, .int h_drawing_fault, .int h_drawing_faultPart])), (h_drawing_sort, .inl (cA 0, 40, .inl h_drawing_sort_v)), (h_drawing_x, .inl (cA 0, 40, .inl h_drawing_x_v)), (h_drawing_y, .inl (cA 0, 40, .inl h_drawing_y_v)), (h_drawing_z, .inl (cA 0, 40, .inl h_drawing_z_v))] s.heap.size = A at hD hZ ⊢
  have hA : ∀ q : Nat, s.heap.size ≤ q → A q := fun q h => by rw [← hAe]; exact Or.inr h
  have hl := lv_entry [.ref h, .int p0] (n := 4) (Nat.le_of_ble_eq_true rfl)
  rw [lg_entry_eq]
  generalize (lg_sl [.ref h, .int p0] ++ List.replicate (4 - (lg_sl [.ref h, .int p0]).length) Slot.unset).toArray = ls at hl ⊢
  have hl : lv_has ls 4 [(0, .ref h), (1, .int p0)] := hl
  obtain ⟨H, hHe⟩ : ∃ H : Heap, H = s.heap := ⟨_, rfl⟩
  have hP : va_P (dC, dI) vwCl [(h, .inr (3, [.ref h_drawing, .ref h_saying, .ref h_numbers, .int h_count])), (h_drawing, .inr (1, [.ref h_drawing_sort, .ref h_drawing_x, .ref h_drawing_y, .ref h_drawing_z, .int h_drawing_count, .int h_drawing_fault, .int h_drawing_faultPart])), (h_drawing_sort, .inl (cA 0, 40, .inl h_drawing_sort_v)), (h_drawing_x, .inl (cA 0, 40, .inl h_drawing_x_v)), (h_drawing_y, .inl (cA 0, 40, .inl h_drawing_y_v)), (h_drawing_z, .inl (cA 0, 40, .inl h_drawing_z_v))] H := by rw [hHe]; exact hP
  have hS : va_S A s.heap H [] := by rw [hHe]; exact va_S.rf
  rw [← hHe]
  unfold f_X3_lineLength at hf
  refine lv_iconst (v := 2) hx hb dX3_lineLength_0 (by decide) ?_
  refine lv_istore_n (lv' := [(2, .int 2), (0, .ref h), (1, .int p0)]) hx hb dX3_lineLength_1 rfl hl (by decide) rfl (fun ls hl => ?_)
  refine lv_iconst (v := 1) hx hb dX3_lineLength_2 (by decide) ?_
  refine lv_istore_n (lv' := [(3, .int 1), (2, .int 2), (0, .ref h), (1, .int p0)]) hx hb dX3_lineLength_3 rfl hl (by decide) rfl (fun ls hl => ?_)
  refine kq_ind (fun n H locs g => ∃ (v2 : Int32) (v3 : Int32) (ls : Array Slot), g = F0 m 4 ls [] ∧ lv_has ls 4 [(0, .ref h), (1, .int p0), (2, .int v2), (3, .int v3)] ∧ va_P (dC, dI) vwCl [(h, .inr (3, [.ref h_drawing, .ref h_saying, .ref h_numbers, .int h_count])), (h_drawing, .inr (1, [.ref h_drawing_sort, .ref h_drawing_x, .ref h_drawing_y, .ref h_drawing_z, .int h_drawing_count, .int h_drawing_fault, .int h_drawing_faultPart])), (h_drawing_sort, .inl (cA 0, 40, .inl h_drawing_sort_v)), (h_drawing_x, .inl (cA 0, 40, .inl h_drawing_x_v)), (h_drawing_y, .inl (cA 0, 40, .inl h_drawing_y_v)), (h_drawing_z, .inl (cA 0, 40, .inl h_drawing_z_v))] H ∧ va_D A [(h, .inr (3, [.ref h_drawing, .ref h_saying, .ref h_numbers, .int h_count])), (h_drawing, .inr (1, [.ref h_drawing_sort, .ref h_drawing_x, .ref h_drawing_y, .ref h_drawing_z, .int h_drawing_count, .int h_drawing_fault, .int h_drawing_faultPart])), (h_drawing_sort, .inl (cA 0, 40, .inl h_drawing_sort_v)), (h_drawing_x, .inl (cA 0, 40, .inl h_drawing_x_v)), (h_drawing_y, .inl (cA 0, 40, .inl h_drawing_y_v)), (h_drawing_z, .inl (cA 0, 40, .inl h_drawing_z_v))] ∧ va_S A s.heap H locs ∧ f_X3_lineLength_L4 h_drawing_sort_v h_drawing_x_v h_drawing_y_v h_drawing_z_v p0 n v2 v3 = some o) (fun H locs g h => ?_) (fun n4 ih4 H locs g h => ?_) 64 _ _ _ ⟨2, 1, ls, rfl, lv_sub hl [2, 3, 1, 0] rfl, hP, hD, hS, hf⟩
  · obtain ⟨v2, v3, ls, -, -, -, -, -, hf⟩ := h
    have hf : (none : Option (Int32)) = some o := hf
    cases hf
  · obtain ⟨v2, v3, ls, rfl, hl, hP, hD, hS, hf⟩ := h
    have hf := (e_X3_lineLength_L4 h_drawing_sort_v h_drawing_x_v h_drawing_y_v h_drawing_z_v p0 n4 v2 v3).symm.trans hf
    refine lv_iload_n hx hb dX3_lineLength_4 rfl (lv_at hl 3 rfl) ?_
    refine lv_iconst (v := 3) hx hb dX3_lineLength_5 (by decide) ?_
    refine lv_icmp_gt (tgt := 32) hx hb dX3_lineLength_6 (by decide) (fun c5001 => ?_) (fun c5001 => ?_)
    · have hf := kp_p c5001 hf
      refine lv_iload_n hx hb dX3_lineLength_32 rfl (lv_at hl 2 rfl) ?_
      have eo := Option.some.inj hf
      subst eo
      exact W.iret (v := v2) hx hb hr (fun t ht hW => ⟨⟨_, (), rfl, rfl, kq_mk ht hP hD⟩, hS.F ht⟩) hS.2.2 dX3_lineLength_33
    · have hf := kp_n c5001 hf
      refine lv_iload_n hx hb dX3_lineLength_9 rfl (lv_at hl 2 rfl) ?_
      refine lv_iconst (v := 1) hx hb dX3_lineLength_10 (by decide) ?_
      refine lv_aload_n hx hb dX3_lineLength_11 rfl (lv_at hl 0 rfl) ?_
      refine va_get (D := (dC, dI)) (ci := 3) (v := .ref h_drawing) (C := RX3) (T := TX3) (N := 4) hx hb hts iwX3 hown hK hP 0 rfl rfl 0 (by decide) (hts _ tw_99) (fun _ h9 => h9) rfl dX3_lineLength_12 ?_
      refine lv_iload_n hx hb dX3_lineLength_15 rfl (lv_at hl 1 rfl) ?_
      refine lv_iload_n hx hb dX3_lineLength_16 rfl (lv_at hl 3 rfl) ?_
      obtain ⟨r5002, hr5002, hf⟩ := kp_b hf
      have hPc := hP.sub (ws' := [(h_drawing, .inr (1, [.ref h_drawing_sort, .ref h_drawing_x, .ref h_drawing_y, .ref h_drawing_z, .int h_drawing_count, .int h_drawing_fault, .int h_drawing_faultPart])), (h_drawing_sort, .inl (cA 0, 40, .inl h_drawing_sort_v)), (h_drawing_x, .inl (cA 0, 40, .inl h_drawing_x_v)), (h_drawing_y, .inl (cA 0, 40, .inl h_drawing_y_v)), (h_drawing_z, .inl (cA 0, 40, .inl h_drawing_z_v))]) [1, 2, 3, 4, 5] rfl
      have hDc := hD.sub (ws' := [(h_drawing, .inr (1, [.ref h_drawing_sort, .ref h_drawing_x, .ref h_drawing_y, .ref h_drawing_z, .int h_drawing_count, .int h_drawing_fault, .int h_drawing_faultPart])), (h_drawing_sort, .inl (cA 0, 40, .inl h_drawing_sort_v)), (h_drawing_x, .inl (cA 0, 40, .inl h_drawing_x_v)), (h_drawing_y, .inl (cA 0, 40, .inl h_drawing_y_v)), (h_drawing_z, .inl (cA 0, 40, .inl h_drawing_z_v))]) [1, 2, 3, 4, 5] (by decide) rfl
      have hFc := va_free (wc := [(h_drawing, .inr (1, [.ref h_drawing_sort, .ref h_drawing_x, .ref h_drawing_y, .ref h_drawing_z, .int h_drawing_count, .int h_drawing_fault, .int h_drawing_faultPart])), (h_drawing_sort, .inl (cA 0, 40, .inl h_drawing_sort_v)), (h_drawing_x, .inl (cA 0, 40, .inl h_drawing_x_v)), (h_drawing_y, .inl (cA 0, 40, .inl h_drawing_y_v)), (h_drawing_z, .inl (cA 0, 40, .inl h_drawing_z_v))]) hD hS hA [1, 2, 3, 4, 5] rfl
      refine va_calli (va_runV (As := [.int p0, .int v3]) (rest := [.int 1, .int v2]) ⟨hx, hb, hml, hown, hts⟩ (c_X1_number l dC dI cA tt h_drawing h_drawing_sort h_drawing_x h_drawing_y h_drawing_z H.size h_drawing_count h_drawing_fault h_drawing_faultPart h_drawing_sort_v h_drawing_x_v h_drawing_y_v h_drawing_z_v p0 v3 r5002 hr5002) (cwV 2 hts (kq_gV tw_221 tw_206 tw_207 tw_23 tw_208) rfl rfl rfl (by decide +kernel) ⟨Nat.le_of_ble_eq_true rfl, Nat.le_of_ble_eq_true rfl⟩) ⟨kq_blind, va_recv hK hP (ci := 1) (q0 := 1) rfl rfl, kq_pre hG hZ hS hPc hDc hFc⟩ rfl rfl hl.1 rfl (lv_room (Nat.le_of_ble_eq_true rfl)) dX3_lineLength_17 ⟨Nat.le_of_ble_eq_true rfl, Nat.le_of_ble_eq_true rfl⟩) hS (fun q _ h => hFc q h) hFc (fun rv u t H1 locs ht hvm hw hB hz1 hk1 hS => ?_)
      obtain ⟨hP1, hD1⟩ := hB
      rw [ht] at hP1
      have hw := hw.symm
      subst hw
      obtain ⟨hP, hD⟩ := va_join (wr := [(h, .inr (3, [.ref h_drawing, .ref h_saying, .ref h_numbers, .int h_count]))]) (w1 := [(h_drawing, .inr (1, [.ref h_drawing_sort, .ref h_drawing_x, .ref h_drawing_y, .ref h_drawing_z, .int h_drawing_count, .int h_drawing_fault, .int h_drawing_faultPart])), (h_drawing_sort, .inl (cA 0, 40, .inl h_drawing_sort_v)), (h_drawing_x, .inl (cA 0, 40, .inl h_drawing_x_v)), (h_drawing_y, .inl (cA 0, 40, .inl h_drawing_y_v)), (h_drawing_z, .inl (cA 0, 40, .inl h_drawing_z_v))]) hP hD [1, 2, 3, 4, 5] [0] rfl rfl (by decide) (by decide) hk1 hFc hP1 hD1
      have hP : va_P (dC, dI) vwCl [(h, .inr (3, [.ref h_drawing, .ref h_saying, .ref h_numbers, .int h_count])), (h_drawing, .inr (1, [.ref h_drawing_sort, .ref h_drawing_x, .ref h_drawing_y, .ref h_drawing_z, .int h_drawing_count, .int h_drawing_fault, .int h_drawing_faultPart])), (h_drawing_sort, .inl (cA 0, 40, .inl h_drawing_sort_v)), (h_drawing_x, .inl (cA 0, 40, .inl h_drawing_x_v)), (h_drawing_y, .inl (cA 0, 40, .inl h_drawing_y_v)), (h_drawing_z, .inl (cA 0, 40, .inl h_drawing_z_v))] H1 := hP.sub [0, 1, 2, 3, 4, 5] rfl
      have hD : va_D A [(h, .inr (3, [.ref h_drawing, .ref h_saying, .ref h_numbers, .int h_count])), (h_drawing, .inr (1, [.ref h_drawing_sort, .ref h_drawing_x, .ref h_drawing_y, .ref h_drawing_z, .int h_drawing_count, .int h_drawing_fault, .int h_drawing_faultPart])), (h_drawing_sort, .inl (cA 0, 40, .inl h_drawing_sort_v)), (h_drawing_x, .inl (cA 0, 40, .inl h_drawing_x_v)), (h_drawing_y, .inl (cA 0, 40, .inl h_drawing_y_v)), (h_drawing_z, .inl (cA 0, 40, .inl h_drawing_z_v))] := hD.sub [0, 1, 2, 3, 4, 5] (by decide) rfl
      generalize H1 = H at hP hS ⊢
      obtain ⟨r5003, hr5003, hf⟩ := kp_b hf
      have hPc := hP.sub (ws' := []) [] rfl
      have hDc := hD.sub (ws' := []) [] (by decide) rfl
      have hFc := va_free (wc := []) hD hS hA [] rfl
      refine va_calli (va_runS (As := [.int r5002]) (rest := [.int 1, .int v2]) ⟨hx, hb, hml, hown, hts⟩ (c_X6_length l dC dI cA tt H.size r5002 r5003 hr5003) (va_cwS 1 hts (kq_gS tw_222 tw_223 tw_26 tw_224) rfl rfl rfl (by decide +kernel) ⟨Nat.le_of_ble_eq_true rfl, Nat.le_of_ble_eq_true rfl⟩) ⟨kq_blind, kq_pre hG hZ hS hPc hDc hFc⟩ rfl rfl hl.1 rfl (lv_room (Nat.le_of_ble_eq_true rfl)) dX3_lineLength_20 ⟨Nat.le_of_ble_eq_true rfl, Nat.le_of_ble_eq_true rfl⟩) hS (fun q _ h => hFc q h) hFc (fun rv u t H1 locs ht hvm hw hB hz1 hk1 hS => ?_)
      obtain ⟨hP1, hD1⟩ := hB
      rw [ht] at hP1
      have hw := hw.symm
      subst hw
      obtain ⟨hP, hD⟩ := va_join (wr := [(h, .inr (3, [.ref h_drawing, .ref h_saying, .ref h_numbers, .int h_count])), (h_drawing, .inr (1, [.ref h_drawing_sort, .ref h_drawing_x, .ref h_drawing_y, .ref h_drawing_z, .int h_drawing_count, .int h_drawing_fault, .int h_drawing_faultPart])), (h_drawing_sort, .inl (cA 0, 40, .inl h_drawing_sort_v)), (h_drawing_x, .inl (cA 0, 40, .inl h_drawing_x_v)), (h_drawing_y, .inl (cA 0, 40, .inl h_drawing_y_v)), (h_drawing_z, .inl (cA 0, 40, .inl h_drawing_z_v))]) (w1 := []) hP hD [] [0, 1, 2, 3, 4, 5] rfl rfl (by decide) (by decide) hk1 hFc hP1 hD1
      have hP : va_P (dC, dI) vwCl [(h, .inr (3, [.ref h_drawing, .ref h_saying, .ref h_numbers, .int h_count])), (h_drawing, .inr (1, [.ref h_drawing_sort, .ref h_drawing_x, .ref h_drawing_y, .ref h_drawing_z, .int h_drawing_count, .int h_drawing_fault, .int h_drawing_faultPart])), (h_drawing_sort, .inl (cA 0, 40, .inl h_drawing_sort_v)), (h_drawing_x, .inl (cA 0, 40, .inl h_drawing_x_v)), (h_drawing_y, .inl (cA 0, 40, .inl h_drawing_y_v)), (h_drawing_z, .inl (cA 0, 40, .inl h_drawing_z_v))] H1 := hP.sub [0, 1, 2, 3, 4, 5] rfl
      have hD : va_D A [(h, .inr (3, [.ref h_drawing, .ref h_saying, .ref h_numbers, .int h_count])), (h_drawing, .inr (1, [.ref h_drawing_sort, .ref h_drawing_x, .ref h_drawing_y, .ref h_drawing_z, .int h_drawing_count, .int h_drawing_fault, .int h_drawing_faultPart])), (h_drawing_sort, .inl (cA 0, 40, .inl h_drawing_sort_v)), (h_drawing_x, .inl (cA 0, 40, .inl h_drawing_x_v)), (h_drawing_y, .inl (cA 0, 40, .inl h_drawing_y_v)), (h_drawing_z, .inl (cA 0, 40, .inl h_drawing_z_v))] := hD.sub [0, 1, 2, 3, 4, 5] (by decide) rfl
      generalize H1 = H at hP hS ⊢
      refine lv_iadd hx hb dX3_lineLength_23 ?_
      refine lv_iadd hx hb dX3_lineLength_24 ?_
      refine lv_istore_n (lv' := [(2, .int (v2 + (1 + r5003))), (0, .ref h), (1, .int p0), (3, .int v3)]) hx hb dX3_lineLength_25 rfl hl (by decide) rfl (fun ls hl => ?_)
      refine lv_iinc (v := v3 + 1) (lv' := [(3, .int (v3 + 1)), (2, .int (v2 + (1 + r5003))), (0, .ref h), (1, .int p0)]) hx hb dX3_lineLength_26 hl (k := 3) rfl rfl (by decide) rfl (fun ls hl => ?_)
      refine lv_goto (tgt := 4) hx hb dX3_lineLength_29 (by decide) ?_
      exact ih4 _ _ _ ⟨v2 + (1 + r5003), v3 + 1, ls, rfl, lv_sub hl [2, 3, 1, 0] rfl, hP, hD, hS, hf⟩

def f_X3_letterOfLine_L24 (h_drawing_sort_v : Nat → Int32) (h_drawing_x_v : Nat → Int32) (h_drawing_y_v : Nat → Int32) (h_drawing_z_v : Nat → Int32) (p0 : Int32) (p1 : Int32) : Nat → Int32 → Int32 → Option (Int32)
  | 0, _, _ => none
  | n24 + 1, v3, v4 =>
    (if 3 < v4 then
    some 10
    else
    (f_X1_number h_drawing_sort_v h_drawing_x_v h_drawing_y_v h_drawing_z_v p0 v4).bind fun r25002 =>
    (f_X6_length r25002).bind fun r25003 =>
    (if (1 + r25003) ≤ v3 then
    f_X3_letterOfLine_L24 h_drawing_sort_v h_drawing_x_v h_drawing_y_v h_drawing_z_v p0 p1 n24 (v3 - (1 + r25003)) (v4 + 1)
    else
    (if v3 = 0 then
    some 32
    else
    (f_X6_letterAt r25002 (v3 - 1)).bind fun r25006 =>
    some r25006)))
theorem e_X3_letterOfLine_L24 (h_drawing_sort_v : Nat → Int32) (h_drawing_x_v : Nat → Int32) (h_drawing_y_v : Nat → Int32) (h_drawing_z_v : Nat → Int32) (p0 : Int32) (p1 : Int32) (n24 : Nat) (v3 : Int32) (v4 : Int32) : f_X3_letterOfLine_L24 h_drawing_sort_v h_drawing_x_v h_drawing_y_v h_drawing_z_v p0 p1 (n24 + 1) v3 v4 =
    ((if 3 < v4 then
    some 10
    else
    (f_X1_number h_drawing_sort_v h_drawing_x_v h_drawing_y_v h_drawing_z_v p0 v4).bind fun r25002 =>
    (f_X6_length r25002).bind fun r25003 =>
    (if (1 + r25003) ≤ v3 then
    f_X3_letterOfLine_L24 h_drawing_sort_v h_drawing_x_v h_drawing_y_v h_drawing_z_v p0 p1 n24 (v3 - (1 + r25003)) (v4 + 1)
    else
    (if v3 = 0 then
    some 32
    else
    (f_X6_letterAt r25002 (v3 - 1)).bind fun r25006 =>
    some r25006)))) := rfl
def f_X3_letterOfLine (h_drawing_sort_v : Nat → Int32) (h_drawing_x_v : Nat → Int32) (h_drawing_y_v : Nat → Int32) (h_drawing_z_v : Nat → Int32) (p0 : Int32) (p1 : Int32) : Option (Int32) :=
    (if p1 = 0 then
    if p0 < 0 ∨ 40 ≤ p0.toNatClampNeg then none else
    some (97 + (h_drawing_sort_v p0.toNatClampNeg))
    else
    f_X3_letterOfLine_L24 h_drawing_sort_v h_drawing_x_v h_drawing_y_v h_drawing_z_v p0 p1 64 (p1 - 1) 1)
set_option maxHeartbeats 4000000 in
set_option maxRecDepth 100000 in
theorem c_X3_letterOfLine (l : Launch) (dC : Nat → ClassId) (dI : Nat → Nat → Nat) (cA : Nat → ClassId) (tt : Nat → Nat) (h h_drawing h_drawing_sort h_drawing_x h_drawing_y h_drawing_z h_saying h_numbers : Nat) (sz : Nat) (h_count : Int32) (h_drawing_count : Int32) (h_drawing_fault : Int32) (h_drawing_faultPart : Int32) (h_drawing_sort_v : Nat → Int32) (h_drawing_x_v : Nat → Int32) (h_drawing_y_v : Nat → Int32) (h_drawing_z_v : Nat → Int32) (p0 : Int32) (p1 : Int32) (o : Int32) (hf : f_X3_letterOfLine h_drawing_sort_v h_drawing_x_v h_drawing_y_v h_drawing_z_v p0 p1 = some o) : Met l yX3_letterOfLine wX3_letterOfLine ({ frames := 3, cells := 0, slots := 0, locals := 67 }) (kq_Pc dC dI cA tt [.ref h, .int p0, .int p1] [(h, .inr (3, [.ref h_drawing, .ref h_saying, .ref h_numbers, .int h_count])), (h_drawing, .inr (1, [.ref h_drawing_sort, .ref h_drawing_x, .ref h_drawing_y, .ref h_drawing_z, .int h_drawing_count, .int h_drawing_fault, .int h_drawing_faultPart])), (h_drawing_sort, .inl (cA 0, 40, .inl h_drawing_sort_v)), (h_drawing_x, .inl (cA 0, 40, .inl h_drawing_x_v)), (h_drawing_y, .inl (cA 0, 40, .inl h_drawing_y_v)), (h_drawing_z, .inl (cA 0, 40, .inl h_drawing_z_v))] sz) (va_Qi (fun r (_ : Unit) => r = o) (fun _ t => kq_B dC dI [(h, .inr (3, [.ref h_drawing, .ref h_saying, .ref h_numbers, .int h_count])), (h_drawing, .inr (1, [.ref h_drawing_sort, .ref h_drawing_x, .ref h_drawing_y, .ref h_drawing_z, .int h_drawing_count, .int h_drawing_fault, .int h_drawing_faultPart])), (h_drawing_sort, .inl (cA 0, 40, .inl h_drawing_sort_v)), (h_drawing_x, .inl (cA 0, 40, .inl h_drawing_x_v)), (h_drawing_y, .inl (cA 0, 40, .inl h_drawing_y_v)), (h_drawing_z, .inl (cA 0, 40, .inl h_drawing_z_v))] (va_A [(h, .inr (3, [.ref h_drawing, .ref h_saying, .ref h_numbers, .int h_count])), (h_drawing, .inr (1, [.ref h_drawing_sort, .ref h_drawing_x, .ref h_drawing_y, .ref h_drawing_z, .int h_drawing_count, .int h_drawing_fault, .int h_drawing_faultPart])), (h_drawing_sort, .inl (cA 0, 40, .inl h_drawing_sort_v)), (h_drawing_x, .inl (cA 0, 40, .inl h_drawing_x_v)), (h_drawing_y, .inl (cA 0, 40, .inl h_drawing_y_v)), (h_drawing_z, .inl (cA 0, 40, .inl h_drawing_z_v))] sz) t) (va_A [(h, .inr (3, [.ref h_drawing, .ref h_saying, .ref h_numbers, .int h_count])), (h_drawing, .inr (1, [.ref h_drawing_sort, .ref h_drawing_x, .ref h_drawing_y, .ref h_drawing_z, .int h_drawing_count, .int h_drawing_fault, .int h_drawing_faultPart])), (h_drawing_sort, .inl (cA 0, 40, .inl h_drawing_sort_v)), (h_drawing_x, .inl (cA 0, 40, .inl h_drawing_x_v)), (h_drawing_y, .inl (cA 0, 40, .inl h_drawing_y_v)), (h_drawing_z, .inl (cA 0, 40, .inl h_drawing_z_v))] sz)) 0 0 (va_A [(h, .inr (3, [.ref h_drawing, .ref h_saying, .ref h_numbers, .int h_count])), (h_drawing, .inr (1, [.ref h_drawing_sort, .ref h_drawing_x, .ref h_drawing_y, .ref h_drawing_z, .int h_drawing_count, .int h_drawing_fault, .int h_drawing_faultPart])), (h_drawing_sort, .inl (cA 0, 40, .inl h_drawing_sort_v)), (h_drawing_x, .inl (cA 0, 40, .inl h_drawing_x_v)), (h_drawing_y, .inl (cA 0, 40, .inl h_drawing_y_v)), (h_drawing_z, .inl (cA 0, 40, .inl h_drawing_z_v))] sz) := by
  refine Met.ofW (cc := cX3_letterOfLine) (maxL := 7) (ret := (some .int)) (by decide) rfl ?_
  intro p e s m args below meth c s₁ B hml hv
  obtain ⟨rfl, hsz, hP, hD0, hG, hZ⟩ := hv
  have hx := B.exec
  have hb := B.bytes
  have hr := B.returns
  have hts : ∀ w ∈ kq_T, w.before _ s = true := fun w h => atoms_spec (ws := wX3_letterOfLine) B.pre w (List.mem_cons_of_mem _ h)
  have hown : s.vm.findClass RX3 = some m.cls := findClass_of_methodNamed B.named
  have hlocks := B.notSynchronized
  have hK := hG.1
  subst hsz
  have hD := hD0.self (sz := s.heap.size)
  generalize hAe : va_A [(h, .inr (3, [.ref h_drawing, .ref h_saying, .ref h_numbers, .int h_count])), (h_drawing, .inr (1, [.ref h_drawing_sort, .ref h_drawing_x, .ref h_drawing_y, .ref h_drawing_z, .int h_drawing_count, .int h_drawing_fault, .int h_drawing_faultPart])), (h_drawing_sort, .inl (cA 0, 40, .inl h_drawing_sort_v)), (h_drawing_x, .inl (cA 0, 40, .inl h_drawing_x_v)), (h_drawing_y, .inl (cA 0, 40, .inl h_drawing_y_v)), (h_drawing_z, .inl (cA 0, 40, .inl h_drawing_z_v))] s.heap.size = A at hD hZ ⊢
  have hA : ∀ q : Nat, s.heap.size ≤ q → A q := fun q h => by rw [← hAe]; exact Or.inr h
  have hl := lv_entry [.ref h, .int p0, .int p1] (n := 7) (Nat.le_of_ble_eq_true rfl)
  rw [lg_entry_eq]
  generalize (lg_sl [.ref h, .int p0, .int p1] ++ List.replicate (7 - (lg_sl [.ref h, .int p0, .int p1]).length) Slot.unset).toArray = ls at hl ⊢
  have hl : lv_has ls 7 [(0, .ref h), (1, .int p0), (2, .int p1)] := hl
  obtain ⟨H, hHe⟩ : ∃ H : Heap, H = s.heap := ⟨_, rfl⟩
  have hP : va_P (dC, dI) vwCl [(h, .inr (3, [.ref h_drawing, .ref h_saying, .ref h_numbers, .int h_count])), (h_drawing, .inr (1, [.ref h_drawing_sort, .ref h_drawing_x, .ref h_drawing_y, .ref h_drawing_z, .int h_drawing_count, .int h_drawing_fault, .int h_drawing_faultPart])), (h_drawing_sort, .inl (cA 0, 40, .inl h_drawing_sort_v)), (h_drawing_x, .inl (cA 0, 40, .inl h_drawing_x_v)), (h_drawing_y, .inl (cA 0, 40, .inl h_drawing_y_v)), (h_drawing_z, .inl (cA 0, 40, .inl h_drawing_z_v))] H := by rw [hHe]; exact hP
  have hS : va_S A s.heap H [] := by rw [hHe]; exact va_S.rf
  rw [← hHe]
  unfold f_X3_letterOfLine at hf
  refine lv_iload_n hx hb dX3_letterOfLine_0 rfl (lv_at hl 2 rfl) ?_
  refine lv_if_ne (tgt := 17) hx hb dX3_letterOfLine_1 (by decide) (fun c1 => ?_) (fun c1 => ?_)
  · have hf := kp_n c1 hf
    refine lv_iload_n hx hb dX3_letterOfLine_17 rfl (lv_at hl 2 rfl) ?_
    refine lv_iconst (v := 1) hx hb dX3_letterOfLine_18 (by decide) ?_
    refine lv_isub hx hb dX3_letterOfLine_19 ?_
    refine lv_istore_n (lv' := [(3, .int (p1 - 1)), (0, .ref h), (1, .int p0), (2, .int p1)]) hx hb dX3_letterOfLine_20 rfl hl (by decide) rfl (fun ls hl => ?_)
    refine lv_iconst (v := 1) hx hb dX3_letterOfLine_21 (by decide) ?_
    refine lv_istore (lv' := [(4, .int 1), (3, .int (p1 - 1)), (0, .ref h), (1, .int p0), (2, .int p1)]) hx hb dX3_letterOfLine_22 hl (by decide) rfl (fun ls hl => ?_)
    refine kq_ind (fun n H locs g => ∃ (v3 : Int32) (v4 : Int32) (ls : Array Slot), g = F0 m 24 ls [] ∧ lv_has ls 7 [(0, .ref h), (1, .int p0), (3, .int v3), (4, .int v4)] ∧ va_P (dC, dI) vwCl [(h, .inr (3, [.ref h_drawing, .ref h_saying, .ref h_numbers, .int h_count])), (h_drawing, .inr (1, [.ref h_drawing_sort, .ref h_drawing_x, .ref h_drawing_y, .ref h_drawing_z, .int h_drawing_count, .int h_drawing_fault, .int h_drawing_faultPart])), (h_drawing_sort, .inl (cA 0, 40, .inl h_drawing_sort_v)), (h_drawing_x, .inl (cA 0, 40, .inl h_drawing_x_v)), (h_drawing_y, .inl (cA 0, 40, .inl h_drawing_y_v)), (h_drawing_z, .inl (cA 0, 40, .inl h_drawing_z_v))] H ∧ va_D A [(h, .inr (3, [.ref h_drawing, .ref h_saying, .ref h_numbers, .int h_count])), (h_drawing, .inr (1, [.ref h_drawing_sort, .ref h_drawing_x, .ref h_drawing_y, .ref h_drawing_z, .int h_drawing_count, .int h_drawing_fault, .int h_drawing_faultPart])), (h_drawing_sort, .inl (cA 0, 40, .inl h_drawing_sort_v)), (h_drawing_x, .inl (cA 0, 40, .inl h_drawing_x_v)), (h_drawing_y, .inl (cA 0, 40, .inl h_drawing_y_v)), (h_drawing_z, .inl (cA 0, 40, .inl h_drawing_z_v))] ∧ va_S A s.heap H locs ∧ f_X3_letterOfLine_L24 h_drawing_sort_v h_drawing_x_v h_drawing_y_v h_drawing_z_v p0 p1 n v3 v4 = some o) (fun H locs g h => ?_) (fun n24 ih24 H locs g h => ?_) 64 _ _ _ ⟨p1 - 1, 1, ls, rfl, lv_sub hl [2, 3, 1, 0] rfl, hP, hD, hS, hf⟩
    · obtain ⟨v3, v4, ls, -, -, -, -, -, hf⟩ := h
      have hf : (none : Option (Int32)) = some o := hf
      cases hf
    · obtain ⟨v3, v4, ls, rfl, hl, hP, hD, hS, hf⟩ := h
      have hf := (e_X3_letterOfLine_L24 h_drawing_sort_v h_drawing_x_v h_drawing_y_v h_drawing_z_v p0 p1 n24 v3 v4).symm.trans hf
      refine lv_iload hx hb dX3_letterOfLine_24 (lv_at hl 3 rfl) ?_
      refine lv_iconst (v := 3) hx hb dX3_letterOfLine_26 (by decide) ?_
      refine lv_icmp_gt (tgt := 86) hx hb dX3_letterOfLine_27 (by decide) (fun c25001 => ?_) (fun c25001 => ?_)
      · have hf := kp_p c25001 hf
        refine lv_bipush (v := 10) hx hb dX3_letterOfLine_86 (by decide) ?_
        have eo := Option.some.inj hf
        subst eo
        exact W.iret (v := 10) hx hb hr (fun t ht hW => ⟨⟨_, (), rfl, rfl, kq_mk ht hP hD⟩, hS.F ht⟩) hS.2.2 dX3_letterOfLine_88
      · have hf := kp_n c25001 hf
        refine lv_aload_n hx hb dX3_letterOfLine_30 rfl (lv_at hl 0 rfl) ?_
        refine va_get (D := (dC, dI)) (ci := 3) (v := .ref h_drawing) (C := RX3) (T := TX3) (N := 4) hx hb hts iwX3 hown hK hP 0 rfl rfl 0 (by decide) (hts _ tw_99) (fun _ h9 => h9) rfl dX3_letterOfLine_31 ?_
        refine lv_iload_n hx hb dX3_letterOfLine_34 rfl (lv_at hl 1 rfl) ?_
        refine lv_iload hx hb dX3_letterOfLine_35 (lv_at hl 3 rfl) ?_
        obtain ⟨r25002, hr25002, hf⟩ := kp_b hf
        have hPc := hP.sub (ws' := [(h_drawing, .inr (1, [.ref h_drawing_sort, .ref h_drawing_x, .ref h_drawing_y, .ref h_drawing_z, .int h_drawing_count, .int h_drawing_fault, .int h_drawing_faultPart])), (h_drawing_sort, .inl (cA 0, 40, .inl h_drawing_sort_v)), (h_drawing_x, .inl (cA 0, 40, .inl h_drawing_x_v)), (h_drawing_y, .inl (cA 0, 40, .inl h_drawing_y_v)), (h_drawing_z, .inl (cA 0, 40, .inl h_drawing_z_v))]) [1, 2, 3, 4, 5] rfl
        have hDc := hD.sub (ws' := [(h_drawing, .inr (1, [.ref h_drawing_sort, .ref h_drawing_x, .ref h_drawing_y, .ref h_drawing_z, .int h_drawing_count, .int h_drawing_fault, .int h_drawing_faultPart])), (h_drawing_sort, .inl (cA 0, 40, .inl h_drawing_sort_v)), (h_drawing_x, .inl (cA 0, 40, .inl h_drawing_x_v)), (h_drawing_y, .inl (cA 0, 40, .inl h_drawing_y_v)), (h_drawing_z, .inl (cA 0, 40, .inl h_drawing_z_v))]) [1, 2, 3, 4, 5] (by decide) rfl
        have hFc := va_free (wc := [(h_drawing, .inr (1, [.ref h_drawing_sort, .ref h_drawing_x, .ref h_drawing_y, .ref h_drawing_z, .int h_drawing_count, .int h_drawing_fault, .int h_drawing_faultPart])), (h_drawing_sort, .inl (cA 0, 40, .inl h_drawing_sort_v)), (h_drawing_x, .inl (cA 0, 40, .inl h_drawing_x_v)), (h_drawing_y, .inl (cA 0, 40, .inl h_drawing_y_v)), (h_drawing_z, .inl (cA 0, 40, .inl h_drawing_z_v))]) hD hS hA [1, 2, 3, 4, 5] rfl
        refine va_calli (va_runV (As := [.int p0, .int v4]) (rest := []) ⟨hx, hb, hml, hown, hts⟩ (c_X1_number l dC dI cA tt h_drawing h_drawing_sort h_drawing_x h_drawing_y h_drawing_z H.size h_drawing_count h_drawing_fault h_drawing_faultPart h_drawing_sort_v h_drawing_x_v h_drawing_y_v h_drawing_z_v p0 v4 r25002 hr25002) (cwV 2 hts (kq_gV tw_221 tw_206 tw_207 tw_23 tw_208) rfl rfl rfl (by decide +kernel) ⟨Nat.le_of_ble_eq_true rfl, Nat.le_of_ble_eq_true rfl⟩) ⟨kq_blind, va_recv hK hP (ci := 1) (q0 := 1) rfl rfl, kq_pre hG hZ hS hPc hDc hFc⟩ rfl rfl hl.1 rfl (lv_room (Nat.le_of_ble_eq_true rfl)) dX3_letterOfLine_37 ⟨Nat.le_of_ble_eq_true rfl, Nat.le_of_ble_eq_true rfl⟩) hS (fun q _ h => hFc q h) hFc (fun rv u t H1 locs ht hvm hw hB hz1 hk1 hS => ?_)
        obtain ⟨hP1, hD1⟩ := hB
        rw [ht] at hP1
        have hw := hw.symm
        subst hw
        obtain ⟨hP, hD⟩ := va_join (wr := [(h, .inr (3, [.ref h_drawing, .ref h_saying, .ref h_numbers, .int h_count]))]) (w1 := [(h_drawing, .inr (1, [.ref h_drawing_sort, .ref h_drawing_x, .ref h_drawing_y, .ref h_drawing_z, .int h_drawing_count, .int h_drawing_fault, .int h_drawing_faultPart])), (h_drawing_sort, .inl (cA 0, 40, .inl h_drawing_sort_v)), (h_drawing_x, .inl (cA 0, 40, .inl h_drawing_x_v)), (h_drawing_y, .inl (cA 0, 40, .inl h_drawing_y_v)), (h_drawing_z, .inl (cA 0, 40, .inl h_drawing_z_v))]) hP hD [1, 2, 3, 4, 5] [0] rfl rfl (by decide) (by decide) hk1 hFc hP1 hD1
        have hP : va_P (dC, dI) vwCl [(h, .inr (3, [.ref h_drawing, .ref h_saying, .ref h_numbers, .int h_count])), (h_drawing, .inr (1, [.ref h_drawing_sort, .ref h_drawing_x, .ref h_drawing_y, .ref h_drawing_z, .int h_drawing_count, .int h_drawing_fault, .int h_drawing_faultPart])), (h_drawing_sort, .inl (cA 0, 40, .inl h_drawing_sort_v)), (h_drawing_x, .inl (cA 0, 40, .inl h_drawing_x_v)), (h_drawing_y, .inl (cA 0, 40, .inl h_drawing_y_v)), (h_drawing_z, .inl (cA 0, 40, .inl h_drawing_z_v))] H1 := hP.sub [0, 1, 2, 3, 4, 5] rfl
        have hD : va_D A [(h, .inr (3, [.ref h_drawing, .ref h_saying, .ref h_numbers, .int h_count])), (h_drawing, .inr (1, [.ref h_drawing_sort, .ref h_drawing_x, .ref h_drawing_y, .ref h_drawing_z, .int h_drawing_count, .int h_drawing_fault, .int h_drawing_faultPart])), (h_drawing_sort, .inl (cA 0, 40, .inl h_drawing_sort_v)), (h_drawing_x, .inl (cA 0, 40, .inl h_drawing_x_v)), (h_drawing_y, .inl (cA 0, 40, .inl h_drawing_y_v)), (h_drawing_z, .inl (cA 0, 40, .inl h_drawing_z_v))] := hD.sub [0, 1, 2, 3, 4, 5] (by decide) rfl
        generalize H1 = H at hP hS ⊢
        refine lv_istore (lv' := [(5, .int r25002), (0, .ref h), (1, .int p0), (3, .int v3), (4, .int v4)]) hx hb dX3_letterOfLine_40 hl (by decide) rfl (fun ls hl => ?_)
        refine lv_iconst (v := 1) hx hb dX3_letterOfLine_42 (by decide) ?_
        refine lv_iload hx hb dX3_letterOfLine_43 (lv_at hl 0 rfl) ?_
        obtain ⟨r25003, hr25003, hf⟩ := kp_b hf
        have hPc := hP.sub (ws' := []) [] rfl
        have hDc := hD.sub (ws' := []) [] (by decide) rfl
        have hFc := va_free (wc := []) hD hS hA [] rfl
        refine va_calli (va_runS (As := [.int r25002]) (rest := [.int 1]) ⟨hx, hb, hml, hown, hts⟩ (c_X6_length l dC dI cA tt H.size r25002 r25003 hr25003) (va_cwS 1 hts (kq_gS tw_222 tw_223 tw_26 tw_224) rfl rfl rfl (by decide +kernel) ⟨Nat.le_of_ble_eq_true rfl, Nat.le_of_ble_eq_true rfl⟩) ⟨kq_blind, kq_pre hG hZ hS hPc hDc hFc⟩ rfl rfl hl.1 rfl (lv_room (Nat.le_of_ble_eq_true rfl)) dX3_letterOfLine_45 ⟨Nat.le_of_ble_eq_true rfl, Nat.le_of_ble_eq_true rfl⟩) hS (fun q _ h => hFc q h) hFc (fun rv u t H1 locs ht hvm hw hB hz1 hk1 hS => ?_)
        obtain ⟨hP1, hD1⟩ := hB
        rw [ht] at hP1
        have hw := hw.symm
        subst hw
        obtain ⟨hP, hD⟩ := va_join (wr := [(h, .inr (3, [.ref h_drawing, .ref h_saying, .ref h_numbers, .int h_count])), (h_drawing, .inr (1, [.ref h_drawing_sort, .ref h_drawing_x, .ref h_drawing_y, .ref h_drawing_z, .int h_drawing_count, .int h_drawing_fault, .int h_drawing_faultPart])), (h_drawing_sort, .inl (cA 0, 40, .inl h_drawing_sort_v)), (h_drawing_x, .inl (cA 0, 40, .inl h_drawing_x_v)), (h_drawing_y, .inl (cA 0, 40, .inl h_drawing_y_v)), (h_drawing_z, .inl (cA 0, 40, .inl h_drawing_z_v))]) (w1 := []) hP hD [] [0, 1, 2, 3, 4, 5] rfl rfl (by decide) (by decide) hk1 hFc hP1 hD1
        have hP : va_P (dC, dI) vwCl [(h, .inr (3, [.ref h_drawing, .ref h_saying, .ref h_numbers, .int h_count])), (h_drawing, .inr (1, [.ref h_drawing_sort, .ref h_drawing_x, .ref h_drawing_y, .ref h_drawing_z, .int h_drawing_count, .int h_drawing_fault, .int h_drawing_faultPart])), (h_drawing_sort, .inl (cA 0, 40, .inl h_drawing_sort_v)), (h_drawing_x, .inl (cA 0, 40, .inl h_drawing_x_v)), (h_drawing_y, .inl (cA 0, 40, .inl h_drawing_y_v)), (h_drawing_z, .inl (cA 0, 40, .inl h_drawing_z_v))] H1 := hP.sub [0, 1, 2, 3, 4, 5] rfl
        have hD : va_D A [(h, .inr (3, [.ref h_drawing, .ref h_saying, .ref h_numbers, .int h_count])), (h_drawing, .inr (1, [.ref h_drawing_sort, .ref h_drawing_x, .ref h_drawing_y, .ref h_drawing_z, .int h_drawing_count, .int h_drawing_fault, .int h_drawing_faultPart])), (h_drawing_sort, .inl (cA 0, 40, .inl h_drawing_sort_v)), (h_drawing_x, .inl (cA 0, 40, .inl h_drawing_x_v)), (h_drawing_y, .inl (cA 0, 40, .inl h_drawing_y_v)), (h_drawing_z, .inl (cA 0, 40, .inl h_drawing_z_v))] := hD.sub [0, 1, 2, 3, 4, 5] (by decide) rfl
        generalize H1 = H at hP hS ⊢
        refine lv_iadd hx hb dX3_letterOfLine_48 ?_
        refine lv_istore (lv' := [(6, .int (1 + r25003)), (5, .int r25002), (0, .ref h), (1, .int p0), (3, .int v3), (4, .int v4)]) hx hb dX3_letterOfLine_49 hl (by decide) rfl (fun ls hl => ?_)
        refine lv_iload_n hx hb dX3_letterOfLine_51 rfl (lv_at hl 4 rfl) ?_
        refine lv_iload hx hb dX3_letterOfLine_52 (lv_at hl 0 rfl) ?_
        refine lv_icmp_ge (tgt := 75) hx hb dX3_letterOfLine_54 (by decide) (fun c25004 => ?_) (fun c25004 => ?_)
        · have hf := kp_p c25004 hf
          refine lv_iload_n hx hb dX3_letterOfLine_75 rfl (lv_at hl 4 rfl) ?_
          refine lv_iload hx hb dX3_letterOfLine_76 (lv_at hl 0 rfl) ?_
          refine lv_isub hx hb dX3_letterOfLine_78 ?_
          refine lv_istore_n (lv' := [(3, .int (v3 - (1 + r25003))), (6, .int (1 + r25003)), (5, .int r25002), (0, .ref h), (1, .int p0), (4, .int v4)]) hx hb dX3_letterOfLine_79 rfl hl (by decide) rfl (fun ls hl => ?_)
          refine lv_iinc (v := v4 + 1) (lv' := [(4, .int (v4 + 1)), (3, .int (v3 - (1 + r25003))), (6, .int (1 + r25003)), (5, .int r25002), (0, .ref h), (1, .int p0)]) hx hb dX3_letterOfLine_80 hl (k := 5) rfl rfl (by decide) rfl (fun ls hl => ?_)
          refine lv_goto (tgt := 24) hx hb dX3_letterOfLine_83 (by decide) ?_
          exact ih24 _ _ _ ⟨v3 - (1 + r25003), v4 + 1, ls, rfl, lv_sub hl [4, 5, 1, 0] rfl, hP, hD, hS, hf⟩
        · have hf := kp_n c25004 hf
          refine lv_iload_n hx hb dX3_letterOfLine_57 rfl (lv_at hl 4 rfl) ?_
          refine lv_if_ne (tgt := 66) hx hb dX3_letterOfLine_58 (by decide) (fun c25005 => ?_) (fun c25005 => ?_)
          · have hf := kp_n c25005 hf
            refine lv_iload hx hb dX3_letterOfLine_66 (lv_at hl 1 rfl) ?_
            refine lv_iload_n hx hb dX3_letterOfLine_68 rfl (lv_at hl 4 rfl) ?_
            refine lv_iconst (v := 1) hx hb dX3_letterOfLine_69 (by decide) ?_
            refine lv_isub hx hb dX3_letterOfLine_70 ?_
            obtain ⟨r25006, hr25006, hf⟩ := kp_b hf
            have hPc := hP.sub (ws' := []) [] rfl
            have hDc := hD.sub (ws' := []) [] (by decide) rfl
            have hFc := va_free (wc := []) hD hS hA [] rfl
            refine va_calli (va_runS (As := [.int r25002, .int (v3 - 1)]) (rest := []) ⟨hx, hb, hml, hown, hts⟩ (c_X6_letterAt l dC dI cA tt H.size r25002 (v3 - 1) r25006 hr25006) (va_cwS 2 hts (kq_gS tw_232 tw_233 tw_26 tw_234) rfl rfl rfl (by decide +kernel) ⟨Nat.le_of_ble_eq_true rfl, Nat.le_of_ble_eq_true rfl⟩) ⟨kq_blind, kq_pre hG hZ hS hPc hDc hFc⟩ rfl rfl hl.1 rfl (lv_room (Nat.le_of_ble_eq_true rfl)) dX3_letterOfLine_71 ⟨Nat.le_of_ble_eq_true rfl, Nat.le_of_ble_eq_true rfl⟩) hS (fun q _ h => hFc q h) hFc (fun rv u t H1 locs ht hvm hw hB hz1 hk1 hS => ?_)
            obtain ⟨hP1, hD1⟩ := hB
            rw [ht] at hP1
            have hw := hw.symm
            subst hw
            obtain ⟨hP, hD⟩ := va_join (wr := [(h, .inr (3, [.ref h_drawing, .ref h_saying, .ref h_numbers, .int h_count])), (h_drawing, .inr (1, [.ref h_drawing_sort, .ref h_drawing_x, .ref h_drawing_y, .ref h_drawing_z, .int h_drawing_count, .int h_drawing_fault, .int h_drawing_faultPart])), (h_drawing_sort, .inl (cA 0, 40, .inl h_drawing_sort_v)), (h_drawing_x, .inl (cA 0, 40, .inl h_drawing_x_v)), (h_drawing_y, .inl (cA 0, 40, .inl h_drawing_y_v)), (h_drawing_z, .inl (cA 0, 40, .inl h_drawing_z_v))]) (w1 := []) hP hD [] [0, 1, 2, 3, 4, 5] rfl rfl (by decide) (by decide) hk1 hFc hP1 hD1
            have hP : va_P (dC, dI) vwCl [(h, .inr (3, [.ref h_drawing, .ref h_saying, .ref h_numbers, .int h_count])), (h_drawing, .inr (1, [.ref h_drawing_sort, .ref h_drawing_x, .ref h_drawing_y, .ref h_drawing_z, .int h_drawing_count, .int h_drawing_fault, .int h_drawing_faultPart])), (h_drawing_sort, .inl (cA 0, 40, .inl h_drawing_sort_v)), (h_drawing_x, .inl (cA 0, 40, .inl h_drawing_x_v)), (h_drawing_y, .inl (cA 0, 40, .inl h_drawing_y_v)), (h_drawing_z, .inl (cA 0, 40, .inl h_drawing_z_v))] H1 := hP.sub [0, 1, 2, 3, 4, 5] rfl
            have hD : va_D A [(h, .inr (3, [.ref h_drawing, .ref h_saying, .ref h_numbers, .int h_count])), (h_drawing, .inr (1, [.ref h_drawing_sort, .ref h_drawing_x, .ref h_drawing_y, .ref h_drawing_z, .int h_drawing_count, .int h_drawing_fault, .int h_drawing_faultPart])), (h_drawing_sort, .inl (cA 0, 40, .inl h_drawing_sort_v)), (h_drawing_x, .inl (cA 0, 40, .inl h_drawing_x_v)), (h_drawing_y, .inl (cA 0, 40, .inl h_drawing_y_v)), (h_drawing_z, .inl (cA 0, 40, .inl h_drawing_z_v))] := hD.sub [0, 1, 2, 3, 4, 5] (by decide) rfl
            generalize H1 = H at hP hS ⊢
            have eo := Option.some.inj hf
            subst eo
            exact W.iret (v := r25006) hx hb hr (fun t ht hW => ⟨⟨_, (), rfl, rfl, kq_mk ht hP hD⟩, hS.F ht⟩) hS.2.2 dX3_letterOfLine_74
          · have hf := kp_p c25005 hf
            refine lv_bipush (v := 32) hx hb dX3_letterOfLine_61 (by decide) ?_
            refine lv_goto (tgt := 74) hx hb dX3_letterOfLine_63 (by decide) ?_
            have eo := Option.some.inj hf
            subst eo
            exact W.iret (v := 32) hx hb hr (fun t ht hW => ⟨⟨_, (), rfl, rfl, kq_mk ht hP hD⟩, hS.F ht⟩) hS.2.2 dX3_letterOfLine_74
  · have hf := kp_p c1 hf
    refine lv_bipush (v := 97) hx hb dX3_letterOfLine_4 (by decide) ?_
    refine lv_aload_n hx hb dX3_letterOfLine_6 rfl (lv_at hl 0 rfl) ?_
    refine va_get (D := (dC, dI)) (ci := 3) (v := .ref h_drawing) (C := RX3) (T := TX3) (N := 4) hx hb hts iwX3 hown hK hP 0 rfl rfl 0 (by decide) (hts _ tw_99) (fun _ h9 => h9) rfl dX3_letterOfLine_7 ?_
    refine va_getN (D := (dC, dI)) (ci := 1) (v := .ref h_drawing_sort) (C := RX1) (T := TX1) (N := 7) hx hb hts iwX1 hown hK hP 1 rfl rfl 0 (by decide) (kq_nf hG (RX3, 38, RX1, "sort", "[I", "CarDrawer") (by decide +kernel)) (fun _ h9 => h9) rfl dX3_letterOfLine_10 ?_
    refine lv_iload_n hx hb dX3_letterOfLine_13 rfl (lv_at hl 1 rfl) ?_
    obtain ⟨hq2, hf⟩ := kp_t hf
    refine va_iald hx hb hK hP 2 0 rfl rfl hq2 dX3_letterOfLine_14 ?_
    refine lv_iadd hx hb dX3_letterOfLine_15 ?_
    have eo := Option.some.inj hf
    subst eo
    exact W.iret (v := 97 + (h_drawing_sort_v p0.toNatClampNeg)) hx hb hr (fun t ht hW => ⟨⟨_, (), rfl, rfl, kq_mk ht hP hD⟩, hS.F ht⟩) hS.2.2 dX3_letterOfLine_16

def f_X3_letterAt_L4 (h_count : Int32) (h_numbers_v : Nat → Int32) (h_drawing_sort_v : Nat → Int32) (h_drawing_x_v : Nat → Int32) (h_drawing_y_v : Nat → Int32) (h_drawing_z_v : Nat → Int32) (p0 : Int32) : Nat → Int32 → Int32 → Option (Int32)
  | 0, _, _ => none
  | n4 + 1, v2, v3 =>
    (if h_count ≤ v3 then
    some ((-1))
    else
    (if v2 < 0 then
    some ((-1))
    else
    if v3 < 0 ∨ 40 ≤ v3.toNatClampNeg then none else
    (f_X3_lineLength h_drawing_sort_v h_drawing_x_v h_drawing_y_v h_drawing_z_v (h_numbers_v v3.toNatClampNeg)).bind fun r5004 =>
    (if r5004 ≤ v2 then
    f_X3_letterAt_L4 h_count h_numbers_v h_drawing_sort_v h_drawing_x_v h_drawing_y_v h_drawing_z_v p0 n4 (v2 - r5004) (v3 + 1)
    else
    (f_X3_letterOfLine h_drawing_sort_v h_drawing_x_v h_drawing_y_v h_drawing_z_v (h_numbers_v v3.toNatClampNeg) v2).bind fun r5007 =>
    some r5007)))
theorem e_X3_letterAt_L4 (h_count : Int32) (h_numbers_v : Nat → Int32) (h_drawing_sort_v : Nat → Int32) (h_drawing_x_v : Nat → Int32) (h_drawing_y_v : Nat → Int32) (h_drawing_z_v : Nat → Int32) (p0 : Int32) (n4 : Nat) (v2 : Int32) (v3 : Int32) : f_X3_letterAt_L4 h_count h_numbers_v h_drawing_sort_v h_drawing_x_v h_drawing_y_v h_drawing_z_v p0 (n4 + 1) v2 v3 =
    ((if h_count ≤ v3 then
    some ((-1))
    else
    (if v2 < 0 then
    some ((-1))
    else
    if v3 < 0 ∨ 40 ≤ v3.toNatClampNeg then none else
    (f_X3_lineLength h_drawing_sort_v h_drawing_x_v h_drawing_y_v h_drawing_z_v (h_numbers_v v3.toNatClampNeg)).bind fun r5004 =>
    (if r5004 ≤ v2 then
    f_X3_letterAt_L4 h_count h_numbers_v h_drawing_sort_v h_drawing_x_v h_drawing_y_v h_drawing_z_v p0 n4 (v2 - r5004) (v3 + 1)
    else
    (f_X3_letterOfLine h_drawing_sort_v h_drawing_x_v h_drawing_y_v h_drawing_z_v (h_numbers_v v3.toNatClampNeg) v2).bind fun r5007 =>
    some r5007)))) := rfl
def f_X3_letterAt (h_count : Int32) (h_numbers_v : Nat → Int32) (h_drawing_sort_v : Nat → Int32) (h_drawing_x_v : Nat → Int32) (h_drawing_y_v : Nat → Int32) (h_drawing_z_v : Nat → Int32) (p0 : Int32) : Option (Int32) :=
    f_X3_letterAt_L4 h_count h_numbers_v h_drawing_sort_v h_drawing_x_v h_drawing_y_v h_drawing_z_v p0 64 p0 0
set_option maxHeartbeats 4000000 in
set_option maxRecDepth 100000 in
theorem c_X3_letterAt (l : Launch) (dC : Nat → ClassId) (dI : Nat → Nat → Nat) (cA : Nat → ClassId) (tt : Nat → Nat) (h h_drawing h_numbers h_drawing_sort h_drawing_x h_drawing_y h_drawing_z h_saying : Nat) (sz : Nat) (h_count : Int32) (h_drawing_count : Int32) (h_drawing_fault : Int32) (h_drawing_faultPart : Int32) (h_numbers_v : Nat → Int32) (h_drawing_sort_v : Nat → Int32) (h_drawing_x_v : Nat → Int32) (h_drawing_y_v : Nat → Int32) (h_drawing_z_v : Nat → Int32) (p0 : Int32) (o : Int32) (hf : f_X3_letterAt h_count h_numbers_v h_drawing_sort_v h_drawing_x_v h_drawing_y_v h_drawing_z_v p0 = some o) : Met l yX3_letterAt wX3_letterAt ({ frames := 4, cells := 0, slots := 0, locals := 93 }) (kq_Pc dC dI cA tt [.ref h, .int p0] [(h, .inr (3, [.ref h_drawing, .ref h_saying, .ref h_numbers, .int h_count])), (h_drawing, .inr (1, [.ref h_drawing_sort, .ref h_drawing_x, .ref h_drawing_y, .ref h_drawing_z, .int h_drawing_count, .int h_drawing_fault, .int h_drawing_faultPart])), (h_numbers, .inl (cA 0, 40, .inl h_numbers_v)), (h_drawing_sort, .inl (cA 0, 40, .inl h_drawing_sort_v)), (h_drawing_x, .inl (cA 0, 40, .inl h_drawing_x_v)), (h_drawing_y, .inl (cA 0, 40, .inl h_drawing_y_v)), (h_drawing_z, .inl (cA 0, 40, .inl h_drawing_z_v))] sz) (va_Qi (fun r (_ : Unit) => r = o) (fun _ t => kq_B dC dI [(h, .inr (3, [.ref h_drawing, .ref h_saying, .ref h_numbers, .int h_count])), (h_drawing, .inr (1, [.ref h_drawing_sort, .ref h_drawing_x, .ref h_drawing_y, .ref h_drawing_z, .int h_drawing_count, .int h_drawing_fault, .int h_drawing_faultPart])), (h_numbers, .inl (cA 0, 40, .inl h_numbers_v)), (h_drawing_sort, .inl (cA 0, 40, .inl h_drawing_sort_v)), (h_drawing_x, .inl (cA 0, 40, .inl h_drawing_x_v)), (h_drawing_y, .inl (cA 0, 40, .inl h_drawing_y_v)), (h_drawing_z, .inl (cA 0, 40, .inl h_drawing_z_v))] (va_A [(h, .inr (3, [.ref h_drawing, .ref h_saying, .ref h_numbers, .int h_count])), (h_drawing, .inr (1, [.ref h_drawing_sort, .ref h_drawing_x, .ref h_drawing_y, .ref h_drawing_z, .int h_drawing_count, .int h_drawing_fault, .int h_drawing_faultPart])), (h_numbers, .inl (cA 0, 40, .inl h_numbers_v)), (h_drawing_sort, .inl (cA 0, 40, .inl h_drawing_sort_v)), (h_drawing_x, .inl (cA 0, 40, .inl h_drawing_x_v)), (h_drawing_y, .inl (cA 0, 40, .inl h_drawing_y_v)), (h_drawing_z, .inl (cA 0, 40, .inl h_drawing_z_v))] sz) t) (va_A [(h, .inr (3, [.ref h_drawing, .ref h_saying, .ref h_numbers, .int h_count])), (h_drawing, .inr (1, [.ref h_drawing_sort, .ref h_drawing_x, .ref h_drawing_y, .ref h_drawing_z, .int h_drawing_count, .int h_drawing_fault, .int h_drawing_faultPart])), (h_numbers, .inl (cA 0, 40, .inl h_numbers_v)), (h_drawing_sort, .inl (cA 0, 40, .inl h_drawing_sort_v)), (h_drawing_x, .inl (cA 0, 40, .inl h_drawing_x_v)), (h_drawing_y, .inl (cA 0, 40, .inl h_drawing_y_v)), (h_drawing_z, .inl (cA 0, 40, .inl h_drawing_z_v))] sz)) 0 0 (va_A [(h, .inr (3, [.ref h_drawing, .ref h_saying, .ref h_numbers, .int h_count])), (h_drawing, .inr (1, [.ref h_drawing_sort, .ref h_drawing_x, .ref h_drawing_y, .ref h_drawing_z, .int h_drawing_count, .int h_drawing_fault, .int h_drawing_faultPart])), (h_numbers, .inl (cA 0, 40, .inl h_numbers_v)), (h_drawing_sort, .inl (cA 0, 40, .inl h_drawing_sort_v)), (h_drawing_x, .inl (cA 0, 40, .inl h_drawing_x_v)), (h_drawing_y, .inl (cA 0, 40, .inl h_drawing_y_v)), (h_drawing_z, .inl (cA 0, 40, .inl h_drawing_z_v))] sz) := by
  refine Met.ofW (cc := cX3_letterAt) (maxL := 5) (ret := (some .int)) (by decide) rfl ?_
  intro p e s m args below meth c s₁ B hml hv
  obtain ⟨rfl, hsz, hP, hD0, hG, hZ⟩ := hv
  have hx := B.exec
  have hb := B.bytes
  have hr := B.returns
  have hts : ∀ w ∈ kq_T, w.before _ s = true := fun w h => atoms_spec (ws := wX3_letterAt) B.pre w (List.mem_cons_of_mem _ h)
  have hown : s.vm.findClass RX3 = some m.cls := findClass_of_methodNamed B.named
  have hlocks := B.notSynchronized
  have hK := hG.1
  subst hsz
  have hD := hD0.self (sz := s.heap.size)
  generalize hAe : va_A [(h, .inr (3, [.ref h_drawing, .ref h_saying, .ref h_numbers, .int h_count])), (h_drawing, .inr (1, [.ref h_drawing_sort, .ref h_drawing_x, .ref h_drawing_y, .ref h_drawing_z, .int h_drawing_count, .int h_drawing_fault, .int h_drawing_faultPart])), (h_numbers, .inl (cA 0, 40, .inl h_numbers_v)), (h_drawing_sort, .inl (cA 0, 40, .inl h_drawing_sort_v)), (h_drawing_x, .inl (cA 0, 40, .inl h_drawing_x_v)), (h_drawing_y, .inl (cA 0, 40, .inl h_drawing_y_v)), (h_drawing_z, .inl (cA 0, 40, .inl h_drawing_z_v))] s.heap.size = A at hD hZ ⊢
  have hA : ∀ q : Nat, s.heap.size ≤ q → A q := fun q h => by rw [← hAe]; exact Or.inr h
  have hl := lv_entry [.ref h, .int p0] (n := 5) (Nat.le_of_ble_eq_true rfl)
  rw [lg_entry_eq]
  generalize (lg_sl [.ref h, .int p0] ++ List.replicate (5 - (lg_sl [.ref h, .int p0]).length) Slot.unset).toArray = ls at hl ⊢
  have hl : lv_has ls 5 [(0, .ref h), (1, .int p0)] := hl
  obtain ⟨H, hHe⟩ : ∃ H : Heap, H = s.heap := ⟨_, rfl⟩
  have hP : va_P (dC, dI) vwCl [(h, .inr (3, [.ref h_drawing, .ref h_saying, .ref h_numbers, .int h_count])), (h_drawing, .inr (1, [.ref h_drawing_sort, .ref h_drawing_x, .ref h_drawing_y, .ref h_drawing_z, .int h_drawing_count, .int h_drawing_fault, .int h_drawing_faultPart])), (h_numbers, .inl (cA 0, 40, .inl h_numbers_v)), (h_drawing_sort, .inl (cA 0, 40, .inl h_drawing_sort_v)), (h_drawing_x, .inl (cA 0, 40, .inl h_drawing_x_v)), (h_drawing_y, .inl (cA 0, 40, .inl h_drawing_y_v)), (h_drawing_z, .inl (cA 0, 40, .inl h_drawing_z_v))] H := by rw [hHe]; exact hP
  have hS : va_S A s.heap H [] := by rw [hHe]; exact va_S.rf
  rw [← hHe]
  unfold f_X3_letterAt at hf
  refine lv_iload_n hx hb dX3_letterAt_0 rfl (lv_at hl 1 rfl) ?_
  refine lv_istore_n (lv' := [(2, .int p0), (0, .ref h), (1, .int p0)]) hx hb dX3_letterAt_1 rfl hl (by decide) rfl (fun ls hl => ?_)
  refine lv_iconst (v := 0) hx hb dX3_letterAt_2 (by decide) ?_
  refine lv_istore_n (lv' := [(3, .int 0), (2, .int p0), (0, .ref h), (1, .int p0)]) hx hb dX3_letterAt_3 rfl hl (by decide) rfl (fun ls hl => ?_)
  refine kq_ind (fun n H locs g => ∃ (v2 : Int32) (v3 : Int32) (ls : Array Slot), g = F0 m 4 ls [] ∧ lv_has ls 5 [(0, .ref h), (2, .int v2), (3, .int v3)] ∧ va_P (dC, dI) vwCl [(h, .inr (3, [.ref h_drawing, .ref h_saying, .ref h_numbers, .int h_count])), (h_drawing, .inr (1, [.ref h_drawing_sort, .ref h_drawing_x, .ref h_drawing_y, .ref h_drawing_z, .int h_drawing_count, .int h_drawing_fault, .int h_drawing_faultPart])), (h_numbers, .inl (cA 0, 40, .inl h_numbers_v)), (h_drawing_sort, .inl (cA 0, 40, .inl h_drawing_sort_v)), (h_drawing_x, .inl (cA 0, 40, .inl h_drawing_x_v)), (h_drawing_y, .inl (cA 0, 40, .inl h_drawing_y_v)), (h_drawing_z, .inl (cA 0, 40, .inl h_drawing_z_v))] H ∧ va_D A [(h, .inr (3, [.ref h_drawing, .ref h_saying, .ref h_numbers, .int h_count])), (h_drawing, .inr (1, [.ref h_drawing_sort, .ref h_drawing_x, .ref h_drawing_y, .ref h_drawing_z, .int h_drawing_count, .int h_drawing_fault, .int h_drawing_faultPart])), (h_numbers, .inl (cA 0, 40, .inl h_numbers_v)), (h_drawing_sort, .inl (cA 0, 40, .inl h_drawing_sort_v)), (h_drawing_x, .inl (cA 0, 40, .inl h_drawing_x_v)), (h_drawing_y, .inl (cA 0, 40, .inl h_drawing_y_v)), (h_drawing_z, .inl (cA 0, 40, .inl h_drawing_z_v))] ∧ va_S A s.heap H locs ∧ f_X3_letterAt_L4 h_count h_numbers_v h_drawing_sort_v h_drawing_x_v h_drawing_y_v h_drawing_z_v p0 n v2 v3 = some o) (fun H locs g h => ?_) (fun n4 ih4 H locs g h => ?_) 64 _ _ _ ⟨p0, 0, ls, rfl, lv_sub hl [2, 1, 0] rfl, hP, hD, hS, hf⟩
  · obtain ⟨v2, v3, ls, -, -, -, -, -, hf⟩ := h
    have hf : (none : Option (Int32)) = some o := hf
    cases hf
  · obtain ⟨v2, v3, ls, rfl, hl, hP, hD, hS, hf⟩ := h
    have hf := (e_X3_letterAt_L4 h_count h_numbers_v h_drawing_sort_v h_drawing_x_v h_drawing_y_v h_drawing_z_v p0 n4 v2 v3).symm.trans hf
    refine lv_iload_n hx hb dX3_letterAt_4 rfl (lv_at hl 2 rfl) ?_
    refine lv_aload_n hx hb dX3_letterAt_5 rfl (lv_at hl 0 rfl) ?_
    refine va_get (D := (dC, dI)) (ci := 3) (v := .int h_count) (C := RX3) (T := TX3) (N := 4) hx hb hts iwX3 hown hK hP 0 rfl rfl 3 (by decide) (hts _ tw_104) (fun _ h9 => h9) rfl dX3_letterAt_6 ?_
    refine lv_icmp_ge (tgt := 57) hx hb dX3_letterAt_9 (by decide) (fun c5001 => ?_) (fun c5001 => ?_)
    · have hf := kp_p c5001 hf
      refine lv_iconst (v := (-1)) hx hb dX3_letterAt_57 (by decide) ?_
      have eo := Option.some.inj hf
      subst eo
      exact W.iret (v := (-1)) hx hb hr (fun t ht hW => ⟨⟨_, (), rfl, rfl, kq_mk ht hP hD⟩, hS.F ht⟩) hS.2.2 dX3_letterAt_58
    · have hf := kp_n c5001 hf
      refine lv_iload_n hx hb dX3_letterAt_12 rfl (lv_at hl 1 rfl) ?_
      refine lv_if_lt (tgt := 57) hx hb dX3_letterAt_13 (by decide) (fun c5002 => ?_) (fun c5002 => ?_)
      · have hf := kp_p c5002 hf
        refine lv_iconst (v := (-1)) hx hb dX3_letterAt_57 (by decide) ?_
        have eo := Option.some.inj hf
        subst eo
        exact W.iret (v := (-1)) hx hb hr (fun t ht hW => ⟨⟨_, (), rfl, rfl, kq_mk ht hP hD⟩, hS.F ht⟩) hS.2.2 dX3_letterAt_58
      · have hf := kp_n c5002 hf
        refine lv_aload_n hx hb dX3_letterAt_16 rfl (lv_at hl 0 rfl) ?_
        refine lv_aload_n hx hb dX3_letterAt_17 rfl (lv_at hl 0 rfl) ?_
        refine va_get (D := (dC, dI)) (ci := 3) (v := .ref h_numbers) (C := RX3) (T := TX3) (N := 4) hx hb hts iwX3 hown hK hP 0 rfl rfl 2 (by decide) (hts _ tw_103) (fun _ h9 => h9) rfl dX3_letterAt_18 ?_
        refine lv_iload_n hx hb dX3_letterAt_21 rfl (lv_at hl 2 rfl) ?_
        obtain ⟨hq5003, hf⟩ := kp_t hf
        refine va_iald hx hb hK hP 2 0 rfl rfl hq5003 dX3_letterAt_22 ?_
        obtain ⟨r5004, hr5004, hf⟩ := kp_b hf
        have hPc := hP.sub (ws' := [(h, .inr (3, [.ref h_drawing, .ref h_saying, .ref h_numbers, .int h_count])), (h_drawing, .inr (1, [.ref h_drawing_sort, .ref h_drawing_x, .ref h_drawing_y, .ref h_drawing_z, .int h_drawing_count, .int h_drawing_fault, .int h_drawing_faultPart])), (h_drawing_sort, .inl (cA 0, 40, .inl h_drawing_sort_v)), (h_drawing_x, .inl (cA 0, 40, .inl h_drawing_x_v)), (h_drawing_y, .inl (cA 0, 40, .inl h_drawing_y_v)), (h_drawing_z, .inl (cA 0, 40, .inl h_drawing_z_v))]) [0, 1, 3, 4, 5, 6] rfl
        have hDc := hD.sub (ws' := [(h, .inr (3, [.ref h_drawing, .ref h_saying, .ref h_numbers, .int h_count])), (h_drawing, .inr (1, [.ref h_drawing_sort, .ref h_drawing_x, .ref h_drawing_y, .ref h_drawing_z, .int h_drawing_count, .int h_drawing_fault, .int h_drawing_faultPart])), (h_drawing_sort, .inl (cA 0, 40, .inl h_drawing_sort_v)), (h_drawing_x, .inl (cA 0, 40, .inl h_drawing_x_v)), (h_drawing_y, .inl (cA 0, 40, .inl h_drawing_y_v)), (h_drawing_z, .inl (cA 0, 40, .inl h_drawing_z_v))]) [0, 1, 3, 4, 5, 6] (by decide) rfl
        have hFc := va_free (wc := [(h, .inr (3, [.ref h_drawing, .ref h_saying, .ref h_numbers, .int h_count])), (h_drawing, .inr (1, [.ref h_drawing_sort, .ref h_drawing_x, .ref h_drawing_y, .ref h_drawing_z, .int h_drawing_count, .int h_drawing_fault, .int h_drawing_faultPart])), (h_drawing_sort, .inl (cA 0, 40, .inl h_drawing_sort_v)), (h_drawing_x, .inl (cA 0, 40, .inl h_drawing_x_v)), (h_drawing_y, .inl (cA 0, 40, .inl h_drawing_y_v)), (h_drawing_z, .inl (cA 0, 40, .inl h_drawing_z_v))]) hD hS hA [0, 1, 3, 4, 5, 6] rfl
        refine va_calli (va_runV (As := [.int (h_numbers_v v3.toNatClampNeg)]) (rest := []) ⟨hx, hb, hml, hown, hts⟩ (c_X3_lineLength l dC dI cA tt h h_drawing h_drawing_sort h_drawing_x h_drawing_y h_drawing_z h_saying h_numbers H.size h_count h_drawing_count h_drawing_fault h_drawing_faultPart h_drawing_sort_v h_drawing_x_v h_drawing_y_v h_drawing_z_v (h_numbers_v v3.toNatClampNeg) r5004 hr5004) (cwV 1 hts (kq_gV tw_217 tw_219 tw_5 tw_22 tw_220) rfl rfl rfl (by decide +kernel) ⟨Nat.le_of_ble_eq_true rfl, Nat.le_of_ble_eq_true rfl⟩) ⟨kq_blind, va_recv hK hP (ci := 3) (q0 := 0) rfl rfl, kq_pre hG hZ hS hPc hDc hFc⟩ rfl rfl hl.1 rfl (lv_room (Nat.le_of_ble_eq_true rfl)) dX3_letterAt_23 ⟨Nat.le_of_ble_eq_true rfl, Nat.le_of_ble_eq_true rfl⟩) hS (fun q _ h => hFc q h) hFc (fun rv u t H1 locs ht hvm hw hB hz1 hk1 hS => ?_)
        obtain ⟨hP1, hD1⟩ := hB
        rw [ht] at hP1
        have hw := hw.symm
        subst hw
        obtain ⟨hP, hD⟩ := va_join (wr := [(h_numbers, .inl (cA 0, 40, .inl h_numbers_v))]) (w1 := [(h, .inr (3, [.ref h_drawing, .ref h_saying, .ref h_numbers, .int h_count])), (h_drawing, .inr (1, [.ref h_drawing_sort, .ref h_drawing_x, .ref h_drawing_y, .ref h_drawing_z, .int h_drawing_count, .int h_drawing_fault, .int h_drawing_faultPart])), (h_drawing_sort, .inl (cA 0, 40, .inl h_drawing_sort_v)), (h_drawing_x, .inl (cA 0, 40, .inl h_drawing_x_v)), (h_drawing_y, .inl (cA 0, 40, .inl h_drawing_y_v)), (h_drawing_z, .inl (cA 0, 40, .inl h_drawing_z_v))]) hP hD [0, 1, 3, 4, 5, 6] [2] rfl rfl (by decide) (by decide) hk1 hFc hP1 hD1
        have hP : va_P (dC, dI) vwCl [(h, .inr (3, [.ref h_drawing, .ref h_saying, .ref h_numbers, .int h_count])), (h_drawing, .inr (1, [.ref h_drawing_sort, .ref h_drawing_x, .ref h_drawing_y, .ref h_drawing_z, .int h_drawing_count, .int h_drawing_fault, .int h_drawing_faultPart])), (h_numbers, .inl (cA 0, 40, .inl h_numbers_v)), (h_drawing_sort, .inl (cA 0, 40, .inl h_drawing_sort_v)), (h_drawing_x, .inl (cA 0, 40, .inl h_drawing_x_v)), (h_drawing_y, .inl (cA 0, 40, .inl h_drawing_y_v)), (h_drawing_z, .inl (cA 0, 40, .inl h_drawing_z_v))] H1 := hP.sub [1, 2, 0, 3, 4, 5, 6] rfl
        have hD : va_D A [(h, .inr (3, [.ref h_drawing, .ref h_saying, .ref h_numbers, .int h_count])), (h_drawing, .inr (1, [.ref h_drawing_sort, .ref h_drawing_x, .ref h_drawing_y, .ref h_drawing_z, .int h_drawing_count, .int h_drawing_fault, .int h_drawing_faultPart])), (h_numbers, .inl (cA 0, 40, .inl h_numbers_v)), (h_drawing_sort, .inl (cA 0, 40, .inl h_drawing_sort_v)), (h_drawing_x, .inl (cA 0, 40, .inl h_drawing_x_v)), (h_drawing_y, .inl (cA 0, 40, .inl h_drawing_y_v)), (h_drawing_z, .inl (cA 0, 40, .inl h_drawing_z_v))] := hD.sub [1, 2, 0, 3, 4, 5, 6] (by decide) rfl
        generalize H1 = H at hP hS ⊢
        refine lv_istore (lv' := [(4, .int r5004), (0, .ref h), (2, .int v2), (3, .int v3)]) hx hb dX3_letterAt_26 hl (by decide) rfl (fun ls hl => ?_)
        refine lv_iload_n hx hb dX3_letterAt_28 rfl (lv_at hl 2 rfl) ?_
        refine lv_iload hx hb dX3_letterAt_29 (lv_at hl 0 rfl) ?_
        refine lv_icmp_ge (tgt := 46) hx hb dX3_letterAt_31 (by decide) (fun c5005 => ?_) (fun c5005 => ?_)
        · have hf := kp_p c5005 hf
          refine lv_iload_n hx hb dX3_letterAt_46 rfl (lv_at hl 2 rfl) ?_
          refine lv_iload hx hb dX3_letterAt_47 (lv_at hl 0 rfl) ?_
          refine lv_isub hx hb dX3_letterAt_49 ?_
          refine lv_istore_n (lv' := [(2, .int (v2 - r5004)), (4, .int r5004), (0, .ref h), (3, .int v3)]) hx hb dX3_letterAt_50 rfl hl (by decide) rfl (fun ls hl => ?_)
          refine lv_iinc (v := v3 + 1) (lv' := [(3, .int (v3 + 1)), (2, .int (v2 - r5004)), (4, .int r5004), (0, .ref h)]) hx hb dX3_letterAt_51 hl (k := 3) rfl rfl (by decide) rfl (fun ls hl => ?_)
          refine lv_goto (tgt := 4) hx hb dX3_letterAt_54 (by decide) ?_
          exact ih4 _ _ _ ⟨v2 - r5004, v3 + 1, ls, rfl, lv_sub hl [3, 1, 0] rfl, hP, hD, hS, hf⟩
        · have hf := kp_n c5005 hf
          refine lv_aload_n hx hb dX3_letterAt_34 rfl (lv_at hl 1 rfl) ?_
          refine lv_aload_n hx hb dX3_letterAt_35 rfl (lv_at hl 1 rfl) ?_
          refine va_get (D := (dC, dI)) (ci := 3) (v := .ref h_numbers) (C := RX3) (T := TX3) (N := 4) hx hb hts iwX3 hown hK hP 0 rfl rfl 2 (by decide) (hts _ tw_103) (fun _ h9 => h9) rfl dX3_letterAt_36 ?_
          refine lv_iload_n hx hb dX3_letterAt_39 rfl (lv_at hl 3 rfl) ?_
          refine va_iald hx hb hK hP 2 0 rfl rfl hq5003 dX3_letterAt_40 ?_
          refine lv_iload_n hx hb dX3_letterAt_41 rfl (lv_at hl 2 rfl) ?_
          obtain ⟨r5007, hr5007, hf⟩ := kp_b hf
          have hPc := hP.sub (ws' := [(h, .inr (3, [.ref h_drawing, .ref h_saying, .ref h_numbers, .int h_count])), (h_drawing, .inr (1, [.ref h_drawing_sort, .ref h_drawing_x, .ref h_drawing_y, .ref h_drawing_z, .int h_drawing_count, .int h_drawing_fault, .int h_drawing_faultPart])), (h_drawing_sort, .inl (cA 0, 40, .inl h_drawing_sort_v)), (h_drawing_x, .inl (cA 0, 40, .inl h_drawing_x_v)), (h_drawing_y, .inl (cA 0, 40, .inl h_drawing_y_v)), (h_drawing_z, .inl (cA 0, 40, .inl h_drawing_z_v))]) [0, 1, 3, 4, 5, 6] rfl
          have hDc := hD.sub (ws' := [(h, .inr (3, [.ref h_drawing, .ref h_saying, .ref h_numbers, .int h_count])), (h_drawing, .inr (1, [.ref h_drawing_sort, .ref h_drawing_x, .ref h_drawing_y, .ref h_drawing_z, .int h_drawing_count, .int h_drawing_fault, .int h_drawing_faultPart])), (h_drawing_sort, .inl (cA 0, 40, .inl h_drawing_sort_v)), (h_drawing_x, .inl (cA 0, 40, .inl h_drawing_x_v)), (h_drawing_y, .inl (cA 0, 40, .inl h_drawing_y_v)), (h_drawing_z, .inl (cA 0, 40, .inl h_drawing_z_v))]) [0, 1, 3, 4, 5, 6] (by decide) rfl
          have hFc := va_free (wc := [(h, .inr (3, [.ref h_drawing, .ref h_saying, .ref h_numbers, .int h_count])), (h_drawing, .inr (1, [.ref h_drawing_sort, .ref h_drawing_x, .ref h_drawing_y, .ref h_drawing_z, .int h_drawing_count, .int h_drawing_fault, .int h_drawing_faultPart])), (h_drawing_sort, .inl (cA 0, 40, .inl h_drawing_sort_v)), (h_drawing_x, .inl (cA 0, 40, .inl h_drawing_x_v)), (h_drawing_y, .inl (cA 0, 40, .inl h_drawing_y_v)), (h_drawing_z, .inl (cA 0, 40, .inl h_drawing_z_v))]) hD hS hA [0, 1, 3, 4, 5, 6] rfl
          refine va_calli (va_runV (As := [.int (h_numbers_v v3.toNatClampNeg), .int v2]) (rest := []) ⟨hx, hb, hml, hown, hts⟩ (c_X3_letterOfLine l dC dI cA tt h h_drawing h_drawing_sort h_drawing_x h_drawing_y h_drawing_z h_saying h_numbers H.size h_count h_drawing_count h_drawing_fault h_drawing_faultPart h_drawing_sort_v h_drawing_x_v h_drawing_y_v h_drawing_z_v (h_numbers_v v3.toNatClampNeg) v2 r5007 hr5007) (cwV 2 hts (kq_gV tw_228 tw_230 tw_6 tw_22 tw_231) rfl rfl rfl (by decide +kernel) ⟨Nat.le_of_ble_eq_true rfl, Nat.le_of_ble_eq_true rfl⟩) ⟨kq_blind, va_recv hK hP (ci := 3) (q0 := 0) rfl rfl, kq_pre hG hZ hS hPc hDc hFc⟩ rfl rfl hl.1 rfl (lv_room (Nat.le_of_ble_eq_true rfl)) dX3_letterAt_42 ⟨Nat.le_of_ble_eq_true rfl, Nat.le_of_ble_eq_true rfl⟩) hS (fun q _ h => hFc q h) hFc (fun rv u t H1 locs ht hvm hw hB hz1 hk1 hS => ?_)
          obtain ⟨hP1, hD1⟩ := hB
          rw [ht] at hP1
          have hw := hw.symm
          subst hw
          obtain ⟨hP, hD⟩ := va_join (wr := [(h_numbers, .inl (cA 0, 40, .inl h_numbers_v))]) (w1 := [(h, .inr (3, [.ref h_drawing, .ref h_saying, .ref h_numbers, .int h_count])), (h_drawing, .inr (1, [.ref h_drawing_sort, .ref h_drawing_x, .ref h_drawing_y, .ref h_drawing_z, .int h_drawing_count, .int h_drawing_fault, .int h_drawing_faultPart])), (h_drawing_sort, .inl (cA 0, 40, .inl h_drawing_sort_v)), (h_drawing_x, .inl (cA 0, 40, .inl h_drawing_x_v)), (h_drawing_y, .inl (cA 0, 40, .inl h_drawing_y_v)), (h_drawing_z, .inl (cA 0, 40, .inl h_drawing_z_v))]) hP hD [0, 1, 3, 4, 5, 6] [2] rfl rfl (by decide) (by decide) hk1 hFc hP1 hD1
          have hP : va_P (dC, dI) vwCl [(h, .inr (3, [.ref h_drawing, .ref h_saying, .ref h_numbers, .int h_count])), (h_drawing, .inr (1, [.ref h_drawing_sort, .ref h_drawing_x, .ref h_drawing_y, .ref h_drawing_z, .int h_drawing_count, .int h_drawing_fault, .int h_drawing_faultPart])), (h_numbers, .inl (cA 0, 40, .inl h_numbers_v)), (h_drawing_sort, .inl (cA 0, 40, .inl h_drawing_sort_v)), (h_drawing_x, .inl (cA 0, 40, .inl h_drawing_x_v)), (h_drawing_y, .inl (cA 0, 40, .inl h_drawing_y_v)), (h_drawing_z, .inl (cA 0, 40, .inl h_drawing_z_v))] H1 := hP.sub [1, 2, 0, 3, 4, 5, 6] rfl
          have hD : va_D A [(h, .inr (3, [.ref h_drawing, .ref h_saying, .ref h_numbers, .int h_count])), (h_drawing, .inr (1, [.ref h_drawing_sort, .ref h_drawing_x, .ref h_drawing_y, .ref h_drawing_z, .int h_drawing_count, .int h_drawing_fault, .int h_drawing_faultPart])), (h_numbers, .inl (cA 0, 40, .inl h_numbers_v)), (h_drawing_sort, .inl (cA 0, 40, .inl h_drawing_sort_v)), (h_drawing_x, .inl (cA 0, 40, .inl h_drawing_x_v)), (h_drawing_y, .inl (cA 0, 40, .inl h_drawing_y_v)), (h_drawing_z, .inl (cA 0, 40, .inl h_drawing_z_v))] := hD.sub [1, 2, 0, 3, 4, 5, 6] (by decide) rfl
          generalize H1 = H at hP hS ⊢
          have eo := Option.some.inj hf
          subst eo
          exact W.iret (v := r5007) hx hb hr (fun t ht hW => ⟨⟨_, (), rfl, rfl, kq_mk ht hP hD⟩, hS.F ht⟩) hS.2.2 dX3_letterAt_45

def f_X3_signatureWithout_L8 (h_count : Int32) (h_drawing_faultPart : Int32) (h_numbers_v : Nat → Int32) (h_drawing_sort_v : Nat → Int32) (h_drawing_z_v : Nat → Int32) (p0 : Int32) (p1 : Int32) : Nat → Int32 → Int32 → Int32 → Option (Int32)
  | 0, _, _, _ => none
  | n8 + 1, v3, v4, v5 =>
    (if h_count ≤ v5 then
    (if (v4 - v4 / 2 * 2) = 0 then
    some (v3 ||| 0)
    else
    some (v3 ||| 32))
    else
    (if v5 < p0 then
    if v5 < 0 ∨ 40 ≤ v5.toNatClampNeg then none else
    if (h_numbers_v v5.toNatClampNeg) < 0 ∨ 40 ≤ (h_numbers_v v5.toNatClampNeg).toNatClampNeg then none else
    (if (h_numbers_v v5.toNatClampNeg) = h_drawing_faultPart then
    f_X3_signatureWithout_L8 h_count h_drawing_faultPart h_numbers_v h_drawing_sort_v h_drawing_z_v p0 p1 n8 ((v3 ||| (1 <<< (((h_drawing_sort_v (h_numbers_v v5.toNatClampNeg).toNatClampNeg) - (h_drawing_sort_v (h_numbers_v v5.toNatClampNeg).toNatClampNeg) / 4 * 4) &&& 31))) ||| 16) (v4 + (h_drawing_z_v (h_numbers_v v5.toNatClampNeg).toNatClampNeg)) (v5 + 1)
    else
    f_X3_signatureWithout_L8 h_count h_drawing_faultPart h_numbers_v h_drawing_sort_v h_drawing_z_v p0 p1 n8 ((v3 ||| (1 <<< (((h_drawing_sort_v (h_numbers_v v5.toNatClampNeg).toNatClampNeg) - (h_drawing_sort_v (h_numbers_v v5.toNatClampNeg).toNatClampNeg) / 4 * 4) &&& 31))) ||| 0) (v4 + (h_drawing_z_v (h_numbers_v v5.toNatClampNeg).toNatClampNeg)) (v5 + 1))
    else
    (if v5 < p1 then
    f_X3_signatureWithout_L8 h_count h_drawing_faultPart h_numbers_v h_drawing_sort_v h_drawing_z_v p0 p1 n8 v3 v4 (v5 + 1)
    else
    if v5 < 0 ∨ 40 ≤ v5.toNatClampNeg then none else
    if (h_numbers_v v5.toNatClampNeg) < 0 ∨ 40 ≤ (h_numbers_v v5.toNatClampNeg).toNatClampNeg then none else
    (if (h_numbers_v v5.toNatClampNeg) = h_drawing_faultPart then
    f_X3_signatureWithout_L8 h_count h_drawing_faultPart h_numbers_v h_drawing_sort_v h_drawing_z_v p0 p1 n8 ((v3 ||| (1 <<< (((h_drawing_sort_v (h_numbers_v v5.toNatClampNeg).toNatClampNeg) - (h_drawing_sort_v (h_numbers_v v5.toNatClampNeg).toNatClampNeg) / 4 * 4) &&& 31))) ||| 16) (v4 + (h_drawing_z_v (h_numbers_v v5.toNatClampNeg).toNatClampNeg)) (v5 + 1)
    else
    f_X3_signatureWithout_L8 h_count h_drawing_faultPart h_numbers_v h_drawing_sort_v h_drawing_z_v p0 p1 n8 ((v3 ||| (1 <<< (((h_drawing_sort_v (h_numbers_v v5.toNatClampNeg).toNatClampNeg) - (h_drawing_sort_v (h_numbers_v v5.toNatClampNeg).toNatClampNeg) / 4 * 4) &&& 31))) ||| 0) (v4 + (h_drawing_z_v (h_numbers_v v5.toNatClampNeg).toNatClampNeg)) (v5 + 1)))))
theorem e_X3_signatureWithout_L8 (h_count : Int32) (h_drawing_faultPart : Int32) (h_numbers_v : Nat → Int32) (h_drawing_sort_v : Nat → Int32) (h_drawing_z_v : Nat → Int32) (p0 : Int32) (p1 : Int32) (n8 : Nat) (v3 : Int32) (v4 : Int32) (v5 : Int32) : f_X3_signatureWithout_L8 h_count h_drawing_faultPart h_numbers_v h_drawing_sort_v h_drawing_z_v p0 p1 (n8 + 1) v3 v4 v5 =
    ((if h_count ≤ v5 then
    (if (v4 - v4 / 2 * 2) = 0 then
    some (v3 ||| 0)
    else
    some (v3 ||| 32))
    else
    (if v5 < p0 then
    if v5 < 0 ∨ 40 ≤ v5.toNatClampNeg then none else
    if (h_numbers_v v5.toNatClampNeg) < 0 ∨ 40 ≤ (h_numbers_v v5.toNatClampNeg).toNatClampNeg then none else
    (if (h_numbers_v v5.toNatClampNeg) = h_drawing_faultPart then
    f_X3_signatureWithout_L8 h_count h_drawing_faultPart h_numbers_v h_drawing_sort_v h_drawing_z_v p0 p1 n8 ((v3 ||| (1 <<< (((h_drawing_sort_v (h_numbers_v v5.toNatClampNeg).toNatClampNeg) - (h_drawing_sort_v (h_numbers_v v5.toNatClampNeg).toNatClampNeg) / 4 * 4) &&& 31))) ||| 16) (v4 + (h_drawing_z_v (h_numbers_v v5.toNatClampNeg).toNatClampNeg)) (v5 + 1)
    else
    f_X3_signatureWithout_L8 h_count h_drawing_faultPart h_numbers_v h_drawing_sort_v h_drawing_z_v p0 p1 n8 ((v3 ||| (1 <<< (((h_drawing_sort_v (h_numbers_v v5.toNatClampNeg).toNatClampNeg) - (h_drawing_sort_v (h_numbers_v v5.toNatClampNeg).toNatClampNeg) / 4 * 4) &&& 31))) ||| 0) (v4 + (h_drawing_z_v (h_numbers_v v5.toNatClampNeg).toNatClampNeg)) (v5 + 1))
    else
    (if v5 < p1 then
    f_X3_signatureWithout_L8 h_count h_drawing_faultPart h_numbers_v h_drawing_sort_v h_drawing_z_v p0 p1 n8 v3 v4 (v5 + 1)
    else
    if v5 < 0 ∨ 40 ≤ v5.toNatClampNeg then none else
    if (h_numbers_v v5.toNatClampNeg) < 0 ∨ 40 ≤ (h_numbers_v v5.toNatClampNeg).toNatClampNeg then none else
    (if (h_numbers_v v5.toNatClampNeg) = h_drawing_faultPart then
    f_X3_signatureWithout_L8 h_count h_drawing_faultPart h_numbers_v h_drawing_sort_v h_drawing_z_v p0 p1 n8 ((v3 ||| (1 <<< (((h_drawing_sort_v (h_numbers_v v5.toNatClampNeg).toNatClampNeg) - (h_drawing_sort_v (h_numbers_v v5.toNatClampNeg).toNatClampNeg) / 4 * 4) &&& 31))) ||| 16) (v4 + (h_drawing_z_v (h_numbers_v v5.toNatClampNeg).toNatClampNeg)) (v5 + 1)
    else
    f_X3_signatureWithout_L8 h_count h_drawing_faultPart h_numbers_v h_drawing_sort_v h_drawing_z_v p0 p1 n8 ((v3 ||| (1 <<< (((h_drawing_sort_v (h_numbers_v v5.toNatClampNeg).toNatClampNeg) - (h_drawing_sort_v (h_numbers_v v5.toNatClampNeg).toNatClampNeg) / 4 * 4) &&& 31))) ||| 0) (v4 + (h_drawing_z_v (h_numbers_v v5.toNatClampNeg).toNatClampNeg)) (v5 + 1)))))) := rfl
def f_X3_signatureWithout (h_count : Int32) (h_drawing_faultPart : Int32) (h_numbers_v : Nat → Int32) (h_drawing_sort_v : Nat → Int32) (h_drawing_z_v : Nat → Int32) (p0 : Int32) (p1 : Int32) : Option (Int32) :=
    f_X3_signatureWithout_L8 h_count h_drawing_faultPart h_numbers_v h_drawing_sort_v h_drawing_z_v p0 p1 64 0 0 0
set_option maxHeartbeats 4000000 in
set_option maxRecDepth 100000 in
theorem c_X3_signatureWithout (l : Launch) (dC : Nat → ClassId) (dI : Nat → Nat → Nat) (cA : Nat → ClassId) (tt : Nat → Nat) (h h_drawing h_numbers h_drawing_sort h_drawing_z h_saying h_drawing_x h_drawing_y : Nat) (sz : Nat) (h_count : Int32) (h_drawing_count : Int32) (h_drawing_fault : Int32) (h_drawing_faultPart : Int32) (h_numbers_v : Nat → Int32) (h_drawing_sort_v : Nat → Int32) (h_drawing_z_v : Nat → Int32) (p0 : Int32) (p1 : Int32) (o : Int32) (hf : f_X3_signatureWithout h_count h_drawing_faultPart h_numbers_v h_drawing_sort_v h_drawing_z_v p0 p1 = some o) : Met l yX3_signatureWithout wX3_signatureWithout ({ frames := 0, cells := 0, slots := 0, locals := 0 }) (kq_Pc dC dI cA tt [.ref h, .int p0, .int p1] [(h, .inr (3, [.ref h_drawing, .ref h_saying, .ref h_numbers, .int h_count])), (h_drawing, .inr (1, [.ref h_drawing_sort, .ref h_drawing_x, .ref h_drawing_y, .ref h_drawing_z, .int h_drawing_count, .int h_drawing_fault, .int h_drawing_faultPart])), (h_numbers, .inl (cA 0, 40, .inl h_numbers_v)), (h_drawing_sort, .inl (cA 0, 40, .inl h_drawing_sort_v)), (h_drawing_z, .inl (cA 0, 40, .inl h_drawing_z_v))] sz) (va_Qi (fun r (_ : Unit) => r = o) (fun _ t => kq_B dC dI [(h, .inr (3, [.ref h_drawing, .ref h_saying, .ref h_numbers, .int h_count])), (h_drawing, .inr (1, [.ref h_drawing_sort, .ref h_drawing_x, .ref h_drawing_y, .ref h_drawing_z, .int h_drawing_count, .int h_drawing_fault, .int h_drawing_faultPart])), (h_numbers, .inl (cA 0, 40, .inl h_numbers_v)), (h_drawing_sort, .inl (cA 0, 40, .inl h_drawing_sort_v)), (h_drawing_z, .inl (cA 0, 40, .inl h_drawing_z_v))] (va_A [(h, .inr (3, [.ref h_drawing, .ref h_saying, .ref h_numbers, .int h_count])), (h_drawing, .inr (1, [.ref h_drawing_sort, .ref h_drawing_x, .ref h_drawing_y, .ref h_drawing_z, .int h_drawing_count, .int h_drawing_fault, .int h_drawing_faultPart])), (h_numbers, .inl (cA 0, 40, .inl h_numbers_v)), (h_drawing_sort, .inl (cA 0, 40, .inl h_drawing_sort_v)), (h_drawing_z, .inl (cA 0, 40, .inl h_drawing_z_v))] sz) t) (va_A [(h, .inr (3, [.ref h_drawing, .ref h_saying, .ref h_numbers, .int h_count])), (h_drawing, .inr (1, [.ref h_drawing_sort, .ref h_drawing_x, .ref h_drawing_y, .ref h_drawing_z, .int h_drawing_count, .int h_drawing_fault, .int h_drawing_faultPart])), (h_numbers, .inl (cA 0, 40, .inl h_numbers_v)), (h_drawing_sort, .inl (cA 0, 40, .inl h_drawing_sort_v)), (h_drawing_z, .inl (cA 0, 40, .inl h_drawing_z_v))] sz)) 0 0 (va_A [(h, .inr (3, [.ref h_drawing, .ref h_saying, .ref h_numbers, .int h_count])), (h_drawing, .inr (1, [.ref h_drawing_sort, .ref h_drawing_x, .ref h_drawing_y, .ref h_drawing_z, .int h_drawing_count, .int h_drawing_fault, .int h_drawing_faultPart])), (h_numbers, .inl (cA 0, 40, .inl h_numbers_v)), (h_drawing_sort, .inl (cA 0, 40, .inl h_drawing_sort_v)), (h_drawing_z, .inl (cA 0, 40, .inl h_drawing_z_v))] sz) := by
  refine Met.ofW (cc := cX3_signatureWithout) (maxL := 7) (ret := (some .int)) (by decide) rfl ?_
  intro p e s m args below meth c s₁ B hml hv
  obtain ⟨rfl, hsz, hP, hD0, hG, hZ⟩ := hv
  have hx := B.exec
  have hb := B.bytes
  have hr := B.returns
  have hts : ∀ w ∈ kq_T, w.before _ s = true := fun w h => atoms_spec (ws := wX3_signatureWithout) B.pre w (List.mem_cons_of_mem _ h)
  have hown : s.vm.findClass RX3 = some m.cls := findClass_of_methodNamed B.named
  have hlocks := B.notSynchronized
  have hK := hG.1
  subst hsz
  have hD := hD0.self (sz := s.heap.size)
  generalize hAe : va_A [(h, .inr (3, [.ref h_drawing, .ref h_saying, .ref h_numbers, .int h_count])), (h_drawing, .inr (1, [.ref h_drawing_sort, .ref h_drawing_x, .ref h_drawing_y, .ref h_drawing_z, .int h_drawing_count, .int h_drawing_fault, .int h_drawing_faultPart])), (h_numbers, .inl (cA 0, 40, .inl h_numbers_v)), (h_drawing_sort, .inl (cA 0, 40, .inl h_drawing_sort_v)), (h_drawing_z, .inl (cA 0, 40, .inl h_drawing_z_v))] s.heap.size = A at hD hZ ⊢
  have hA : ∀ q : Nat, s.heap.size ≤ q → A q := fun q h => by rw [← hAe]; exact Or.inr h
  have hl := lv_entry [.ref h, .int p0, .int p1] (n := 7) (Nat.le_of_ble_eq_true rfl)
  rw [lg_entry_eq]
  generalize (lg_sl [.ref h, .int p0, .int p1] ++ List.replicate (7 - (lg_sl [.ref h, .int p0, .int p1]).length) Slot.unset).toArray = ls at hl ⊢
  have hl : lv_has ls 7 [(0, .ref h), (1, .int p0), (2, .int p1)] := hl
  obtain ⟨H, hHe⟩ : ∃ H : Heap, H = s.heap := ⟨_, rfl⟩
  have hP : va_P (dC, dI) vwCl [(h, .inr (3, [.ref h_drawing, .ref h_saying, .ref h_numbers, .int h_count])), (h_drawing, .inr (1, [.ref h_drawing_sort, .ref h_drawing_x, .ref h_drawing_y, .ref h_drawing_z, .int h_drawing_count, .int h_drawing_fault, .int h_drawing_faultPart])), (h_numbers, .inl (cA 0, 40, .inl h_numbers_v)), (h_drawing_sort, .inl (cA 0, 40, .inl h_drawing_sort_v)), (h_drawing_z, .inl (cA 0, 40, .inl h_drawing_z_v))] H := by rw [hHe]; exact hP
  have hS : va_S A s.heap H [] := by rw [hHe]; exact va_S.rf
  rw [← hHe]
  unfold f_X3_signatureWithout at hf
  refine lv_iconst (v := 0) hx hb dX3_signatureWithout_0 (by decide) ?_
  refine lv_istore_n (lv' := [(3, .int 0), (0, .ref h), (1, .int p0), (2, .int p1)]) hx hb dX3_signatureWithout_1 rfl hl (by decide) rfl (fun ls hl => ?_)
  refine lv_iconst (v := 0) hx hb dX3_signatureWithout_2 (by decide) ?_
  refine lv_istore (lv' := [(4, .int 0), (3, .int 0), (0, .ref h), (1, .int p0), (2, .int p1)]) hx hb dX3_signatureWithout_3 hl (by decide) rfl (fun ls hl => ?_)
  refine lv_iconst (v := 0) hx hb dX3_signatureWithout_5 (by decide) ?_
  refine lv_istore (lv' := [(5, .int 0), (4, .int 0), (3, .int 0), (0, .ref h), (1, .int p0), (2, .int p1)]) hx hb dX3_signatureWithout_6 hl (by decide) rfl (fun ls hl => ?_)
  refine kq_ind (fun n H locs g => ∃ (v3 : Int32) (v4 : Int32) (v5 : Int32) (ls : Array Slot), g = F0 m 8 ls [] ∧ lv_has ls 7 [(0, .ref h), (1, .int p0), (2, .int p1), (3, .int v3), (4, .int v4), (5, .int v5)] ∧ va_P (dC, dI) vwCl [(h, .inr (3, [.ref h_drawing, .ref h_saying, .ref h_numbers, .int h_count])), (h_drawing, .inr (1, [.ref h_drawing_sort, .ref h_drawing_x, .ref h_drawing_y, .ref h_drawing_z, .int h_drawing_count, .int h_drawing_fault, .int h_drawing_faultPart])), (h_numbers, .inl (cA 0, 40, .inl h_numbers_v)), (h_drawing_sort, .inl (cA 0, 40, .inl h_drawing_sort_v)), (h_drawing_z, .inl (cA 0, 40, .inl h_drawing_z_v))] H ∧ va_D A [(h, .inr (3, [.ref h_drawing, .ref h_saying, .ref h_numbers, .int h_count])), (h_drawing, .inr (1, [.ref h_drawing_sort, .ref h_drawing_x, .ref h_drawing_y, .ref h_drawing_z, .int h_drawing_count, .int h_drawing_fault, .int h_drawing_faultPart])), (h_numbers, .inl (cA 0, 40, .inl h_numbers_v)), (h_drawing_sort, .inl (cA 0, 40, .inl h_drawing_sort_v)), (h_drawing_z, .inl (cA 0, 40, .inl h_drawing_z_v))] ∧ va_S A s.heap H locs ∧ f_X3_signatureWithout_L8 h_count h_drawing_faultPart h_numbers_v h_drawing_sort_v h_drawing_z_v p0 p1 n v3 v4 v5 = some o) (fun H locs g h => ?_) (fun n8 ih8 H locs g h => ?_) 64 _ _ _ ⟨0, 0, 0, ls, rfl, lv_sub hl [3, 4, 5, 2, 1, 0] rfl, hP, hD, hS, hf⟩
  · obtain ⟨v3, v4, v5, ls, -, -, -, -, -, hf⟩ := h
    have hf : (none : Option (Int32)) = some o := hf
    cases hf
  · obtain ⟨v3, v4, v5, ls, rfl, hl, hP, hD, hS, hf⟩ := h
    have hf := (e_X3_signatureWithout_L8 h_count h_drawing_faultPart h_numbers_v h_drawing_sort_v h_drawing_z_v p0 p1 n8 v3 v4 v5).symm.trans hf
    refine lv_iload hx hb dX3_signatureWithout_8 (lv_at hl 5 rfl) ?_
    refine lv_aload_n hx hb dX3_signatureWithout_10 rfl (lv_at hl 0 rfl) ?_
    refine va_get (D := (dC, dI)) (ci := 3) (v := .int h_count) (C := RX3) (T := TX3) (N := 4) hx hb hts iwX3 hown hK hP 0 rfl rfl 3 (by decide) (hts _ tw_104) (fun _ h9 => h9) rfl dX3_signatureWithout_11 ?_
    refine lv_icmp_ge (tgt := 97) hx hb dX3_signatureWithout_14 (by decide) (fun c9001 => ?_) (fun c9001 => ?_)
    · have hf := kp_p c9001 hf
      refine lv_iload_n hx hb dX3_signatureWithout_97 rfl (lv_at hl 3 rfl) ?_
      refine lv_iload hx hb dX3_signatureWithout_98 (lv_at hl 4 rfl) ?_
      refine lv_iconst (v := 2) hx hb dX3_signatureWithout_100 (by decide) ?_
      refine lv_irem hx hb dX3_signatureWithout_101 (by decide) ?_
      refine lv_if_ne (tgt := 109) hx hb dX3_signatureWithout_102 (by decide) (fun c9002 => ?_) (fun c9002 => ?_)
      · have hf := kp_n c9002 hf
        refine lv_bipush (v := 32) hx hb dX3_signatureWithout_109 (by decide) ?_
        refine lv_ior hx hb dX3_signatureWithout_111 ?_
        have eo := Option.some.inj hf
        subst eo
        exact W.iret (v := v3 ||| 32) hx hb hr (fun t ht hW => ⟨⟨_, (), rfl, rfl, kq_mk ht hP hD⟩, hS.F ht⟩) hS.2.2 dX3_signatureWithout_112
      · have hf := kp_p c9002 hf
        refine lv_iconst (v := 0) hx hb dX3_signatureWithout_105 (by decide) ?_
        refine lv_goto (tgt := 111) hx hb dX3_signatureWithout_106 (by decide) ?_
        refine lv_ior hx hb dX3_signatureWithout_111 ?_
        have eo := Option.some.inj hf
        subst eo
        exact W.iret (v := v3 ||| 0) hx hb hr (fun t ht hW => ⟨⟨_, (), rfl, rfl, kq_mk ht hP hD⟩, hS.F ht⟩) hS.2.2 dX3_signatureWithout_112
    · have hf := kp_n c9001 hf
      refine lv_iload hx hb dX3_signatureWithout_17 (lv_at hl 5 rfl) ?_
      refine lv_iload_n hx hb dX3_signatureWithout_19 rfl (lv_at hl 1 rfl) ?_
      refine lv_icmp_lt (tgt := 29) hx hb dX3_signatureWithout_20 (by decide) (fun c9003 => ?_) (fun c9003 => ?_)
      · have hf := kp_p c9003 hf
        refine lv_aload_n hx hb dX3_signatureWithout_29 rfl (lv_at hl 0 rfl) ?_
        refine va_get (D := (dC, dI)) (ci := 3) (v := .ref h_numbers) (C := RX3) (T := TX3) (N := 4) hx hb hts iwX3 hown hK hP 0 rfl rfl 2 (by decide) (hts _ tw_103) (fun _ h9 => h9) rfl dX3_signatureWithout_30 ?_
        refine lv_iload hx hb dX3_signatureWithout_33 (lv_at hl 5 rfl) ?_
        obtain ⟨hq9004, hf⟩ := kp_t hf
        refine va_iald hx hb hK hP 2 0 rfl rfl hq9004 dX3_signatureWithout_35 ?_
        refine lv_istore (lv' := [(6, .int (h_numbers_v v5.toNatClampNeg)), (0, .ref h), (1, .int p0), (2, .int p1), (3, .int v3), (4, .int v4), (5, .int v5)]) hx hb dX3_signatureWithout_36 hl (by decide) rfl (fun ls hl => ?_)
        refine lv_iload_n hx hb dX3_signatureWithout_38 rfl (lv_at hl 4 rfl) ?_
        refine lv_iconst (v := 1) hx hb dX3_signatureWithout_39 (by decide) ?_
        refine lv_aload_n hx hb dX3_signatureWithout_40 rfl (lv_at hl 1 rfl) ?_
        refine va_get (D := (dC, dI)) (ci := 3) (v := .ref h_drawing) (C := RX3) (T := TX3) (N := 4) hx hb hts iwX3 hown hK hP 0 rfl rfl 0 (by decide) (hts _ tw_99) (fun _ h9 => h9) rfl dX3_signatureWithout_41 ?_
        refine va_getN (D := (dC, dI)) (ci := 1) (v := .ref h_drawing_sort) (C := RX1) (T := TX1) (N := 7) hx hb hts iwX1 hown hK hP 1 rfl rfl 0 (by decide) (kq_nf hG (RX3, 38, RX1, "sort", "[I", "CarDrawer") (by decide +kernel)) (fun _ h9 => h9) rfl dX3_signatureWithout_44 ?_
        refine lv_iload hx hb dX3_signatureWithout_47 (lv_at hl 0 rfl) ?_
        obtain ⟨hq9005, hf⟩ := kp_t hf
        refine va_iald hx hb hK hP 3 0 rfl rfl hq9005 dX3_signatureWithout_49 ?_
        refine lv_iconst (v := 4) hx hb dX3_signatureWithout_50 (by decide) ?_
        refine lv_irem hx hb dX3_signatureWithout_51 (by decide) ?_
        refine lv_ishl hx hb dX3_signatureWithout_52 ?_
        refine lv_ior hx hb dX3_signatureWithout_53 ?_
        refine lv_istore_n (lv' := [(3, .int (v3 ||| (1 <<< (((h_drawing_sort_v (h_numbers_v v5.toNatClampNeg).toNatClampNeg) - (h_drawing_sort_v (h_numbers_v v5.toNatClampNeg).toNatClampNeg) / 4 * 4) &&& 31)))), (6, .int (h_numbers_v v5.toNatClampNeg)), (0, .ref h), (1, .int p0), (2, .int p1), (4, .int v4), (5, .int v5)]) hx hb dX3_signatureWithout_54 rfl hl (by decide) rfl (fun ls hl => ?_)
        refine lv_iload_n hx hb dX3_signatureWithout_55 rfl (lv_at hl 0 rfl) ?_
        refine lv_iload hx hb dX3_signatureWithout_56 (lv_at hl 1 rfl) ?_
        refine lv_aload_n hx hb dX3_signatureWithout_58 rfl (lv_at hl 2 rfl) ?_
        refine va_get (D := (dC, dI)) (ci := 3) (v := .ref h_drawing) (C := RX3) (T := TX3) (N := 4) hx hb hts iwX3 hown hK hP 0 rfl rfl 0 (by decide) (hts _ tw_99) (fun _ h9 => h9) rfl dX3_signatureWithout_59 ?_
        refine va_getN (D := (dC, dI)) (ci := 1) (v := .int h_drawing_faultPart) (C := RX1) (T := TX1) (N := 7) hx hb hts iwX1 hown hK hP 1 rfl rfl 6 (by decide) (kq_nf hG (RX3, 41, RX1, "faultPart", "I", "CarDrawer") (by decide +kernel)) (fun _ h9 => h9) rfl dX3_signatureWithout_62 ?_
        refine lv_icmp_ne (tgt := 73) hx hb dX3_signatureWithout_65 (by decide) (fun c9006 => ?_) (fun c9006 => ?_)
        · have hf := kp_n c9006 hf
          refine lv_iconst (v := 0) hx hb dX3_signatureWithout_73 (by decide) ?_
          refine lv_ior hx hb dX3_signatureWithout_74 ?_
          refine lv_istore_n (lv' := [(3, .int ((v3 ||| (1 <<< (((h_drawing_sort_v (h_numbers_v v5.toNatClampNeg).toNatClampNeg) - (h_drawing_sort_v (h_numbers_v v5.toNatClampNeg).toNatClampNeg) / 4 * 4) &&& 31))) ||| 0)), (6, .int (h_numbers_v v5.toNatClampNeg)), (0, .ref h), (1, .int p0), (2, .int p1), (4, .int v4), (5, .int v5)]) hx hb dX3_signatureWithout_75 rfl hl (by decide) rfl (fun ls hl => ?_)
          refine lv_iload hx hb dX3_signatureWithout_76 (lv_at hl 5 rfl) ?_
          refine lv_aload_n hx hb dX3_signatureWithout_78 rfl (lv_at hl 2 rfl) ?_
          refine va_get (D := (dC, dI)) (ci := 3) (v := .ref h_drawing) (C := RX3) (T := TX3) (N := 4) hx hb hts iwX3 hown hK hP 0 rfl rfl 0 (by decide) (hts _ tw_99) (fun _ h9 => h9) rfl dX3_signatureWithout_79 ?_
          refine va_getN (D := (dC, dI)) (ci := 1) (v := .ref h_drawing_z) (C := RX1) (T := TX1) (N := 7) hx hb hts iwX1 hown hK hP 1 rfl rfl 3 (by decide) (kq_nf hG (RX3, 44, RX1, "z", "[I", "CarDrawer") (by decide +kernel)) (fun _ h9 => h9) rfl dX3_signatureWithout_82 ?_
          refine lv_iload hx hb dX3_signatureWithout_85 (lv_at hl 1 rfl) ?_
          refine va_iald hx hb hK hP 4 0 rfl rfl hq9005 dX3_signatureWithout_87 ?_
          refine lv_iadd hx hb dX3_signatureWithout_88 ?_
          refine lv_istore (lv' := [(4, .int (v4 + (h_drawing_z_v (h_numbers_v v5.toNatClampNeg).toNatClampNeg))), (3, .int ((v3 ||| (1 <<< (((h_drawing_sort_v (h_numbers_v v5.toNatClampNeg).toNatClampNeg) - (h_drawing_sort_v (h_numbers_v v5.toNatClampNeg).toNatClampNeg) / 4 * 4) &&& 31))) ||| 0)), (6, .int (h_numbers_v v5.toNatClampNeg)), (0, .ref h), (1, .int p0), (2, .int p1), (5, .int v5)]) hx hb dX3_signatureWithout_89 hl (by decide) rfl (fun ls hl => ?_)
          refine lv_iinc (v := v5 + 1) (lv' := [(5, .int (v5 + 1)), (4, .int (v4 + (h_drawing_z_v (h_numbers_v v5.toNatClampNeg).toNatClampNeg))), (3, .int ((v3 ||| (1 <<< (((h_drawing_sort_v (h_numbers_v v5.toNatClampNeg).toNatClampNeg) - (h_drawing_sort_v (h_numbers_v v5.toNatClampNeg).toNatClampNeg) / 4 * 4) &&& 31))) ||| 0)), (6, .int (h_numbers_v v5.toNatClampNeg)), (0, .ref h), (1, .int p0), (2, .int p1)]) hx hb dX3_signatureWithout_91 hl (k := 6) rfl rfl (by decide) rfl (fun ls hl => ?_)
          refine lv_goto (tgt := 8) hx hb dX3_signatureWithout_94 (by decide) ?_
          exact ih8 _ _ _ ⟨(v3 ||| (1 <<< (((h_drawing_sort_v (h_numbers_v v5.toNatClampNeg).toNatClampNeg) - (h_drawing_sort_v (h_numbers_v v5.toNatClampNeg).toNatClampNeg) / 4 * 4) &&& 31))) ||| 0, v4 + (h_drawing_z_v (h_numbers_v v5.toNatClampNeg).toNatClampNeg), v5 + 1, ls, rfl, lv_sub hl [4, 5, 6, 2, 1, 0] rfl, hP, hD, hS, hf⟩
        · have hf := kp_p c9006 hf
          refine lv_bipush (v := 16) hx hb dX3_signatureWithout_68 (by decide) ?_
          refine lv_goto (tgt := 74) hx hb dX3_signatureWithout_70 (by decide) ?_
          refine lv_ior hx hb dX3_signatureWithout_74 ?_
          refine lv_istore_n (lv' := [(3, .int ((v3 ||| (1 <<< (((h_drawing_sort_v (h_numbers_v v5.toNatClampNeg).toNatClampNeg) - (h_drawing_sort_v (h_numbers_v v5.toNatClampNeg).toNatClampNeg) / 4 * 4) &&& 31))) ||| 16)), (6, .int (h_numbers_v v5.toNatClampNeg)), (0, .ref h), (1, .int p0), (2, .int p1), (4, .int v4), (5, .int v5)]) hx hb dX3_signatureWithout_75 rfl hl (by decide) rfl (fun ls hl => ?_)
          refine lv_iload hx hb dX3_signatureWithout_76 (lv_at hl 5 rfl) ?_
          refine lv_aload_n hx hb dX3_signatureWithout_78 rfl (lv_at hl 2 rfl) ?_
          refine va_get (D := (dC, dI)) (ci := 3) (v := .ref h_drawing) (C := RX3) (T := TX3) (N := 4) hx hb hts iwX3 hown hK hP 0 rfl rfl 0 (by decide) (hts _ tw_99) (fun _ h9 => h9) rfl dX3_signatureWithout_79 ?_
          refine va_getN (D := (dC, dI)) (ci := 1) (v := .ref h_drawing_z) (C := RX1) (T := TX1) (N := 7) hx hb hts iwX1 hown hK hP 1 rfl rfl 3 (by decide) (kq_nf hG (RX3, 44, RX1, "z", "[I", "CarDrawer") (by decide +kernel)) (fun _ h9 => h9) rfl dX3_signatureWithout_82 ?_
          refine lv_iload hx hb dX3_signatureWithout_85 (lv_at hl 1 rfl) ?_
          refine va_iald hx hb hK hP 4 0 rfl rfl hq9005 dX3_signatureWithout_87 ?_
          refine lv_iadd hx hb dX3_signatureWithout_88 ?_
          refine lv_istore (lv' := [(4, .int (v4 + (h_drawing_z_v (h_numbers_v v5.toNatClampNeg).toNatClampNeg))), (3, .int ((v3 ||| (1 <<< (((h_drawing_sort_v (h_numbers_v v5.toNatClampNeg).toNatClampNeg) - (h_drawing_sort_v (h_numbers_v v5.toNatClampNeg).toNatClampNeg) / 4 * 4) &&& 31))) ||| 16)), (6, .int (h_numbers_v v5.toNatClampNeg)), (0, .ref h), (1, .int p0), (2, .int p1), (5, .int v5)]) hx hb dX3_signatureWithout_89 hl (by decide) rfl (fun ls hl => ?_)
          refine lv_iinc (v := v5 + 1) (lv' := [(5, .int (v5 + 1)), (4, .int (v4 + (h_drawing_z_v (h_numbers_v v5.toNatClampNeg).toNatClampNeg))), (3, .int ((v3 ||| (1 <<< (((h_drawing_sort_v (h_numbers_v v5.toNatClampNeg).toNatClampNeg) - (h_drawing_sort_v (h_numbers_v v5.toNatClampNeg).toNatClampNeg) / 4 * 4) &&& 31))) ||| 16)), (6, .int (h_numbers_v v5.toNatClampNeg)), (0, .ref h), (1, .int p0), (2, .int p1)]) hx hb dX3_signatureWithout_91 hl (k := 6) rfl rfl (by decide) rfl (fun ls hl => ?_)
          refine lv_goto (tgt := 8) hx hb dX3_signatureWithout_94 (by decide) ?_
          exact ih8 _ _ _ ⟨(v3 ||| (1 <<< (((h_drawing_sort_v (h_numbers_v v5.toNatClampNeg).toNatClampNeg) - (h_drawing_sort_v (h_numbers_v v5.toNatClampNeg).toNatClampNeg) / 4 * 4) &&& 31))) ||| 16, v4 + (h_drawing_z_v (h_numbers_v v5.toNatClampNeg).toNatClampNeg), v5 + 1, ls, rfl, lv_sub hl [4, 5, 6, 2, 1, 0] rfl, hP, hD, hS, hf⟩
      · have hf := kp_n c9003 hf
        refine lv_iload hx hb dX3_signatureWithout_23 (lv_at hl 5 rfl) ?_
        refine lv_iload_n hx hb dX3_signatureWithout_25 rfl (lv_at hl 2 rfl) ?_
        refine lv_icmp_lt (tgt := 91) hx hb dX3_signatureWithout_26 (by decide) (fun c9009 => ?_) (fun c9009 => ?_)
        · have hf := kp_p c9009 hf
          refine lv_iinc (v := v5 + 1) (lv' := [(5, .int (v5 + 1)), (0, .ref h), (1, .int p0), (2, .int p1), (3, .int v3), (4, .int v4)]) hx hb dX3_signatureWithout_91 hl (k := 5) rfl rfl (by decide) rfl (fun ls hl => ?_)
          refine lv_goto (tgt := 8) hx hb dX3_signatureWithout_94 (by decide) ?_
          exact ih8 _ _ _ ⟨v3, v4, v5 + 1, ls, rfl, lv_sub hl [1, 2, 3, 4, 5, 0] rfl, hP, hD, hS, hf⟩
        · have hf := kp_n c9009 hf
          refine lv_aload_n hx hb dX3_signatureWithout_29 rfl (lv_at hl 0 rfl) ?_
          refine va_get (D := (dC, dI)) (ci := 3) (v := .ref h_numbers) (C := RX3) (T := TX3) (N := 4) hx hb hts iwX3 hown hK hP 0 rfl rfl 2 (by decide) (hts _ tw_103) (fun _ h9 => h9) rfl dX3_signatureWithout_30 ?_
          refine lv_iload hx hb dX3_signatureWithout_33 (lv_at hl 5 rfl) ?_
          obtain ⟨hq9010, hf⟩ := kp_t hf
          refine va_iald hx hb hK hP 2 0 rfl rfl hq9010 dX3_signatureWithout_35 ?_
          refine lv_istore (lv' := [(6, .int (h_numbers_v v5.toNatClampNeg)), (0, .ref h), (1, .int p0), (2, .int p1), (3, .int v3), (4, .int v4), (5, .int v5)]) hx hb dX3_signatureWithout_36 hl (by decide) rfl (fun ls hl => ?_)
          refine lv_iload_n hx hb dX3_signatureWithout_38 rfl (lv_at hl 4 rfl) ?_
          refine lv_iconst (v := 1) hx hb dX3_signatureWithout_39 (by decide) ?_
          refine lv_aload_n hx hb dX3_signatureWithout_40 rfl (lv_at hl 1 rfl) ?_
          refine va_get (D := (dC, dI)) (ci := 3) (v := .ref h_drawing) (C := RX3) (T := TX3) (N := 4) hx hb hts iwX3 hown hK hP 0 rfl rfl 0 (by decide) (hts _ tw_99) (fun _ h9 => h9) rfl dX3_signatureWithout_41 ?_
          refine va_getN (D := (dC, dI)) (ci := 1) (v := .ref h_drawing_sort) (C := RX1) (T := TX1) (N := 7) hx hb hts iwX1 hown hK hP 1 rfl rfl 0 (by decide) (kq_nf hG (RX3, 38, RX1, "sort", "[I", "CarDrawer") (by decide +kernel)) (fun _ h9 => h9) rfl dX3_signatureWithout_44 ?_
          refine lv_iload hx hb dX3_signatureWithout_47 (lv_at hl 0 rfl) ?_
          obtain ⟨hq9011, hf⟩ := kp_t hf
          refine va_iald hx hb hK hP 3 0 rfl rfl hq9011 dX3_signatureWithout_49 ?_
          refine lv_iconst (v := 4) hx hb dX3_signatureWithout_50 (by decide) ?_
          refine lv_irem hx hb dX3_signatureWithout_51 (by decide) ?_
          refine lv_ishl hx hb dX3_signatureWithout_52 ?_
          refine lv_ior hx hb dX3_signatureWithout_53 ?_
          refine lv_istore_n (lv' := [(3, .int (v3 ||| (1 <<< (((h_drawing_sort_v (h_numbers_v v5.toNatClampNeg).toNatClampNeg) - (h_drawing_sort_v (h_numbers_v v5.toNatClampNeg).toNatClampNeg) / 4 * 4) &&& 31)))), (6, .int (h_numbers_v v5.toNatClampNeg)), (0, .ref h), (1, .int p0), (2, .int p1), (4, .int v4), (5, .int v5)]) hx hb dX3_signatureWithout_54 rfl hl (by decide) rfl (fun ls hl => ?_)
          refine lv_iload_n hx hb dX3_signatureWithout_55 rfl (lv_at hl 0 rfl) ?_
          refine lv_iload hx hb dX3_signatureWithout_56 (lv_at hl 1 rfl) ?_
          refine lv_aload_n hx hb dX3_signatureWithout_58 rfl (lv_at hl 2 rfl) ?_
          refine va_get (D := (dC, dI)) (ci := 3) (v := .ref h_drawing) (C := RX3) (T := TX3) (N := 4) hx hb hts iwX3 hown hK hP 0 rfl rfl 0 (by decide) (hts _ tw_99) (fun _ h9 => h9) rfl dX3_signatureWithout_59 ?_
          refine va_getN (D := (dC, dI)) (ci := 1) (v := .int h_drawing_faultPart) (C := RX1) (T := TX1) (N := 7) hx hb hts iwX1 hown hK hP 1 rfl rfl 6 (by decide) (kq_nf hG (RX3, 41, RX1, "faultPart", "I", "CarDrawer") (by decide +kernel)) (fun _ h9 => h9) rfl dX3_signatureWithout_62 ?_
          refine lv_icmp_ne (tgt := 73) hx hb dX3_signatureWithout_65 (by decide) (fun c9012 => ?_) (fun c9012 => ?_)
          · have hf := kp_n c9012 hf
            refine lv_iconst (v := 0) hx hb dX3_signatureWithout_73 (by decide) ?_
            refine lv_ior hx hb dX3_signatureWithout_74 ?_
            refine lv_istore_n (lv' := [(3, .int ((v3 ||| (1 <<< (((h_drawing_sort_v (h_numbers_v v5.toNatClampNeg).toNatClampNeg) - (h_drawing_sort_v (h_numbers_v v5.toNatClampNeg).toNatClampNeg) / 4 * 4) &&& 31))) ||| 0)), (6, .int (h_numbers_v v5.toNatClampNeg)), (0, .ref h), (1, .int p0), (2, .int p1), (4, .int v4), (5, .int v5)]) hx hb dX3_signatureWithout_75 rfl hl (by decide) rfl (fun ls hl => ?_)
            refine lv_iload hx hb dX3_signatureWithout_76 (lv_at hl 5 rfl) ?_
            refine lv_aload_n hx hb dX3_signatureWithout_78 rfl (lv_at hl 2 rfl) ?_
            refine va_get (D := (dC, dI)) (ci := 3) (v := .ref h_drawing) (C := RX3) (T := TX3) (N := 4) hx hb hts iwX3 hown hK hP 0 rfl rfl 0 (by decide) (hts _ tw_99) (fun _ h9 => h9) rfl dX3_signatureWithout_79 ?_
            refine va_getN (D := (dC, dI)) (ci := 1) (v := .ref h_drawing_z) (C := RX1) (T := TX1) (N := 7) hx hb hts iwX1 hown hK hP 1 rfl rfl 3 (by decide) (kq_nf hG (RX3, 44, RX1, "z", "[I", "CarDrawer") (by decide +kernel)) (fun _ h9 => h9) rfl dX3_signatureWithout_82 ?_
            refine lv_iload hx hb dX3_signatureWithout_85 (lv_at hl 1 rfl) ?_
            refine va_iald hx hb hK hP 4 0 rfl rfl hq9011 dX3_signatureWithout_87 ?_
            refine lv_iadd hx hb dX3_signatureWithout_88 ?_
            refine lv_istore (lv' := [(4, .int (v4 + (h_drawing_z_v (h_numbers_v v5.toNatClampNeg).toNatClampNeg))), (3, .int ((v3 ||| (1 <<< (((h_drawing_sort_v (h_numbers_v v5.toNatClampNeg).toNatClampNeg) - (h_drawing_sort_v (h_numbers_v v5.toNatClampNeg).toNatClampNeg) / 4 * 4) &&& 31))) ||| 0)), (6, .int (h_numbers_v v5.toNatClampNeg)), (0, .ref h), (1, .int p0), (2, .int p1), (5, .int v5)]) hx hb dX3_signatureWithout_89 hl (by decide) rfl (fun ls hl => ?_)
            refine lv_iinc (v := v5 + 1) (lv' := [(5, .int (v5 + 1)), (4, .int (v4 + (h_drawing_z_v (h_numbers_v v5.toNatClampNeg).toNatClampNeg))), (3, .int ((v3 ||| (1 <<< (((h_drawing_sort_v (h_numbers_v v5.toNatClampNeg).toNatClampNeg) - (h_drawing_sort_v (h_numbers_v v5.toNatClampNeg).toNatClampNeg) / 4 * 4) &&& 31))) ||| 0)), (6, .int (h_numbers_v v5.toNatClampNeg)), (0, .ref h), (1, .int p0), (2, .int p1)]) hx hb dX3_signatureWithout_91 hl (k := 6) rfl rfl (by decide) rfl (fun ls hl => ?_)
            refine lv_goto (tgt := 8) hx hb dX3_signatureWithout_94 (by decide) ?_
            exact ih8 _ _ _ ⟨(v3 ||| (1 <<< (((h_drawing_sort_v (h_numbers_v v5.toNatClampNeg).toNatClampNeg) - (h_drawing_sort_v (h_numbers_v v5.toNatClampNeg).toNatClampNeg) / 4 * 4) &&& 31))) ||| 0, v4 + (h_drawing_z_v (h_numbers_v v5.toNatClampNeg).toNatClampNeg), v5 + 1, ls, rfl, lv_sub hl [4, 5, 6, 2, 1, 0] rfl, hP, hD, hS, hf⟩
          · have hf := kp_p c9012 hf
            refine lv_bipush (v := 16) hx hb dX3_signatureWithout_68 (by decide) ?_
            refine lv_goto (tgt := 74) hx hb dX3_signatureWithout_70 (by decide) ?_
            refine lv_ior hx hb dX3_signatureWithout_74 ?_
            refine lv_istore_n (lv' := [(3, .int ((v3 ||| (1 <<< (((h_drawing_sort_v (h_numbers_v v5.toNatClampNeg).toNatClampNeg) - (h_drawing_sort_v (h_numbers_v v5.toNatClampNeg).toNatClampNeg) / 4 * 4) &&& 31))) ||| 16)), (6, .int (h_numbers_v v5.toNatClampNeg)), (0, .ref h), (1, .int p0), (2, .int p1), (4, .int v4), (5, .int v5)]) hx hb dX3_signatureWithout_75 rfl hl (by decide) rfl (fun ls hl => ?_)
            refine lv_iload hx hb dX3_signatureWithout_76 (lv_at hl 5 rfl) ?_
            refine lv_aload_n hx hb dX3_signatureWithout_78 rfl (lv_at hl 2 rfl) ?_
            refine va_get (D := (dC, dI)) (ci := 3) (v := .ref h_drawing) (C := RX3) (T := TX3) (N := 4) hx hb hts iwX3 hown hK hP 0 rfl rfl 0 (by decide) (hts _ tw_99) (fun _ h9 => h9) rfl dX3_signatureWithout_79 ?_
            refine va_getN (D := (dC, dI)) (ci := 1) (v := .ref h_drawing_z) (C := RX1) (T := TX1) (N := 7) hx hb hts iwX1 hown hK hP 1 rfl rfl 3 (by decide) (kq_nf hG (RX3, 44, RX1, "z", "[I", "CarDrawer") (by decide +kernel)) (fun _ h9 => h9) rfl dX3_signatureWithout_82 ?_
            refine lv_iload hx hb dX3_signatureWithout_85 (lv_at hl 1 rfl) ?_
            refine va_iald hx hb hK hP 4 0 rfl rfl hq9011 dX3_signatureWithout_87 ?_
            refine lv_iadd hx hb dX3_signatureWithout_88 ?_
            refine lv_istore (lv' := [(4, .int (v4 + (h_drawing_z_v (h_numbers_v v5.toNatClampNeg).toNatClampNeg))), (3, .int ((v3 ||| (1 <<< (((h_drawing_sort_v (h_numbers_v v5.toNatClampNeg).toNatClampNeg) - (h_drawing_sort_v (h_numbers_v v5.toNatClampNeg).toNatClampNeg) / 4 * 4) &&& 31))) ||| 16)), (6, .int (h_numbers_v v5.toNatClampNeg)), (0, .ref h), (1, .int p0), (2, .int p1), (5, .int v5)]) hx hb dX3_signatureWithout_89 hl (by decide) rfl (fun ls hl => ?_)
            refine lv_iinc (v := v5 + 1) (lv' := [(5, .int (v5 + 1)), (4, .int (v4 + (h_drawing_z_v (h_numbers_v v5.toNatClampNeg).toNatClampNeg))), (3, .int ((v3 ||| (1 <<< (((h_drawing_sort_v (h_numbers_v v5.toNatClampNeg).toNatClampNeg) - (h_drawing_sort_v (h_numbers_v v5.toNatClampNeg).toNatClampNeg) / 4 * 4) &&& 31))) ||| 16)), (6, .int (h_numbers_v v5.toNatClampNeg)), (0, .ref h), (1, .int p0), (2, .int p1)]) hx hb dX3_signatureWithout_91 hl (k := 6) rfl rfl (by decide) rfl (fun ls hl => ?_)
            refine lv_goto (tgt := 8) hx hb dX3_signatureWithout_94 (by decide) ?_
            exact ih8 _ _ _ ⟨(v3 ||| (1 <<< (((h_drawing_sort_v (h_numbers_v v5.toNatClampNeg).toNatClampNeg) - (h_drawing_sort_v (h_numbers_v v5.toNatClampNeg).toNatClampNeg) / 4 * 4) &&& 31))) ||| 16, v4 + (h_drawing_z_v (h_numbers_v v5.toNatClampNeg).toNatClampNeg), v5 + 1, ls, rfl, lv_sub hl [4, 5, 6, 2, 1, 0] rfl, hP, hD, hS, hf⟩

def f_X3_signature (h_count : Int32) (h_drawing_faultPart : Int32) (h_numbers_v : Nat → Int32) (h_drawing_sort_v : Nat → Int32) (h_drawing_z_v : Nat → Int32) : Option (Int32) :=
    (f_X3_signatureWithout h_count h_drawing_faultPart h_numbers_v h_drawing_sort_v h_drawing_z_v 0 0).bind fun r1 =>
    some r1
set_option maxHeartbeats 4000000 in
set_option maxRecDepth 100000 in
theorem c_X3_signature (l : Launch) (dC : Nat → ClassId) (dI : Nat → Nat → Nat) (cA : Nat → ClassId) (tt : Nat → Nat) (h h_drawing h_numbers h_drawing_sort h_drawing_z h_saying h_drawing_x h_drawing_y : Nat) (sz : Nat) (h_count : Int32) (h_drawing_count : Int32) (h_drawing_fault : Int32) (h_drawing_faultPart : Int32) (h_numbers_v : Nat → Int32) (h_drawing_sort_v : Nat → Int32) (h_drawing_z_v : Nat → Int32) (o : Int32) (hf : f_X3_signature h_count h_drawing_faultPart h_numbers_v h_drawing_sort_v h_drawing_z_v = some o) : Met l yX3_signature wX3_signature ({ frames := 1, cells := 0, slots := 0, locals := 26 }) (kq_Pc dC dI cA tt [.ref h] [(h, .inr (3, [.ref h_drawing, .ref h_saying, .ref h_numbers, .int h_count])), (h_drawing, .inr (1, [.ref h_drawing_sort, .ref h_drawing_x, .ref h_drawing_y, .ref h_drawing_z, .int h_drawing_count, .int h_drawing_fault, .int h_drawing_faultPart])), (h_numbers, .inl (cA 0, 40, .inl h_numbers_v)), (h_drawing_sort, .inl (cA 0, 40, .inl h_drawing_sort_v)), (h_drawing_z, .inl (cA 0, 40, .inl h_drawing_z_v))] sz) (va_Qi (fun r (_ : Unit) => r = o) (fun _ t => kq_B dC dI [(h, .inr (3, [.ref h_drawing, .ref h_saying, .ref h_numbers, .int h_count])), (h_drawing, .inr (1, [.ref h_drawing_sort, .ref h_drawing_x, .ref h_drawing_y, .ref h_drawing_z, .int h_drawing_count, .int h_drawing_fault, .int h_drawing_faultPart])), (h_numbers, .inl (cA 0, 40, .inl h_numbers_v)), (h_drawing_sort, .inl (cA 0, 40, .inl h_drawing_sort_v)), (h_drawing_z, .inl (cA 0, 40, .inl h_drawing_z_v))] (va_A [(h, .inr (3, [.ref h_drawing, .ref h_saying, .ref h_numbers, .int h_count])), (h_drawing, .inr (1, [.ref h_drawing_sort, .ref h_drawing_x, .ref h_drawing_y, .ref h_drawing_z, .int h_drawing_count, .int h_drawing_fault, .int h_drawing_faultPart])), (h_numbers, .inl (cA 0, 40, .inl h_numbers_v)), (h_drawing_sort, .inl (cA 0, 40, .inl h_drawing_sort_v)), (h_drawing_z, .inl (cA 0, 40, .inl h_drawing_z_v))] sz) t) (va_A [(h, .inr (3, [.ref h_drawing, .ref h_saying, .ref h_numbers, .int h_count])), (h_drawing, .inr (1, [.ref h_drawing_sort, .ref h_drawing_x, .ref h_drawing_y, .ref h_drawing_z, .int h_drawing_count, .int h_drawing_fault, .int h_drawing_faultPart])), (h_numbers, .inl (cA 0, 40, .inl h_numbers_v)), (h_drawing_sort, .inl (cA 0, 40, .inl h_drawing_sort_v)), (h_drawing_z, .inl (cA 0, 40, .inl h_drawing_z_v))] sz)) 0 0 (va_A [(h, .inr (3, [.ref h_drawing, .ref h_saying, .ref h_numbers, .int h_count])), (h_drawing, .inr (1, [.ref h_drawing_sort, .ref h_drawing_x, .ref h_drawing_y, .ref h_drawing_z, .int h_drawing_count, .int h_drawing_fault, .int h_drawing_faultPart])), (h_numbers, .inl (cA 0, 40, .inl h_numbers_v)), (h_drawing_sort, .inl (cA 0, 40, .inl h_drawing_sort_v)), (h_drawing_z, .inl (cA 0, 40, .inl h_drawing_z_v))] sz) := by
  refine Met.ofW (cc := cX3_signature) (maxL := 1) (ret := (some .int)) (by decide) rfl ?_
  intro p e s m args below meth c s₁ B hml hv
  obtain ⟨rfl, hsz, hP, hD0, hG, hZ⟩ := hv
  have hx := B.exec
  have hb := B.bytes
  have hr := B.returns
  have hts : ∀ w ∈ kq_T, w.before _ s = true := fun w h => atoms_spec (ws := wX3_signature) B.pre w (List.mem_cons_of_mem _ h)
  have hown : s.vm.findClass RX3 = some m.cls := findClass_of_methodNamed B.named
  have hlocks := B.notSynchronized
  have hK := hG.1
  subst hsz
  have hD := hD0.self (sz := s.heap.size)
  generalize hAe : va_A [(h, .inr (3, [.ref h_drawing, .ref h_saying, .ref h_numbers, .int h_count])), (h_drawing, .inr (1, [.ref h_drawing_sort, .ref h_drawing_x, .ref h_drawing_y, .ref h_drawing_z, .int h_drawing_count, .int h_drawing_fault, .int h_drawing_faultPart])), (h_numbers, .inl (cA 0, 40, .inl h_numbers_v)), (h_drawing_sort, .inl (cA 0, 40, .inl h_drawing_sort_v)), (h_drawing_z, .inl (cA 0, 40, .inl h_drawing_z_v))] s.heap.size = A at hD hZ ⊢
  have hA : ∀ q : Nat, s.heap.size ≤ q → A q := fun q h => by rw [← hAe]; exact Or.inr h
  have hl := lv_entry [.ref h] (n := 1) (Nat.le_of_ble_eq_true rfl)
  rw [lg_entry_eq]
  generalize (lg_sl [.ref h] ++ List.replicate (1 - (lg_sl [.ref h]).length) Slot.unset).toArray = ls at hl ⊢
  have hl : lv_has ls 1 [(0, .ref h)] := hl
  obtain ⟨H, hHe⟩ : ∃ H : Heap, H = s.heap := ⟨_, rfl⟩
  have hP : va_P (dC, dI) vwCl [(h, .inr (3, [.ref h_drawing, .ref h_saying, .ref h_numbers, .int h_count])), (h_drawing, .inr (1, [.ref h_drawing_sort, .ref h_drawing_x, .ref h_drawing_y, .ref h_drawing_z, .int h_drawing_count, .int h_drawing_fault, .int h_drawing_faultPart])), (h_numbers, .inl (cA 0, 40, .inl h_numbers_v)), (h_drawing_sort, .inl (cA 0, 40, .inl h_drawing_sort_v)), (h_drawing_z, .inl (cA 0, 40, .inl h_drawing_z_v))] H := by rw [hHe]; exact hP
  have hS : va_S A s.heap H [] := by rw [hHe]; exact va_S.rf
  rw [← hHe]
  unfold f_X3_signature at hf
  refine lv_aload_n hx hb dX3_signature_0 rfl (lv_at hl 0 rfl) ?_
  refine lv_iconst (v := 0) hx hb dX3_signature_1 (by decide) ?_
  refine lv_iconst (v := 0) hx hb dX3_signature_2 (by decide) ?_
  obtain ⟨r1, hr1, hf⟩ := kp_b hf
  have hPc := hP.sub (ws' := [(h, .inr (3, [.ref h_drawing, .ref h_saying, .ref h_numbers, .int h_count])), (h_drawing, .inr (1, [.ref h_drawing_sort, .ref h_drawing_x, .ref h_drawing_y, .ref h_drawing_z, .int h_drawing_count, .int h_drawing_fault, .int h_drawing_faultPart])), (h_numbers, .inl (cA 0, 40, .inl h_numbers_v)), (h_drawing_sort, .inl (cA 0, 40, .inl h_drawing_sort_v)), (h_drawing_z, .inl (cA 0, 40, .inl h_drawing_z_v))]) [0, 1, 2, 3, 4] rfl
  have hDc := hD.sub (ws' := [(h, .inr (3, [.ref h_drawing, .ref h_saying, .ref h_numbers, .int h_count])), (h_drawing, .inr (1, [.ref h_drawing_sort, .ref h_drawing_x, .ref h_drawing_y, .ref h_drawing_z, .int h_drawing_count, .int h_drawing_fault, .int h_drawing_faultPart])), (h_numbers, .inl (cA 0, 40, .inl h_numbers_v)), (h_drawing_sort, .inl (cA 0, 40, .inl h_drawing_sort_v)), (h_drawing_z, .inl (cA 0, 40, .inl h_drawing_z_v))]) [0, 1, 2, 3, 4] (by decide) rfl
  have hFc := va_free (wc := [(h, .inr (3, [.ref h_drawing, .ref h_saying, .ref h_numbers, .int h_count])), (h_drawing, .inr (1, [.ref h_drawing_sort, .ref h_drawing_x, .ref h_drawing_y, .ref h_drawing_z, .int h_drawing_count, .int h_drawing_fault, .int h_drawing_faultPart])), (h_numbers, .inl (cA 0, 40, .inl h_numbers_v)), (h_drawing_sort, .inl (cA 0, 40, .inl h_drawing_sort_v)), (h_drawing_z, .inl (cA 0, 40, .inl h_drawing_z_v))]) hD hS hA [0, 1, 2, 3, 4] rfl
  refine va_calli (va_runV (As := [.int 0, .int 0]) (rest := []) ⟨hx, hb, hml, hown, hts⟩ (c_X3_signatureWithout l dC dI cA tt h h_drawing h_numbers h_drawing_sort h_drawing_z h_saying h_drawing_x h_drawing_y H.size h_count h_drawing_count h_drawing_fault h_drawing_faultPart h_numbers_v h_drawing_sort_v h_drawing_z_v 0 0 r1 hr1) (cwV 2 hts (kq_gV tw_247 tw_249 tw_7 tw_22 tw_250) rfl rfl rfl (by decide +kernel) ⟨Nat.le_of_ble_eq_true rfl, Nat.le_of_ble_eq_true rfl⟩) ⟨kq_blind, va_recv hK hP (ci := 3) (q0 := 0) rfl rfl, kq_pre hG hZ hS hPc hDc hFc⟩ rfl rfl hl.1 rfl (lv_room (Nat.le_of_ble_eq_true rfl)) dX3_signature_3 ⟨Nat.le_of_ble_eq_true rfl, Nat.le_of_ble_eq_true rfl⟩) hS (fun q _ h => hFc q h) hFc (fun rv u t H1 locs ht hvm hw hB hz1 hk1 hS => ?_)
  obtain ⟨hP1, hD1⟩ := hB
  rw [ht] at hP1
  have hw := hw.symm
  subst hw
  obtain ⟨hP, hD⟩ := va_join (wr := []) (w1 := [(h, .inr (3, [.ref h_drawing, .ref h_saying, .ref h_numbers, .int h_count])), (h_drawing, .inr (1, [.ref h_drawing_sort, .ref h_drawing_x, .ref h_drawing_y, .ref h_drawing_z, .int h_drawing_count, .int h_drawing_fault, .int h_drawing_faultPart])), (h_numbers, .inl (cA 0, 40, .inl h_numbers_v)), (h_drawing_sort, .inl (cA 0, 40, .inl h_drawing_sort_v)), (h_drawing_z, .inl (cA 0, 40, .inl h_drawing_z_v))]) hP hD [0, 1, 2, 3, 4] [] rfl rfl (by decide) (by decide) hk1 hFc hP1 hD1
  have hP : va_P (dC, dI) vwCl [(h, .inr (3, [.ref h_drawing, .ref h_saying, .ref h_numbers, .int h_count])), (h_drawing, .inr (1, [.ref h_drawing_sort, .ref h_drawing_x, .ref h_drawing_y, .ref h_drawing_z, .int h_drawing_count, .int h_drawing_fault, .int h_drawing_faultPart])), (h_numbers, .inl (cA 0, 40, .inl h_numbers_v)), (h_drawing_sort, .inl (cA 0, 40, .inl h_drawing_sort_v)), (h_drawing_z, .inl (cA 0, 40, .inl h_drawing_z_v))] H1 := hP.sub [0, 1, 2, 3, 4] rfl
  have hD : va_D A [(h, .inr (3, [.ref h_drawing, .ref h_saying, .ref h_numbers, .int h_count])), (h_drawing, .inr (1, [.ref h_drawing_sort, .ref h_drawing_x, .ref h_drawing_y, .ref h_drawing_z, .int h_drawing_count, .int h_drawing_fault, .int h_drawing_faultPart])), (h_numbers, .inl (cA 0, 40, .inl h_numbers_v)), (h_drawing_sort, .inl (cA 0, 40, .inl h_drawing_sort_v)), (h_drawing_z, .inl (cA 0, 40, .inl h_drawing_z_v))] := hD.sub [0, 1, 2, 3, 4] (by decide) rfl
  generalize H1 = H at hP hS ⊢
  have eo := Option.some.inj hf
  subst eo
  exact W.iret (v := r1) hx hb hr (fun t ht hW => ⟨⟨_, (), rfl, rfl, kq_mk ht hP hD⟩, hS.F ht⟩) hS.2.2 dX3_signature_6

def f_X3_canGo (h_count : Int32) (h_drawing_faultPart : Int32) (h_numbers_v : Nat → Int32) (h_drawing_sort_v : Nat → Int32) (h_drawing_z_v : Nat → Int32) (h_saying_staying_v : Nat → Int32) (p0 : Int32) (p1 : Int32) : Option (Int32) :=
    (if h_count ≤ (p1 - p0) then
    some 0
    else
    (f_X3_signatureWithout h_count h_drawing_faultPart h_numbers_v h_drawing_sort_v h_drawing_z_v p0 p1).bind fun r2 =>
    (f_X2_keeps h_saying_staying_v r2).bind fun r3 =>
    (if r3 = 0 then
    some 0
    else
    some 1))
set_option maxHeartbeats 4000000 in
set_option maxRecDepth 100000 in
theorem c_X3_canGo (l : Launch) (dC : Nat → ClassId) (dI : Nat → Nat → Nat) (cA : Nat → ClassId) (tt : Nat → Nat) (h h_drawing h_saying h_numbers h_drawing_sort h_drawing_z h_saying_staying h_drawing_x h_drawing_y : Nat) (sz : Nat) (h_count : Int32) (h_drawing_count : Int32) (h_drawing_fault : Int32) (h_drawing_faultPart : Int32) (h_numbers_v : Nat → Int32) (h_drawing_sort_v : Nat → Int32) (h_drawing_z_v : Nat → Int32) (h_saying_staying_v : Nat → Int32) (p0 : Int32) (p1 : Int32) (o : Int32) (hf : f_X3_canGo h_count h_drawing_faultPart h_numbers_v h_drawing_sort_v h_drawing_z_v h_saying_staying_v p0 p1 = some o) : Met l yX3_canGo wX3_canGo ({ frames := 2, cells := 0, slots := 0, locals := 41 }) (kq_Pc dC dI cA tt [.ref h, .int p0, .int p1] [(h, .inr (3, [.ref h_drawing, .ref h_saying, .ref h_numbers, .int h_count])), (h_drawing, .inr (1, [.ref h_drawing_sort, .ref h_drawing_x, .ref h_drawing_y, .ref h_drawing_z, .int h_drawing_count, .int h_drawing_fault, .int h_drawing_faultPart])), (h_saying, .inr (2, [.ref h_saying_staying])), (h_numbers, .inl (cA 0, 40, .inl h_numbers_v)), (h_drawing_sort, .inl (cA 0, 40, .inl h_drawing_sort_v)), (h_drawing_z, .inl (cA 0, 40, .inl h_drawing_z_v)), (h_saying_staying, .inl (cA 1, 64, .inl h_saying_staying_v))] sz) (va_Qi (fun r (_ : Unit) => r = o) (fun _ t => kq_B dC dI [(h, .inr (3, [.ref h_drawing, .ref h_saying, .ref h_numbers, .int h_count])), (h_drawing, .inr (1, [.ref h_drawing_sort, .ref h_drawing_x, .ref h_drawing_y, .ref h_drawing_z, .int h_drawing_count, .int h_drawing_fault, .int h_drawing_faultPart])), (h_saying, .inr (2, [.ref h_saying_staying])), (h_numbers, .inl (cA 0, 40, .inl h_numbers_v)), (h_drawing_sort, .inl (cA 0, 40, .inl h_drawing_sort_v)), (h_drawing_z, .inl (cA 0, 40, .inl h_drawing_z_v)), (h_saying_staying, .inl (cA 1, 64, .inl h_saying_staying_v))] (va_A [(h, .inr (3, [.ref h_drawing, .ref h_saying, .ref h_numbers, .int h_count])), (h_drawing, .inr (1, [.ref h_drawing_sort, .ref h_drawing_x, .ref h_drawing_y, .ref h_drawing_z, .int h_drawing_count, .int h_drawing_fault, .int h_drawing_faultPart])), (h_saying, .inr (2, [.ref h_saying_staying])), (h_numbers, .inl (cA 0, 40, .inl h_numbers_v)), (h_drawing_sort, .inl (cA 0, 40, .inl h_drawing_sort_v)), (h_drawing_z, .inl (cA 0, 40, .inl h_drawing_z_v)), (h_saying_staying, .inl (cA 1, 64, .inl h_saying_staying_v))] sz) t) (va_A [(h, .inr (3, [.ref h_drawing, .ref h_saying, .ref h_numbers, .int h_count])), (h_drawing, .inr (1, [.ref h_drawing_sort, .ref h_drawing_x, .ref h_drawing_y, .ref h_drawing_z, .int h_drawing_count, .int h_drawing_fault, .int h_drawing_faultPart])), (h_saying, .inr (2, [.ref h_saying_staying])), (h_numbers, .inl (cA 0, 40, .inl h_numbers_v)), (h_drawing_sort, .inl (cA 0, 40, .inl h_drawing_sort_v)), (h_drawing_z, .inl (cA 0, 40, .inl h_drawing_z_v)), (h_saying_staying, .inl (cA 1, 64, .inl h_saying_staying_v))] sz)) 0 0 (va_A [(h, .inr (3, [.ref h_drawing, .ref h_saying, .ref h_numbers, .int h_count])), (h_drawing, .inr (1, [.ref h_drawing_sort, .ref h_drawing_x, .ref h_drawing_y, .ref h_drawing_z, .int h_drawing_count, .int h_drawing_fault, .int h_drawing_faultPart])), (h_saying, .inr (2, [.ref h_saying_staying])), (h_numbers, .inl (cA 0, 40, .inl h_numbers_v)), (h_drawing_sort, .inl (cA 0, 40, .inl h_drawing_sort_v)), (h_drawing_z, .inl (cA 0, 40, .inl h_drawing_z_v)), (h_saying_staying, .inl (cA 1, 64, .inl h_saying_staying_v))] sz) := by
  refine Met.ofW (cc := cX3_canGo) (maxL := 3) (ret := (some .boolean)) (by decide) rfl ?_
  intro p e s m args below meth c s₁ B hml hv
  obtain ⟨rfl, hsz, hP, hD0, hG, hZ⟩ := hv
  have hx := B.exec
  have hb := B.bytes
  have hr := B.returns
  have hts : ∀ w ∈ kq_T, w.before _ s = true := fun w h => atoms_spec (ws := wX3_canGo) B.pre w (List.mem_cons_of_mem _ h)
  have hown : s.vm.findClass RX3 = some m.cls := findClass_of_methodNamed B.named
  have hlocks := B.notSynchronized
  have hK := hG.1
  subst hsz
  have hD := hD0.self (sz := s.heap.size)
  generalize hAe : va_A [(h, .inr (3, [.ref h_drawing, .ref h_saying, .ref h_numbers, .int h_count])), (h_drawing, .inr (1, [.ref h_drawing_sort, .ref h_drawing_x, .ref h_drawing_y, .ref h_drawing_z, .int h_drawing_count, .int h_drawing_fault, .int h_drawing_faultPart])), (h_saying, .inr (2, [.ref h_saying_staying])), (h_numbers, .inl (cA 0, 40, .inl h_numbers_v)), (h_drawing_sort, .inl (cA 0, 40, .inl h_drawing_sort_v)), (h_drawing_z, .inl (cA 0, 40, .inl h_drawing_z_v)), (h_saying_staying, .inl (cA 1, 64, .inl h_saying_staying_v))] s.heap.size = A at hD hZ ⊢
  have hA : ∀ q : Nat, s.heap.size ≤ q → A q := fun q h => by rw [← hAe]; exact Or.inr h
  have hl := lv_entry [.ref h, .int p0, .int p1] (n := 3) (Nat.le_of_ble_eq_true rfl)
  rw [lg_entry_eq]
  generalize (lg_sl [.ref h, .int p0, .int p1] ++ List.replicate (3 - (lg_sl [.ref h, .int p0, .int p1]).length) Slot.unset).toArray = ls at hl ⊢
  have hl : lv_has ls 3 [(0, .ref h), (1, .int p0), (2, .int p1)] := hl
  obtain ⟨H, hHe⟩ : ∃ H : Heap, H = s.heap := ⟨_, rfl⟩
  have hP : va_P (dC, dI) vwCl [(h, .inr (3, [.ref h_drawing, .ref h_saying, .ref h_numbers, .int h_count])), (h_drawing, .inr (1, [.ref h_drawing_sort, .ref h_drawing_x, .ref h_drawing_y, .ref h_drawing_z, .int h_drawing_count, .int h_drawing_fault, .int h_drawing_faultPart])), (h_saying, .inr (2, [.ref h_saying_staying])), (h_numbers, .inl (cA 0, 40, .inl h_numbers_v)), (h_drawing_sort, .inl (cA 0, 40, .inl h_drawing_sort_v)), (h_drawing_z, .inl (cA 0, 40, .inl h_drawing_z_v)), (h_saying_staying, .inl (cA 1, 64, .inl h_saying_staying_v))] H := by rw [hHe]; exact hP
  have hS : va_S A s.heap H [] := by rw [hHe]; exact va_S.rf
  rw [← hHe]
  unfold f_X3_canGo at hf
  refine lv_iload_n hx hb dX3_canGo_0 rfl (lv_at hl 2 rfl) ?_
  refine lv_iload_n hx hb dX3_canGo_1 rfl (lv_at hl 1 rfl) ?_
  refine lv_isub hx hb dX3_canGo_2 ?_
  refine lv_aload_n hx hb dX3_canGo_3 rfl (lv_at hl 0 rfl) ?_
  refine va_get (D := (dC, dI)) (ci := 3) (v := .int h_count) (C := RX3) (T := TX3) (N := 4) hx hb hts iwX3 hown hK hP 0 rfl rfl 3 (by decide) (hts _ tw_104) (fun _ h9 => h9) rfl dX3_canGo_4 ?_
  refine lv_icmp_ge (tgt := 30) hx hb dX3_canGo_7 (by decide) (fun c1 => ?_) (fun c1 => ?_)
  · have hf := kp_p c1 hf
    refine lv_iconst (v := 0) hx hb dX3_canGo_30 (by decide) ?_
    have eo := Option.some.inj hf
    subst eo
    exact W.zret (v := 0) hx hb hr rfl (fun t ht hW => ⟨⟨_, (), rfl, rfl, kq_mk ht hP hD⟩, hS.F ht⟩) hS.2.2 dX3_canGo_31
  · have hf := kp_n c1 hf
    refine lv_aload_n hx hb dX3_canGo_10 rfl (lv_at hl 0 rfl) ?_
    refine va_get (D := (dC, dI)) (ci := 3) (v := .ref h_saying) (C := RX3) (T := TX3) (N := 4) hx hb hts iwX3 hown hK hP 0 rfl rfl 1 (by decide) (hts _ tw_101) (fun _ h9 => h9) rfl dX3_canGo_11 ?_
    refine lv_aload_n hx hb dX3_canGo_14 rfl (lv_at hl 0 rfl) ?_
    refine lv_iload_n hx hb dX3_canGo_15 rfl (lv_at hl 1 rfl) ?_
    refine lv_iload_n hx hb dX3_canGo_16 rfl (lv_at hl 2 rfl) ?_
    obtain ⟨r2, hr2, hf⟩ := kp_b hf
    have hPc := hP.sub (ws' := [(h, .inr (3, [.ref h_drawing, .ref h_saying, .ref h_numbers, .int h_count])), (h_drawing, .inr (1, [.ref h_drawing_sort, .ref h_drawing_x, .ref h_drawing_y, .ref h_drawing_z, .int h_drawing_count, .int h_drawing_fault, .int h_drawing_faultPart])), (h_numbers, .inl (cA 0, 40, .inl h_numbers_v)), (h_drawing_sort, .inl (cA 0, 40, .inl h_drawing_sort_v)), (h_drawing_z, .inl (cA 0, 40, .inl h_drawing_z_v))]) [0, 1, 3, 4, 5] rfl
    have hDc := hD.sub (ws' := [(h, .inr (3, [.ref h_drawing, .ref h_saying, .ref h_numbers, .int h_count])), (h_drawing, .inr (1, [.ref h_drawing_sort, .ref h_drawing_x, .ref h_drawing_y, .ref h_drawing_z, .int h_drawing_count, .int h_drawing_fault, .int h_drawing_faultPart])), (h_numbers, .inl (cA 0, 40, .inl h_numbers_v)), (h_drawing_sort, .inl (cA 0, 40, .inl h_drawing_sort_v)), (h_drawing_z, .inl (cA 0, 40, .inl h_drawing_z_v))]) [0, 1, 3, 4, 5] (by decide) rfl
    have hFc := va_free (wc := [(h, .inr (3, [.ref h_drawing, .ref h_saying, .ref h_numbers, .int h_count])), (h_drawing, .inr (1, [.ref h_drawing_sort, .ref h_drawing_x, .ref h_drawing_y, .ref h_drawing_z, .int h_drawing_count, .int h_drawing_fault, .int h_drawing_faultPart])), (h_numbers, .inl (cA 0, 40, .inl h_numbers_v)), (h_drawing_sort, .inl (cA 0, 40, .inl h_drawing_sort_v)), (h_drawing_z, .inl (cA 0, 40, .inl h_drawing_z_v))]) hD hS hA [0, 1, 3, 4, 5] rfl
    refine va_calli (va_runV (As := [.int p0, .int p1]) (rest := [.ref h_saying]) ⟨hx, hb, hml, hown, hts⟩ (c_X3_signatureWithout l dC dI cA tt h h_drawing h_numbers h_drawing_sort h_drawing_z h_saying h_drawing_x h_drawing_y H.size h_count h_drawing_count h_drawing_fault h_drawing_faultPart h_numbers_v h_drawing_sort_v h_drawing_z_v p0 p1 r2 hr2) (cwV 2 hts (kq_gV tw_247 tw_249 tw_7 tw_22 tw_250) rfl rfl rfl (by decide +kernel) ⟨Nat.le_of_ble_eq_true rfl, Nat.le_of_ble_eq_true rfl⟩) ⟨kq_blind, va_recv hK hP (ci := 3) (q0 := 0) rfl rfl, kq_pre hG hZ hS hPc hDc hFc⟩ rfl rfl hl.1 rfl (lv_room (Nat.le_of_ble_eq_true rfl)) dX3_canGo_17 ⟨Nat.le_of_ble_eq_true rfl, Nat.le_of_ble_eq_true rfl⟩) hS (fun q _ h => hFc q h) hFc (fun rv u t H1 locs ht hvm hw hB hz1 hk1 hS => ?_)
    obtain ⟨hP1, hD1⟩ := hB
    rw [ht] at hP1
    have hw := hw.symm
    subst hw
    obtain ⟨hP, hD⟩ := va_join (wr := [(h_saying, .inr (2, [.ref h_saying_staying])), (h_saying_staying, .inl (cA 1, 64, .inl h_saying_staying_v))]) (w1 := [(h, .inr (3, [.ref h_drawing, .ref h_saying, .ref h_numbers, .int h_count])), (h_drawing, .inr (1, [.ref h_drawing_sort, .ref h_drawing_x, .ref h_drawing_y, .ref h_drawing_z, .int h_drawing_count, .int h_drawing_fault, .int h_drawing_faultPart])), (h_numbers, .inl (cA 0, 40, .inl h_numbers_v)), (h_drawing_sort, .inl (cA 0, 40, .inl h_drawing_sort_v)), (h_drawing_z, .inl (cA 0, 40, .inl h_drawing_z_v))]) hP hD [0, 1, 3, 4, 5] [2, 6] rfl rfl (by decide) (by decide) hk1 hFc hP1 hD1
    have hP : va_P (dC, dI) vwCl [(h, .inr (3, [.ref h_drawing, .ref h_saying, .ref h_numbers, .int h_count])), (h_drawing, .inr (1, [.ref h_drawing_sort, .ref h_drawing_x, .ref h_drawing_y, .ref h_drawing_z, .int h_drawing_count, .int h_drawing_fault, .int h_drawing_faultPart])), (h_saying, .inr (2, [.ref h_saying_staying])), (h_numbers, .inl (cA 0, 40, .inl h_numbers_v)), (h_drawing_sort, .inl (cA 0, 40, .inl h_drawing_sort_v)), (h_drawing_z, .inl (cA 0, 40, .inl h_drawing_z_v)), (h_saying_staying, .inl (cA 1, 64, .inl h_saying_staying_v))] H1 := hP.sub [2, 3, 0, 4, 5, 6, 1] rfl
    have hD : va_D A [(h, .inr (3, [.ref h_drawing, .ref h_saying, .ref h_numbers, .int h_count])), (h_drawing, .inr (1, [.ref h_drawing_sort, .ref h_drawing_x, .ref h_drawing_y, .ref h_drawing_z, .int h_drawing_count, .int h_drawing_fault, .int h_drawing_faultPart])), (h_saying, .inr (2, [.ref h_saying_staying])), (h_numbers, .inl (cA 0, 40, .inl h_numbers_v)), (h_drawing_sort, .inl (cA 0, 40, .inl h_drawing_sort_v)), (h_drawing_z, .inl (cA 0, 40, .inl h_drawing_z_v)), (h_saying_staying, .inl (cA 1, 64, .inl h_saying_staying_v))] := hD.sub [2, 3, 0, 4, 5, 6, 1] (by decide) rfl
    generalize H1 = H at hP hS ⊢
    obtain ⟨r3, hr3, hf⟩ := kp_b hf
    have hPc := hP.sub (ws' := [(h_saying, .inr (2, [.ref h_saying_staying])), (h_saying_staying, .inl (cA 1, 64, .inl h_saying_staying_v))]) [2, 6] rfl
    have hDc := hD.sub (ws' := [(h_saying, .inr (2, [.ref h_saying_staying])), (h_saying_staying, .inl (cA 1, 64, .inl h_saying_staying_v))]) [2, 6] (by decide) rfl
    have hFc := va_free (wc := [(h_saying, .inr (2, [.ref h_saying_staying])), (h_saying_staying, .inl (cA 1, 64, .inl h_saying_staying_v))]) hD hS hA [2, 6] rfl
    refine va_calli (va_runV (As := [.int r2]) (rest := []) ⟨hx, hb, hml, hown, hts⟩ (c_X2_keeps l dC dI cA tt h_saying h_saying_staying H.size h_saying_staying_v r2 r3 hr3) (cwV 1 hts (kq_gV tw_271 tw_272 tw_273 tw_24 tw_274) rfl rfl rfl (by decide +kernel) ⟨Nat.le_of_ble_eq_true rfl, Nat.le_of_ble_eq_true rfl⟩) ⟨kq_blind, va_recv hK hP (ci := 2) (q0 := 2) rfl rfl, kq_pre hG hZ hS hPc hDc hFc⟩ rfl rfl hl.1 rfl (lv_room (Nat.le_of_ble_eq_true rfl)) dX3_canGo_20 ⟨Nat.le_of_ble_eq_true rfl, Nat.le_of_ble_eq_true rfl⟩) hS (fun q _ h => hFc q h) hFc (fun rv u t H1 locs ht hvm hw hB hz1 hk1 hS => ?_)
    obtain ⟨hP1, hD1⟩ := hB
    rw [ht] at hP1
    have hw := hw.symm
    subst hw
    obtain ⟨hP, hD⟩ := va_join (wr := [(h, .inr (3, [.ref h_drawing, .ref h_saying, .ref h_numbers, .int h_count])), (h_drawing, .inr (1, [.ref h_drawing_sort, .ref h_drawing_x, .ref h_drawing_y, .ref h_drawing_z, .int h_drawing_count, .int h_drawing_fault, .int h_drawing_faultPart])), (h_numbers, .inl (cA 0, 40, .inl h_numbers_v)), (h_drawing_sort, .inl (cA 0, 40, .inl h_drawing_sort_v)), (h_drawing_z, .inl (cA 0, 40, .inl h_drawing_z_v))]) (w1 := [(h_saying, .inr (2, [.ref h_saying_staying])), (h_saying_staying, .inl (cA 1, 64, .inl h_saying_staying_v))]) hP hD [2, 6] [0, 1, 3, 4, 5] rfl rfl (by decide) (by decide) hk1 hFc hP1 hD1
    have hP : va_P (dC, dI) vwCl [(h, .inr (3, [.ref h_drawing, .ref h_saying, .ref h_numbers, .int h_count])), (h_drawing, .inr (1, [.ref h_drawing_sort, .ref h_drawing_x, .ref h_drawing_y, .ref h_drawing_z, .int h_drawing_count, .int h_drawing_fault, .int h_drawing_faultPart])), (h_saying, .inr (2, [.ref h_saying_staying])), (h_numbers, .inl (cA 0, 40, .inl h_numbers_v)), (h_drawing_sort, .inl (cA 0, 40, .inl h_drawing_sort_v)), (h_drawing_z, .inl (cA 0, 40, .inl h_drawing_z_v)), (h_saying_staying, .inl (cA 1, 64, .inl h_saying_staying_v))] H1 := hP.sub [0, 1, 5, 2, 3, 4, 6] rfl
    have hD : va_D A [(h, .inr (3, [.ref h_drawing, .ref h_saying, .ref h_numbers, .int h_count])), (h_drawing, .inr (1, [.ref h_drawing_sort, .ref h_drawing_x, .ref h_drawing_y, .ref h_drawing_z, .int h_drawing_count, .int h_drawing_fault, .int h_drawing_faultPart])), (h_saying, .inr (2, [.ref h_saying_staying])), (h_numbers, .inl (cA 0, 40, .inl h_numbers_v)), (h_drawing_sort, .inl (cA 0, 40, .inl h_drawing_sort_v)), (h_drawing_z, .inl (cA 0, 40, .inl h_drawing_z_v)), (h_saying_staying, .inl (cA 1, 64, .inl h_saying_staying_v))] := hD.sub [0, 1, 5, 2, 3, 4, 6] (by decide) rfl
    generalize H1 = H at hP hS ⊢
    refine lv_if_eq (tgt := 30) hx hb dX3_canGo_23 (by decide) (fun c4 => ?_) (fun c4 => ?_)
    · have hf := kp_p c4 hf
      refine lv_iconst (v := 0) hx hb dX3_canGo_30 (by decide) ?_
      have eo := Option.some.inj hf
      subst eo
      exact W.zret (v := 0) hx hb hr rfl (fun t ht hW => ⟨⟨_, (), rfl, rfl, kq_mk ht hP hD⟩, hS.F ht⟩) hS.2.2 dX3_canGo_31
    · have hf := kp_n c4 hf
      refine lv_iconst (v := 1) hx hb dX3_canGo_26 (by decide) ?_
      refine lv_goto (tgt := 31) hx hb dX3_canGo_27 (by decide) ?_
      have eo := Option.some.inj hf
      subst eo
      exact W.zret (v := 1) hx hb hr rfl (fun t ht hW => ⟨⟨_, (), rfl, rfl, kq_mk ht hP hD⟩, hS.F ht⟩) hS.2.2 dX3_canGo_31

def f_X3_takeOut_L7 (p0 : Int32) (p1 : Int32) : Nat → Int32 → (Nat → Int32) → Int32 → Int32 → Option (Int32 × (Nat → Int32))
  | 0, _, _, _, _ => none
  | n7 + 1, h_count, h_numbers_v, v3, v4 =>
    (if h_count ≤ v4 then
    some ((h_count - v3, h_numbers_v))
    else
    if v4 < 0 ∨ 40 ≤ v4.toNatClampNeg then none else
    if (v4 - v3) < 0 ∨ 40 ≤ (v4 - v3).toNatClampNeg then none else
    f_X3_takeOut_L7 p0 p1 n7 h_count (upd h_numbers_v (v4 - v3).toNatClampNeg (h_numbers_v v4.toNatClampNeg)) v3 (v4 + 1))
theorem e_X3_takeOut_L7 (p0 : Int32) (p1 : Int32) (n7 : Nat) (h_count : Int32) (h_numbers_v : Nat → Int32) (v3 : Int32) (v4 : Int32) : f_X3_takeOut_L7 p0 p1 (n7 + 1) h_count h_numbers_v v3 v4 =
    ((if h_count ≤ v4 then
    some ((h_count - v3, h_numbers_v))
    else
    if v4 < 0 ∨ 40 ≤ v4.toNatClampNeg then none else
    if (v4 - v3) < 0 ∨ 40 ≤ (v4 - v3).toNatClampNeg then none else
    f_X3_takeOut_L7 p0 p1 n7 h_count (upd h_numbers_v (v4 - v3).toNatClampNeg (h_numbers_v v4.toNatClampNeg)) v3 (v4 + 1))) := rfl
def f_X3_takeOut (h_count : Int32) (h_numbers_v : Nat → Int32) (p0 : Int32) (p1 : Int32) : Option (Int32 × (Nat → Int32)) :=
    f_X3_takeOut_L7 p0 p1 64 h_count h_numbers_v (p1 - p0) p1
set_option maxHeartbeats 4000000 in
set_option maxRecDepth 100000 in
theorem c_X3_takeOut (l : Launch) (dC : Nat → ClassId) (dI : Nat → Nat → Nat) (cA : Nat → ClassId) (tt : Nat → Nat) (h h_numbers h_drawing h_saying : Nat) (sz : Nat) (h_count : Int32) (h_numbers_v : Nat → Int32) (p0 : Int32) (p1 : Int32) (o : Int32 × (Nat → Int32)) (hf : f_X3_takeOut h_count h_numbers_v p0 p1 = some o) : Met l yX3_takeOut wX3_takeOut ({ frames := 0, cells := 0, slots := 0, locals := 0 }) (kq_Pc dC dI cA tt [.ref h, .int p0, .int p1] [(h, .inr (3, [.ref h_drawing, .ref h_saying, .ref h_numbers, .int h_count])), (h_numbers, .inl (cA 0, 40, .inl h_numbers_v))] sz) (va_Qv (fun _ : Unit => True) (fun _ t => kq_B dC dI [(h, .inr (3, [.ref h_drawing, .ref h_saying, .ref h_numbers, .int o.1])), (h_numbers, .inl (cA 0, 40, .inl o.2))] (va_A [(h, .inr (3, [.ref h_drawing, .ref h_saying, .ref h_numbers, .int h_count])), (h_numbers, .inl (cA 0, 40, .inl h_numbers_v))] sz) t) (va_A [(h, .inr (3, [.ref h_drawing, .ref h_saying, .ref h_numbers, .int h_count])), (h_numbers, .inl (cA 0, 40, .inl h_numbers_v))] sz)) 0 0 (va_A [(h, .inr (3, [.ref h_drawing, .ref h_saying, .ref h_numbers, .int h_count])), (h_numbers, .inl (cA 0, 40, .inl h_numbers_v))] sz) := by
  refine Met.ofW (cc := cX3_takeOut) (maxL := 5) (ret := none) (by decide) rfl ?_
  intro p e s m args below meth c s₁ B hml hv
  obtain ⟨rfl, hsz, hP, hD0, hG, hZ⟩ := hv
  have hx := B.exec
  have hb := B.bytes
  have hr := B.returns
  have hts : ∀ w ∈ kq_T, w.before _ s = true := fun w h => atoms_spec (ws := wX3_takeOut) B.pre w (List.mem_cons_of_mem _ h)
  have hown : s.vm.findClass RX3 = some m.cls := findClass_of_methodNamed B.named
  have hlocks := B.notSynchronized
  have hK := hG.1
  subst hsz
  have hD := hD0.self (sz := s.heap.size)
  generalize hAe : va_A [(h, .inr (3, [.ref h_drawing, .ref h_saying, .ref h_numbers, .int h_count])), (h_numbers, .inl (cA 0, 40, .inl h_numbers_v))] s.heap.size = A at hD hZ ⊢
  have hA : ∀ q : Nat, s.heap.size ≤ q → A q := fun q h => by rw [← hAe]; exact Or.inr h
  have hl := lv_entry [.ref h, .int p0, .int p1] (n := 5) (Nat.le_of_ble_eq_true rfl)
  rw [lg_entry_eq]
  generalize (lg_sl [.ref h, .int p0, .int p1] ++ List.replicate (5 - (lg_sl [.ref h, .int p0, .int p1]).length) Slot.unset).toArray = ls at hl ⊢
  have hl : lv_has ls 5 [(0, .ref h), (1, .int p0), (2, .int p1)] := hl
  obtain ⟨H, hHe⟩ : ∃ H : Heap, H = s.heap := ⟨_, rfl⟩
  have hP : va_P (dC, dI) vwCl [(h, .inr (3, [.ref h_drawing, .ref h_saying, .ref h_numbers, .int h_count])), (h_numbers, .inl (cA 0, 40, .inl h_numbers_v))] H := by rw [hHe]; exact hP
  have hS : va_S A s.heap H [] := by rw [hHe]; exact va_S.rf
  rw [← hHe]
  unfold f_X3_takeOut at hf
  refine lv_iload_n hx hb dX3_takeOut_0 rfl (lv_at hl 2 rfl) ?_
  refine lv_iload_n hx hb dX3_takeOut_1 rfl (lv_at hl 1 rfl) ?_
  refine lv_isub hx hb dX3_takeOut_2 ?_
  refine lv_istore_n (lv' := [(3, .int (p1 - p0)), (0, .ref h), (1, .int p0), (2, .int p1)]) hx hb dX3_takeOut_3 rfl hl (by decide) rfl (fun ls hl => ?_)
  refine lv_iload_n hx hb dX3_takeOut_4 rfl (lv_at hl 3 rfl) ?_
  refine lv_istore (lv' := [(4, .int p1), (3, .int (p1 - p0)), (0, .ref h), (1, .int p0), (2, .int p1)]) hx hb dX3_takeOut_5 hl (by decide) rfl (fun ls hl => ?_)
  refine kq_ind (fun n H locs g => ∃ (h_count : Int32) (h_numbers_v : Nat → Int32) (v3 : Int32) (v4 : Int32) (ls : Array Slot), g = F0 m 7 ls [] ∧ lv_has ls 5 [(0, .ref h), (3, .int v3), (4, .int v4)] ∧ va_P (dC, dI) vwCl [(h, .inr (3, [.ref h_drawing, .ref h_saying, .ref h_numbers, .int h_count])), (h_numbers, .inl (cA 0, 40, .inl h_numbers_v))] H ∧ va_D A [(h, .inr (3, [.ref h_drawing, .ref h_saying, .ref h_numbers, .int h_count])), (h_numbers, .inl (cA 0, 40, .inl h_numbers_v))] ∧ va_S A s.heap H locs ∧ f_X3_takeOut_L7 p0 p1 n h_count h_numbers_v v3 v4 = some o) (fun H locs g h => ?_) (fun n7 ih7 H locs g h => ?_) 64 _ _ _ ⟨h_count, h_numbers_v, p1 - p0, p1, ls, rfl, lv_sub hl [2, 1, 0] rfl, hP, hD, hS, hf⟩
  · obtain ⟨h_count, h_numbers_v, v3, v4, ls, -, -, -, -, -, hf⟩ := h
    have hf : (none : Option (Int32 × (Nat → Int32))) = some o := hf
    cases hf
  · obtain ⟨h_count, h_numbers_v, v3, v4, ls, rfl, hl, hP, hD, hS, hf⟩ := h
    have hf := (e_X3_takeOut_L7 p0 p1 n7 h_count h_numbers_v v3 v4).symm.trans hf
    refine lv_iload hx hb dX3_takeOut_7 (lv_at hl 2 rfl) ?_
    refine lv_aload_n hx hb dX3_takeOut_9 rfl (lv_at hl 0 rfl) ?_
    refine va_get (D := (dC, dI)) (ci := 3) (v := .int h_count) (C := RX3) (T := TX3) (N := 4) hx hb hts iwX3 hown hK hP 0 rfl rfl 3 (by decide) (hts _ tw_104) (fun _ h9 => h9) rfl dX3_takeOut_10 ?_
    refine lv_icmp_ge (tgt := 38) hx hb dX3_takeOut_13 (by decide) (fun c8001 => ?_) (fun c8001 => ?_)
    · have hf := kp_p c8001 hf
      refine lv_aload_n hx hb dX3_takeOut_38 rfl (lv_at hl 0 rfl) ?_
      refine lv_dup hx hb dX3_takeOut_39 rfl ?_
      refine va_get (D := (dC, dI)) (ci := 3) (v := .int h_count) (C := RX3) (T := TX3) (N := 4) hx hb hts iwX3 hown hK hP 0 rfl rfl 3 (by decide) (hts _ tw_104) (fun _ h9 => h9) rfl dX3_takeOut_40 ?_
      refine lv_iload_n hx hb dX3_takeOut_43 rfl (lv_at hl 1 rfl) ?_
      refine lv_isub hx hb dX3_takeOut_44 ?_
      refine va_put (D := (dC, dI)) (ci := 3) (v := .int (h_count - v3)) (ty := (.int)) (C := RX3) (T := TX3) (N := 4) hx hb hts iwX3 tyX3 tyX3_ok nmX3 hown hK hP hD hS 0 rfl rfl 3 (by decide) (hts _ tw_104) (fun _ h9 => h9) rfl (by decide +kernel) rfl rfl (Nat.le_of_ble_eq_true rfl) dX3_takeOut_45 (fun H locs hP hD hS => ?_)
      have hP : va_P (dC, dI) vwCl [(h, .inr (3, [.ref h_drawing, .ref h_saying, .ref h_numbers, .int (h_count - v3)])), (h_numbers, .inl (cA 0, 40, .inl h_numbers_v))] H := hP
      have hD : va_D A [(h, .inr (3, [.ref h_drawing, .ref h_saying, .ref h_numbers, .int (h_count - v3)])), (h_numbers, .inl (cA 0, 40, .inl h_numbers_v))] := hD
      have eo := Option.some.inj hf
      subst eo
      exact W.vret hx hb hr (fun t ht hW => ⟨⟨(), rfl, trivial, kq_mk ht hP hD⟩, hS.F ht⟩) hS.2.2 dX3_takeOut_48
    · have hf := kp_n c8001 hf
      refine lv_aload_n hx hb dX3_takeOut_16 rfl (lv_at hl 0 rfl) ?_
      refine va_get (D := (dC, dI)) (ci := 3) (v := .ref h_numbers) (C := RX3) (T := TX3) (N := 4) hx hb hts iwX3 hown hK hP 0 rfl rfl 2 (by decide) (hts _ tw_103) (fun _ h9 => h9) rfl dX3_takeOut_17 ?_
      refine lv_iload hx hb dX3_takeOut_20 (lv_at hl 2 rfl) ?_
      refine lv_iload_n hx hb dX3_takeOut_22 rfl (lv_at hl 1 rfl) ?_
      refine lv_isub hx hb dX3_takeOut_23 ?_
      refine lv_aload_n hx hb dX3_takeOut_24 rfl (lv_at hl 0 rfl) ?_
      refine va_get (D := (dC, dI)) (ci := 3) (v := .ref h_numbers) (C := RX3) (T := TX3) (N := 4) hx hb hts iwX3 hown hK hP 0 rfl rfl 2 (by decide) (hts _ tw_103) (fun _ h9 => h9) rfl dX3_takeOut_25 ?_
      refine lv_iload hx hb dX3_takeOut_28 (lv_at hl 2 rfl) ?_
      obtain ⟨hq8002, hf⟩ := kp_t hf
      refine va_iald hx hb hK hP 1 0 rfl rfl hq8002 dX3_takeOut_30 ?_
      obtain ⟨hq8003, hf⟩ := kp_t hf
      refine va_iast hx hb hK hP hD hS 1 0 rfl rfl hq8003 dX3_takeOut_31 (fun H locs hP hD hS => ?_)
      have hP : va_P (dC, dI) vwCl [(h, .inr (3, [.ref h_drawing, .ref h_saying, .ref h_numbers, .int h_count])), (h_numbers, .inl (cA 0, 40, .inl (upd h_numbers_v (v4 - v3).toNatClampNeg (h_numbers_v v4.toNatClampNeg))))] H := hP
      have hD : va_D A [(h, .inr (3, [.ref h_drawing, .ref h_saying, .ref h_numbers, .int h_count])), (h_numbers, .inl (cA 0, 40, .inl (upd h_numbers_v (v4 - v3).toNatClampNeg (h_numbers_v v4.toNatClampNeg))))] := hD
      refine lv_iinc (v := v4 + 1) (lv' := [(4, .int (v4 + 1)), (0, .ref h), (3, .int v3)]) hx hb dX3_takeOut_32 hl (k := 2) rfl rfl (by decide) rfl (fun ls hl => ?_)
      refine lv_goto (tgt := 7) hx hb dX3_takeOut_35 (by decide) ?_
      exact ih7 _ _ _ ⟨h_count, upd h_numbers_v (v4 - v3).toNatClampNeg (h_numbers_v v4.toNatClampNeg), v3, v4 + 1, ls, rfl, lv_sub hl [1, 2, 0] rfl, hP, hD, hS, hf⟩

def f_X3_leaveOutRows_L7 (h_drawing_faultPart : Int32) (h_drawing_sort_v : Nat → Int32) (h_drawing_z_v : Nat → Int32) (h_saying_staying_v : Nat → Int32) (p0 : Int32) : Nat → Int32 → (Nat → Int32) → Int32 → Int32 → Int32 → Option (Int32 × Int32 × (Nat → Int32))
  | 0, _, _, _, _, _ => none
  | n7 + 1, h_count, h_numbers_v, v2, v3, v4 =>
    (if 40 ≤ v4 then
    if ¬ (v2 = 0 ∨ v2 = 1) then none else
    some ((v2, h_count, h_numbers_v))
    else
    (if h_count ≤ v3 then
    if ¬ (v2 = 0 ∨ v2 = 1) then none else
    some ((v2, h_count, h_numbers_v))
    else
    (f_X3_canGo h_count h_drawing_faultPart h_numbers_v h_drawing_sort_v h_drawing_z_v h_saying_staying_v v3 (if h_count < (v3 + p0) then h_count else (v3 + p0))).bind fun r8005 =>
    (if r8005 = 0 then
    f_X3_leaveOutRows_L7 h_drawing_faultPart h_drawing_sort_v h_drawing_z_v h_saying_staying_v p0 n7 h_count h_numbers_v v2 (if h_count < (v3 + p0) then h_count else (v3 + p0)) (v4 + 1)
    else
    (f_X3_takeOut h_count h_numbers_v v3 (if h_count < (v3 + p0) then h_count else (v3 + p0))).bind fun r8007 =>
    f_X3_leaveOutRows_L7 h_drawing_faultPart h_drawing_sort_v h_drawing_z_v h_saying_staying_v p0 n7 r8007.1 r8007.2 1 v3 (v4 + 1))))
theorem e_X3_leaveOutRows_L7 (h_drawing_faultPart : Int32) (h_drawing_sort_v : Nat → Int32) (h_drawing_z_v : Nat → Int32) (h_saying_staying_v : Nat → Int32) (p0 : Int32) (n7 : Nat) (h_count : Int32) (h_numbers_v : Nat → Int32) (v2 : Int32) (v3 : Int32) (v4 : Int32) : f_X3_leaveOutRows_L7 h_drawing_faultPart h_drawing_sort_v h_drawing_z_v h_saying_staying_v p0 (n7 + 1) h_count h_numbers_v v2 v3 v4 =
    ((if 40 ≤ v4 then
    if ¬ (v2 = 0 ∨ v2 = 1) then none else
    some ((v2, h_count, h_numbers_v))
    else
    (if h_count ≤ v3 then
    if ¬ (v2 = 0 ∨ v2 = 1) then none else
    some ((v2, h_count, h_numbers_v))
    else
    (f_X3_canGo h_count h_drawing_faultPart h_numbers_v h_drawing_sort_v h_drawing_z_v h_saying_staying_v v3 (if h_count < (v3 + p0) then h_count else (v3 + p0))).bind fun r8005 =>
    (if r8005 = 0 then
    f_X3_leaveOutRows_L7 h_drawing_faultPart h_drawing_sort_v h_drawing_z_v h_saying_staying_v p0 n7 h_count h_numbers_v v2 (if h_count < (v3 + p0) then h_count else (v3 + p0)) (v4 + 1)
    else
    (f_X3_takeOut h_count h_numbers_v v3 (if h_count < (v3 + p0) then h_count else (v3 + p0))).bind fun r8007 =>
    f_X3_leaveOutRows_L7 h_drawing_faultPart h_drawing_sort_v h_drawing_z_v h_saying_staying_v p0 n7 r8007.1 r8007.2 1 v3 (v4 + 1))))) := rfl
def f_X3_leaveOutRows (h_count : Int32) (h_drawing_faultPart : Int32) (h_numbers_v : Nat → Int32) (h_drawing_sort_v : Nat → Int32) (h_drawing_z_v : Nat → Int32) (h_saying_staying_v : Nat → Int32) (p0 : Int32) : Option (Int32 × Int32 × (Nat → Int32)) :=
    f_X3_leaveOutRows_L7 h_drawing_faultPart h_drawing_sort_v h_drawing_z_v h_saying_staying_v p0 64 h_count h_numbers_v 0 0 0
set_option maxHeartbeats 4000000 in
set_option maxRecDepth 100000 in
theorem c_X3_leaveOutRows (l : Launch) (dC : Nat → ClassId) (dI : Nat → Nat → Nat) (cA : Nat → ClassId) (tt : Nat → Nat) (h h_drawing h_saying h_numbers h_drawing_sort h_drawing_z h_saying_staying h_drawing_x h_drawing_y : Nat) (sz : Nat) (h_count : Int32) (h_drawing_count : Int32) (h_drawing_fault : Int32) (h_drawing_faultPart : Int32) (h_numbers_v : Nat → Int32) (h_drawing_sort_v : Nat → Int32) (h_drawing_z_v : Nat → Int32) (h_saying_staying_v : Nat → Int32) (p0 : Int32) (o : Int32 × Int32 × (Nat → Int32)) (hf : f_X3_leaveOutRows h_count h_drawing_faultPart h_numbers_v h_drawing_sort_v h_drawing_z_v h_saying_staying_v p0 = some o) : Met l yX3_leaveOutRows wX3_leaveOutRows ({ frames := 3, cells := 0, slots := 0, locals := 63 }) (kq_Pc dC dI cA tt [.ref h, .int p0] [(h, .inr (3, [.ref h_drawing, .ref h_saying, .ref h_numbers, .int h_count])), (h_drawing, .inr (1, [.ref h_drawing_sort, .ref h_drawing_x, .ref h_drawing_y, .ref h_drawing_z, .int h_drawing_count, .int h_drawing_fault, .int h_drawing_faultPart])), (h_saying, .inr (2, [.ref h_saying_staying])), (h_numbers, .inl (cA 0, 40, .inl h_numbers_v)), (h_drawing_sort, .inl (cA 0, 40, .inl h_drawing_sort_v)), (h_drawing_z, .inl (cA 0, 40, .inl h_drawing_z_v)), (h_saying_staying, .inl (cA 1, 64, .inl h_saying_staying_v))] sz) (va_Qi (fun r (_ : Unit) => r = o.1) (fun _ t => kq_B dC dI [(h, .inr (3, [.ref h_drawing, .ref h_saying, .ref h_numbers, .int o.2.1])), (h_drawing, .inr (1, [.ref h_drawing_sort, .ref h_drawing_x, .ref h_drawing_y, .ref h_drawing_z, .int h_drawing_count, .int h_drawing_fault, .int h_drawing_faultPart])), (h_saying, .inr (2, [.ref h_saying_staying])), (h_numbers, .inl (cA 0, 40, .inl o.2.2)), (h_drawing_sort, .inl (cA 0, 40, .inl h_drawing_sort_v)), (h_drawing_z, .inl (cA 0, 40, .inl h_drawing_z_v)), (h_saying_staying, .inl (cA 1, 64, .inl h_saying_staying_v))] (va_A [(h, .inr (3, [.ref h_drawing, .ref h_saying, .ref h_numbers, .int h_count])), (h_drawing, .inr (1, [.ref h_drawing_sort, .ref h_drawing_x, .ref h_drawing_y, .ref h_drawing_z, .int h_drawing_count, .int h_drawing_fault, .int h_drawing_faultPart])), (h_saying, .inr (2, [.ref h_saying_staying])), (h_numbers, .inl (cA 0, 40, .inl h_numbers_v)), (h_drawing_sort, .inl (cA 0, 40, .inl h_drawing_sort_v)), (h_drawing_z, .inl (cA 0, 40, .inl h_drawing_z_v)), (h_saying_staying, .inl (cA 1, 64, .inl h_saying_staying_v))] sz) t) (va_A [(h, .inr (3, [.ref h_drawing, .ref h_saying, .ref h_numbers, .int h_count])), (h_drawing, .inr (1, [.ref h_drawing_sort, .ref h_drawing_x, .ref h_drawing_y, .ref h_drawing_z, .int h_drawing_count, .int h_drawing_fault, .int h_drawing_faultPart])), (h_saying, .inr (2, [.ref h_saying_staying])), (h_numbers, .inl (cA 0, 40, .inl h_numbers_v)), (h_drawing_sort, .inl (cA 0, 40, .inl h_drawing_sort_v)), (h_drawing_z, .inl (cA 0, 40, .inl h_drawing_z_v)), (h_saying_staying, .inl (cA 1, 64, .inl h_saying_staying_v))] sz)) 0 0 (va_A [(h, .inr (3, [.ref h_drawing, .ref h_saying, .ref h_numbers, .int h_count])), (h_drawing, .inr (1, [.ref h_drawing_sort, .ref h_drawing_x, .ref h_drawing_y, .ref h_drawing_z, .int h_drawing_count, .int h_drawing_fault, .int h_drawing_faultPart])), (h_saying, .inr (2, [.ref h_saying_staying])), (h_numbers, .inl (cA 0, 40, .inl h_numbers_v)), (h_drawing_sort, .inl (cA 0, 40, .inl h_drawing_sort_v)), (h_drawing_z, .inl (cA 0, 40, .inl h_drawing_z_v)), (h_saying_staying, .inl (cA 1, 64, .inl h_saying_staying_v))] sz) := by
  refine Met.ofW (cc := cX3_leaveOutRows) (maxL := 6) (ret := (some .boolean)) (by decide) rfl ?_
  intro p e s m args below meth c s₁ B hml hv
  obtain ⟨rfl, hsz, hP, hD0, hG, hZ⟩ := hv
  have hx := B.exec
  have hb := B.bytes
  have hr := B.returns
  have hts : ∀ w ∈ kq_T, w.before _ s = true := fun w h => atoms_spec (ws := wX3_leaveOutRows) B.pre w (List.mem_cons_of_mem _ h)
  have hown : s.vm.findClass RX3 = some m.cls := findClass_of_methodNamed B.named
  have hlocks := B.notSynchronized
  have hK := hG.1
  subst hsz
  have hD := hD0.self (sz := s.heap.size)
  generalize hAe : va_A [(h, .inr (3, [.ref h_drawing, .ref h_saying, .ref h_numbers, .int h_count])), (h_drawing, .inr (1, [.ref h_drawing_sort, .ref h_drawing_x, .ref h_drawing_y, .ref h_drawing_z, .int h_drawing_count, .int h_drawing_fault, .int h_drawing_faultPart])), (h_saying, .inr (2, [.ref h_saying_staying])), (h_numbers, .inl (cA 0, 40, .inl h_numbers_v)), (h_drawing_sort, .inl (cA 0, 40, .inl h_drawing_sort_v)), (h_drawing_z, .inl (cA 0, 40, .inl h_drawing_z_v)), (h_saying_staying, .inl (cA 1, 64, .inl h_saying_staying_v))] s.heap.size = A at hD hZ ⊢
  have hA : ∀ q : Nat, s.heap.size ≤ q → A q := fun q h => by rw [← hAe]; exact Or.inr h
  have hl := lv_entry [.ref h, .int p0] (n := 6) (Nat.le_of_ble_eq_true rfl)
  rw [lg_entry_eq]
  generalize (lg_sl [.ref h, .int p0] ++ List.replicate (6 - (lg_sl [.ref h, .int p0]).length) Slot.unset).toArray = ls at hl ⊢
  have hl : lv_has ls 6 [(0, .ref h), (1, .int p0)] := hl
  obtain ⟨H, hHe⟩ : ∃ H : Heap, H = s.heap := ⟨_, rfl⟩
  have hP : va_P (dC, dI) vwCl [(h, .inr (3, [.ref h_drawing, .ref h_saying, .ref h_numbers, .int h_count])), (h_drawing, .inr (1, [.ref h_drawing_sort, .ref h_drawing_x, .ref h_drawing_y, .ref h_drawing_z, .int h_drawing_count, .int h_drawing_fault, .int h_drawing_faultPart])), (h_saying, .inr (2, [.ref h_saying_staying])), (h_numbers, .inl (cA 0, 40, .inl h_numbers_v)), (h_drawing_sort, .inl (cA 0, 40, .inl h_drawing_sort_v)), (h_drawing_z, .inl (cA 0, 40, .inl h_drawing_z_v)), (h_saying_staying, .inl (cA 1, 64, .inl h_saying_staying_v))] H := by rw [hHe]; exact hP
  have hS : va_S A s.heap H [] := by rw [hHe]; exact va_S.rf
  rw [← hHe]
  unfold f_X3_leaveOutRows at hf
  refine lv_iconst (v := 0) hx hb dX3_leaveOutRows_0 (by decide) ?_
  refine lv_istore_n (lv' := [(2, .int 0), (0, .ref h), (1, .int p0)]) hx hb dX3_leaveOutRows_1 rfl hl (by decide) rfl (fun ls hl => ?_)
  refine lv_iconst (v := 0) hx hb dX3_leaveOutRows_2 (by decide) ?_
  refine lv_istore_n (lv' := [(3, .int 0), (2, .int 0), (0, .ref h), (1, .int p0)]) hx hb dX3_leaveOutRows_3 rfl hl (by decide) rfl (fun ls hl => ?_)
  refine lv_iconst (v := 0) hx hb dX3_leaveOutRows_4 (by decide) ?_
  refine lv_istore (lv' := [(4, .int 0), (3, .int 0), (2, .int 0), (0, .ref h), (1, .int p0)]) hx hb dX3_leaveOutRows_5 hl (by decide) rfl (fun ls hl => ?_)
  refine kq_ind (fun n H locs g => ∃ (h_count : Int32) (h_numbers_v : Nat → Int32) (v2 : Int32) (v3 : Int32) (v4 : Int32) (ls : Array Slot), g = F0 m 7 ls [] ∧ lv_has ls 6 [(0, .ref h), (1, .int p0), (2, .int v2), (3, .int v3), (4, .int v4)] ∧ va_P (dC, dI) vwCl [(h, .inr (3, [.ref h_drawing, .ref h_saying, .ref h_numbers, .int h_count])), (h_drawing, .inr (1, [.ref h_drawing_sort, .ref h_drawing_x, .ref h_drawing_y, .ref h_drawing_z, .int h_drawing_count, .int h_drawing_fault, .int h_drawing_faultPart])), (h_saying, .inr (2, [.ref h_saying_staying])), (h_numbers, .inl (cA 0, 40, .inl h_numbers_v)), (h_drawing_sort, .inl (cA 0, 40, .inl h_drawing_sort_v)), (h_drawing_z, .inl (cA 0, 40, .inl h_drawing_z_v)), (h_saying_staying, .inl (cA 1, 64, .inl h_saying_staying_v))] H ∧ va_D A [(h, .inr (3, [.ref h_drawing, .ref h_saying, .ref h_numbers, .int h_count])), (h_drawing, .inr (1, [.ref h_drawing_sort, .ref h_drawing_x, .ref h_drawing_y, .ref h_drawing_z, .int h_drawing_count, .int h_drawing_fault, .int h_drawing_faultPart])), (h_saying, .inr (2, [.ref h_saying_staying])), (h_numbers, .inl (cA 0, 40, .inl h_numbers_v)), (h_drawing_sort, .inl (cA 0, 40, .inl h_drawing_sort_v)), (h_drawing_z, .inl (cA 0, 40, .inl h_drawing_z_v)), (h_saying_staying, .inl (cA 1, 64, .inl h_saying_staying_v))] ∧ va_S A s.heap H locs ∧ f_X3_leaveOutRows_L7 h_drawing_faultPart h_drawing_sort_v h_drawing_z_v h_saying_staying_v p0 n h_count h_numbers_v v2 v3 v4 = some o) (fun H locs g h => ?_) (fun n7 ih7 H locs g h => ?_) 64 _ _ _ ⟨h_count, h_numbers_v, 0, 0, 0, ls, rfl, lv_sub hl [3, 4, 2, 1, 0] rfl, hP, hD, hS, hf⟩
  · obtain ⟨h_count, h_numbers_v, v2, v3, v4, ls, -, -, -, -, -, hf⟩ := h
    have hf : (none : Option (Int32 × Int32 × (Nat → Int32))) = some o := hf
    cases hf
  · obtain ⟨h_count, h_numbers_v, v2, v3, v4, ls, rfl, hl, hP, hD, hS, hf⟩ := h
    have hf := (e_X3_leaveOutRows_L7 h_drawing_faultPart h_drawing_sort_v h_drawing_z_v h_saying_staying_v p0 n7 h_count h_numbers_v v2 v3 v4).symm.trans hf
    refine lv_iload hx hb dX3_leaveOutRows_7 (lv_at hl 4 rfl) ?_
    refine lv_bipush (v := 40) hx hb dX3_leaveOutRows_9 (by decide) ?_
    refine lv_icmp_ge (tgt := 65) hx hb dX3_leaveOutRows_11 (by decide) (fun c8001 => ?_) (fun c8001 => ?_)
    · have hf := kp_p c8001 hf
      refine lv_iload_n hx hb dX3_leaveOutRows_65 rfl (lv_at hl 2 rfl) ?_
      obtain ⟨hq8002, hf⟩ := kp_t hf
      have eo := Option.some.inj hf
      subst eo
      exact W.zret (v := v2) hx hb hr (kq_z hq8002) (fun t ht hW => ⟨⟨_, (), rfl, rfl, kq_mk ht hP hD⟩, hS.F ht⟩) hS.2.2 dX3_leaveOutRows_66
    · have hf := kp_n c8001 hf
      refine lv_iload_n hx hb dX3_leaveOutRows_14 rfl (lv_at hl 3 rfl) ?_
      refine lv_aload_n hx hb dX3_leaveOutRows_15 rfl (lv_at hl 0 rfl) ?_
      refine va_get (D := (dC, dI)) (ci := 3) (v := .int h_count) (C := RX3) (T := TX3) (N := 4) hx hb hts iwX3 hown hK hP 0 rfl rfl 3 (by decide) (hts _ tw_104) (fun _ h9 => h9) rfl dX3_leaveOutRows_16 ?_
      refine lv_icmp_ge (tgt := 65) hx hb dX3_leaveOutRows_19 (by decide) (fun c8003 => ?_) (fun c8003 => ?_)
      · have hf := kp_p c8003 hf
        refine lv_iload_n hx hb dX3_leaveOutRows_65 rfl (lv_at hl 2 rfl) ?_
        obtain ⟨hq8004, hf⟩ := kp_t hf
        have eo := Option.some.inj hf
        subst eo
        exact W.zret (v := v2) hx hb hr (kq_z hq8004) (fun t ht hW => ⟨⟨_, (), rfl, rfl, kq_mk ht hP hD⟩, hS.F ht⟩) hS.2.2 dX3_leaveOutRows_66
      · have hf := kp_n c8003 hf
        refine lv_iload_n hx hb dX3_leaveOutRows_22 rfl (lv_at hl 3 rfl) ?_
        refine lv_iload_n hx hb dX3_leaveOutRows_23 rfl (lv_at hl 1 rfl) ?_
        refine lv_iadd hx hb dX3_leaveOutRows_24 ?_
        refine lv_aload_n hx hb dX3_leaveOutRows_25 rfl (lv_at hl 0 rfl) ?_
        refine va_get (D := (dC, dI)) (ci := 3) (v := .int h_count) (C := RX3) (T := TX3) (N := 4) hx hb hts iwX3 hown hK hP 0 rfl rfl 3 (by decide) (hts _ tw_104) (fun _ h9 => h9) rfl dX3_leaveOutRows_26 ?_
        refine va_mmin hx hb (hml.trans hl.1.symm) hown (hts _ tw_279) (hts _ tw_280) (hts _ tw_27) (hts _ tw_281) (Nat.le_of_ble_eq_true rfl) (Nat.le_of_ble_eq_true rfl) (Nat.zero_le _) (Nat.zero_le _) dX3_leaveOutRows_29 ?_
        refine lv_istore (lv' := [(5, .int (if h_count < (v3 + p0) then h_count else (v3 + p0))), (0, .ref h), (1, .int p0), (2, .int v2), (3, .int v3), (4, .int v4)]) hx hb dX3_leaveOutRows_32 hl (by decide) rfl (fun ls hl => ?_)
        refine lv_aload_n hx hb dX3_leaveOutRows_34 rfl (lv_at hl 1 rfl) ?_
        refine lv_iload_n hx hb dX3_leaveOutRows_35 rfl (lv_at hl 4 rfl) ?_
        refine lv_iload hx hb dX3_leaveOutRows_36 (lv_at hl 0 rfl) ?_
        obtain ⟨r8005, hr8005, hf⟩ := kp_b hf
        have hPc := hP.sub (ws' := [(h, .inr (3, [.ref h_drawing, .ref h_saying, .ref h_numbers, .int h_count])), (h_drawing, .inr (1, [.ref h_drawing_sort, .ref h_drawing_x, .ref h_drawing_y, .ref h_drawing_z, .int h_drawing_count, .int h_drawing_fault, .int h_drawing_faultPart])), (h_saying, .inr (2, [.ref h_saying_staying])), (h_numbers, .inl (cA 0, 40, .inl h_numbers_v)), (h_drawing_sort, .inl (cA 0, 40, .inl h_drawing_sort_v)), (h_drawing_z, .inl (cA 0, 40, .inl h_drawing_z_v)), (h_saying_staying, .inl (cA 1, 64, .inl h_saying_staying_v))]) [0, 1, 2, 3, 4, 5, 6] rfl
        have hDc := hD.sub (ws' := [(h, .inr (3, [.ref h_drawing, .ref h_saying, .ref h_numbers, .int h_count])), (h_drawing, .inr (1, [.ref h_drawing_sort, .ref h_drawing_x, .ref h_drawing_y, .ref h_drawing_z, .int h_drawing_count, .int h_drawing_fault, .int h_drawing_faultPart])), (h_saying, .inr (2, [.ref h_saying_staying])), (h_numbers, .inl (cA 0, 40, .inl h_numbers_v)), (h_drawing_sort, .inl (cA 0, 40, .inl h_drawing_sort_v)), (h_drawing_z, .inl (cA 0, 40, .inl h_drawing_z_v)), (h_saying_staying, .inl (cA 1, 64, .inl h_saying_staying_v))]) [0, 1, 2, 3, 4, 5, 6] (by decide) rfl
        have hFc := va_free (wc := [(h, .inr (3, [.ref h_drawing, .ref h_saying, .ref h_numbers, .int h_count])), (h_drawing, .inr (1, [.ref h_drawing_sort, .ref h_drawing_x, .ref h_drawing_y, .ref h_drawing_z, .int h_drawing_count, .int h_drawing_fault, .int h_drawing_faultPart])), (h_saying, .inr (2, [.ref h_saying_staying])), (h_numbers, .inl (cA 0, 40, .inl h_numbers_v)), (h_drawing_sort, .inl (cA 0, 40, .inl h_drawing_sort_v)), (h_drawing_z, .inl (cA 0, 40, .inl h_drawing_z_v)), (h_saying_staying, .inl (cA 1, 64, .inl h_saying_staying_v))]) hD hS hA [0, 1, 2, 3, 4, 5, 6] rfl
        refine va_calli (va_runV (As := [.int v3, .int (if h_count < (v3 + p0) then h_count else (v3 + p0))]) (rest := []) ⟨hx, hb, hml, hown, hts⟩ (c_X3_canGo l dC dI cA tt h h_drawing h_saying h_numbers h_drawing_sort h_drawing_z h_saying_staying h_drawing_x h_drawing_y H.size h_count h_drawing_count h_drawing_fault h_drawing_faultPart h_numbers_v h_drawing_sort_v h_drawing_z_v h_saying_staying_v v3 (if h_count < (v3 + p0) then h_count else (v3 + p0)) r8005 hr8005) (cwV 2 hts (kq_gV tw_282 tw_284 tw_9 tw_22 tw_285) rfl rfl rfl (by decide +kernel) ⟨Nat.le_of_ble_eq_true rfl, Nat.le_of_ble_eq_true rfl⟩) ⟨kq_blind, va_recv hK hP (ci := 3) (q0 := 0) rfl rfl, kq_pre hG hZ hS hPc hDc hFc⟩ rfl rfl hl.1 rfl (lv_room (Nat.le_of_ble_eq_true rfl)) dX3_leaveOutRows_38 ⟨Nat.le_of_ble_eq_true rfl, Nat.le_of_ble_eq_true rfl⟩) hS (fun q _ h => hFc q h) hFc (fun rv u t H1 locs ht hvm hw hB hz1 hk1 hS => ?_)
        obtain ⟨hP1, hD1⟩ := hB
        rw [ht] at hP1
        have hw := hw.symm
        subst hw
        obtain ⟨hP, hD⟩ := va_join (wr := []) (w1 := [(h, .inr (3, [.ref h_drawing, .ref h_saying, .ref h_numbers, .int h_count])), (h_drawing, .inr (1, [.ref h_drawing_sort, .ref h_drawing_x, .ref h_drawing_y, .ref h_drawing_z, .int h_drawing_count, .int h_drawing_fault, .int h_drawing_faultPart])), (h_saying, .inr (2, [.ref h_saying_staying])), (h_numbers, .inl (cA 0, 40, .inl h_numbers_v)), (h_drawing_sort, .inl (cA 0, 40, .inl h_drawing_sort_v)), (h_drawing_z, .inl (cA 0, 40, .inl h_drawing_z_v)), (h_saying_staying, .inl (cA 1, 64, .inl h_saying_staying_v))]) hP hD [0, 1, 2, 3, 4, 5, 6] [] rfl rfl (by decide) (by decide) hk1 hFc hP1 hD1
        have hP : va_P (dC, dI) vwCl [(h, .inr (3, [.ref h_drawing, .ref h_saying, .ref h_numbers, .int h_count])), (h_drawing, .inr (1, [.ref h_drawing_sort, .ref h_drawing_x, .ref h_drawing_y, .ref h_drawing_z, .int h_drawing_count, .int h_drawing_fault, .int h_drawing_faultPart])), (h_saying, .inr (2, [.ref h_saying_staying])), (h_numbers, .inl (cA 0, 40, .inl h_numbers_v)), (h_drawing_sort, .inl (cA 0, 40, .inl h_drawing_sort_v)), (h_drawing_z, .inl (cA 0, 40, .inl h_drawing_z_v)), (h_saying_staying, .inl (cA 1, 64, .inl h_saying_staying_v))] H1 := hP.sub [0, 1, 2, 3, 4, 5, 6] rfl
        have hD : va_D A [(h, .inr (3, [.ref h_drawing, .ref h_saying, .ref h_numbers, .int h_count])), (h_drawing, .inr (1, [.ref h_drawing_sort, .ref h_drawing_x, .ref h_drawing_y, .ref h_drawing_z, .int h_drawing_count, .int h_drawing_fault, .int h_drawing_faultPart])), (h_saying, .inr (2, [.ref h_saying_staying])), (h_numbers, .inl (cA 0, 40, .inl h_numbers_v)), (h_drawing_sort, .inl (cA 0, 40, .inl h_drawing_sort_v)), (h_drawing_z, .inl (cA 0, 40, .inl h_drawing_z_v)), (h_saying_staying, .inl (cA 1, 64, .inl h_saying_staying_v))] := hD.sub [0, 1, 2, 3, 4, 5, 6] (by decide) rfl
        generalize H1 = H at hP hS ⊢
        refine lv_if_eq (tgt := 56) hx hb dX3_leaveOutRows_41 (by decide) (fun c8006 => ?_) (fun c8006 => ?_)
        · have hf := kp_p c8006 hf
          refine lv_iload hx hb dX3_leaveOutRows_56 (lv_at hl 0 rfl) ?_
          refine lv_istore_n (lv' := [(3, .int (if h_count < (v3 + p0) then h_count else (v3 + p0))), (5, .int (if h_count < (v3 + p0) then h_count else (v3 + p0))), (0, .ref h), (1, .int p0), (2, .int v2), (4, .int v4)]) hx hb dX3_leaveOutRows_58 rfl hl (by decide) rfl (fun ls hl => ?_)
          refine lv_iinc (v := v4 + 1) (lv' := [(4, .int (v4 + 1)), (3, .int (if h_count < (v3 + p0) then h_count else (v3 + p0))), (5, .int (if h_count < (v3 + p0) then h_count else (v3 + p0))), (0, .ref h), (1, .int p0), (2, .int v2)]) hx hb dX3_leaveOutRows_59 hl (k := 5) rfl rfl (by decide) rfl (fun ls hl => ?_)
          refine lv_goto (tgt := 7) hx hb dX3_leaveOutRows_62 (by decide) ?_
          exact ih7 _ _ _ ⟨h_count, h_numbers_v, v2, if h_count < (v3 + p0) then h_count else (v3 + p0), v4 + 1, ls, rfl, lv_sub hl [3, 4, 5, 1, 0] rfl, hP, hD, hS, hf⟩
        · have hf := kp_n c8006 hf
          refine lv_aload_n hx hb dX3_leaveOutRows_44 rfl (lv_at hl 1 rfl) ?_
          refine lv_iload_n hx hb dX3_leaveOutRows_45 rfl (lv_at hl 4 rfl) ?_
          refine lv_iload hx hb dX3_leaveOutRows_46 (lv_at hl 0 rfl) ?_
          obtain ⟨r8007, hr8007, hf⟩ := kp_b hf
          have hPc := hP.sub (ws' := [(h, .inr (3, [.ref h_drawing, .ref h_saying, .ref h_numbers, .int h_count])), (h_numbers, .inl (cA 0, 40, .inl h_numbers_v))]) [0, 3] rfl
          have hDc := hD.sub (ws' := [(h, .inr (3, [.ref h_drawing, .ref h_saying, .ref h_numbers, .int h_count])), (h_numbers, .inl (cA 0, 40, .inl h_numbers_v))]) [0, 3] (by decide) rfl
          have hFc := va_free (wc := [(h, .inr (3, [.ref h_drawing, .ref h_saying, .ref h_numbers, .int h_count])), (h_numbers, .inl (cA 0, 40, .inl h_numbers_v))]) hD hS hA [0, 3] rfl
          refine va_callv (va_runV (As := [.int v3, .int (if h_count < (v3 + p0) then h_count else (v3 + p0))]) (rest := []) ⟨hx, hb, hml, hown, hts⟩ (c_X3_takeOut l dC dI cA tt h h_numbers h_drawing h_saying H.size h_count h_numbers_v v3 (if h_count < (v3 + p0) then h_count else (v3 + p0)) r8007 hr8007) (cwV 2 hts (kq_gV tw_286 tw_288 tw_10 tw_22 tw_289) rfl rfl rfl (by decide +kernel) ⟨Nat.le_of_ble_eq_true rfl, Nat.le_of_ble_eq_true rfl⟩) ⟨kq_blind, va_recv hK hP (ci := 3) (q0 := 0) rfl rfl, kq_pre hG hZ hS hPc hDc hFc⟩ rfl rfl hl.1 rfl (lv_room (Nat.le_of_ble_eq_true rfl)) dX3_leaveOutRows_48 ⟨Nat.le_of_ble_eq_true rfl, Nat.le_of_ble_eq_true rfl⟩) hS (fun q _ h => hFc q h) hFc (fun u t H1 locs ht hvm hw hB hz1 hk1 hS => ?_)
          obtain ⟨hP1, hD1⟩ := hB
          rw [ht] at hP1
          obtain ⟨hP, hD⟩ := va_join (wr := [(h_drawing, .inr (1, [.ref h_drawing_sort, .ref h_drawing_x, .ref h_drawing_y, .ref h_drawing_z, .int h_drawing_count, .int h_drawing_fault, .int h_drawing_faultPart])), (h_saying, .inr (2, [.ref h_saying_staying])), (h_drawing_sort, .inl (cA 0, 40, .inl h_drawing_sort_v)), (h_drawing_z, .inl (cA 0, 40, .inl h_drawing_z_v)), (h_saying_staying, .inl (cA 1, 64, .inl h_saying_staying_v))]) (w1 := [(h, .inr (3, [.ref h_drawing, .ref h_saying, .ref h_numbers, .int r8007.1])), (h_numbers, .inl (cA 0, 40, .inl r8007.2))]) hP hD [0, 3] [1, 2, 4, 5, 6] rfl rfl (by decide) (by decide) hk1 hFc hP1 hD1
          have hP : va_P (dC, dI) vwCl [(h, .inr (3, [.ref h_drawing, .ref h_saying, .ref h_numbers, .int r8007.1])), (h_drawing, .inr (1, [.ref h_drawing_sort, .ref h_drawing_x, .ref h_drawing_y, .ref h_drawing_z, .int h_drawing_count, .int h_drawing_fault, .int h_drawing_faultPart])), (h_saying, .inr (2, [.ref h_saying_staying])), (h_numbers, .inl (cA 0, 40, .inl r8007.2)), (h_drawing_sort, .inl (cA 0, 40, .inl h_drawing_sort_v)), (h_drawing_z, .inl (cA 0, 40, .inl h_drawing_z_v)), (h_saying_staying, .inl (cA 1, 64, .inl h_saying_staying_v))] H1 := hP.sub [5, 0, 1, 6, 2, 3, 4] rfl
          have hD : va_D A [(h, .inr (3, [.ref h_drawing, .ref h_saying, .ref h_numbers, .int r8007.1])), (h_drawing, .inr (1, [.ref h_drawing_sort, .ref h_drawing_x, .ref h_drawing_y, .ref h_drawing_z, .int h_drawing_count, .int h_drawing_fault, .int h_drawing_faultPart])), (h_saying, .inr (2, [.ref h_saying_staying])), (h_numbers, .inl (cA 0, 40, .inl r8007.2)), (h_drawing_sort, .inl (cA 0, 40, .inl h_drawing_sort_v)), (h_drawing_z, .inl (cA 0, 40, .inl h_drawing_z_v)), (h_saying_staying, .inl (cA 1, 64, .inl h_saying_staying_v))] := hD.sub [5, 0, 1, 6, 2, 3, 4] (by decide) rfl
          generalize H1 = H at hP hS ⊢
          refine lv_iconst (v := 1) hx hb dX3_leaveOutRows_51 (by decide) ?_
          refine lv_istore_n (lv' := [(2, .int 1), (5, .int (if h_count < (v3 + p0) then h_count else (v3 + p0))), (0, .ref h), (1, .int p0), (3, .int v3), (4, .int v4)]) hx hb dX3_leaveOutRows_52 rfl hl (by decide) rfl (fun ls hl => ?_)
          refine lv_goto (tgt := 59) hx hb dX3_leaveOutRows_53 (by decide) ?_
          refine lv_iinc (v := v4 + 1) (lv' := [(4, .int (v4 + 1)), (2, .int 1), (5, .int (if h_count < (v3 + p0) then h_count else (v3 + p0))), (0, .ref h), (1, .int p0), (3, .int v3)]) hx hb dX3_leaveOutRows_59 hl (k := 5) rfl rfl (by decide) rfl (fun ls hl => ?_)
          refine lv_goto (tgt := 7) hx hb dX3_leaveOutRows_62 (by decide) ?_
          exact ih7 _ _ _ ⟨r8007.1, r8007.2, 1, v3, v4 + 1, ls, rfl, lv_sub hl [3, 4, 1, 5, 0] rfl, hP, hD, hS, hf⟩

def f_X3_shorten_L35 (h_drawing_faultPart : Int32) (h_drawing_sort_v : Nat → Int32) (h_drawing_z_v : Nat → Int32) (h_saying_staying_v : Nat → Int32) : Nat → Int32 → (Nat → Int32) → Int32 → Int32 → Int32 → Option (Int32 × (Nat → Int32) × Int32)
  | 0, _, _, _, _, _ => none
  | n35 + 1, h_count, h_numbers_v, v1, v2, v3 =>
    (if 40 ≤ v3 then
    some ((h_count, h_numbers_v, v1))
    else
    (if v1 = 1 then
    (if v2 = 0 then
    some ((h_count, h_numbers_v, v1))
    else
    (f_X3_leaveOutRows h_count h_drawing_faultPart h_numbers_v h_drawing_sort_v h_drawing_z_v h_saying_staying_v 1).bind fun r36004 =>
    f_X3_shorten_L35 h_drawing_faultPart h_drawing_sort_v h_drawing_z_v h_saying_staying_v n35 r36004.2.1 r36004.2.2 v1 r36004.1 (v3 + 1))
    else
    some ((h_count, h_numbers_v, v1))))
theorem e_X3_shorten_L35 (h_drawing_faultPart : Int32) (h_drawing_sort_v : Nat → Int32) (h_drawing_z_v : Nat → Int32) (h_saying_staying_v : Nat → Int32) (n35 : Nat) (h_count : Int32) (h_numbers_v : Nat → Int32) (v1 : Int32) (v2 : Int32) (v3 : Int32) : f_X3_shorten_L35 h_drawing_faultPart h_drawing_sort_v h_drawing_z_v h_saying_staying_v (n35 + 1) h_count h_numbers_v v1 v2 v3 =
    ((if 40 ≤ v3 then
    some ((h_count, h_numbers_v, v1))
    else
    (if v1 = 1 then
    (if v2 = 0 then
    some ((h_count, h_numbers_v, v1))
    else
    (f_X3_leaveOutRows h_count h_drawing_faultPart h_numbers_v h_drawing_sort_v h_drawing_z_v h_saying_staying_v 1).bind fun r36004 =>
    f_X3_shorten_L35 h_drawing_faultPart h_drawing_sort_v h_drawing_z_v h_saying_staying_v n35 r36004.2.1 r36004.2.2 v1 r36004.1 (v3 + 1))
    else
    some ((h_count, h_numbers_v, v1))))) := rfl
def f_X3_shorten_L22 (h_drawing_faultPart : Int32) (h_drawing_sort_v : Nat → Int32) (h_drawing_z_v : Nat → Int32) (h_saying_staying_v : Nat → Int32) : Nat → Int32 → (Nat → Int32) → Int32 → Option (Int32 × (Nat → Int32))
  | 0, _, _, _ => none
  | n22 + 1, h_count, h_numbers_v, v1 =>
    (if v1 < 1 then
    some ((h_count, h_numbers_v))
    else
    (f_X3_leaveOutRows h_count h_drawing_faultPart h_numbers_v h_drawing_sort_v h_drawing_z_v h_saying_staying_v v1).bind fun r23002 =>
    (f_X3_shorten_L35 h_drawing_faultPart h_drawing_sort_v h_drawing_z_v h_saying_staying_v 64 r23002.2.1 r23002.2.2 v1 r23002.1 0).bind fun r23003 =>
    f_X3_shorten_L22 h_drawing_faultPart h_drawing_sort_v h_drawing_z_v h_saying_staying_v n22 r23003.1 r23003.2.1 (r23003.2.2 / 2))
theorem e_X3_shorten_L22 (h_drawing_faultPart : Int32) (h_drawing_sort_v : Nat → Int32) (h_drawing_z_v : Nat → Int32) (h_saying_staying_v : Nat → Int32) (n22 : Nat) (h_count : Int32) (h_numbers_v : Nat → Int32) (v1 : Int32) : f_X3_shorten_L22 h_drawing_faultPart h_drawing_sort_v h_drawing_z_v h_saying_staying_v (n22 + 1) h_count h_numbers_v v1 =
    ((if v1 < 1 then
    some ((h_count, h_numbers_v))
    else
    (f_X3_leaveOutRows h_count h_drawing_faultPart h_numbers_v h_drawing_sort_v h_drawing_z_v h_saying_staying_v v1).bind fun r23002 =>
    (f_X3_shorten_L35 h_drawing_faultPart h_drawing_sort_v h_drawing_z_v h_saying_staying_v 64 r23002.2.1 r23002.2.2 v1 r23002.1 0).bind fun r23003 =>
    f_X3_shorten_L22 h_drawing_faultPart h_drawing_sort_v h_drawing_z_v h_saying_staying_v n22 r23003.1 r23003.2.1 (r23003.2.2 / 2))) := rfl
def f_X3_shorten (h_count : Int32) (h_drawing_faultPart : Int32) (h_numbers_v : Nat → Int32) (h_drawing_sort_v : Nat → Int32) (h_drawing_z_v : Nat → Int32) (h_saying_staying_v : Nat → Int32) : Option (Int32 × (Nat → Int32)) :=
    (f_X3_signature h_count h_drawing_faultPart h_numbers_v h_drawing_sort_v h_drawing_z_v).bind fun r1 =>
    (f_X2_keeps h_saying_staying_v r1).bind fun r2 =>
    (if r2 = 0 then
    some ((h_count, h_numbers_v))
    else
    f_X3_shorten_L22 h_drawing_faultPart h_drawing_sort_v h_drawing_z_v h_saying_staying_v 64 h_count h_numbers_v (h_count / 2))
set_option maxHeartbeats 4000000 in
set_option maxRecDepth 100000 in
theorem c_X3_shorten (l : Launch) (dC : Nat → ClassId) (dI : Nat → Nat → Nat) (cA : Nat → ClassId) (tt : Nat → Nat) (h h_drawing h_saying h_numbers h_drawing_sort h_drawing_z h_saying_staying h_drawing_x h_drawing_y : Nat) (sz : Nat) (h_count : Int32) (h_drawing_count : Int32) (h_drawing_fault : Int32) (h_drawing_faultPart : Int32) (h_numbers_v : Nat → Int32) (h_drawing_sort_v : Nat → Int32) (h_drawing_z_v : Nat → Int32) (h_saying_staying_v : Nat → Int32) (o : Int32 × (Nat → Int32)) (hf : f_X3_shorten h_count h_drawing_faultPart h_numbers_v h_drawing_sort_v h_drawing_z_v h_saying_staying_v = some o) : Met l yX3_shorten wX3_shorten ({ frames := 4, cells := 0, slots := 0, locals := 88 }) (kq_Pc dC dI cA tt [.ref h] [(h, .inr (3, [.ref h_drawing, .ref h_saying, .ref h_numbers, .int h_count])), (h_drawing, .inr (1, [.ref h_drawing_sort, .ref h_drawing_x, .ref h_drawing_y, .ref h_drawing_z, .int h_drawing_count, .int h_drawing_fault, .int h_drawing_faultPart])), (h_saying, .inr (2, [.ref h_saying_staying])), (h_numbers, .inl (cA 0, 40, .inl h_numbers_v)), (h_drawing_sort, .inl (cA 0, 40, .inl h_drawing_sort_v)), (h_drawing_z, .inl (cA 0, 40, .inl h_drawing_z_v)), (h_saying_staying, .inl (cA 1, 64, .inl h_saying_staying_v))] sz) (va_Qv (fun _ : Unit => True) (fun _ t => kq_B dC dI [(h, .inr (3, [.ref h_drawing, .ref h_saying, .ref h_numbers, .int o.1])), (h_drawing, .inr (1, [.ref h_drawing_sort, .ref h_drawing_x, .ref h_drawing_y, .ref h_drawing_z, .int h_drawing_count, .int h_drawing_fault, .int h_drawing_faultPart])), (h_saying, .inr (2, [.ref h_saying_staying])), (h_numbers, .inl (cA 0, 40, .inl o.2)), (h_drawing_sort, .inl (cA 0, 40, .inl h_drawing_sort_v)), (h_drawing_z, .inl (cA 0, 40, .inl h_drawing_z_v)), (h_saying_staying, .inl (cA 1, 64, .inl h_saying_staying_v))] (va_A [(h, .inr (3, [.ref h_drawing, .ref h_saying, .ref h_numbers, .int h_count])), (h_drawing, .inr (1, [.ref h_drawing_sort, .ref h_drawing_x, .ref h_drawing_y, .ref h_drawing_z, .int h_drawing_count, .int h_drawing_fault, .int h_drawing_faultPart])), (h_saying, .inr (2, [.ref h_saying_staying])), (h_numbers, .inl (cA 0, 40, .inl h_numbers_v)), (h_drawing_sort, .inl (cA 0, 40, .inl h_drawing_sort_v)), (h_drawing_z, .inl (cA 0, 40, .inl h_drawing_z_v)), (h_saying_staying, .inl (cA 1, 64, .inl h_saying_staying_v))] sz) t) (va_A [(h, .inr (3, [.ref h_drawing, .ref h_saying, .ref h_numbers, .int h_count])), (h_drawing, .inr (1, [.ref h_drawing_sort, .ref h_drawing_x, .ref h_drawing_y, .ref h_drawing_z, .int h_drawing_count, .int h_drawing_fault, .int h_drawing_faultPart])), (h_saying, .inr (2, [.ref h_saying_staying])), (h_numbers, .inl (cA 0, 40, .inl h_numbers_v)), (h_drawing_sort, .inl (cA 0, 40, .inl h_drawing_sort_v)), (h_drawing_z, .inl (cA 0, 40, .inl h_drawing_z_v)), (h_saying_staying, .inl (cA 1, 64, .inl h_saying_staying_v))] sz)) 0 0 (va_A [(h, .inr (3, [.ref h_drawing, .ref h_saying, .ref h_numbers, .int h_count])), (h_drawing, .inr (1, [.ref h_drawing_sort, .ref h_drawing_x, .ref h_drawing_y, .ref h_drawing_z, .int h_drawing_count, .int h_drawing_fault, .int h_drawing_faultPart])), (h_saying, .inr (2, [.ref h_saying_staying])), (h_numbers, .inl (cA 0, 40, .inl h_numbers_v)), (h_drawing_sort, .inl (cA 0, 40, .inl h_drawing_sort_v)), (h_drawing_z, .inl (cA 0, 40, .inl h_drawing_z_v)), (h_saying_staying, .inl (cA 1, 64, .inl h_saying_staying_v))] sz) := by
  refine Met.ofW (cc := cX3_shorten) (maxL := 4) (ret := none) (by decide) rfl ?_
  intro p e s m args below meth c s₁ B hml hv
  obtain ⟨rfl, hsz, hP, hD0, hG, hZ⟩ := hv
  have hx := B.exec
  have hb := B.bytes
  have hr := B.returns
  have hts : ∀ w ∈ kq_T, w.before _ s = true := fun w h => atoms_spec (ws := wX3_shorten) B.pre w (List.mem_cons_of_mem _ h)
  have hown : s.vm.findClass RX3 = some m.cls := findClass_of_methodNamed B.named
  have hlocks := B.notSynchronized
  have hK := hG.1
  subst hsz
  have hD := hD0.self (sz := s.heap.size)
  generalize hAe : va_A [(h, .inr (3, [.ref h_drawing, .ref h_saying, .ref h_numbers, .int h_count])), (h_drawing, .inr (1, [.ref h_drawing_sort, .ref h_drawing_x, .ref h_drawing_y, .ref h_drawing_z, .int h_drawing_count, .int h_drawing_fault, .int h_drawing_faultPart])), (h_saying, .inr (2, [.ref h_saying_staying])), (h_numbers, .inl (cA 0, 40, .inl h_numbers_v)), (h_drawing_sort, .inl (cA 0, 40, .inl h_drawing_sort_v)), (h_drawing_z, .inl (cA 0, 40, .inl h_drawing_z_v)), (h_saying_staying, .inl (cA 1, 64, .inl h_saying_staying_v))] s.heap.size = A at hD hZ ⊢
  have hA : ∀ q : Nat, s.heap.size ≤ q → A q := fun q h => by rw [← hAe]; exact Or.inr h
  have hl := lv_entry [.ref h] (n := 4) (Nat.le_of_ble_eq_true rfl)
  rw [lg_entry_eq]
  generalize (lg_sl [.ref h] ++ List.replicate (4 - (lg_sl [.ref h]).length) Slot.unset).toArray = ls at hl ⊢
  have hl : lv_has ls 4 [(0, .ref h)] := hl
  obtain ⟨H, hHe⟩ : ∃ H : Heap, H = s.heap := ⟨_, rfl⟩
  have hP : va_P (dC, dI) vwCl [(h, .inr (3, [.ref h_drawing, .ref h_saying, .ref h_numbers, .int h_count])), (h_drawing, .inr (1, [.ref h_drawing_sort, .ref h_drawing_x, .ref h_drawing_y, .ref h_drawing_z, .int h_drawing_count, .int h_drawing_fault, .int h_drawing_faultPart])), (h_saying, .inr (2, [.ref h_saying_staying])), (h_numbers, .inl (cA 0, 40, .inl h_numbers_v)), (h_drawing_sort, .inl (cA 0, 40, .inl h_drawing_sort_v)), (h_drawing_z, .inl (cA 0, 40, .inl h_drawing_z_v)), (h_saying_staying, .inl (cA 1, 64, .inl h_saying_staying_v))] H := by rw [hHe]; exact hP
  have hS : va_S A s.heap H [] := by rw [hHe]; exact va_S.rf
  rw [← hHe]
  unfold f_X3_shorten at hf
  refine lv_aload_n hx hb dX3_shorten_0 rfl (lv_at hl 0 rfl) ?_
  refine va_get (D := (dC, dI)) (ci := 3) (v := .ref h_saying) (C := RX3) (T := TX3) (N := 4) hx hb hts iwX3 hown hK hP 0 rfl rfl 1 (by decide) (hts _ tw_101) (fun _ h9 => h9) rfl dX3_shorten_1 ?_
  refine lv_aload_n hx hb dX3_shorten_4 rfl (lv_at hl 0 rfl) ?_
  obtain ⟨r1, hr1, hf⟩ := kp_b hf
  have hPc := hP.sub (ws' := [(h, .inr (3, [.ref h_drawing, .ref h_saying, .ref h_numbers, .int h_count])), (h_drawing, .inr (1, [.ref h_drawing_sort, .ref h_drawing_x, .ref h_drawing_y, .ref h_drawing_z, .int h_drawing_count, .int h_drawing_fault, .int h_drawing_faultPart])), (h_numbers, .inl (cA 0, 40, .inl h_numbers_v)), (h_drawing_sort, .inl (cA 0, 40, .inl h_drawing_sort_v)), (h_drawing_z, .inl (cA 0, 40, .inl h_drawing_z_v))]) [0, 1, 3, 4, 5] rfl
  have hDc := hD.sub (ws' := [(h, .inr (3, [.ref h_drawing, .ref h_saying, .ref h_numbers, .int h_count])), (h_drawing, .inr (1, [.ref h_drawing_sort, .ref h_drawing_x, .ref h_drawing_y, .ref h_drawing_z, .int h_drawing_count, .int h_drawing_fault, .int h_drawing_faultPart])), (h_numbers, .inl (cA 0, 40, .inl h_numbers_v)), (h_drawing_sort, .inl (cA 0, 40, .inl h_drawing_sort_v)), (h_drawing_z, .inl (cA 0, 40, .inl h_drawing_z_v))]) [0, 1, 3, 4, 5] (by decide) rfl
  have hFc := va_free (wc := [(h, .inr (3, [.ref h_drawing, .ref h_saying, .ref h_numbers, .int h_count])), (h_drawing, .inr (1, [.ref h_drawing_sort, .ref h_drawing_x, .ref h_drawing_y, .ref h_drawing_z, .int h_drawing_count, .int h_drawing_fault, .int h_drawing_faultPart])), (h_numbers, .inl (cA 0, 40, .inl h_numbers_v)), (h_drawing_sort, .inl (cA 0, 40, .inl h_drawing_sort_v)), (h_drawing_z, .inl (cA 0, 40, .inl h_drawing_z_v))]) hD hS hA [0, 1, 3, 4, 5] rfl
  refine va_calli (va_runV (As := []) (rest := [.ref h_saying]) ⟨hx, hb, hml, hown, hts⟩ (c_X3_signature l dC dI cA tt h h_drawing h_numbers h_drawing_sort h_drawing_z h_saying h_drawing_x h_drawing_y H.size h_count h_drawing_count h_drawing_fault h_drawing_faultPart h_numbers_v h_drawing_sort_v h_drawing_z_v r1 hr1) (cwV 0 hts (kq_gV tw_270 tw_244 tw_245 tw_22 tw_246) rfl rfl rfl (by decide +kernel) ⟨Nat.le_of_ble_eq_true rfl, Nat.le_of_ble_eq_true rfl⟩) ⟨kq_blind, va_recv hK hP (ci := 3) (q0 := 0) rfl rfl, kq_pre hG hZ hS hPc hDc hFc⟩ rfl rfl hl.1 rfl (lv_room (Nat.le_of_ble_eq_true rfl)) dX3_shorten_5 ⟨Nat.le_of_ble_eq_true rfl, Nat.le_of_ble_eq_true rfl⟩) hS (fun q _ h => hFc q h) hFc (fun rv u t H1 locs ht hvm hw hB hz1 hk1 hS => ?_)
  obtain ⟨hP1, hD1⟩ := hB
  rw [ht] at hP1
  have hw := hw.symm
  subst hw
  obtain ⟨hP, hD⟩ := va_join (wr := [(h_saying, .inr (2, [.ref h_saying_staying])), (h_saying_staying, .inl (cA 1, 64, .inl h_saying_staying_v))]) (w1 := [(h, .inr (3, [.ref h_drawing, .ref h_saying, .ref h_numbers, .int h_count])), (h_drawing, .inr (1, [.ref h_drawing_sort, .ref h_drawing_x, .ref h_drawing_y, .ref h_drawing_z, .int h_drawing_count, .int h_drawing_fault, .int h_drawing_faultPart])), (h_numbers, .inl (cA 0, 40, .inl h_numbers_v)), (h_drawing_sort, .inl (cA 0, 40, .inl h_drawing_sort_v)), (h_drawing_z, .inl (cA 0, 40, .inl h_drawing_z_v))]) hP hD [0, 1, 3, 4, 5] [2, 6] rfl rfl (by decide) (by decide) hk1 hFc hP1 hD1
  have hP : va_P (dC, dI) vwCl [(h, .inr (3, [.ref h_drawing, .ref h_saying, .ref h_numbers, .int h_count])), (h_drawing, .inr (1, [.ref h_drawing_sort, .ref h_drawing_x, .ref h_drawing_y, .ref h_drawing_z, .int h_drawing_count, .int h_drawing_fault, .int h_drawing_faultPart])), (h_saying, .inr (2, [.ref h_saying_staying])), (h_numbers, .inl (cA 0, 40, .inl h_numbers_v)), (h_drawing_sort, .inl (cA 0, 40, .inl h_drawing_sort_v)), (h_drawing_z, .inl (cA 0, 40, .inl h_drawing_z_v)), (h_saying_staying, .inl (cA 1, 64, .inl h_saying_staying_v))] H1 := hP.sub [2, 3, 0, 4, 5, 6, 1] rfl
  have hD : va_D A [(h, .inr (3, [.ref h_drawing, .ref h_saying, .ref h_numbers, .int h_count])), (h_drawing, .inr (1, [.ref h_drawing_sort, .ref h_drawing_x, .ref h_drawing_y, .ref h_drawing_z, .int h_drawing_count, .int h_drawing_fault, .int h_drawing_faultPart])), (h_saying, .inr (2, [.ref h_saying_staying])), (h_numbers, .inl (cA 0, 40, .inl h_numbers_v)), (h_drawing_sort, .inl (cA 0, 40, .inl h_drawing_sort_v)), (h_drawing_z, .inl (cA 0, 40, .inl h_drawing_z_v)), (h_saying_staying, .inl (cA 1, 64, .inl h_saying_staying_v))] := hD.sub [2, 3, 0, 4, 5, 6, 1] (by decide) rfl
  generalize H1 = H at hP hS ⊢
  obtain ⟨r2, hr2, hf⟩ := kp_b hf
  have hPc := hP.sub (ws' := [(h_saying, .inr (2, [.ref h_saying_staying])), (h_saying_staying, .inl (cA 1, 64, .inl h_saying_staying_v))]) [2, 6] rfl
  have hDc := hD.sub (ws' := [(h_saying, .inr (2, [.ref h_saying_staying])), (h_saying_staying, .inl (cA 1, 64, .inl h_saying_staying_v))]) [2, 6] (by decide) rfl
  have hFc := va_free (wc := [(h_saying, .inr (2, [.ref h_saying_staying])), (h_saying_staying, .inl (cA 1, 64, .inl h_saying_staying_v))]) hD hS hA [2, 6] rfl
  refine va_calli (va_runV (As := [.int r1]) (rest := []) ⟨hx, hb, hml, hown, hts⟩ (c_X2_keeps l dC dI cA tt h_saying h_saying_staying H.size h_saying_staying_v r1 r2 hr2) (cwV 1 hts (kq_gV tw_271 tw_272 tw_273 tw_24 tw_274) rfl rfl rfl (by decide +kernel) ⟨Nat.le_of_ble_eq_true rfl, Nat.le_of_ble_eq_true rfl⟩) ⟨kq_blind, va_recv hK hP (ci := 2) (q0 := 2) rfl rfl, kq_pre hG hZ hS hPc hDc hFc⟩ rfl rfl hl.1 rfl (lv_room (Nat.le_of_ble_eq_true rfl)) dX3_shorten_8 ⟨Nat.le_of_ble_eq_true rfl, Nat.le_of_ble_eq_true rfl⟩) hS (fun q _ h => hFc q h) hFc (fun rv u t H1 locs ht hvm hw hB hz1 hk1 hS => ?_)
  obtain ⟨hP1, hD1⟩ := hB
  rw [ht] at hP1
  have hw := hw.symm
  subst hw
  obtain ⟨hP, hD⟩ := va_join (wr := [(h, .inr (3, [.ref h_drawing, .ref h_saying, .ref h_numbers, .int h_count])), (h_drawing, .inr (1, [.ref h_drawing_sort, .ref h_drawing_x, .ref h_drawing_y, .ref h_drawing_z, .int h_drawing_count, .int h_drawing_fault, .int h_drawing_faultPart])), (h_numbers, .inl (cA 0, 40, .inl h_numbers_v)), (h_drawing_sort, .inl (cA 0, 40, .inl h_drawing_sort_v)), (h_drawing_z, .inl (cA 0, 40, .inl h_drawing_z_v))]) (w1 := [(h_saying, .inr (2, [.ref h_saying_staying])), (h_saying_staying, .inl (cA 1, 64, .inl h_saying_staying_v))]) hP hD [2, 6] [0, 1, 3, 4, 5] rfl rfl (by decide) (by decide) hk1 hFc hP1 hD1
  have hP : va_P (dC, dI) vwCl [(h, .inr (3, [.ref h_drawing, .ref h_saying, .ref h_numbers, .int h_count])), (h_drawing, .inr (1, [.ref h_drawing_sort, .ref h_drawing_x, .ref h_drawing_y, .ref h_drawing_z, .int h_drawing_count, .int h_drawing_fault, .int h_drawing_faultPart])), (h_saying, .inr (2, [.ref h_saying_staying])), (h_numbers, .inl (cA 0, 40, .inl h_numbers_v)), (h_drawing_sort, .inl (cA 0, 40, .inl h_drawing_sort_v)), (h_drawing_z, .inl (cA 0, 40, .inl h_drawing_z_v)), (h_saying_staying, .inl (cA 1, 64, .inl h_saying_staying_v))] H1 := hP.sub [0, 1, 5, 2, 3, 4, 6] rfl
  have hD : va_D A [(h, .inr (3, [.ref h_drawing, .ref h_saying, .ref h_numbers, .int h_count])), (h_drawing, .inr (1, [.ref h_drawing_sort, .ref h_drawing_x, .ref h_drawing_y, .ref h_drawing_z, .int h_drawing_count, .int h_drawing_fault, .int h_drawing_faultPart])), (h_saying, .inr (2, [.ref h_saying_staying])), (h_numbers, .inl (cA 0, 40, .inl h_numbers_v)), (h_drawing_sort, .inl (cA 0, 40, .inl h_drawing_sort_v)), (h_drawing_z, .inl (cA 0, 40, .inl h_drawing_z_v)), (h_saying_staying, .inl (cA 1, 64, .inl h_saying_staying_v))] := hD.sub [0, 1, 5, 2, 3, 4, 6] (by decide) rfl
  generalize H1 = H at hP hS ⊢
  refine lv_if_ne (tgt := 15) hx hb dX3_shorten_11 (by decide) (fun c3 => ?_) (fun c3 => ?_)
  · have hf := kp_n c3 hf
    refine lv_aload_n hx hb dX3_shorten_15 rfl (lv_at hl 0 rfl) ?_
    refine va_get (D := (dC, dI)) (ci := 3) (v := .int h_count) (C := RX3) (T := TX3) (N := 4) hx hb hts iwX3 hown hK hP 0 rfl rfl 3 (by decide) (hts _ tw_104) (fun _ h9 => h9) rfl dX3_shorten_16 ?_
    refine lv_iconst (v := 2) hx hb dX3_shorten_19 (by decide) ?_
    refine lv_idiv hx hb dX3_shorten_20 (by decide) ?_
    refine lv_istore_n (lv' := [(1, .int (h_count / 2)), (0, .ref h)]) hx hb dX3_shorten_21 rfl hl (by decide) rfl (fun ls hl => ?_)
    refine kq_ind (fun n H locs g => ∃ (h_count : Int32) (h_numbers_v : Nat → Int32) (v1 : Int32) (ls : Array Slot), g = F0 m 22 ls [] ∧ lv_has ls 4 [(0, .ref h), (1, .int v1)] ∧ va_P (dC, dI) vwCl [(h, .inr (3, [.ref h_drawing, .ref h_saying, .ref h_numbers, .int h_count])), (h_drawing, .inr (1, [.ref h_drawing_sort, .ref h_drawing_x, .ref h_drawing_y, .ref h_drawing_z, .int h_drawing_count, .int h_drawing_fault, .int h_drawing_faultPart])), (h_saying, .inr (2, [.ref h_saying_staying])), (h_numbers, .inl (cA 0, 40, .inl h_numbers_v)), (h_drawing_sort, .inl (cA 0, 40, .inl h_drawing_sort_v)), (h_drawing_z, .inl (cA 0, 40, .inl h_drawing_z_v)), (h_saying_staying, .inl (cA 1, 64, .inl h_saying_staying_v))] H ∧ va_D A [(h, .inr (3, [.ref h_drawing, .ref h_saying, .ref h_numbers, .int h_count])), (h_drawing, .inr (1, [.ref h_drawing_sort, .ref h_drawing_x, .ref h_drawing_y, .ref h_drawing_z, .int h_drawing_count, .int h_drawing_fault, .int h_drawing_faultPart])), (h_saying, .inr (2, [.ref h_saying_staying])), (h_numbers, .inl (cA 0, 40, .inl h_numbers_v)), (h_drawing_sort, .inl (cA 0, 40, .inl h_drawing_sort_v)), (h_drawing_z, .inl (cA 0, 40, .inl h_drawing_z_v)), (h_saying_staying, .inl (cA 1, 64, .inl h_saying_staying_v))] ∧ va_S A s.heap H locs ∧ f_X3_shorten_L22 h_drawing_faultPart h_drawing_sort_v h_drawing_z_v h_saying_staying_v n h_count h_numbers_v v1 = some o) (fun H locs g h => ?_) (fun n22 ih22 H locs g h => ?_) 64 _ _ _ ⟨h_count, h_numbers_v, h_count / 2, ls, rfl, lv_sub hl [1, 0] rfl, hP, hD, hS, hf⟩
    · obtain ⟨h_count, h_numbers_v, v1, ls, -, -, -, -, -, hf⟩ := h
      have hf : (none : Option (Int32 × (Nat → Int32))) = some o := hf
      cases hf
    · obtain ⟨h_count, h_numbers_v, v1, ls, rfl, hl, hP, hD, hS, hf⟩ := h
      have hf := (e_X3_shorten_L22 h_drawing_faultPart h_drawing_sort_v h_drawing_z_v h_saying_staying_v n22 h_count h_numbers_v v1).symm.trans hf
      refine lv_iload_n hx hb dX3_shorten_22 rfl (lv_at hl 1 rfl) ?_
      refine lv_iconst (v := 1) hx hb dX3_shorten_23 (by decide) ?_
      refine lv_icmp_lt (tgt := 69) hx hb dX3_shorten_24 (by decide) (fun c23001 => ?_) (fun c23001 => ?_)
      · have hf := kp_p c23001 hf
        have eo := Option.some.inj hf
        subst eo
        exact W.vret hx hb hr (fun t ht hW => ⟨⟨(), rfl, trivial, kq_mk ht hP hD⟩, hS.F ht⟩) hS.2.2 dX3_shorten_69
      · have hf := kp_n c23001 hf
        refine lv_aload_n hx hb dX3_shorten_27 rfl (lv_at hl 0 rfl) ?_
        refine lv_iload_n hx hb dX3_shorten_28 rfl (lv_at hl 1 rfl) ?_
        obtain ⟨r23002, hr23002, hf⟩ := kp_b hf
        have hPc := hP.sub (ws' := [(h, .inr (3, [.ref h_drawing, .ref h_saying, .ref h_numbers, .int h_count])), (h_drawing, .inr (1, [.ref h_drawing_sort, .ref h_drawing_x, .ref h_drawing_y, .ref h_drawing_z, .int h_drawing_count, .int h_drawing_fault, .int h_drawing_faultPart])), (h_saying, .inr (2, [.ref h_saying_staying])), (h_numbers, .inl (cA 0, 40, .inl h_numbers_v)), (h_drawing_sort, .inl (cA 0, 40, .inl h_drawing_sort_v)), (h_drawing_z, .inl (cA 0, 40, .inl h_drawing_z_v)), (h_saying_staying, .inl (cA 1, 64, .inl h_saying_staying_v))]) [0, 1, 2, 3, 4, 5, 6] rfl
        have hDc := hD.sub (ws' := [(h, .inr (3, [.ref h_drawing, .ref h_saying, .ref h_numbers, .int h_count])), (h_drawing, .inr (1, [.ref h_drawing_sort, .ref h_drawing_x, .ref h_drawing_y, .ref h_drawing_z, .int h_drawing_count, .int h_drawing_fault, .int h_drawing_faultPart])), (h_saying, .inr (2, [.ref h_saying_staying])), (h_numbers, .inl (cA 0, 40, .inl h_numbers_v)), (h_drawing_sort, .inl (cA 0, 40, .inl h_drawing_sort_v)), (h_drawing_z, .inl (cA 0, 40, .inl h_drawing_z_v)), (h_saying_staying, .inl (cA 1, 64, .inl h_saying_staying_v))]) [0, 1, 2, 3, 4, 5, 6] (by decide) rfl
        have hFc := va_free (wc := [(h, .inr (3, [.ref h_drawing, .ref h_saying, .ref h_numbers, .int h_count])), (h_drawing, .inr (1, [.ref h_drawing_sort, .ref h_drawing_x, .ref h_drawing_y, .ref h_drawing_z, .int h_drawing_count, .int h_drawing_fault, .int h_drawing_faultPart])), (h_saying, .inr (2, [.ref h_saying_staying])), (h_numbers, .inl (cA 0, 40, .inl h_numbers_v)), (h_drawing_sort, .inl (cA 0, 40, .inl h_drawing_sort_v)), (h_drawing_z, .inl (cA 0, 40, .inl h_drawing_z_v)), (h_saying_staying, .inl (cA 1, 64, .inl h_saying_staying_v))]) hD hS hA [0, 1, 2, 3, 4, 5, 6] rfl
        refine va_calli (va_runV (As := [.int v1]) (rest := []) ⟨hx, hb, hml, hown, hts⟩ (c_X3_leaveOutRows l dC dI cA tt h h_drawing h_saying h_numbers h_drawing_sort h_drawing_z h_saying_staying h_drawing_x h_drawing_y H.size h_count h_drawing_count h_drawing_fault h_drawing_faultPart h_numbers_v h_drawing_sort_v h_drawing_z_v h_saying_staying_v v1 r23002 hr23002) (cwV 1 hts (kq_gV tw_275 tw_277 tw_8 tw_22 tw_278) rfl rfl rfl (by decide +kernel) ⟨Nat.le_of_ble_eq_true rfl, Nat.le_of_ble_eq_true rfl⟩) ⟨kq_blind, va_recv hK hP (ci := 3) (q0 := 0) rfl rfl, kq_pre hG hZ hS hPc hDc hFc⟩ rfl rfl hl.1 rfl (lv_room (Nat.le_of_ble_eq_true rfl)) dX3_shorten_29 ⟨Nat.le_of_ble_eq_true rfl, Nat.le_of_ble_eq_true rfl⟩) hS (fun q _ h => hFc q h) hFc (fun rv u t H1 locs ht hvm hw hB hz1 hk1 hS => ?_)
        obtain ⟨hP1, hD1⟩ := hB
        rw [ht] at hP1
        have hw := hw.symm
        subst hw
        obtain ⟨hP, hD⟩ := va_join (wr := []) (w1 := [(h, .inr (3, [.ref h_drawing, .ref h_saying, .ref h_numbers, .int r23002.2.1])), (h_drawing, .inr (1, [.ref h_drawing_sort, .ref h_drawing_x, .ref h_drawing_y, .ref h_drawing_z, .int h_drawing_count, .int h_drawing_fault, .int h_drawing_faultPart])), (h_saying, .inr (2, [.ref h_saying_staying])), (h_numbers, .inl (cA 0, 40, .inl r23002.2.2)), (h_drawing_sort, .inl (cA 0, 40, .inl h_drawing_sort_v)), (h_drawing_z, .inl (cA 0, 40, .inl h_drawing_z_v)), (h_saying_staying, .inl (cA 1, 64, .inl h_saying_staying_v))]) hP hD [0, 1, 2, 3, 4, 5, 6] [] rfl rfl (by decide) (by decide) hk1 hFc hP1 hD1
        have hP : va_P (dC, dI) vwCl [(h, .inr (3, [.ref h_drawing, .ref h_saying, .ref h_numbers, .int r23002.2.1])), (h_drawing, .inr (1, [.ref h_drawing_sort, .ref h_drawing_x, .ref h_drawing_y, .ref h_drawing_z, .int h_drawing_count, .int h_drawing_fault, .int h_drawing_faultPart])), (h_saying, .inr (2, [.ref h_saying_staying])), (h_numbers, .inl (cA 0, 40, .inl r23002.2.2)), (h_drawing_sort, .inl (cA 0, 40, .inl h_drawing_sort_v)), (h_drawing_z, .inl (cA 0, 40, .inl h_drawing_z_v)), (h_saying_staying, .inl (cA 1, 64, .inl h_saying_staying_v))] H1 := hP.sub [0, 1, 2, 3, 4, 5, 6] rfl
        have hD : va_D A [(h, .inr (3, [.ref h_drawing, .ref h_saying, .ref h_numbers, .int r23002.2.1])), (h_drawing, .inr (1, [.ref h_drawing_sort, .ref h_drawing_x, .ref h_drawing_y, .ref h_drawing_z, .int h_drawing_count, .int h_drawing_fault, .int h_drawing_faultPart])), (h_saying, .inr (2, [.ref h_saying_staying])), (h_numbers, .inl (cA 0, 40, .inl r23002.2.2)), (h_drawing_sort, .inl (cA 0, 40, .inl h_drawing_sort_v)), (h_drawing_z, .inl (cA 0, 40, .inl h_drawing_z_v)), (h_saying_staying, .inl (cA 1, 64, .inl h_saying_staying_v))] := hD.sub [0, 1, 2, 3, 4, 5, 6] (by decide) rfl
        generalize H1 = H at hP hS ⊢
        refine lv_istore_n (lv' := [(2, .int r23002.1), (0, .ref h), (1, .int v1)]) hx hb dX3_shorten_32 rfl hl (by decide) rfl (fun ls hl => ?_)
        refine lv_iconst (v := 0) hx hb dX3_shorten_33 (by decide) ?_
        refine lv_istore_n (lv' := [(3, .int 0), (2, .int r23002.1), (0, .ref h), (1, .int v1)]) hx hb dX3_shorten_34 rfl hl (by decide) rfl (fun ls hl => ?_)
        obtain ⟨r23003, hr23003, hf⟩ := kp_b hf
        refine kq_cut (fun H locs g => ∃ (ls : Array Slot), g = F0 m 62 ls [] ∧ lv_has ls 4 [(0, .ref h), (1, .int r23003.2.2)] ∧ va_P (dC, dI) vwCl [(h, .inr (3, [.ref h_drawing, .ref h_saying, .ref h_numbers, .int r23003.1])), (h_drawing, .inr (1, [.ref h_drawing_sort, .ref h_drawing_x, .ref h_drawing_y, .ref h_drawing_z, .int h_drawing_count, .int h_drawing_fault, .int h_drawing_faultPart])), (h_saying, .inr (2, [.ref h_saying_staying])), (h_numbers, .inl (cA 0, 40, .inl r23003.2.1)), (h_drawing_sort, .inl (cA 0, 40, .inl h_drawing_sort_v)), (h_drawing_z, .inl (cA 0, 40, .inl h_drawing_z_v)), (h_saying_staying, .inl (cA 1, 64, .inl h_saying_staying_v))] H ∧ va_D A [(h, .inr (3, [.ref h_drawing, .ref h_saying, .ref h_numbers, .int r23003.1])), (h_drawing, .inr (1, [.ref h_drawing_sort, .ref h_drawing_x, .ref h_drawing_y, .ref h_drawing_z, .int h_drawing_count, .int h_drawing_fault, .int h_drawing_faultPart])), (h_saying, .inr (2, [.ref h_saying_staying])), (h_numbers, .inl (cA 0, 40, .inl r23003.2.1)), (h_drawing_sort, .inl (cA 0, 40, .inl h_drawing_sort_v)), (h_drawing_z, .inl (cA 0, 40, .inl h_drawing_z_v)), (h_saying_staying, .inl (cA 1, 64, .inl h_saying_staying_v))] ∧ va_S A s.heap H locs) (fun H locs g h => ?_) (fun J62 => ?_)
        · obtain ⟨ls, rfl, hl, hP, hD, hS⟩ := h
          refine lv_iload_n hx hb dX3_shorten_62 rfl (lv_at hl 1 rfl) ?_
          refine lv_iconst (v := 2) hx hb dX3_shorten_63 (by decide) ?_
          refine lv_idiv hx hb dX3_shorten_64 (by decide) ?_
          refine lv_istore_n (lv' := [(1, .int (r23003.2.2 / 2)), (0, .ref h)]) hx hb dX3_shorten_65 rfl hl (by decide) rfl (fun ls hl => ?_)
          refine lv_goto (tgt := 22) hx hb dX3_shorten_66 (by decide) ?_
          exact ih22 _ _ _ ⟨r23003.1, r23003.2.1, r23003.2.2 / 2, ls, rfl, lv_sub hl [1, 0] rfl, hP, hD, hS, hf⟩
        · have hf := hr23003
          refine kq_ind (fun n H locs g => ∃ (h_count : Int32) (h_numbers_v : Nat → Int32) (v1 : Int32) (v2 : Int32) (v3 : Int32) (ls : Array Slot), g = F0 m 35 ls [] ∧ lv_has ls 4 [(0, .ref h), (1, .int v1), (2, .int v2), (3, .int v3)] ∧ va_P (dC, dI) vwCl [(h, .inr (3, [.ref h_drawing, .ref h_saying, .ref h_numbers, .int h_count])), (h_drawing, .inr (1, [.ref h_drawing_sort, .ref h_drawing_x, .ref h_drawing_y, .ref h_drawing_z, .int h_drawing_count, .int h_drawing_fault, .int h_drawing_faultPart])), (h_saying, .inr (2, [.ref h_saying_staying])), (h_numbers, .inl (cA 0, 40, .inl h_numbers_v)), (h_drawing_sort, .inl (cA 0, 40, .inl h_drawing_sort_v)), (h_drawing_z, .inl (cA 0, 40, .inl h_drawing_z_v)), (h_saying_staying, .inl (cA 1, 64, .inl h_saying_staying_v))] H ∧ va_D A [(h, .inr (3, [.ref h_drawing, .ref h_saying, .ref h_numbers, .int h_count])), (h_drawing, .inr (1, [.ref h_drawing_sort, .ref h_drawing_x, .ref h_drawing_y, .ref h_drawing_z, .int h_drawing_count, .int h_drawing_fault, .int h_drawing_faultPart])), (h_saying, .inr (2, [.ref h_saying_staying])), (h_numbers, .inl (cA 0, 40, .inl h_numbers_v)), (h_drawing_sort, .inl (cA 0, 40, .inl h_drawing_sort_v)), (h_drawing_z, .inl (cA 0, 40, .inl h_drawing_z_v)), (h_saying_staying, .inl (cA 1, 64, .inl h_saying_staying_v))] ∧ va_S A s.heap H locs ∧ f_X3_shorten_L35 h_drawing_faultPart h_drawing_sort_v h_drawing_z_v h_saying_staying_v n h_count h_numbers_v v1 v2 v3 = some r23003) (fun H locs g h => ?_) (fun n35 ih35 H locs g h => ?_) 64 _ _ _ ⟨r23002.2.1, r23002.2.2, v1, r23002.1, 0, ls, rfl, lv_sub hl [2, 3, 1, 0] rfl, hP, hD, hS, hf⟩
          · obtain ⟨h_count, h_numbers_v, v1, v2, v3, ls, -, -, -, -, -, hf⟩ := h
            have hf : (none : Option (Int32 × (Nat → Int32) × Int32)) = some r23003 := hf
            cases hf
          · obtain ⟨h_count, h_numbers_v, v1, v2, v3, ls, rfl, hl, hP, hD, hS, hf⟩ := h
            have hf := (e_X3_shorten_L35 h_drawing_faultPart h_drawing_sort_v h_drawing_z_v h_saying_staying_v n35 h_count h_numbers_v v1 v2 v3).symm.trans hf
            refine lv_iload_n hx hb dX3_shorten_35 rfl (lv_at hl 3 rfl) ?_
            refine lv_bipush (v := 40) hx hb dX3_shorten_36 (by decide) ?_
            refine lv_icmp_ge (tgt := 62) hx hb dX3_shorten_38 (by decide) (fun c36001 => ?_) (fun c36001 => ?_)
            · have hf := kp_p c36001 hf
              have er := Option.some.inj hf
              subst er
              exact J62 _ _ _ ⟨ls, rfl, lv_sub hl [0, 1] rfl, hP, hD, hS⟩
            · have hf := kp_n c36001 hf
              refine lv_iload_n hx hb dX3_shorten_41 rfl (lv_at hl 1 rfl) ?_
              refine lv_iconst (v := 1) hx hb dX3_shorten_42 (by decide) ?_
              refine lv_icmp_ne (tgt := 62) hx hb dX3_shorten_43 (by decide) (fun c36002 => ?_) (fun c36002 => ?_)
              · have hf := kp_n c36002 hf
                have er := Option.some.inj hf
                subst er
                exact J62 _ _ _ ⟨ls, rfl, lv_sub hl [0, 1] rfl, hP, hD, hS⟩
              · have hf := kp_p c36002 hf
                refine lv_iload_n hx hb dX3_shorten_46 rfl (lv_at hl 2 rfl) ?_
                refine lv_if_eq (tgt := 62) hx hb dX3_shorten_47 (by decide) (fun c36003 => ?_) (fun c36003 => ?_)
                · have hf := kp_p c36003 hf
                  have er := Option.some.inj hf
                  subst er
                  exact J62 _ _ _ ⟨ls, rfl, lv_sub hl [0, 1] rfl, hP, hD, hS⟩
                · have hf := kp_n c36003 hf
                  refine lv_aload_n hx hb dX3_shorten_50 rfl (lv_at hl 0 rfl) ?_
                  refine lv_iconst (v := 1) hx hb dX3_shorten_51 (by decide) ?_
                  obtain ⟨r36004, hr36004, hf⟩ := kp_b hf
                  have hPc := hP.sub (ws' := [(h, .inr (3, [.ref h_drawing, .ref h_saying, .ref h_numbers, .int h_count])), (h_drawing, .inr (1, [.ref h_drawing_sort, .ref h_drawing_x, .ref h_drawing_y, .ref h_drawing_z, .int h_drawing_count, .int h_drawing_fault, .int h_drawing_faultPart])), (h_saying, .inr (2, [.ref h_saying_staying])), (h_numbers, .inl (cA 0, 40, .inl h_numbers_v)), (h_drawing_sort, .inl (cA 0, 40, .inl h_drawing_sort_v)), (h_drawing_z, .inl (cA 0, 40, .inl h_drawing_z_v)), (h_saying_staying, .inl (cA 1, 64, .inl h_saying_staying_v))]) [0, 1, 2, 3, 4, 5, 6] rfl
                  have hDc := hD.sub (ws' := [(h, .inr (3, [.ref h_drawing, .ref h_saying, .ref h_numbers, .int h_count])), (h_drawing, .inr (1, [.ref h_drawing_sort, .ref h_drawing_x, .ref h_drawing_y, .ref h_drawing_z, .int h_drawing_count, .int h_drawing_fault, .int h_drawing_faultPart])), (h_saying, .inr (2, [.ref h_saying_staying])), (h_numbers, .inl (cA 0, 40, .inl h_numbers_v)), (h_drawing_sort, .inl (cA 0, 40, .inl h_drawing_sort_v)), (h_drawing_z, .inl (cA 0, 40, .inl h_drawing_z_v)), (h_saying_staying, .inl (cA 1, 64, .inl h_saying_staying_v))]) [0, 1, 2, 3, 4, 5, 6] (by decide) rfl
                  have hFc := va_free (wc := [(h, .inr (3, [.ref h_drawing, .ref h_saying, .ref h_numbers, .int h_count])), (h_drawing, .inr (1, [.ref h_drawing_sort, .ref h_drawing_x, .ref h_drawing_y, .ref h_drawing_z, .int h_drawing_count, .int h_drawing_fault, .int h_drawing_faultPart])), (h_saying, .inr (2, [.ref h_saying_staying])), (h_numbers, .inl (cA 0, 40, .inl h_numbers_v)), (h_drawing_sort, .inl (cA 0, 40, .inl h_drawing_sort_v)), (h_drawing_z, .inl (cA 0, 40, .inl h_drawing_z_v)), (h_saying_staying, .inl (cA 1, 64, .inl h_saying_staying_v))]) hD hS hA [0, 1, 2, 3, 4, 5, 6] rfl
                  refine va_calli (va_runV (As := [.int 1]) (rest := []) ⟨hx, hb, hml, hown, hts⟩ (c_X3_leaveOutRows l dC dI cA tt h h_drawing h_saying h_numbers h_drawing_sort h_drawing_z h_saying_staying h_drawing_x h_drawing_y H.size h_count h_drawing_count h_drawing_fault h_drawing_faultPart h_numbers_v h_drawing_sort_v h_drawing_z_v h_saying_staying_v 1 r36004 hr36004) (cwV 1 hts (kq_gV tw_275 tw_277 tw_8 tw_22 tw_278) rfl rfl rfl (by decide +kernel) ⟨Nat.le_of_ble_eq_true rfl, Nat.le_of_ble_eq_true rfl⟩) ⟨kq_blind, va_recv hK hP (ci := 3) (q0 := 0) rfl rfl, kq_pre hG hZ hS hPc hDc hFc⟩ rfl rfl hl.1 rfl (lv_room (Nat.le_of_ble_eq_true rfl)) dX3_shorten_52 ⟨Nat.le_of_ble_eq_true rfl, Nat.le_of_ble_eq_true rfl⟩) hS (fun q _ h => hFc q h) hFc (fun rv u t H1 locs ht hvm hw hB hz1 hk1 hS => ?_)
                  obtain ⟨hP1, hD1⟩ := hB
                  rw [ht] at hP1
                  have hw := hw.symm
                  subst hw
                  obtain ⟨hP, hD⟩ := va_join (wr := []) (w1 := [(h, .inr (3, [.ref h_drawing, .ref h_saying, .ref h_numbers, .int r36004.2.1])), (h_drawing, .inr (1, [.ref h_drawing_sort, .ref h_drawing_x, .ref h_drawing_y, .ref h_drawing_z, .int h_drawing_count, .int h_drawing_fault, .int h_drawing_faultPart])), (h_saying, .inr (2, [.ref h_saying_staying])), (h_numbers, .inl (cA 0, 40, .inl r36004.2.2)), (h_drawing_sort, .inl (cA 0, 40, .inl h_drawing_sort_v)), (h_drawing_z, .inl (cA 0, 40, .inl h_drawing_z_v)), (h_saying_staying, .inl (cA 1, 64, .inl h_saying_staying_v))]) hP hD [0, 1, 2, 3, 4, 5, 6] [] rfl rfl (by decide) (by decide) hk1 hFc hP1 hD1
                  have hP : va_P (dC, dI) vwCl [(h, .inr (3, [.ref h_drawing, .ref h_saying, .ref h_numbers, .int r36004.2.1])), (h_drawing, .inr (1, [.ref h_drawing_sort, .ref h_drawing_x, .ref h_drawing_y, .ref h_drawing_z, .int h_drawing_count, .int h_drawing_fault, .int h_drawing_faultPart])), (h_saying, .inr (2, [.ref h_saying_staying])), (h_numbers, .inl (cA 0, 40, .inl r36004.2.2)), (h_drawing_sort, .inl (cA 0, 40, .inl h_drawing_sort_v)), (h_drawing_z, .inl (cA 0, 40, .inl h_drawing_z_v)), (h_saying_staying, .inl (cA 1, 64, .inl h_saying_staying_v))] H1 := hP.sub [0, 1, 2, 3, 4, 5, 6] rfl
                  have hD : va_D A [(h, .inr (3, [.ref h_drawing, .ref h_saying, .ref h_numbers, .int r36004.2.1])), (h_drawing, .inr (1, [.ref h_drawing_sort, .ref h_drawing_x, .ref h_drawing_y, .ref h_drawing_z, .int h_drawing_count, .int h_drawing_fault, .int h_drawing_faultPart])), (h_saying, .inr (2, [.ref h_saying_staying])), (h_numbers, .inl (cA 0, 40, .inl r36004.2.2)), (h_drawing_sort, .inl (cA 0, 40, .inl h_drawing_sort_v)), (h_drawing_z, .inl (cA 0, 40, .inl h_drawing_z_v)), (h_saying_staying, .inl (cA 1, 64, .inl h_saying_staying_v))] := hD.sub [0, 1, 2, 3, 4, 5, 6] (by decide) rfl
                  generalize H1 = H at hP hS ⊢
                  refine lv_istore_n (lv' := [(2, .int r36004.1), (0, .ref h), (1, .int v1), (3, .int v3)]) hx hb dX3_shorten_55 rfl hl (by decide) rfl (fun ls hl => ?_)
                  refine lv_iinc (v := v3 + 1) (lv' := [(3, .int (v3 + 1)), (2, .int r36004.1), (0, .ref h), (1, .int v1)]) hx hb dX3_shorten_56 hl (k := 3) rfl rfl (by decide) rfl (fun ls hl => ?_)
                  refine lv_goto (tgt := 35) hx hb dX3_shorten_59 (by decide) ?_
                  exact ih35 _ _ _ ⟨r36004.2.1, r36004.2.2, v1, r36004.1, v3 + 1, ls, rfl, lv_sub hl [2, 3, 1, 0] rfl, hP, hD, hS, hf⟩
  · have hf := kp_p c3 hf
    have eo := Option.some.inj hf
    subst eo
    exact W.vret hx hb hr (fun t ht hW => ⟨⟨(), rfl, trivial, kq_mk ht hP hD⟩, hS.F ht⟩) hS.2.2 dX3_shorten_14

def f_X3_numberAt (h_count : Int32) (h_numbers_v : Nat → Int32) (p0 : Int32) : Option (Int32) :=
    (if p0 < 0 then
    some ((-1))
    else
    (if h_count ≤ p0 then
    some ((-1))
    else
    if p0 < 0 ∨ 40 ≤ p0.toNatClampNeg then none else
    some (h_numbers_v p0.toNatClampNeg)))
set_option maxHeartbeats 4000000 in
set_option maxRecDepth 100000 in
theorem c_X3_numberAt (l : Launch) (dC : Nat → ClassId) (dI : Nat → Nat → Nat) (cA : Nat → ClassId) (tt : Nat → Nat) (h h_numbers h_drawing h_saying : Nat) (sz : Nat) (h_count : Int32) (h_numbers_v : Nat → Int32) (p0 : Int32) (o : Int32) (hf : f_X3_numberAt h_count h_numbers_v p0 = some o) : Met l yX3_numberAt wX3_numberAt ({ frames := 0, cells := 0, slots := 0, locals := 0 }) (kq_Pc dC dI cA tt [.ref h, .int p0] [(h, .inr (3, [.ref h_drawing, .ref h_saying, .ref h_numbers, .int h_count])), (h_numbers, .inl (cA 0, 40, .inl h_numbers_v))] sz) (va_Qi (fun r (_ : Unit) => r = o) (fun _ t => kq_B dC dI [(h, .inr (3, [.ref h_drawing, .ref h_saying, .ref h_numbers, .int h_count])), (h_numbers, .inl (cA 0, 40, .inl h_numbers_v))] (va_A [(h, .inr (3, [.ref h_drawing, .ref h_saying, .ref h_numbers, .int h_count])), (h_numbers, .inl (cA 0, 40, .inl h_numbers_v))] sz) t) (va_A [(h, .inr (3, [.ref h_drawing, .ref h_saying, .ref h_numbers, .int h_count])), (h_numbers, .inl (cA 0, 40, .inl h_numbers_v))] sz)) 0 0 (va_A [(h, .inr (3, [.ref h_drawing, .ref h_saying, .ref h_numbers, .int h_count])), (h_numbers, .inl (cA 0, 40, .inl h_numbers_v))] sz) := by
  refine Met.ofW (cc := cX3_numberAt) (maxL := 2) (ret := (some .int)) (by decide) rfl ?_
  intro p e s m args below meth c s₁ B hml hv
  obtain ⟨rfl, hsz, hP, hD0, hG, hZ⟩ := hv
  have hx := B.exec
  have hb := B.bytes
  have hr := B.returns
  have hts : ∀ w ∈ kq_T, w.before _ s = true := fun w h => atoms_spec (ws := wX3_numberAt) B.pre w (List.mem_cons_of_mem _ h)
  have hown : s.vm.findClass RX3 = some m.cls := findClass_of_methodNamed B.named
  have hlocks := B.notSynchronized
  have hK := hG.1
  subst hsz
  have hD := hD0.self (sz := s.heap.size)
  generalize hAe : va_A [(h, .inr (3, [.ref h_drawing, .ref h_saying, .ref h_numbers, .int h_count])), (h_numbers, .inl (cA 0, 40, .inl h_numbers_v))] s.heap.size = A at hD hZ ⊢
  have hA : ∀ q : Nat, s.heap.size ≤ q → A q := fun q h => by rw [← hAe]; exact Or.inr h
  have hl := lv_entry [.ref h, .int p0] (n := 2) (Nat.le_of_ble_eq_true rfl)
  rw [lg_entry_eq]
  generalize (lg_sl [.ref h, .int p0] ++ List.replicate (2 - (lg_sl [.ref h, .int p0]).length) Slot.unset).toArray = ls at hl ⊢
  have hl : lv_has ls 2 [(0, .ref h), (1, .int p0)] := hl
  obtain ⟨H, hHe⟩ : ∃ H : Heap, H = s.heap := ⟨_, rfl⟩
  have hP : va_P (dC, dI) vwCl [(h, .inr (3, [.ref h_drawing, .ref h_saying, .ref h_numbers, .int h_count])), (h_numbers, .inl (cA 0, 40, .inl h_numbers_v))] H := by rw [hHe]; exact hP
  have hS : va_S A s.heap H [] := by rw [hHe]; exact va_S.rf
  rw [← hHe]
  unfold f_X3_numberAt at hf
  refine lv_iload_n hx hb dX3_numberAt_0 rfl (lv_at hl 1 rfl) ?_
  refine lv_if_lt (tgt := 21) hx hb dX3_numberAt_1 (by decide) (fun c1 => ?_) (fun c1 => ?_)
  · have hf := kp_p c1 hf
    refine lv_iconst (v := (-1)) hx hb dX3_numberAt_21 (by decide) ?_
    have eo := Option.some.inj hf
    subst eo
    exact W.iret (v := (-1)) hx hb hr (fun t ht hW => ⟨⟨_, (), rfl, rfl, kq_mk ht hP hD⟩, hS.F ht⟩) hS.2.2 dX3_numberAt_22
  · have hf := kp_n c1 hf
    refine lv_iload_n hx hb dX3_numberAt_4 rfl (lv_at hl 1 rfl) ?_
    refine lv_aload_n hx hb dX3_numberAt_5 rfl (lv_at hl 0 rfl) ?_
    refine va_get (D := (dC, dI)) (ci := 3) (v := .int h_count) (C := RX3) (T := TX3) (N := 4) hx hb hts iwX3 hown hK hP 0 rfl rfl 3 (by decide) (hts _ tw_104) (fun _ h9 => h9) rfl dX3_numberAt_6 ?_
    refine lv_icmp_ge (tgt := 21) hx hb dX3_numberAt_9 (by decide) (fun c2 => ?_) (fun c2 => ?_)
    · have hf := kp_p c2 hf
      refine lv_iconst (v := (-1)) hx hb dX3_numberAt_21 (by decide) ?_
      have eo := Option.some.inj hf
      subst eo
      exact W.iret (v := (-1)) hx hb hr (fun t ht hW => ⟨⟨_, (), rfl, rfl, kq_mk ht hP hD⟩, hS.F ht⟩) hS.2.2 dX3_numberAt_22
    · have hf := kp_n c2 hf
      refine lv_aload_n hx hb dX3_numberAt_12 rfl (lv_at hl 0 rfl) ?_
      refine va_get (D := (dC, dI)) (ci := 3) (v := .ref h_numbers) (C := RX3) (T := TX3) (N := 4) hx hb hts iwX3 hown hK hP 0 rfl rfl 2 (by decide) (hts _ tw_103) (fun _ h9 => h9) rfl dX3_numberAt_13 ?_
      refine lv_iload_n hx hb dX3_numberAt_16 rfl (lv_at hl 1 rfl) ?_
      obtain ⟨hq3, hf⟩ := kp_t hf
      refine va_iald hx hb hK hP 1 0 rfl rfl hq3 dX3_numberAt_17 ?_
      refine lv_goto (tgt := 22) hx hb dX3_numberAt_18 (by decide) ?_
      have eo := Option.some.inj hf
      subst eo
      exact W.iret (v := h_numbers_v p0.toNatClampNeg) hx hb hr (fun t ht hW => ⟨⟨_, (), rfl, rfl, kq_mk ht hP hD⟩, hS.F ht⟩) hS.2.2 dX3_numberAt_22

def f_X3_isMinimal_L18 (h_count : Int32) (h_drawing_faultPart : Int32) (h_numbers_v : Nat → Int32) (h_drawing_sort_v : Nat → Int32) (h_drawing_z_v : Nat → Int32) (h_saying_staying_v : Nat → Int32) : Nat → Int32 → Option (Int32)
  | 0, _ => none
  | n18 + 1, v1 =>
    (if h_count ≤ v1 then
    some 1
    else
    (f_X3_canGo h_count h_drawing_faultPart h_numbers_v h_drawing_sort_v h_drawing_z_v h_saying_staying_v v1 (v1 + 1)).bind fun r19002 =>
    (if r19002 = 0 then
    f_X3_isMinimal_L18 h_count h_drawing_faultPart h_numbers_v h_drawing_sort_v h_drawing_z_v h_saying_staying_v n18 (v1 + 1)
    else
    some 0))
theorem e_X3_isMinimal_L18 (h_count : Int32) (h_drawing_faultPart : Int32) (h_numbers_v : Nat → Int32) (h_drawing_sort_v : Nat → Int32) (h_drawing_z_v : Nat → Int32) (h_saying_staying_v : Nat → Int32) (n18 : Nat) (v1 : Int32) : f_X3_isMinimal_L18 h_count h_drawing_faultPart h_numbers_v h_drawing_sort_v h_drawing_z_v h_saying_staying_v (n18 + 1) v1 =
    ((if h_count ≤ v1 then
    some 1
    else
    (f_X3_canGo h_count h_drawing_faultPart h_numbers_v h_drawing_sort_v h_drawing_z_v h_saying_staying_v v1 (v1 + 1)).bind fun r19002 =>
    (if r19002 = 0 then
    f_X3_isMinimal_L18 h_count h_drawing_faultPart h_numbers_v h_drawing_sort_v h_drawing_z_v h_saying_staying_v n18 (v1 + 1)
    else
    some 0))) := rfl
def f_X3_isMinimal (h_count : Int32) (h_drawing_faultPart : Int32) (h_numbers_v : Nat → Int32) (h_drawing_sort_v : Nat → Int32) (h_drawing_z_v : Nat → Int32) (h_saying_staying_v : Nat → Int32) : Option (Int32) :=
    (f_X3_signature h_count h_drawing_faultPart h_numbers_v h_drawing_sort_v h_drawing_z_v).bind fun r1 =>
    (f_X2_keeps h_saying_staying_v r1).bind fun r2 =>
    (if r2 = 0 then
    some 0
    else
    f_X3_isMinimal_L18 h_count h_drawing_faultPart h_numbers_v h_drawing_sort_v h_drawing_z_v h_saying_staying_v 64 0)
set_option maxHeartbeats 4000000 in
set_option maxRecDepth 100000 in
theorem c_X3_isMinimal (l : Launch) (dC : Nat → ClassId) (dI : Nat → Nat → Nat) (cA : Nat → ClassId) (tt : Nat → Nat) (h h_drawing h_saying h_numbers h_drawing_sort h_drawing_z h_saying_staying h_drawing_x h_drawing_y : Nat) (sz : Nat) (h_count : Int32) (h_drawing_count : Int32) (h_drawing_fault : Int32) (h_drawing_faultPart : Int32) (h_numbers_v : Nat → Int32) (h_drawing_sort_v : Nat → Int32) (h_drawing_z_v : Nat → Int32) (h_saying_staying_v : Nat → Int32) (o : Int32) (hf : f_X3_isMinimal h_count h_drawing_faultPart h_numbers_v h_drawing_sort_v h_drawing_z_v h_saying_staying_v = some o) : Met l yX3_isMinimal wX3_isMinimal ({ frames := 3, cells := 0, slots := 0, locals := 63 }) (kq_Pc dC dI cA tt [.ref h] [(h, .inr (3, [.ref h_drawing, .ref h_saying, .ref h_numbers, .int h_count])), (h_drawing, .inr (1, [.ref h_drawing_sort, .ref h_drawing_x, .ref h_drawing_y, .ref h_drawing_z, .int h_drawing_count, .int h_drawing_fault, .int h_drawing_faultPart])), (h_saying, .inr (2, [.ref h_saying_staying])), (h_numbers, .inl (cA 0, 40, .inl h_numbers_v)), (h_drawing_sort, .inl (cA 0, 40, .inl h_drawing_sort_v)), (h_drawing_z, .inl (cA 0, 40, .inl h_drawing_z_v)), (h_saying_staying, .inl (cA 1, 64, .inl h_saying_staying_v))] sz) (va_Qi (fun r (_ : Unit) => r = o) (fun _ t => kq_B dC dI [(h, .inr (3, [.ref h_drawing, .ref h_saying, .ref h_numbers, .int h_count])), (h_drawing, .inr (1, [.ref h_drawing_sort, .ref h_drawing_x, .ref h_drawing_y, .ref h_drawing_z, .int h_drawing_count, .int h_drawing_fault, .int h_drawing_faultPart])), (h_saying, .inr (2, [.ref h_saying_staying])), (h_numbers, .inl (cA 0, 40, .inl h_numbers_v)), (h_drawing_sort, .inl (cA 0, 40, .inl h_drawing_sort_v)), (h_drawing_z, .inl (cA 0, 40, .inl h_drawing_z_v)), (h_saying_staying, .inl (cA 1, 64, .inl h_saying_staying_v))] (va_A [(h, .inr (3, [.ref h_drawing, .ref h_saying, .ref h_numbers, .int h_count])), (h_drawing, .inr (1, [.ref h_drawing_sort, .ref h_drawing_x, .ref h_drawing_y, .ref h_drawing_z, .int h_drawing_count, .int h_drawing_fault, .int h_drawing_faultPart])), (h_saying, .inr (2, [.ref h_saying_staying])), (h_numbers, .inl (cA 0, 40, .inl h_numbers_v)), (h_drawing_sort, .inl (cA 0, 40, .inl h_drawing_sort_v)), (h_drawing_z, .inl (cA 0, 40, .inl h_drawing_z_v)), (h_saying_staying, .inl (cA 1, 64, .inl h_saying_staying_v))] sz) t) (va_A [(h, .inr (3, [.ref h_drawing, .ref h_saying, .ref h_numbers, .int h_count])), (h_drawing, .inr (1, [.ref h_drawing_sort, .ref h_drawing_x, .ref h_drawing_y, .ref h_drawing_z, .int h_drawing_count, .int h_drawing_fault, .int h_drawing_faultPart])), (h_saying, .inr (2, [.ref h_saying_staying])), (h_numbers, .inl (cA 0, 40, .inl h_numbers_v)), (h_drawing_sort, .inl (cA 0, 40, .inl h_drawing_sort_v)), (h_drawing_z, .inl (cA 0, 40, .inl h_drawing_z_v)), (h_saying_staying, .inl (cA 1, 64, .inl h_saying_staying_v))] sz)) 0 0 (va_A [(h, .inr (3, [.ref h_drawing, .ref h_saying, .ref h_numbers, .int h_count])), (h_drawing, .inr (1, [.ref h_drawing_sort, .ref h_drawing_x, .ref h_drawing_y, .ref h_drawing_z, .int h_drawing_count, .int h_drawing_fault, .int h_drawing_faultPart])), (h_saying, .inr (2, [.ref h_saying_staying])), (h_numbers, .inl (cA 0, 40, .inl h_numbers_v)), (h_drawing_sort, .inl (cA 0, 40, .inl h_drawing_sort_v)), (h_drawing_z, .inl (cA 0, 40, .inl h_drawing_z_v)), (h_saying_staying, .inl (cA 1, 64, .inl h_saying_staying_v))] sz) := by
  refine Met.ofW (cc := cX3_isMinimal) (maxL := 2) (ret := (some .boolean)) (by decide) rfl ?_
  intro p e s m args below meth c s₁ B hml hv
  obtain ⟨rfl, hsz, hP, hD0, hG, hZ⟩ := hv
  have hx := B.exec
  have hb := B.bytes
  have hr := B.returns
  have hts : ∀ w ∈ kq_T, w.before _ s = true := fun w h => atoms_spec (ws := wX3_isMinimal) B.pre w (List.mem_cons_of_mem _ h)
  have hown : s.vm.findClass RX3 = some m.cls := findClass_of_methodNamed B.named
  have hlocks := B.notSynchronized
  have hK := hG.1
  subst hsz
  have hD := hD0.self (sz := s.heap.size)
  generalize hAe : va_A [(h, .inr (3, [.ref h_drawing, .ref h_saying, .ref h_numbers, .int h_count])), (h_drawing, .inr (1, [.ref h_drawing_sort, .ref h_drawing_x, .ref h_drawing_y, .ref h_drawing_z, .int h_drawing_count, .int h_drawing_fault, .int h_drawing_faultPart])), (h_saying, .inr (2, [.ref h_saying_staying])), (h_numbers, .inl (cA 0, 40, .inl h_numbers_v)), (h_drawing_sort, .inl (cA 0, 40, .inl h_drawing_sort_v)), (h_drawing_z, .inl (cA 0, 40, .inl h_drawing_z_v)), (h_saying_staying, .inl (cA 1, 64, .inl h_saying_staying_v))] s.heap.size = A at hD hZ ⊢
  have hA : ∀ q : Nat, s.heap.size ≤ q → A q := fun q h => by rw [← hAe]; exact Or.inr h
  have hl := lv_entry [.ref h] (n := 2) (Nat.le_of_ble_eq_true rfl)
  rw [lg_entry_eq]
  generalize (lg_sl [.ref h] ++ List.replicate (2 - (lg_sl [.ref h]).length) Slot.unset).toArray = ls at hl ⊢
  have hl : lv_has ls 2 [(0, .ref h)] := hl
  obtain ⟨H, hHe⟩ : ∃ H : Heap, H = s.heap := ⟨_, rfl⟩
  have hP : va_P (dC, dI) vwCl [(h, .inr (3, [.ref h_drawing, .ref h_saying, .ref h_numbers, .int h_count])), (h_drawing, .inr (1, [.ref h_drawing_sort, .ref h_drawing_x, .ref h_drawing_y, .ref h_drawing_z, .int h_drawing_count, .int h_drawing_fault, .int h_drawing_faultPart])), (h_saying, .inr (2, [.ref h_saying_staying])), (h_numbers, .inl (cA 0, 40, .inl h_numbers_v)), (h_drawing_sort, .inl (cA 0, 40, .inl h_drawing_sort_v)), (h_drawing_z, .inl (cA 0, 40, .inl h_drawing_z_v)), (h_saying_staying, .inl (cA 1, 64, .inl h_saying_staying_v))] H := by rw [hHe]; exact hP
  have hS : va_S A s.heap H [] := by rw [hHe]; exact va_S.rf
  rw [← hHe]
  unfold f_X3_isMinimal at hf
  refine lv_aload_n hx hb dX3_isMinimal_0 rfl (lv_at hl 0 rfl) ?_
  refine va_get (D := (dC, dI)) (ci := 3) (v := .ref h_saying) (C := RX3) (T := TX3) (N := 4) hx hb hts iwX3 hown hK hP 0 rfl rfl 1 (by decide) (hts _ tw_101) (fun _ h9 => h9) rfl dX3_isMinimal_1 ?_
  refine lv_aload_n hx hb dX3_isMinimal_4 rfl (lv_at hl 0 rfl) ?_
  obtain ⟨r1, hr1, hf⟩ := kp_b hf
  have hPc := hP.sub (ws' := [(h, .inr (3, [.ref h_drawing, .ref h_saying, .ref h_numbers, .int h_count])), (h_drawing, .inr (1, [.ref h_drawing_sort, .ref h_drawing_x, .ref h_drawing_y, .ref h_drawing_z, .int h_drawing_count, .int h_drawing_fault, .int h_drawing_faultPart])), (h_numbers, .inl (cA 0, 40, .inl h_numbers_v)), (h_drawing_sort, .inl (cA 0, 40, .inl h_drawing_sort_v)), (h_drawing_z, .inl (cA 0, 40, .inl h_drawing_z_v))]) [0, 1, 3, 4, 5] rfl
  have hDc := hD.sub (ws' := [(h, .inr (3, [.ref h_drawing, .ref h_saying, .ref h_numbers, .int h_count])), (h_drawing, .inr (1, [.ref h_drawing_sort, .ref h_drawing_x, .ref h_drawing_y, .ref h_drawing_z, .int h_drawing_count, .int h_drawing_fault, .int h_drawing_faultPart])), (h_numbers, .inl (cA 0, 40, .inl h_numbers_v)), (h_drawing_sort, .inl (cA 0, 40, .inl h_drawing_sort_v)), (h_drawing_z, .inl (cA 0, 40, .inl h_drawing_z_v))]) [0, 1, 3, 4, 5] (by decide) rfl
  have hFc := va_free (wc := [(h, .inr (3, [.ref h_drawing, .ref h_saying, .ref h_numbers, .int h_count])), (h_drawing, .inr (1, [.ref h_drawing_sort, .ref h_drawing_x, .ref h_drawing_y, .ref h_drawing_z, .int h_drawing_count, .int h_drawing_fault, .int h_drawing_faultPart])), (h_numbers, .inl (cA 0, 40, .inl h_numbers_v)), (h_drawing_sort, .inl (cA 0, 40, .inl h_drawing_sort_v)), (h_drawing_z, .inl (cA 0, 40, .inl h_drawing_z_v))]) hD hS hA [0, 1, 3, 4, 5] rfl
  refine va_calli (va_runV (As := []) (rest := [.ref h_saying]) ⟨hx, hb, hml, hown, hts⟩ (c_X3_signature l dC dI cA tt h h_drawing h_numbers h_drawing_sort h_drawing_z h_saying h_drawing_x h_drawing_y H.size h_count h_drawing_count h_drawing_fault h_drawing_faultPart h_numbers_v h_drawing_sort_v h_drawing_z_v r1 hr1) (cwV 0 hts (kq_gV tw_270 tw_244 tw_245 tw_22 tw_246) rfl rfl rfl (by decide +kernel) ⟨Nat.le_of_ble_eq_true rfl, Nat.le_of_ble_eq_true rfl⟩) ⟨kq_blind, va_recv hK hP (ci := 3) (q0 := 0) rfl rfl, kq_pre hG hZ hS hPc hDc hFc⟩ rfl rfl hl.1 rfl (lv_room (Nat.le_of_ble_eq_true rfl)) dX3_isMinimal_5 ⟨Nat.le_of_ble_eq_true rfl, Nat.le_of_ble_eq_true rfl⟩) hS (fun q _ h => hFc q h) hFc (fun rv u t H1 locs ht hvm hw hB hz1 hk1 hS => ?_)
  obtain ⟨hP1, hD1⟩ := hB
  rw [ht] at hP1
  have hw := hw.symm
  subst hw
  obtain ⟨hP, hD⟩ := va_join (wr := [(h_saying, .inr (2, [.ref h_saying_staying])), (h_saying_staying, .inl (cA 1, 64, .inl h_saying_staying_v))]) (w1 := [(h, .inr (3, [.ref h_drawing, .ref h_saying, .ref h_numbers, .int h_count])), (h_drawing, .inr (1, [.ref h_drawing_sort, .ref h_drawing_x, .ref h_drawing_y, .ref h_drawing_z, .int h_drawing_count, .int h_drawing_fault, .int h_drawing_faultPart])), (h_numbers, .inl (cA 0, 40, .inl h_numbers_v)), (h_drawing_sort, .inl (cA 0, 40, .inl h_drawing_sort_v)), (h_drawing_z, .inl (cA 0, 40, .inl h_drawing_z_v))]) hP hD [0, 1, 3, 4, 5] [2, 6] rfl rfl (by decide) (by decide) hk1 hFc hP1 hD1
  have hP : va_P (dC, dI) vwCl [(h, .inr (3, [.ref h_drawing, .ref h_saying, .ref h_numbers, .int h_count])), (h_drawing, .inr (1, [.ref h_drawing_sort, .ref h_drawing_x, .ref h_drawing_y, .ref h_drawing_z, .int h_drawing_count, .int h_drawing_fault, .int h_drawing_faultPart])), (h_saying, .inr (2, [.ref h_saying_staying])), (h_numbers, .inl (cA 0, 40, .inl h_numbers_v)), (h_drawing_sort, .inl (cA 0, 40, .inl h_drawing_sort_v)), (h_drawing_z, .inl (cA 0, 40, .inl h_drawing_z_v)), (h_saying_staying, .inl (cA 1, 64, .inl h_saying_staying_v))] H1 := hP.sub [2, 3, 0, 4, 5, 6, 1] rfl
  have hD : va_D A [(h, .inr (3, [.ref h_drawing, .ref h_saying, .ref h_numbers, .int h_count])), (h_drawing, .inr (1, [.ref h_drawing_sort, .ref h_drawing_x, .ref h_drawing_y, .ref h_drawing_z, .int h_drawing_count, .int h_drawing_fault, .int h_drawing_faultPart])), (h_saying, .inr (2, [.ref h_saying_staying])), (h_numbers, .inl (cA 0, 40, .inl h_numbers_v)), (h_drawing_sort, .inl (cA 0, 40, .inl h_drawing_sort_v)), (h_drawing_z, .inl (cA 0, 40, .inl h_drawing_z_v)), (h_saying_staying, .inl (cA 1, 64, .inl h_saying_staying_v))] := hD.sub [2, 3, 0, 4, 5, 6, 1] (by decide) rfl
  generalize H1 = H at hP hS ⊢
  obtain ⟨r2, hr2, hf⟩ := kp_b hf
  have hPc := hP.sub (ws' := [(h_saying, .inr (2, [.ref h_saying_staying])), (h_saying_staying, .inl (cA 1, 64, .inl h_saying_staying_v))]) [2, 6] rfl
  have hDc := hD.sub (ws' := [(h_saying, .inr (2, [.ref h_saying_staying])), (h_saying_staying, .inl (cA 1, 64, .inl h_saying_staying_v))]) [2, 6] (by decide) rfl
  have hFc := va_free (wc := [(h_saying, .inr (2, [.ref h_saying_staying])), (h_saying_staying, .inl (cA 1, 64, .inl h_saying_staying_v))]) hD hS hA [2, 6] rfl
  refine va_calli (va_runV (As := [.int r1]) (rest := []) ⟨hx, hb, hml, hown, hts⟩ (c_X2_keeps l dC dI cA tt h_saying h_saying_staying H.size h_saying_staying_v r1 r2 hr2) (cwV 1 hts (kq_gV tw_271 tw_272 tw_273 tw_24 tw_274) rfl rfl rfl (by decide +kernel) ⟨Nat.le_of_ble_eq_true rfl, Nat.le_of_ble_eq_true rfl⟩) ⟨kq_blind, va_recv hK hP (ci := 2) (q0 := 2) rfl rfl, kq_pre hG hZ hS hPc hDc hFc⟩ rfl rfl hl.1 rfl (lv_room (Nat.le_of_ble_eq_true rfl)) dX3_isMinimal_8 ⟨Nat.le_of_ble_eq_true rfl, Nat.le_of_ble_eq_true rfl⟩) hS (fun q _ h => hFc q h) hFc (fun rv u t H1 locs ht hvm hw hB hz1 hk1 hS => ?_)
  obtain ⟨hP1, hD1⟩ := hB
  rw [ht] at hP1
  have hw := hw.symm
  subst hw
  obtain ⟨hP, hD⟩ := va_join (wr := [(h, .inr (3, [.ref h_drawing, .ref h_saying, .ref h_numbers, .int h_count])), (h_drawing, .inr (1, [.ref h_drawing_sort, .ref h_drawing_x, .ref h_drawing_y, .ref h_drawing_z, .int h_drawing_count, .int h_drawing_fault, .int h_drawing_faultPart])), (h_numbers, .inl (cA 0, 40, .inl h_numbers_v)), (h_drawing_sort, .inl (cA 0, 40, .inl h_drawing_sort_v)), (h_drawing_z, .inl (cA 0, 40, .inl h_drawing_z_v))]) (w1 := [(h_saying, .inr (2, [.ref h_saying_staying])), (h_saying_staying, .inl (cA 1, 64, .inl h_saying_staying_v))]) hP hD [2, 6] [0, 1, 3, 4, 5] rfl rfl (by decide) (by decide) hk1 hFc hP1 hD1
  have hP : va_P (dC, dI) vwCl [(h, .inr (3, [.ref h_drawing, .ref h_saying, .ref h_numbers, .int h_count])), (h_drawing, .inr (1, [.ref h_drawing_sort, .ref h_drawing_x, .ref h_drawing_y, .ref h_drawing_z, .int h_drawing_count, .int h_drawing_fault, .int h_drawing_faultPart])), (h_saying, .inr (2, [.ref h_saying_staying])), (h_numbers, .inl (cA 0, 40, .inl h_numbers_v)), (h_drawing_sort, .inl (cA 0, 40, .inl h_drawing_sort_v)), (h_drawing_z, .inl (cA 0, 40, .inl h_drawing_z_v)), (h_saying_staying, .inl (cA 1, 64, .inl h_saying_staying_v))] H1 := hP.sub [0, 1, 5, 2, 3, 4, 6] rfl
  have hD : va_D A [(h, .inr (3, [.ref h_drawing, .ref h_saying, .ref h_numbers, .int h_count])), (h_drawing, .inr (1, [.ref h_drawing_sort, .ref h_drawing_x, .ref h_drawing_y, .ref h_drawing_z, .int h_drawing_count, .int h_drawing_fault, .int h_drawing_faultPart])), (h_saying, .inr (2, [.ref h_saying_staying])), (h_numbers, .inl (cA 0, 40, .inl h_numbers_v)), (h_drawing_sort, .inl (cA 0, 40, .inl h_drawing_sort_v)), (h_drawing_z, .inl (cA 0, 40, .inl h_drawing_z_v)), (h_saying_staying, .inl (cA 1, 64, .inl h_saying_staying_v))] := hD.sub [0, 1, 5, 2, 3, 4, 6] (by decide) rfl
  generalize H1 = H at hP hS ⊢
  refine lv_if_ne (tgt := 16) hx hb dX3_isMinimal_11 (by decide) (fun c3 => ?_) (fun c3 => ?_)
  · have hf := kp_n c3 hf
    refine lv_iconst (v := 0) hx hb dX3_isMinimal_16 (by decide) ?_
    refine lv_istore_n (lv' := [(1, .int 0), (0, .ref h)]) hx hb dX3_isMinimal_17 rfl hl (by decide) rfl (fun ls hl => ?_)
    refine kq_ind (fun n H locs g => ∃ (v1 : Int32) (ls : Array Slot), g = F0 m 18 ls [] ∧ lv_has ls 2 [(0, .ref h), (1, .int v1)] ∧ va_P (dC, dI) vwCl [(h, .inr (3, [.ref h_drawing, .ref h_saying, .ref h_numbers, .int h_count])), (h_drawing, .inr (1, [.ref h_drawing_sort, .ref h_drawing_x, .ref h_drawing_y, .ref h_drawing_z, .int h_drawing_count, .int h_drawing_fault, .int h_drawing_faultPart])), (h_saying, .inr (2, [.ref h_saying_staying])), (h_numbers, .inl (cA 0, 40, .inl h_numbers_v)), (h_drawing_sort, .inl (cA 0, 40, .inl h_drawing_sort_v)), (h_drawing_z, .inl (cA 0, 40, .inl h_drawing_z_v)), (h_saying_staying, .inl (cA 1, 64, .inl h_saying_staying_v))] H ∧ va_D A [(h, .inr (3, [.ref h_drawing, .ref h_saying, .ref h_numbers, .int h_count])), (h_drawing, .inr (1, [.ref h_drawing_sort, .ref h_drawing_x, .ref h_drawing_y, .ref h_drawing_z, .int h_drawing_count, .int h_drawing_fault, .int h_drawing_faultPart])), (h_saying, .inr (2, [.ref h_saying_staying])), (h_numbers, .inl (cA 0, 40, .inl h_numbers_v)), (h_drawing_sort, .inl (cA 0, 40, .inl h_drawing_sort_v)), (h_drawing_z, .inl (cA 0, 40, .inl h_drawing_z_v)), (h_saying_staying, .inl (cA 1, 64, .inl h_saying_staying_v))] ∧ va_S A s.heap H locs ∧ f_X3_isMinimal_L18 h_count h_drawing_faultPart h_numbers_v h_drawing_sort_v h_drawing_z_v h_saying_staying_v n v1 = some o) (fun H locs g h => ?_) (fun n18 ih18 H locs g h => ?_) 64 _ _ _ ⟨0, ls, rfl, lv_sub hl [1, 0] rfl, hP, hD, hS, hf⟩
    · obtain ⟨v1, ls, -, -, -, -, -, hf⟩ := h
      have hf : (none : Option (Int32)) = some o := hf
      cases hf
    · obtain ⟨v1, ls, rfl, hl, hP, hD, hS, hf⟩ := h
      have hf := (e_X3_isMinimal_L18 h_count h_drawing_faultPart h_numbers_v h_drawing_sort_v h_drawing_z_v h_saying_staying_v n18 v1).symm.trans hf
      refine lv_iload_n hx hb dX3_isMinimal_18 rfl (lv_at hl 1 rfl) ?_
      refine lv_aload_n hx hb dX3_isMinimal_19 rfl (lv_at hl 0 rfl) ?_
      refine va_get (D := (dC, dI)) (ci := 3) (v := .int h_count) (C := RX3) (T := TX3) (N := 4) hx hb hts iwX3 hown hK hP 0 rfl rfl 3 (by decide) (hts _ tw_104) (fun _ h9 => h9) rfl dX3_isMinimal_20 ?_
      refine lv_icmp_ge (tgt := 45) hx hb dX3_isMinimal_23 (by decide) (fun c19001 => ?_) (fun c19001 => ?_)
      · have hf := kp_p c19001 hf
        refine lv_iconst (v := 1) hx hb dX3_isMinimal_45 (by decide) ?_
        have eo := Option.some.inj hf
        subst eo
        exact W.zret (v := 1) hx hb hr rfl (fun t ht hW => ⟨⟨_, (), rfl, rfl, kq_mk ht hP hD⟩, hS.F ht⟩) hS.2.2 dX3_isMinimal_46
      · have hf := kp_n c19001 hf
        refine lv_aload_n hx hb dX3_isMinimal_26 rfl (lv_at hl 0 rfl) ?_
        refine lv_iload_n hx hb dX3_isMinimal_27 rfl (lv_at hl 1 rfl) ?_
        refine lv_iload_n hx hb dX3_isMinimal_28 rfl (lv_at hl 1 rfl) ?_
        refine lv_iconst (v := 1) hx hb dX3_isMinimal_29 (by decide) ?_
        refine lv_iadd hx hb dX3_isMinimal_30 ?_
        obtain ⟨r19002, hr19002, hf⟩ := kp_b hf
        have hPc := hP.sub (ws' := [(h, .inr (3, [.ref h_drawing, .ref h_saying, .ref h_numbers, .int h_count])), (h_drawing, .inr (1, [.ref h_drawing_sort, .ref h_drawing_x, .ref h_drawing_y, .ref h_drawing_z, .int h_drawing_count, .int h_drawing_fault, .int h_drawing_faultPart])), (h_saying, .inr (2, [.ref h_saying_staying])), (h_numbers, .inl (cA 0, 40, .inl h_numbers_v)), (h_drawing_sort, .inl (cA 0, 40, .inl h_drawing_sort_v)), (h_drawing_z, .inl (cA 0, 40, .inl h_drawing_z_v)), (h_saying_staying, .inl (cA 1, 64, .inl h_saying_staying_v))]) [0, 1, 2, 3, 4, 5, 6] rfl
        have hDc := hD.sub (ws' := [(h, .inr (3, [.ref h_drawing, .ref h_saying, .ref h_numbers, .int h_count])), (h_drawing, .inr (1, [.ref h_drawing_sort, .ref h_drawing_x, .ref h_drawing_y, .ref h_drawing_z, .int h_drawing_count, .int h_drawing_fault, .int h_drawing_faultPart])), (h_saying, .inr (2, [.ref h_saying_staying])), (h_numbers, .inl (cA 0, 40, .inl h_numbers_v)), (h_drawing_sort, .inl (cA 0, 40, .inl h_drawing_sort_v)), (h_drawing_z, .inl (cA 0, 40, .inl h_drawing_z_v)), (h_saying_staying, .inl (cA 1, 64, .inl h_saying_staying_v))]) [0, 1, 2, 3, 4, 5, 6] (by decide) rfl
        have hFc := va_free (wc := [(h, .inr (3, [.ref h_drawing, .ref h_saying, .ref h_numbers, .int h_count])), (h_drawing, .inr (1, [.ref h_drawing_sort, .ref h_drawing_x, .ref h_drawing_y, .ref h_drawing_z, .int h_drawing_count, .int h_drawing_fault, .int h_drawing_faultPart])), (h_saying, .inr (2, [.ref h_saying_staying])), (h_numbers, .inl (cA 0, 40, .inl h_numbers_v)), (h_drawing_sort, .inl (cA 0, 40, .inl h_drawing_sort_v)), (h_drawing_z, .inl (cA 0, 40, .inl h_drawing_z_v)), (h_saying_staying, .inl (cA 1, 64, .inl h_saying_staying_v))]) hD hS hA [0, 1, 2, 3, 4, 5, 6] rfl
        refine va_calli (va_runV (As := [.int v1, .int (v1 + 1)]) (rest := []) ⟨hx, hb, hml, hown, hts⟩ (c_X3_canGo l dC dI cA tt h h_drawing h_saying h_numbers h_drawing_sort h_drawing_z h_saying_staying h_drawing_x h_drawing_y H.size h_count h_drawing_count h_drawing_fault h_drawing_faultPart h_numbers_v h_drawing_sort_v h_drawing_z_v h_saying_staying_v v1 (v1 + 1) r19002 hr19002) (cwV 2 hts (kq_gV tw_282 tw_284 tw_9 tw_22 tw_285) rfl rfl rfl (by decide +kernel) ⟨Nat.le_of_ble_eq_true rfl, Nat.le_of_ble_eq_true rfl⟩) ⟨kq_blind, va_recv hK hP (ci := 3) (q0 := 0) rfl rfl, kq_pre hG hZ hS hPc hDc hFc⟩ rfl rfl hl.1 rfl (lv_room (Nat.le_of_ble_eq_true rfl)) dX3_isMinimal_31 ⟨Nat.le_of_ble_eq_true rfl, Nat.le_of_ble_eq_true rfl⟩) hS (fun q _ h => hFc q h) hFc (fun rv u t H1 locs ht hvm hw hB hz1 hk1 hS => ?_)
        obtain ⟨hP1, hD1⟩ := hB
        rw [ht] at hP1
        have hw := hw.symm
        subst hw
        obtain ⟨hP, hD⟩ := va_join (wr := []) (w1 := [(h, .inr (3, [.ref h_drawing, .ref h_saying, .ref h_numbers, .int h_count])), (h_drawing, .inr (1, [.ref h_drawing_sort, .ref h_drawing_x, .ref h_drawing_y, .ref h_drawing_z, .int h_drawing_count, .int h_drawing_fault, .int h_drawing_faultPart])), (h_saying, .inr (2, [.ref h_saying_staying])), (h_numbers, .inl (cA 0, 40, .inl h_numbers_v)), (h_drawing_sort, .inl (cA 0, 40, .inl h_drawing_sort_v)), (h_drawing_z, .inl (cA 0, 40, .inl h_drawing_z_v)), (h_saying_staying, .inl (cA 1, 64, .inl h_saying_staying_v))]) hP hD [0, 1, 2, 3, 4, 5, 6] [] rfl rfl (by decide) (by decide) hk1 hFc hP1 hD1
        have hP : va_P (dC, dI) vwCl [(h, .inr (3, [.ref h_drawing, .ref h_saying, .ref h_numbers, .int h_count])), (h_drawing, .inr (1, [.ref h_drawing_sort, .ref h_drawing_x, .ref h_drawing_y, .ref h_drawing_z, .int h_drawing_count, .int h_drawing_fault, .int h_drawing_faultPart])), (h_saying, .inr (2, [.ref h_saying_staying])), (h_numbers, .inl (cA 0, 40, .inl h_numbers_v)), (h_drawing_sort, .inl (cA 0, 40, .inl h_drawing_sort_v)), (h_drawing_z, .inl (cA 0, 40, .inl h_drawing_z_v)), (h_saying_staying, .inl (cA 1, 64, .inl h_saying_staying_v))] H1 := hP.sub [0, 1, 2, 3, 4, 5, 6] rfl
        have hD : va_D A [(h, .inr (3, [.ref h_drawing, .ref h_saying, .ref h_numbers, .int h_count])), (h_drawing, .inr (1, [.ref h_drawing_sort, .ref h_drawing_x, .ref h_drawing_y, .ref h_drawing_z, .int h_drawing_count, .int h_drawing_fault, .int h_drawing_faultPart])), (h_saying, .inr (2, [.ref h_saying_staying])), (h_numbers, .inl (cA 0, 40, .inl h_numbers_v)), (h_drawing_sort, .inl (cA 0, 40, .inl h_drawing_sort_v)), (h_drawing_z, .inl (cA 0, 40, .inl h_drawing_z_v)), (h_saying_staying, .inl (cA 1, 64, .inl h_saying_staying_v))] := hD.sub [0, 1, 2, 3, 4, 5, 6] (by decide) rfl
        generalize H1 = H at hP hS ⊢
        refine lv_if_eq (tgt := 39) hx hb dX3_isMinimal_34 (by decide) (fun c19003 => ?_) (fun c19003 => ?_)
        · have hf := kp_p c19003 hf
          refine lv_iinc (v := v1 + 1) (lv' := [(1, .int (v1 + 1)), (0, .ref h)]) hx hb dX3_isMinimal_39 hl (k := 1) rfl rfl (by decide) rfl (fun ls hl => ?_)
          refine lv_goto (tgt := 18) hx hb dX3_isMinimal_42 (by decide) ?_
          exact ih18 _ _ _ ⟨v1 + 1, ls, rfl, lv_sub hl [1, 0] rfl, hP, hD, hS, hf⟩
        · have hf := kp_n c19003 hf
          refine lv_iconst (v := 0) hx hb dX3_isMinimal_37 (by decide) ?_
          have eo := Option.some.inj hf
          subst eo
          exact W.zret (v := 0) hx hb hr rfl (fun t ht hW => ⟨⟨_, (), rfl, rfl, kq_mk ht hP hD⟩, hS.F ht⟩) hS.2.2 dX3_isMinimal_38
  · have hf := kp_p c3 hf
    refine lv_iconst (v := 0) hx hb dX3_isMinimal_14 (by decide) ?_
    have eo := Option.some.inj hf
    subst eo
    exact W.zret (v := 0) hx hb hr rfl (fun t ht hW => ⟨⟨_, (), rfl, rfl, kq_mk ht hP hD⟩, hS.F ht⟩) hS.2.2 dX3_isMinimal_15
