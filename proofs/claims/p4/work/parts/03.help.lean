/-! own rows: functions with 'none' for what must not happen; loops; calls by contracts over one world -/
theorem kp_p {c : Prop} [Decidable c] {α : Type} {a b o : α} (h : c) (e : (if c then a else b) = o) : a = o := (if_pos h).symm.trans e
theorem kp_n {c : Prop} [Decidable c] {α : Type} {a b o : α} (h : ¬ c) (e : (if c then a else b) = o) : b = o := (if_neg h).symm.trans e
theorem kp_b {α β : Type} {x : Option α} {g : α → Option β} {o : β} (e : x.bind g = some o) : ∃ r, x = some r ∧ g r = some o := by
  cases x with
  | none => cases e
  | some r => exact ⟨r, rfl, e⟩
theorem kp_t {c : Prop} [Decidable c] {α : Type} {b : Option α} {o : α} (e : (if c then none else b) = some o) : ¬ c ∧ b = some o := by
  by_cases h : c
  · rw [if_pos h] at e; cases e
  · rw [if_neg h] at e; exact ⟨h, e⟩
theorem kq_z {v : Int32} (h : ¬ ¬ (v = 0 ∨ v = 1)) : narrow .boolean (.int v) = .int v := by
  rcases Classical.not_not.mp h with h | h <;> subst h <;> rfl
section KQ
variable {p : Program} {l : Launch} {e : Env} {R : Room} {s : State} {m : MethodId} {args : Array Value} {below : List Frame} {meth : Method} {c : Code} {cells slots : Nat} {Q : State → Prop}
theorem kq_ind (I : Nat → Heap → List Loc → JFrame → Prop) (h0 : ∀ H locs g, I 0 H locs g → W p l e R s m args below meth c H locs cells slots Q g) (hs : ∀ n, (∀ H locs g, I n H locs g → W p l e R s m args below meth c H locs cells slots Q g) → ∀ H locs g, I (n + 1) H locs g → W p l e R s m args below meth c H locs cells slots Q g) : ∀ (n : Nat) (H : Heap) (locs : List Loc) (g : JFrame), I n H locs g → W p l e R s m args below meth c H locs cells slots Q g
  | 0, H, locs, g, h => h0 H locs g h
  | n + 1, H, locs, g, h => hs n (kq_ind I h0 hs n) H locs g h
theorem kq_cut (I : Heap → List Loc → JFrame → Prop) (hj : ∀ H locs g, I H locs g → W p l e R s m args below meth c H locs cells slots Q g) {H0 : Heap} {locs0 : List Loc} {g0 : JFrame} (hk : (∀ H locs g, I H locs g → W p l e R s m args below meth c H locs cells slots Q g) → W p l e R s m args below meth c H0 locs0 cells slots Q g0) : W p l e R s m args below meth c H0 locs0 cells slots Q g0 := hk hj
end KQ
abbrev kq_FT : Type := String × Nat × String × String × String × String
abbrev kq_MT : Type := String × Nat × MethodName × String
def kq_fs : List kq_FT := [(RX3, 38, RX1, "sort", "[I", "CarDrawer"), (RX3, 44, RX1, "z", "[I", "CarDrawer"), (RX3, 33, RX1, "count", "I", "CarDrawer"), (RX4, 65, RX1, "count", "I", "CarDrawer"), (RX4, 87, RX1, "fault", "I", "CarDrawer"), (RX4, 90, RX1, "faultPart", "I", "CarDrawer"), (RX3, 41, RX1, "faultPart", "I", "CarDrawer"), (RX4, 29, RX3, "drawing", "LCarDrawer$Drawing;", "CarDrawer"), (RX4, 34, RX3, "saying", "LCarDrawer$Verdict;", "CarDrawer"), (RX4, 106, RX3, "count", "I", "CarDrawer"), (RX1, 47, RX4, "SORTS", "[I", "CarDrawer"), (RX1, 61, RX4, "FAULTS", "[I", "CarDrawer")]
def kq_ms : List kq_MT := [(RX4, 24, yX3_init, "CarDrawer"), (RX3, 11, yX1_init, "CarDrawer"), (RX3, 20, yX2_init, "CarDrawer"), (RX4, 44, yX1_init, "CarDrawer"), (RX1, 34, yX4_isKind, "CarDrawer")]
def kq_G (dC : Nat → ClassId) (dI : Nat → Nat → Nat) (cA : Nat → ClassId) (U : State) : Prop := va_K (dC, dI) vwCl [(cA 0, .int), (cA 1, .boolean), (cA 2, .long), (cA 3, .byte)] U ∧ (∀ q ∈ kq_fs, va_Nw (.fieldLinkNest q.1 q.2.1 q.2.2.1 q.2.2.2.1 q.2.2.2.2.1 q.2.2.2.2.2) U) ∧ (∀ q ∈ kq_ms, va_Nw (.methodLinkNest q.1 q.2.1 q.2.2.1 q.2.2.2) U)
theorem kq_G.warm {dC : Nat → ClassId} {dI : Nat → Nat → Nat} {cA : Nat → ClassId} {s U : State} (h : kq_G dC dI cA s) (hW : s.WarmedH U.vm) : kq_G dC dI cA U := ⟨va_K.moved hW.alike h.1, fun q hq => va_Nw.warmF hW (h.2.1 q hq), fun q hq => va_Nw.warmM hW (h.2.2 q hq)⟩
theorem kq_nf {dC : Nat → ClassId} {dI : Nat → Nat → Nat} {cA : Nat → ClassId} {s : State} {args : Array Value} (h : kq_G dC dI cA s) (q : kq_FT) (hq : q ∈ kq_fs) : (Cond.fieldLinkNest q.1 q.2.1 q.2.2.1 q.2.2.2.1 q.2.2.2.2.1 q.2.2.2.2.2).before args s = true := va_Nw.use rfl (h.2.1 q hq)
theorem kq_nm {dC : Nat → ClassId} {dI : Nat → Nat → Nat} {cA : Nat → ClassId} {s : State} (h : kq_G dC dI cA s) (q : kq_MT) (hq : q ∈ kq_ms) : va_Nw (.methodLinkNest q.1 q.2.1 q.2.2.1 q.2.2.2) s := h.2.2 q hq
def kq_t0 (j : Nat) : Int32 := match j with
  | 0 => 4
  | 1 => 3
  | 2 => 5
  | 3 => 6
  | 4 => 4
  | _ => 7
def kq_t1 (j : Nat) : Int32 := match j with
  | 0 => 3
  | 1 => 2
  | 2 => 4
  | 3 => 3
  | 4 => 5
  | _ => 2
def kq_Z (tt : Nat → Nat) (A : Nat → Prop) (U : State) (H : Heap) : Prop := va_Z RX4 "SORTS" "[I" (.ref (tt 0)) A U H ∧ va_T .int (tt 0) 6 (fun j => .int (kq_t0 j)) A U H ∧ va_Z RX4 "FAULTS" "[I" (.ref (tt 1)) A U H ∧ va_T .int (tt 1) 6 (fun j => .int (kq_t1 j)) A U H
theorem kq_Z.moved {tt : Nat → Nat} {A : Nat → Prop} {u U : State} {H : Heap} (hvm : u.vm.Alike U.vm) (h : kq_Z tt A u H) : kq_Z tt A U H := by
  obtain ⟨h0, h1, h2, h3⟩ := h
  exact ⟨va_Z.moved hvm h0, va_T.moved hvm h1, va_Z.moved hvm h2, va_T.moved hvm h3⟩
theorem kq_Z.call {tt : Nat → Nat} {A B : Nat → Prop} {s U : State} {H : Heap} {locs : List Loc} (h : kq_Z tt A s s.heap) (hW : s.WarmedH U.vm) (hS : va_S A s.heap H locs) (hAB : ∀ q, B q → A q) (hU : U.heap = H) : kq_Z tt B U U.heap := by
  subst hU
  obtain ⟨h0, h1, h2, h3⟩ := kq_Z.moved hW.alike h
  exact ⟨(va_Z.kept h0 hS.2.1).narrow hAB, (va_T.kept h1 hS.2.1).narrow hAB, (va_Z.kept h2 hS.2.1).narrow hAB, (va_T.kept h3 hS.2.1).narrow hAB⟩
def kq_Pc (dC : Nat → ClassId) (dI : Nat → Nat → Nat) (cA : Nat → ClassId) (tt : Nat → Nat) (av : List Value) (ws : va_W) (sz : Nat) : Array Value → State → Prop := va_Pc av (fun U => U.heap.size = sz ∧ va_P (dC, dI) vwCl ws U.heap ∧ va_D (fun _ => True) ws ∧ kq_G dC dI cA U ∧ kq_Z tt (va_A ws sz) U U.heap)
theorem kq_blind {dC : Nat → ClassId} {dI : Nat → Nat → Nat} {cA : Nat → ClassId} {tt : Nat → Nat} {av : List Value} {ws : va_W} {sz : Nat} : FrameBlind (kq_Pc dC dI cA tt av ws sz) := fun a U g mk q => by
  obtain ⟨h0, h1, h2, h3, h4, h5⟩ := q
  exact ⟨h0, h1, h2, h3, ⟨va_K.moved (u := U) (U := U.calling g mk a) (Vm.Alike.refl U.vm) h4.1, fun q hq => va_Nw.same (u := U) (U := U.calling g mk a) rfl rfl (h4.2.1 q hq), fun q hq => va_Nw.same (u := U) (U := U.calling g mk a) rfl rfl (h4.2.2 q hq)⟩, kq_Z.moved (u := U) (U := U.calling g mk a) (Vm.Alike.refl U.vm) h5⟩
def kq_B (dC : Nat → ClassId) (dI : Nat → Nat → Nat) (ws : va_W) (A : Nat → Prop) (t : State) : Prop := va_P (dC, dI) vwCl ws t.heap ∧ va_D A ws
theorem kq_mk {dC : Nat → ClassId} {dI : Nat → Nat → Nat} {ws : va_W} {A : Nat → Prop} {t : State} {H : Heap} (ht : t.heap = H) (hP : va_P (dC, dI) vwCl ws H) (hD : va_D A ws) : kq_B dC dI ws A t := ⟨by rw [ht]; exact hP, hD⟩
theorem kq_pre {dC : Nat → ClassId} {dI : Nat → Nat → Nat} {cA : Nat → ClassId} {tt : Nat → Nat} {A B : Nat → Prop} {s : State} {H : Heap} {locs : List Loc} {wc : va_W} {av : List Value} (hG : kq_G dC dI cA s) (hZ : kq_Z tt A s s.heap) (hS : va_S A s.heap H locs) (hP : va_P (dC, dI) vwCl wc H) (hD : va_D B wc) (hF : ∀ q, va_A wc H.size q → A q) : ∀ U : State, U.heap = H → s.WarmedH U.vm → kq_Pc dC dI cA tt av wc H.size av.toArray U := fun U hU hW => ⟨rfl, by rw [hU], by rw [hU]; exact hP, hD.weaken (fun _ _ _ _ => trivial), hG.warm hW, hZ.call hW hS hF hU⟩
theorem kq_same {D : va_G} {cl : List vw_C} {tys : List (ClassId × FieldType)} {U : State} (h : va_K D cl tys U) (i j : Nat) {c1 c2 : ClassId} {ty : FieldType} (h1 : tys[i]? = some (c1, ty)) (h2 : tys[j]? = some (c2, ty)) : c1 = c2 := by
  have g1 := (h.2 i _ h1).2
  have g2 := (h.2 j _ h2).2
  cases ty with
  | object C =>
    obtain ⟨_, _, _, _, _, e1⟩ := g1
    obtain ⟨_, _, _, _, _, e2⟩ := g2
    exact Option.some.inj (e1.symm.trans e2)
  | _ => exact Option.some.inj (Eq.trans (Eq.symm g1) g2)
theorem kq_gT : GoodIn kq_T kq_T := fun w h => ⟨h, good_of_word (kq_T_good w h)⟩
theorem kq_gc {w : Cond} {ws : List Cond} (h : w ∈ kq_T) (hw : GoodIn kq_T ws) : GoodIn kq_T (w :: ws) := fun v hv => (List.mem_cons.mp hv).elim (fun e => e ▸ kq_gT w h) (hw v)
theorem kq_g1 {w : Cond} (h : w ∈ kq_T) : GoodIn kq_T (w :: kq_T) := kq_gc h kq_gT
theorem kq_gV {own C : String} {idx : Nat} {y : MethodName} {w : Cond} (h1 : Cond.methodLink own idx y ∈ kq_T) (h2 : Cond.instanceMethod y ∈ kq_T) (h3 : Cond.selects C y y ∈ kq_T) (h4 : Cond.initialized C ∈ kq_T) (h5 : w ∈ kq_T) : GoodIn kq_T (wsV own idx C y (w :: kq_T)) := kq_gc h1 (kq_gc h2 (kq_gc h3 (kq_gc h4 (kq_g1 h5))))
theorem kq_gS {own : String} {idx : Nat} {y : MethodName} {w : Cond} (h1 : Cond.methodLink own idx y ∈ kq_T) (h2 : Cond.static y ∈ kq_T) (h3 : Cond.initialized y.cls ∈ kq_T) (h5 : w ∈ kq_T) : GoodIn kq_T (va_wsS own idx y (w :: kq_T)) := kq_gc h1 (kq_gc h2 (kq_gc h3 (kq_g1 h5)))
