-- ===== PART A: goes FIRST, ahead of the names: the tables' words, and 'selects' of the private methods out of them =====
/-- a private method of a class that the tables say can be made, by its rows of tables_1 -/
def lw_okq (q : MethodName × Nat) : Prop := (q.1.cls ≠ "java/lang/invoke/MethodHandle" ∧ q.1.cls ≠ "java/lang/invoke/VarHandle") ∧ Cond.instantiable q.1.cls q.2 ∈ tables_1 ∧ Cond.privateMethod q.1 ∈ tables_1 ∧ Cond.instanceMethod q.1 ∈ tables_1
theorem lw_p0 : lw_okq (⟨"CarDrawer$Drawing", "fillWithNought", "()V"⟩, 7) := ⟨⟨by decide +kernel, by decide +kernel⟩, List.mem_of_getElem? (i := 34) (by decide +kernel), List.mem_of_getElem? (i := 139) (by decide +kernel), List.mem_of_getElem? (i := 140) (by decide +kernel)⟩
theorem lw_p1 : lw_okq (⟨"CarDrawer$Drawing", "drawX", "(IILCarDrawer$Draws;)I"⟩, 7) := ⟨⟨by decide +kernel, by decide +kernel⟩, List.mem_of_getElem? (i := 34) (by decide +kernel), List.mem_of_getElem? (i := 151) (by decide +kernel), List.mem_of_getElem? (i := 152) (by decide +kernel)⟩
theorem lw_p2 : lw_okq (⟨"CarDrawer$Drawing", "drawY", "(IILCarDrawer$Draws;)I"⟩, 7) := ⟨⟨by decide +kernel, by decide +kernel⟩, List.mem_of_getElem? (i := 34) (by decide +kernel), List.mem_of_getElem? (i := 155) (by decide +kernel), List.mem_of_getElem? (i := 156) (by decide +kernel)⟩
theorem lw_p3 : lw_okq (⟨"CarDrawer$Drawing", "plant", "(ILCarDrawer$Draws;)V"⟩, 7) := ⟨⟨by decide +kernel, by decide +kernel⟩, List.mem_of_getElem? (i := 34) (by decide +kernel), List.mem_of_getElem? (i := 159) (by decide +kernel), List.mem_of_getElem? (i := 160) (by decide +kernel)⟩
theorem lw_p4 : lw_okq (⟨"CarDrawer$Drawing", "spoil", "(II)V"⟩, 7) := ⟨⟨by decide +kernel, by decide +kernel⟩, List.mem_of_getElem? (i := 34) (by decide +kernel), List.mem_of_getElem? (i := 165) (by decide +kernel), List.mem_of_getElem? (i := 166) (by decide +kernel)⟩
theorem lw_p5 : lw_okq (⟨"CarDrawer$Rest", "lineLength", "(I)I"⟩, 4) := ⟨⟨by decide +kernel, by decide +kernel⟩, List.mem_of_getElem? (i := 28) (by decide +kernel), List.mem_of_getElem? (i := 199) (by decide +kernel), List.mem_of_getElem? (i := 200) (by decide +kernel)⟩
theorem lw_p6 : lw_okq (⟨"CarDrawer$Rest", "letterOfLine", "(II)I"⟩, 4) := ⟨⟨by decide +kernel, by decide +kernel⟩, List.mem_of_getElem? (i := 28) (by decide +kernel), List.mem_of_getElem? (i := 210) (by decide +kernel), List.mem_of_getElem? (i := 211) (by decide +kernel)⟩
theorem lw_p7 : lw_okq (⟨"CarDrawer$Rest", "signatureWithout", "(II)I"⟩, 4) := ⟨⟨by decide +kernel, by decide +kernel⟩, List.mem_of_getElem? (i := 28) (by decide +kernel), List.mem_of_getElem? (i := 229) (by decide +kernel), List.mem_of_getElem? (i := 230) (by decide +kernel)⟩
theorem lw_p8 : lw_okq (⟨"CarDrawer$Rest", "leaveOutRows", "(I)Z"⟩, 4) := ⟨⟨by decide +kernel, by decide +kernel⟩, List.mem_of_getElem? (i := 28) (by decide +kernel), List.mem_of_getElem? (i := 257) (by decide +kernel), List.mem_of_getElem? (i := 258) (by decide +kernel)⟩
theorem lw_p9 : lw_okq (⟨"CarDrawer$Rest", "canGo", "(II)Z"⟩, 4) := ⟨⟨by decide +kernel, by decide +kernel⟩, List.mem_of_getElem? (i := 28) (by decide +kernel), List.mem_of_getElem? (i := 264) (by decide +kernel), List.mem_of_getElem? (i := 265) (by decide +kernel)⟩
theorem lw_p10 : lw_okq (⟨"CarDrawer$Rest", "takeOut", "(II)V"⟩, 4) := ⟨⟨by decide +kernel, by decide +kernel⟩, List.mem_of_getElem? (i := 28) (by decide +kernel), List.mem_of_getElem? (i := 268) (by decide +kernel), List.mem_of_getElem? (i := 269) (by decide +kernel)⟩
theorem lw_p11 : lw_okq (⟨"CarDrawerModel", "drawAll", "(III)V"⟩, 15) := ⟨⟨by decide +kernel, by decide +kernel⟩, List.mem_of_getElem? (i := 311) (by decide +kernel), List.mem_of_getElem? (i := 372) (by decide +kernel), List.mem_of_getElem? (i := 373) (by decide +kernel)⟩
theorem lw_p12 : lw_okq (⟨"CarDrawerModel", "next", "(I)I"⟩, 15) := ⟨⟨by decide +kernel, by decide +kernel⟩, List.mem_of_getElem? (i := 311) (by decide +kernel), List.mem_of_getElem? (i := 376) (by decide +kernel), List.mem_of_getElem? (i := 377) (by decide +kernel)⟩
theorem lw_p13 : lw_okq (⟨"CarDrawerModel", "drawX", "(III)J"⟩, 15) := ⟨⟨by decide +kernel, by decide +kernel⟩, List.mem_of_getElem? (i := 311) (by decide +kernel), List.mem_of_getElem? (i := 385) (by decide +kernel), List.mem_of_getElem? (i := 386) (by decide +kernel)⟩
theorem lw_p14 : lw_okq (⟨"CarDrawerModel", "placeOf", "(I)I"⟩, 15) := ⟨⟨by decide +kernel, by decide +kernel⟩, List.mem_of_getElem? (i := 311) (by decide +kernel), List.mem_of_getElem? (i := 404) (by decide +kernel), List.mem_of_getElem? (i := 405) (by decide +kernel)⟩
theorem lw_p15 : lw_okq (⟨"CarDrawerModel", "type", "(I)V"⟩, 15) := ⟨⟨by decide +kernel, by decide +kernel⟩, List.mem_of_getElem? (i := 311) (by decide +kernel), List.mem_of_getElem? (i := 413) (by decide +kernel), List.mem_of_getElem? (i := 414) (by decide +kernel)⟩
def lw_privs_1 : List (MethodName × Nat) := [(⟨"CarDrawer$Drawing", "fillWithNought", "()V"⟩, 7), (⟨"CarDrawer$Drawing", "drawX", "(IILCarDrawer$Draws;)I"⟩, 7), (⟨"CarDrawer$Drawing", "drawY", "(IILCarDrawer$Draws;)I"⟩, 7), (⟨"CarDrawer$Drawing", "plant", "(ILCarDrawer$Draws;)V"⟩, 7), (⟨"CarDrawer$Drawing", "spoil", "(II)V"⟩, 7), (⟨"CarDrawer$Rest", "lineLength", "(I)I"⟩, 4), (⟨"CarDrawer$Rest", "letterOfLine", "(II)I"⟩, 4), (⟨"CarDrawer$Rest", "signatureWithout", "(II)I"⟩, 4), (⟨"CarDrawer$Rest", "leaveOutRows", "(I)Z"⟩, 4), (⟨"CarDrawer$Rest", "canGo", "(II)Z"⟩, 4), (⟨"CarDrawer$Rest", "takeOut", "(II)V"⟩, 4), (⟨"CarDrawerModel", "drawAll", "(III)V"⟩, 15), (⟨"CarDrawerModel", "next", "(I)I"⟩, 15), (⟨"CarDrawerModel", "drawX", "(III)J"⟩, 15), (⟨"CarDrawerModel", "placeOf", "(I)I"⟩, 15), (⟨"CarDrawerModel", "type", "(I)V"⟩, 15)]
theorem lw_r1 : ∀ q ∈ lw_privs_1, lw_okq q := List.forall_mem_cons.mpr ⟨lw_p0, List.forall_mem_cons.mpr ⟨lw_p1, List.forall_mem_cons.mpr ⟨lw_p2, List.forall_mem_cons.mpr ⟨lw_p3, List.forall_mem_cons.mpr ⟨lw_p4, List.forall_mem_cons.mpr ⟨lw_p5, List.forall_mem_cons.mpr ⟨lw_p6, List.forall_mem_cons.mpr ⟨lw_p7, List.forall_mem_cons.mpr ⟨lw_p8, List.forall_mem_cons.mpr ⟨lw_p9, List.forall_mem_cons.mpr ⟨lw_p10, List.forall_mem_cons.mpr ⟨lw_p11, List.forall_mem_cons.mpr ⟨lw_p12, List.forall_mem_cons.mpr ⟨lw_p13, List.forall_mem_cons.mpr ⟨lw_p14, List.forall_mem_cons.mpr ⟨lw_p15, fun _ h => absurd h List.not_mem_nil⟩⟩⟩⟩⟩⟩⟩⟩⟩⟩⟩⟩⟩⟩⟩⟩
theorem lw_p16 : lw_okq (⟨"CarDrawerModel", "typeNumber", "(J)V"⟩, 15) := ⟨⟨by decide +kernel, by decide +kernel⟩, List.mem_of_getElem? (i := 311) (by decide +kernel), List.mem_of_getElem? (i := 417) (by decide +kernel), List.mem_of_getElem? (i := 418) (by decide +kernel)⟩
theorem lw_p17 : lw_okq (⟨"CarDrawerModel", "signature", "(II)I"⟩, 15) := ⟨⟨by decide +kernel, by decide +kernel⟩, List.mem_of_getElem? (i := 311) (by decide +kernel), List.mem_of_getElem? (i := 427) (by decide +kernel), List.mem_of_getElem? (i := 428) (by decide +kernel)⟩
theorem lw_p18 : lw_okq (⟨"CarDrawerModel", "pass", "(I)Z"⟩, 15) := ⟨⟨by decide +kernel, by decide +kernel⟩, List.mem_of_getElem? (i := 311) (by decide +kernel), List.mem_of_getElem? (i := 440) (by decide +kernel), List.mem_of_getElem? (i := 441) (by decide +kernel)⟩
def lw_privs_2 : List (MethodName × Nat) := [(⟨"CarDrawerModel", "typeNumber", "(J)V"⟩, 15), (⟨"CarDrawerModel", "signature", "(II)I"⟩, 15), (⟨"CarDrawerModel", "pass", "(I)Z"⟩, 15)]
theorem lw_r2 : ∀ q ∈ lw_privs_2, lw_okq q := List.forall_mem_cons.mpr ⟨lw_p16, List.forall_mem_cons.mpr ⟨lw_p17, List.forall_mem_cons.mpr ⟨lw_p18, fun _ h => absurd h List.not_mem_nil⟩⟩⟩
def lw_privs : List (MethodName × Nat) := lw_privs_1 ++ (lw_privs_2)
def lw_tbl : List Cond := k2_sels lw_privs ++ tables_1
theorem lw_privs_ok : ∀ q ∈ lw_privs, lw_okq q := by
  show ∀ q ∈ lw_privs_1 ++ (lw_privs_2), lw_okq q
  exact List.forall_mem_append.mpr ⟨lw_r1, lw_r2⟩

abbrev RX0 : String := "CarDrawer$Draws"
def TX0 : u_T := fun k => match k with
  | _ => ("CarDrawer$Draws", "state", "J", false)
def tyX0 : Nat → FieldType := fun k => match k with
  | _ => .long
theorem nmX0 : ∀ a, a < 1 → ∀ b, b < 1 → a ≠ b → (TX0 a).2.1 ≠ (TX0 b).2.1 := by decide +kernel
theorem tyX0_ok : ∀ k, k < 1 → parseFieldDescriptor (TX0 k).2.2.1 = some (tyX0 k) := by decide +kernel
abbrev RX1 : String := "CarDrawer$Drawing"
def TX1 : u_T := fun k => match k with
  | 0 => ("CarDrawer$Drawing", "sort", "[I", true)
  | 1 => ("CarDrawer$Drawing", "x", "[I", true)
  | 2 => ("CarDrawer$Drawing", "y", "[I", true)
  | 3 => ("CarDrawer$Drawing", "z", "[I", true)
  | 4 => ("CarDrawer$Drawing", "count", "I", false)
  | 5 => ("CarDrawer$Drawing", "fault", "I", false)
  | _ => ("CarDrawer$Drawing", "faultPart", "I", false)
def tyX1 : Nat → FieldType := fun k => match k with
  | 0 => .array .int
  | 1 => .array .int
  | 2 => .array .int
  | 3 => .array .int
  | 4 => .int
  | 5 => .int
  | _ => .int
theorem nmX1 : ∀ a, a < 7 → ∀ b, b < 7 → a ≠ b → (TX1 a).2.1 ≠ (TX1 b).2.1 := by decide +kernel
theorem tyX1_ok : ∀ k, k < 7 → parseFieldDescriptor (TX1 k).2.2.1 = some (tyX1 k) := by decide +kernel
abbrev RX2 : String := "CarDrawer$Verdict"
def TX2 : u_T := fun k => match k with
  | _ => ("CarDrawer$Verdict", "staying", "[Z", true)
def tyX2 : Nat → FieldType := fun k => match k with
  | _ => .array .boolean
theorem nmX2 : ∀ a, a < 1 → ∀ b, b < 1 → a ≠ b → (TX2 a).2.1 ≠ (TX2 b).2.1 := by decide +kernel
theorem tyX2_ok : ∀ k, k < 1 → parseFieldDescriptor (TX2 k).2.2.1 = some (tyX2 k) := by decide +kernel
abbrev RX3 : String := "CarDrawer$Rest"
def TX3 : u_T := fun k => match k with
  | 0 => ("CarDrawer$Rest", "drawing", "LCarDrawer$Drawing;", true)
  | 1 => ("CarDrawer$Rest", "saying", "LCarDrawer$Verdict;", true)
  | 2 => ("CarDrawer$Rest", "numbers", "[I", true)
  | _ => ("CarDrawer$Rest", "count", "I", false)
def tyX3 : Nat → FieldType := fun k => match k with
  | 0 => .object "CarDrawer$Drawing"
  | 1 => .object "CarDrawer$Verdict"
  | 2 => .array .int
  | _ => .int
theorem nmX3 : ∀ a, a < 4 → ∀ b, b < 4 → a ≠ b → (TX3 a).2.1 ≠ (TX3 b).2.1 := by decide +kernel
theorem tyX3_ok : ∀ k, k < 4 → parseFieldDescriptor (TX3 k).2.2.1 = some (tyX3 k) := by decide +kernel
abbrev RX4 : String := "CarDrawer"
def TX4 : u_T := fun k => match k with
  | 0 => ("CarDrawer", "seed", "J", true)
  | 1 => ("CarDrawer", "draws", "LCarDrawer$Draws;", true)
  | 2 => ("CarDrawer", "rest", "LCarDrawer$Rest;", true)
  | 3 => ("CarDrawer", "drawing", "LCarDrawer$Drawing;", true)
  | 4 => ("CarDrawer", "saying", "LCarDrawer$Verdict;", true)
  | 5 => ("CarDrawer", "trialDraws", "LCarDrawer$Draws;", true)
  | 6 => ("CarDrawer", "mine", "LCarDrawer$Drawing;", true)
  | _ => ("CarDrawer", "theirs", "LCarDrawer$Drawing;", true)
def tyX4 : Nat → FieldType := fun k => match k with
  | 0 => .long
  | 1 => .object "CarDrawer$Draws"
  | 2 => .object "CarDrawer$Rest"
  | 3 => .object "CarDrawer$Drawing"
  | 4 => .object "CarDrawer$Verdict"
  | 5 => .object "CarDrawer$Draws"
  | 6 => .object "CarDrawer$Drawing"
  | _ => .object "CarDrawer$Drawing"
theorem nmX4 : ∀ a, a < 8 → ∀ b, b < 8 → a ≠ b → (TX4 a).2.1 ≠ (TX4 b).2.1 := by decide +kernel
theorem tyX4_ok : ∀ k, k < 8 → parseFieldDescriptor (TX4 k).2.2.1 = some (tyX4 k) := by decide +kernel
abbrev RX5 : String := "CarDrawerModel"
def TX5 : u_T := fun k => match k with
  | 0 => ("CarDrawerModel", "code", "I", false)
  | 1 => ("CarDrawerModel", "seed", "J", true)
  | 2 => ("CarDrawerModel", "state", "J", false)
  | 3 => ("CarDrawerModel", "many", "[I", true)
  | 4 => ("CarDrawerModel", "sort", "[I", true)
  | 5 => ("CarDrawerModel", "x", "[J", true)
  | 6 => ("CarDrawerModel", "y", "[J", true)
  | 7 => ("CarDrawerModel", "z", "[J", true)
  | 8 => ("CarDrawerModel", "fault", "[I", true)
  | 9 => ("CarDrawerModel", "faultAt", "[I", true)
  | 10 => ("CarDrawerModel", "left", "[I", true)
  | 11 => ("CarDrawerModel", "lefts", "I", false)
  | 12 => ("CarDrawerModel", "stays", "[Z", true)
  | 13 => ("CarDrawerModel", "text", "[B", true)
  | _ => ("CarDrawerModel", "size", "I", false)
def tyX5 : Nat → FieldType := fun k => match k with
  | 0 => .int
  | 1 => .long
  | 2 => .long
  | 3 => .array .int
  | 4 => .array .int
  | 5 => .array .long
  | 6 => .array .long
  | 7 => .array .long
  | 8 => .array .int
  | 9 => .array .int
  | 10 => .array .int
  | 11 => .int
  | 12 => .array .boolean
  | 13 => .array .byte
  | _ => .int
theorem nmX5 : ∀ a, a < 15 → ∀ b, b < 15 → a ≠ b → (TX5 a).2.1 ≠ (TX5 b).2.1 := by decide +kernel
theorem tyX5_ok : ∀ k, k < 15 → parseFieldDescriptor (TX5 k).2.2.1 = some (tyX5 k) := by decide +kernel
abbrev RX6 : String := "CarDrawer$Tens"
abbrev RX7 : String := "CarDrawerLaw"
abbrev vwCl : List vw_C := [(RX0, TX0, 1), (RX1, TX1, 7), (RX2, TX2, 1), (RX3, TX3, 4), (RX4, TX4, 8), (RX5, TX5, 15)]
def kq_T : List Cond := lw_tbl.filter goodWord
theorem kq_in {w : Cond} (h : w ∈ lw_tbl) (g : goodWord w = true) : w ∈ kq_T := List.mem_filter.mpr ⟨h, g⟩
theorem kq_T_good : ∀ w ∈ kq_T, goodWord w = true := fun w h => (List.mem_filter.mp h).2
theorem tw_0 : (Cond.selects "CarDrawer$Drawing" ({ cls := "CarDrawer$Drawing", name := "fillWithNought", desc := "()V" } : MethodName) ({ cls := "CarDrawer$Drawing", name := "fillWithNought", desc := "()V" } : MethodName)) ∈ kq_T := kq_in (List.mem_of_getElem? (i := 0) (by decide +kernel)) (by decide +kernel)
theorem tw_1 : (Cond.selects "CarDrawer$Drawing" ({ cls := "CarDrawer$Drawing", name := "drawX", desc := "(IILCarDrawer$Draws;)I" } : MethodName) ({ cls := "CarDrawer$Drawing", name := "drawX", desc := "(IILCarDrawer$Draws;)I" } : MethodName)) ∈ kq_T := kq_in (List.mem_of_getElem? (i := 1) (by decide +kernel)) (by decide +kernel)
theorem tw_2 : (Cond.selects "CarDrawer$Drawing" ({ cls := "CarDrawer$Drawing", name := "drawY", desc := "(IILCarDrawer$Draws;)I" } : MethodName) ({ cls := "CarDrawer$Drawing", name := "drawY", desc := "(IILCarDrawer$Draws;)I" } : MethodName)) ∈ kq_T := kq_in (List.mem_of_getElem? (i := 2) (by decide +kernel)) (by decide +kernel)
theorem tw_3 : (Cond.selects "CarDrawer$Drawing" ({ cls := "CarDrawer$Drawing", name := "plant", desc := "(ILCarDrawer$Draws;)V" } : MethodName) ({ cls := "CarDrawer$Drawing", name := "plant", desc := "(ILCarDrawer$Draws;)V" } : MethodName)) ∈ kq_T := kq_in (List.mem_of_getElem? (i := 3) (by decide +kernel)) (by decide +kernel)
theorem tw_4 : (Cond.selects "CarDrawer$Drawing" ({ cls := "CarDrawer$Drawing", name := "spoil", desc := "(II)V" } : MethodName) ({ cls := "CarDrawer$Drawing", name := "spoil", desc := "(II)V" } : MethodName)) ∈ kq_T := kq_in (List.mem_of_getElem? (i := 4) (by decide +kernel)) (by decide +kernel)
theorem tw_5 : (Cond.selects "CarDrawer$Rest" ({ cls := "CarDrawer$Rest", name := "lineLength", desc := "(I)I" } : MethodName) ({ cls := "CarDrawer$Rest", name := "lineLength", desc := "(I)I" } : MethodName)) ∈ kq_T := kq_in (List.mem_of_getElem? (i := 5) (by decide +kernel)) (by decide +kernel)
theorem tw_6 : (Cond.selects "CarDrawer$Rest" ({ cls := "CarDrawer$Rest", name := "letterOfLine", desc := "(II)I" } : MethodName) ({ cls := "CarDrawer$Rest", name := "letterOfLine", desc := "(II)I" } : MethodName)) ∈ kq_T := kq_in (List.mem_of_getElem? (i := 6) (by decide +kernel)) (by decide +kernel)
theorem tw_7 : (Cond.selects "CarDrawer$Rest" ({ cls := "CarDrawer$Rest", name := "signatureWithout", desc := "(II)I" } : MethodName) ({ cls := "CarDrawer$Rest", name := "signatureWithout", desc := "(II)I" } : MethodName)) ∈ kq_T := kq_in (List.mem_of_getElem? (i := 7) (by decide +kernel)) (by decide +kernel)
theorem tw_8 : (Cond.selects "CarDrawer$Rest" ({ cls := "CarDrawer$Rest", name := "leaveOutRows", desc := "(I)Z" } : MethodName) ({ cls := "CarDrawer$Rest", name := "leaveOutRows", desc := "(I)Z" } : MethodName)) ∈ kq_T := kq_in (List.mem_of_getElem? (i := 8) (by decide +kernel)) (by decide +kernel)
theorem tw_9 : (Cond.selects "CarDrawer$Rest" ({ cls := "CarDrawer$Rest", name := "canGo", desc := "(II)Z" } : MethodName) ({ cls := "CarDrawer$Rest", name := "canGo", desc := "(II)Z" } : MethodName)) ∈ kq_T := kq_in (List.mem_of_getElem? (i := 9) (by decide +kernel)) (by decide +kernel)
theorem tw_10 : (Cond.selects "CarDrawer$Rest" ({ cls := "CarDrawer$Rest", name := "takeOut", desc := "(II)V" } : MethodName) ({ cls := "CarDrawer$Rest", name := "takeOut", desc := "(II)V" } : MethodName)) ∈ kq_T := kq_in (List.mem_of_getElem? (i := 10) (by decide +kernel)) (by decide +kernel)
theorem tw_11 : (Cond.selects "CarDrawerModel" ({ cls := "CarDrawerModel", name := "drawAll", desc := "(III)V" } : MethodName) ({ cls := "CarDrawerModel", name := "drawAll", desc := "(III)V" } : MethodName)) ∈ kq_T := kq_in (List.mem_of_getElem? (i := 11) (by decide +kernel)) (by decide +kernel)
theorem tw_12 : (Cond.selects "CarDrawerModel" ({ cls := "CarDrawerModel", name := "next", desc := "(I)I" } : MethodName) ({ cls := "CarDrawerModel", name := "next", desc := "(I)I" } : MethodName)) ∈ kq_T := kq_in (List.mem_of_getElem? (i := 12) (by decide +kernel)) (by decide +kernel)
theorem tw_13 : (Cond.selects "CarDrawerModel" ({ cls := "CarDrawerModel", name := "drawX", desc := "(III)J" } : MethodName) ({ cls := "CarDrawerModel", name := "drawX", desc := "(III)J" } : MethodName)) ∈ kq_T := kq_in (List.mem_of_getElem? (i := 13) (by decide +kernel)) (by decide +kernel)
theorem tw_14 : (Cond.selects "CarDrawerModel" ({ cls := "CarDrawerModel", name := "placeOf", desc := "(I)I" } : MethodName) ({ cls := "CarDrawerModel", name := "placeOf", desc := "(I)I" } : MethodName)) ∈ kq_T := kq_in (List.mem_of_getElem? (i := 14) (by decide +kernel)) (by decide +kernel)
theorem tw_15 : (Cond.selects "CarDrawerModel" ({ cls := "CarDrawerModel", name := "type", desc := "(I)V" } : MethodName) ({ cls := "CarDrawerModel", name := "type", desc := "(I)V" } : MethodName)) ∈ kq_T := kq_in (List.mem_of_getElem? (i := 15) (by decide +kernel)) (by decide +kernel)
theorem tw_16 : (Cond.selects "CarDrawerModel" ({ cls := "CarDrawerModel", name := "typeNumber", desc := "(J)V" } : MethodName) ({ cls := "CarDrawerModel", name := "typeNumber", desc := "(J)V" } : MethodName)) ∈ kq_T := kq_in (List.mem_of_getElem? (i := 16) (by decide +kernel)) (by decide +kernel)
theorem tw_17 : (Cond.selects "CarDrawerModel" ({ cls := "CarDrawerModel", name := "signature", desc := "(II)I" } : MethodName) ({ cls := "CarDrawerModel", name := "signature", desc := "(II)I" } : MethodName)) ∈ kq_T := kq_in (List.mem_of_getElem? (i := 17) (by decide +kernel)) (by decide +kernel)
theorem tw_18 : (Cond.selects "CarDrawerModel" ({ cls := "CarDrawerModel", name := "pass", desc := "(I)Z" } : MethodName) ({ cls := "CarDrawerModel", name := "pass", desc := "(I)Z" } : MethodName)) ∈ kq_T := kq_in (List.mem_of_getElem? (i := 18) (by decide +kernel)) (by decide +kernel)
theorem tw_19 : (Jvm.Cond.initialized "CarDrawerLaw") ∈ kq_T := kq_in (List.mem_of_getElem? (i := 19) (by decide +kernel)) (by decide +kernel)
theorem tw_20 : (Jvm.Cond.initialized "CarDrawer") ∈ kq_T := kq_in (List.mem_of_getElem? (i := 20) (by decide +kernel)) (by decide +kernel)
theorem tw_21 : (Jvm.Cond.initialized "CarDrawer$Draws") ∈ kq_T := kq_in (List.mem_of_getElem? (i := 21) (by decide +kernel)) (by decide +kernel)
theorem tw_22 : (Jvm.Cond.initialized "CarDrawer$Rest") ∈ kq_T := kq_in (List.mem_of_getElem? (i := 22) (by decide +kernel)) (by decide +kernel)
theorem tw_23 : (Jvm.Cond.initialized "CarDrawer$Drawing") ∈ kq_T := kq_in (List.mem_of_getElem? (i := 23) (by decide +kernel)) (by decide +kernel)
theorem tw_24 : (Jvm.Cond.initialized "CarDrawer$Verdict") ∈ kq_T := kq_in (List.mem_of_getElem? (i := 24) (by decide +kernel)) (by decide +kernel)
theorem tw_25 : (Jvm.Cond.initialized "CarDrawerModel") ∈ kq_T := kq_in (List.mem_of_getElem? (i := 25) (by decide +kernel)) (by decide +kernel)
theorem tw_26 : (Jvm.Cond.initialized "CarDrawer$Tens") ∈ kq_T := kq_in (List.mem_of_getElem? (i := 26) (by decide +kernel)) (by decide +kernel)
theorem tw_27 : (Jvm.Cond.initialized "java/lang/Math") ∈ kq_T := kq_in (List.mem_of_getElem? (i := 27) (by decide +kernel)) (by decide +kernel)
theorem tw_28 : (Jvm.Cond.classLink "CarDrawerLaw" (7 : Nat) "CarDrawer") ∈ kq_T := kq_in (List.mem_of_getElem? (i := 28) (by decide +kernel)) (by decide +kernel)
theorem tw_29 : (Jvm.Cond.instantiable "CarDrawer" (8 : Nat)) ∈ kq_T := kq_in (List.mem_of_getElem? (i := 29) (by decide +kernel)) (by decide +kernel)
theorem tw_30 : (Jvm.Cond.methodLink "CarDrawerLaw" (15 : Nat) ({ cls := "CarDrawer", name := "<init>", desc := "(J)V" } : Jvm.MethodName)) ∈ kq_T := kq_in (List.mem_of_getElem? (i := 30) (by decide +kernel)) (by decide +kernel)
theorem tw_31 : (Jvm.Cond.instanceMethod ({ cls := "CarDrawer", name := "<init>", desc := "(J)V" } : Jvm.MethodName)) ∈ kq_T := kq_in (List.mem_of_getElem? (i := 31) (by decide +kernel)) (by decide +kernel)
theorem tw_32 : (Jvm.Cond.code ({ cls := "CarDrawer", name := "<init>", desc := "(J)V" } : Jvm.MethodName) prog_1_method_1_code (3 : Nat) (Option.none : Option Jvm.ClassFile.FieldType)) ∈ kq_T := kq_in (List.mem_of_getElem? (i := 32) (by decide +kernel)) (by decide +kernel)
theorem tw_33 : (Jvm.Cond.methodLink "CarDrawer" (3 : Nat) ({ cls := "java/lang/Object", name := "<init>", desc := "()V" } : Jvm.MethodName)) ∈ kq_T := kq_in (List.mem_of_getElem? (i := 33) (by decide +kernel)) (by decide +kernel)
theorem tw_34 : (Jvm.Cond.instanceMethod ({ cls := "java/lang/Object", name := "<init>", desc := "()V" } : Jvm.MethodName)) ∈ kq_T := kq_in (List.mem_of_getElem? (i := 34) (by decide +kernel)) (by decide +kernel)
theorem tw_35 : (Jvm.Cond.code ({ cls := "java/lang/Object", name := "<init>", desc := "()V" } : Jvm.MethodName) object_method_1_code (1 : Nat) (Option.none : Option Jvm.ClassFile.FieldType)) ∈ kq_T := kq_in (List.mem_of_getElem? (i := 35) (by decide +kernel)) (by decide +kernel)
theorem tw_36 : (Jvm.Cond.classLink "CarDrawer" (13 : Nat) "CarDrawer$Draws") ∈ kq_T := kq_in (List.mem_of_getElem? (i := 36) (by decide +kernel)) (by decide +kernel)
theorem tw_37 : (Jvm.Cond.instantiable "CarDrawer$Draws" (1 : Nat)) ∈ kq_T := kq_in (List.mem_of_getElem? (i := 37) (by decide +kernel)) (by decide +kernel)
theorem tw_38 : (Jvm.Cond.methodLink "CarDrawer" (15 : Nat) ({ cls := "CarDrawer$Draws", name := "<init>", desc := "(J)V" } : Jvm.MethodName)) ∈ kq_T := kq_in (List.mem_of_getElem? (i := 38) (by decide +kernel)) (by decide +kernel)
theorem tw_39 : (Jvm.Cond.instanceMethod ({ cls := "CarDrawer$Draws", name := "<init>", desc := "(J)V" } : Jvm.MethodName)) ∈ kq_T := kq_in (List.mem_of_getElem? (i := 39) (by decide +kernel)) (by decide +kernel)
theorem tw_40 : (Jvm.Cond.code ({ cls := "CarDrawer$Draws", name := "<init>", desc := "(J)V" } : Jvm.MethodName) prog_3_method_1_code (3 : Nat) (Option.none : Option Jvm.ClassFile.FieldType)) ∈ kq_T := kq_in (List.mem_of_getElem? (i := 40) (by decide +kernel)) (by decide +kernel)
theorem tw_41 : (Jvm.Cond.methodLink "CarDrawer$Draws" (1 : Nat) ({ cls := "java/lang/Object", name := "<init>", desc := "()V" } : Jvm.MethodName)) ∈ kq_T := kq_in (List.mem_of_getElem? (i := 41) (by decide +kernel)) (by decide +kernel)
theorem tw_42 : (Jvm.Cond.fieldLink "CarDrawer$Draws" (7 : Nat) "CarDrawer$Draws" "state" "J") ∈ kq_T := kq_in (List.mem_of_getElem? (i := 42) (by decide +kernel)) (by decide +kernel)
theorem tw_43 : (Jvm.Cond.lays "CarDrawer$Draws" "CarDrawer$Draws" "state" "J") ∈ kq_T := kq_in (List.mem_of_getElem? (i := 43) (by decide +kernel)) (by decide +kernel)
theorem tw_44 : (Jvm.Cond.soleField "CarDrawer$Draws" "state") ∈ kq_T := kq_in (List.mem_of_getElem? (i := 44) (by decide +kernel)) (by decide +kernel)
theorem tw_45 : (Jvm.Cond.superclass "CarDrawer$Draws" "java/lang/Object") ∈ kq_T := kq_in (List.mem_of_getElem? (i := 45) (by decide +kernel)) (by decide +kernel)
theorem tw_46 : (Jvm.Cond.classLink "CarDrawer" (22 : Nat) "CarDrawer$Rest") ∈ kq_T := kq_in (List.mem_of_getElem? (i := 46) (by decide +kernel)) (by decide +kernel)
theorem tw_47 : (Jvm.Cond.instantiable "CarDrawer$Rest" (4 : Nat)) ∈ kq_T := kq_in (List.mem_of_getElem? (i := 47) (by decide +kernel)) (by decide +kernel)
theorem tw_49 : (Jvm.Cond.instanceMethod ({ cls := "CarDrawer$Rest", name := "<init>", desc := "()V" } : Jvm.MethodName)) ∈ kq_T := kq_in (List.mem_of_getElem? (i := 49) (by decide +kernel)) (by decide +kernel)
theorem tw_50 : (Jvm.Cond.code ({ cls := "CarDrawer$Rest", name := "<init>", desc := "()V" } : Jvm.MethodName) prog_4_method_1_code (1 : Nat) (Option.none : Option Jvm.ClassFile.FieldType)) ∈ kq_T := kq_in (List.mem_of_getElem? (i := 50) (by decide +kernel)) (by decide +kernel)
theorem tw_51 : (Jvm.Cond.methodLink "CarDrawer$Rest" (3 : Nat) ({ cls := "java/lang/Object", name := "<init>", desc := "()V" } : Jvm.MethodName)) ∈ kq_T := kq_in (List.mem_of_getElem? (i := 51) (by decide +kernel)) (by decide +kernel)
theorem tw_52 : (Jvm.Cond.classLink "CarDrawer$Rest" (9 : Nat) "CarDrawer$Drawing") ∈ kq_T := kq_in (List.mem_of_getElem? (i := 52) (by decide +kernel)) (by decide +kernel)
theorem tw_53 : (Jvm.Cond.instantiable "CarDrawer$Drawing" (7 : Nat)) ∈ kq_T := kq_in (List.mem_of_getElem? (i := 53) (by decide +kernel)) (by decide +kernel)
theorem tw_55 : (Jvm.Cond.instanceMethod ({ cls := "CarDrawer$Drawing", name := "<init>", desc := "()V" } : Jvm.MethodName)) ∈ kq_T := kq_in (List.mem_of_getElem? (i := 55) (by decide +kernel)) (by decide +kernel)
theorem tw_56 : (Jvm.Cond.code ({ cls := "CarDrawer$Drawing", name := "<init>", desc := "()V" } : Jvm.MethodName) prog_2_method_1_code (1 : Nat) (Option.none : Option Jvm.ClassFile.FieldType)) ∈ kq_T := kq_in (List.mem_of_getElem? (i := 56) (by decide +kernel)) (by decide +kernel)
theorem tw_57 : (Jvm.Cond.methodLink "CarDrawer$Drawing" (3 : Nat) ({ cls := "java/lang/Object", name := "<init>", desc := "()V" } : Jvm.MethodName)) ∈ kq_T := kq_in (List.mem_of_getElem? (i := 57) (by decide +kernel)) (by decide +kernel)
theorem tw_58 : (Jvm.Cond.fieldLink "CarDrawer$Drawing" (9 : Nat) "CarDrawer$Drawing" "sort" "[I") ∈ kq_T := kq_in (List.mem_of_getElem? (i := 58) (by decide +kernel)) (by decide +kernel)
theorem tw_60 : (Jvm.Cond.fieldLink "CarDrawer$Drawing" (15 : Nat) "CarDrawer$Drawing" "x" "[I") ∈ kq_T := kq_in (List.mem_of_getElem? (i := 60) (by decide +kernel)) (by decide +kernel)
theorem tw_61 : (Jvm.Cond.fieldLink "CarDrawer$Drawing" (18 : Nat) "CarDrawer$Drawing" "y" "[I") ∈ kq_T := kq_in (List.mem_of_getElem? (i := 61) (by decide +kernel)) (by decide +kernel)
theorem tw_62 : (Jvm.Cond.fieldLink "CarDrawer$Drawing" (21 : Nat) "CarDrawer$Drawing" "z" "[I") ∈ kq_T := kq_in (List.mem_of_getElem? (i := 62) (by decide +kernel)) (by decide +kernel)
theorem tw_64 : (Jvm.Cond.fieldLink "CarDrawer$Drawing" (24 : Nat) "CarDrawer$Drawing" "count" "I") ∈ kq_T := kq_in (List.mem_of_getElem? (i := 64) (by decide +kernel)) (by decide +kernel)
theorem tw_67 : (Jvm.Cond.fieldLink "CarDrawer$Drawing" (28 : Nat) "CarDrawer$Drawing" "fault" "I") ∈ kq_T := kq_in (List.mem_of_getElem? (i := 67) (by decide +kernel)) (by decide +kernel)
theorem tw_69 : (Jvm.Cond.fieldLink "CarDrawer$Drawing" (31 : Nat) "CarDrawer$Drawing" "faultPart" "I") ∈ kq_T := kq_in (List.mem_of_getElem? (i := 69) (by decide +kernel)) (by decide +kernel)
theorem tw_72 : (Jvm.Cond.laysFinal "CarDrawer$Drawing" "CarDrawer$Drawing" "sort" "[I") ∈ kq_T := kq_in (List.mem_of_getElem? (i := 72) (by decide +kernel)) (by decide +kernel)
theorem tw_73 : (Jvm.Cond.soleField "CarDrawer$Drawing" "sort") ∈ kq_T := kq_in (List.mem_of_getElem? (i := 73) (by decide +kernel)) (by decide +kernel)
theorem tw_74 : (Jvm.Cond.laysFinal "CarDrawer$Drawing" "CarDrawer$Drawing" "x" "[I") ∈ kq_T := kq_in (List.mem_of_getElem? (i := 74) (by decide +kernel)) (by decide +kernel)
theorem tw_75 : (Jvm.Cond.soleField "CarDrawer$Drawing" "x") ∈ kq_T := kq_in (List.mem_of_getElem? (i := 75) (by decide +kernel)) (by decide +kernel)
theorem tw_76 : (Jvm.Cond.laysFinal "CarDrawer$Drawing" "CarDrawer$Drawing" "y" "[I") ∈ kq_T := kq_in (List.mem_of_getElem? (i := 76) (by decide +kernel)) (by decide +kernel)
theorem tw_77 : (Jvm.Cond.soleField "CarDrawer$Drawing" "y") ∈ kq_T := kq_in (List.mem_of_getElem? (i := 77) (by decide +kernel)) (by decide +kernel)
theorem tw_78 : (Jvm.Cond.laysFinal "CarDrawer$Drawing" "CarDrawer$Drawing" "z" "[I") ∈ kq_T := kq_in (List.mem_of_getElem? (i := 78) (by decide +kernel)) (by decide +kernel)
theorem tw_79 : (Jvm.Cond.soleField "CarDrawer$Drawing" "z") ∈ kq_T := kq_in (List.mem_of_getElem? (i := 79) (by decide +kernel)) (by decide +kernel)
theorem tw_80 : (Jvm.Cond.lays "CarDrawer$Drawing" "CarDrawer$Drawing" "count" "I") ∈ kq_T := kq_in (List.mem_of_getElem? (i := 80) (by decide +kernel)) (by decide +kernel)
theorem tw_81 : (Jvm.Cond.soleField "CarDrawer$Drawing" "count") ∈ kq_T := kq_in (List.mem_of_getElem? (i := 81) (by decide +kernel)) (by decide +kernel)
theorem tw_82 : (Jvm.Cond.lays "CarDrawer$Drawing" "CarDrawer$Drawing" "fault" "I") ∈ kq_T := kq_in (List.mem_of_getElem? (i := 82) (by decide +kernel)) (by decide +kernel)
theorem tw_83 : (Jvm.Cond.soleField "CarDrawer$Drawing" "fault") ∈ kq_T := kq_in (List.mem_of_getElem? (i := 83) (by decide +kernel)) (by decide +kernel)
theorem tw_84 : (Jvm.Cond.lays "CarDrawer$Drawing" "CarDrawer$Drawing" "faultPart" "I") ∈ kq_T := kq_in (List.mem_of_getElem? (i := 84) (by decide +kernel)) (by decide +kernel)
theorem tw_85 : (Jvm.Cond.soleField "CarDrawer$Drawing" "faultPart") ∈ kq_T := kq_in (List.mem_of_getElem? (i := 85) (by decide +kernel)) (by decide +kernel)
theorem tw_86 : (Jvm.Cond.superclass "CarDrawer$Drawing" "java/lang/Object") ∈ kq_T := kq_in (List.mem_of_getElem? (i := 86) (by decide +kernel)) (by decide +kernel)
theorem tw_87 : (Jvm.Cond.arrayClass Jvm.ClassFile.FieldType.int) ∈ kq_T := kq_in (List.mem_of_getElem? (i := 87) (by decide +kernel)) (by decide +kernel)
theorem tw_88 : (Jvm.Cond.classLink "CarDrawer$Rest" (18 : Nat) "CarDrawer$Verdict") ∈ kq_T := kq_in (List.mem_of_getElem? (i := 88) (by decide +kernel)) (by decide +kernel)
theorem tw_89 : (Jvm.Cond.instantiable "CarDrawer$Verdict" (1 : Nat)) ∈ kq_T := kq_in (List.mem_of_getElem? (i := 89) (by decide +kernel)) (by decide +kernel)
theorem tw_91 : (Jvm.Cond.instanceMethod ({ cls := "CarDrawer$Verdict", name := "<init>", desc := "()V" } : Jvm.MethodName)) ∈ kq_T := kq_in (List.mem_of_getElem? (i := 91) (by decide +kernel)) (by decide +kernel)
theorem tw_92 : (Jvm.Cond.code ({ cls := "CarDrawer$Verdict", name := "<init>", desc := "()V" } : Jvm.MethodName) prog_6_method_1_code (1 : Nat) (Option.none : Option Jvm.ClassFile.FieldType)) ∈ kq_T := kq_in (List.mem_of_getElem? (i := 92) (by decide +kernel)) (by decide +kernel)
theorem tw_93 : (Jvm.Cond.methodLink "CarDrawer$Verdict" (3 : Nat) ({ cls := "java/lang/Object", name := "<init>", desc := "()V" } : Jvm.MethodName)) ∈ kq_T := kq_in (List.mem_of_getElem? (i := 93) (by decide +kernel)) (by decide +kernel)
theorem tw_94 : (Jvm.Cond.fieldLink "CarDrawer$Verdict" (9 : Nat) "CarDrawer$Verdict" "staying" "[Z") ∈ kq_T := kq_in (List.mem_of_getElem? (i := 94) (by decide +kernel)) (by decide +kernel)
theorem tw_95 : (Jvm.Cond.laysFinal "CarDrawer$Verdict" "CarDrawer$Verdict" "staying" "[Z") ∈ kq_T := kq_in (List.mem_of_getElem? (i := 95) (by decide +kernel)) (by decide +kernel)
theorem tw_96 : (Jvm.Cond.soleField "CarDrawer$Verdict" "staying") ∈ kq_T := kq_in (List.mem_of_getElem? (i := 96) (by decide +kernel)) (by decide +kernel)
theorem tw_97 : (Jvm.Cond.superclass "CarDrawer$Verdict" "java/lang/Object") ∈ kq_T := kq_in (List.mem_of_getElem? (i := 97) (by decide +kernel)) (by decide +kernel)
theorem tw_98 : (Jvm.Cond.arrayClass Jvm.ClassFile.FieldType.boolean) ∈ kq_T := kq_in (List.mem_of_getElem? (i := 98) (by decide +kernel)) (by decide +kernel)
theorem tw_99 : (Jvm.Cond.fieldLink "CarDrawer$Rest" (12 : Nat) "CarDrawer$Rest" "drawing" "LCarDrawer$Drawing;") ∈ kq_T := kq_in (List.mem_of_getElem? (i := 99) (by decide +kernel)) (by decide +kernel)
theorem tw_101 : (Jvm.Cond.fieldLink "CarDrawer$Rest" (21 : Nat) "CarDrawer$Rest" "saying" "LCarDrawer$Verdict;") ∈ kq_T := kq_in (List.mem_of_getElem? (i := 101) (by decide +kernel)) (by decide +kernel)
theorem tw_103 : (Jvm.Cond.fieldLink "CarDrawer$Rest" (25 : Nat) "CarDrawer$Rest" "numbers" "[I") ∈ kq_T := kq_in (List.mem_of_getElem? (i := 103) (by decide +kernel)) (by decide +kernel)
theorem tw_104 : (Jvm.Cond.fieldLink "CarDrawer$Rest" (29 : Nat) "CarDrawer$Rest" "count" "I") ∈ kq_T := kq_in (List.mem_of_getElem? (i := 104) (by decide +kernel)) (by decide +kernel)
theorem tw_106 : (Jvm.Cond.laysFinal "CarDrawer$Rest" "CarDrawer$Rest" "drawing" "LCarDrawer$Drawing;") ∈ kq_T := kq_in (List.mem_of_getElem? (i := 106) (by decide +kernel)) (by decide +kernel)
theorem tw_107 : (Jvm.Cond.soleField "CarDrawer$Rest" "drawing") ∈ kq_T := kq_in (List.mem_of_getElem? (i := 107) (by decide +kernel)) (by decide +kernel)
theorem tw_108 : (Jvm.Cond.laysFinal "CarDrawer$Rest" "CarDrawer$Rest" "saying" "LCarDrawer$Verdict;") ∈ kq_T := kq_in (List.mem_of_getElem? (i := 108) (by decide +kernel)) (by decide +kernel)
theorem tw_109 : (Jvm.Cond.soleField "CarDrawer$Rest" "saying") ∈ kq_T := kq_in (List.mem_of_getElem? (i := 109) (by decide +kernel)) (by decide +kernel)
theorem tw_110 : (Jvm.Cond.laysFinal "CarDrawer$Rest" "CarDrawer$Rest" "numbers" "[I") ∈ kq_T := kq_in (List.mem_of_getElem? (i := 110) (by decide +kernel)) (by decide +kernel)
theorem tw_111 : (Jvm.Cond.soleField "CarDrawer$Rest" "numbers") ∈ kq_T := kq_in (List.mem_of_getElem? (i := 111) (by decide +kernel)) (by decide +kernel)
theorem tw_112 : (Jvm.Cond.lays "CarDrawer$Rest" "CarDrawer$Rest" "count" "I") ∈ kq_T := kq_in (List.mem_of_getElem? (i := 112) (by decide +kernel)) (by decide +kernel)
theorem tw_113 : (Jvm.Cond.soleField "CarDrawer$Rest" "count") ∈ kq_T := kq_in (List.mem_of_getElem? (i := 113) (by decide +kernel)) (by decide +kernel)
theorem tw_114 : (Jvm.Cond.superclass "CarDrawer$Rest" "java/lang/Object") ∈ kq_T := kq_in (List.mem_of_getElem? (i := 114) (by decide +kernel)) (by decide +kernel)
theorem tw_115 : (Jvm.Cond.classLink "CarDrawer" (42 : Nat) "CarDrawer$Drawing") ∈ kq_T := kq_in (List.mem_of_getElem? (i := 115) (by decide +kernel)) (by decide +kernel)
theorem tw_117 : (Jvm.Cond.fieldLink "CarDrawer" (9 : Nat) "CarDrawer" "seed" "J") ∈ kq_T := kq_in (List.mem_of_getElem? (i := 117) (by decide +kernel)) (by decide +kernel)
theorem tw_118 : (Jvm.Cond.fieldLink "CarDrawer" (18 : Nat) "CarDrawer" "draws" "LCarDrawer$Draws;") ∈ kq_T := kq_in (List.mem_of_getElem? (i := 118) (by decide +kernel)) (by decide +kernel)
theorem tw_119 : (Jvm.Cond.fieldLink "CarDrawer" (25 : Nat) "CarDrawer" "rest" "LCarDrawer$Rest;") ∈ kq_T := kq_in (List.mem_of_getElem? (i := 119) (by decide +kernel)) (by decide +kernel)
theorem tw_120 : (Jvm.Cond.fieldLink "CarDrawer" (33 : Nat) "CarDrawer" "drawing" "LCarDrawer$Drawing;") ∈ kq_T := kq_in (List.mem_of_getElem? (i := 120) (by decide +kernel)) (by decide +kernel)
theorem tw_121 : (Jvm.Cond.fieldLink "CarDrawer" (38 : Nat) "CarDrawer" "saying" "LCarDrawer$Verdict;") ∈ kq_T := kq_in (List.mem_of_getElem? (i := 121) (by decide +kernel)) (by decide +kernel)
theorem tw_122 : (Jvm.Cond.fieldLink "CarDrawer" (39 : Nat) "CarDrawer" "trialDraws" "LCarDrawer$Draws;") ∈ kq_T := kq_in (List.mem_of_getElem? (i := 122) (by decide +kernel)) (by decide +kernel)
theorem tw_123 : (Jvm.Cond.fieldLink "CarDrawer" (45 : Nat) "CarDrawer" "mine" "LCarDrawer$Drawing;") ∈ kq_T := kq_in (List.mem_of_getElem? (i := 123) (by decide +kernel)) (by decide +kernel)
theorem tw_124 : (Jvm.Cond.fieldLink "CarDrawer" (48 : Nat) "CarDrawer" "theirs" "LCarDrawer$Drawing;") ∈ kq_T := kq_in (List.mem_of_getElem? (i := 124) (by decide +kernel)) (by decide +kernel)
theorem tw_125 : (Jvm.Cond.laysFinal "CarDrawer" "CarDrawer" "seed" "J") ∈ kq_T := kq_in (List.mem_of_getElem? (i := 125) (by decide +kernel)) (by decide +kernel)
theorem tw_126 : (Jvm.Cond.soleField "CarDrawer" "seed") ∈ kq_T := kq_in (List.mem_of_getElem? (i := 126) (by decide +kernel)) (by decide +kernel)
theorem tw_127 : (Jvm.Cond.laysFinal "CarDrawer" "CarDrawer" "draws" "LCarDrawer$Draws;") ∈ kq_T := kq_in (List.mem_of_getElem? (i := 127) (by decide +kernel)) (by decide +kernel)
theorem tw_128 : (Jvm.Cond.soleField "CarDrawer" "draws") ∈ kq_T := kq_in (List.mem_of_getElem? (i := 128) (by decide +kernel)) (by decide +kernel)
theorem tw_129 : (Jvm.Cond.laysFinal "CarDrawer" "CarDrawer" "rest" "LCarDrawer$Rest;") ∈ kq_T := kq_in (List.mem_of_getElem? (i := 129) (by decide +kernel)) (by decide +kernel)
theorem tw_130 : (Jvm.Cond.soleField "CarDrawer" "rest") ∈ kq_T := kq_in (List.mem_of_getElem? (i := 130) (by decide +kernel)) (by decide +kernel)
theorem tw_131 : (Jvm.Cond.laysFinal "CarDrawer" "CarDrawer" "drawing" "LCarDrawer$Drawing;") ∈ kq_T := kq_in (List.mem_of_getElem? (i := 131) (by decide +kernel)) (by decide +kernel)
theorem tw_132 : (Jvm.Cond.soleField "CarDrawer" "drawing") ∈ kq_T := kq_in (List.mem_of_getElem? (i := 132) (by decide +kernel)) (by decide +kernel)
theorem tw_133 : (Jvm.Cond.laysFinal "CarDrawer" "CarDrawer" "saying" "LCarDrawer$Verdict;") ∈ kq_T := kq_in (List.mem_of_getElem? (i := 133) (by decide +kernel)) (by decide +kernel)
theorem tw_134 : (Jvm.Cond.soleField "CarDrawer" "saying") ∈ kq_T := kq_in (List.mem_of_getElem? (i := 134) (by decide +kernel)) (by decide +kernel)
theorem tw_135 : (Jvm.Cond.laysFinal "CarDrawer" "CarDrawer" "trialDraws" "LCarDrawer$Draws;") ∈ kq_T := kq_in (List.mem_of_getElem? (i := 135) (by decide +kernel)) (by decide +kernel)
theorem tw_136 : (Jvm.Cond.soleField "CarDrawer" "trialDraws") ∈ kq_T := kq_in (List.mem_of_getElem? (i := 136) (by decide +kernel)) (by decide +kernel)
theorem tw_137 : (Jvm.Cond.laysFinal "CarDrawer" "CarDrawer" "mine" "LCarDrawer$Drawing;") ∈ kq_T := kq_in (List.mem_of_getElem? (i := 137) (by decide +kernel)) (by decide +kernel)
theorem tw_138 : (Jvm.Cond.soleField "CarDrawer" "mine") ∈ kq_T := kq_in (List.mem_of_getElem? (i := 138) (by decide +kernel)) (by decide +kernel)
theorem tw_139 : (Jvm.Cond.laysFinal "CarDrawer" "CarDrawer" "theirs" "LCarDrawer$Drawing;") ∈ kq_T := kq_in (List.mem_of_getElem? (i := 139) (by decide +kernel)) (by decide +kernel)
theorem tw_140 : (Jvm.Cond.soleField "CarDrawer" "theirs") ∈ kq_T := kq_in (List.mem_of_getElem? (i := 140) (by decide +kernel)) (by decide +kernel)
theorem tw_141 : (Jvm.Cond.superclass "CarDrawer" "java/lang/Object") ∈ kq_T := kq_in (List.mem_of_getElem? (i := 141) (by decide +kernel)) (by decide +kernel)
theorem tw_142 : (Jvm.Cond.methodLink "CarDrawerLaw" (21 : Nat) ({ cls := "CarDrawer", name := "draw", desc := "(II)I" } : Jvm.MethodName)) ∈ kq_T := kq_in (List.mem_of_getElem? (i := 142) (by decide +kernel)) (by decide +kernel)
theorem tw_143 : (Jvm.Cond.instanceMethod ({ cls := "CarDrawer", name := "draw", desc := "(II)I" } : Jvm.MethodName)) ∈ kq_T := kq_in (List.mem_of_getElem? (i := 143) (by decide +kernel)) (by decide +kernel)
theorem tw_144 : (Jvm.Cond.selects "CarDrawer" ({ cls := "CarDrawer", name := "draw", desc := "(II)I" } : Jvm.MethodName) ({ cls := "CarDrawer", name := "draw", desc := "(II)I" } : Jvm.MethodName)) ∈ kq_T := kq_in (List.mem_of_getElem? (i := 144) (by decide +kernel)) (by decide +kernel)
theorem tw_145 : (Jvm.Cond.code ({ cls := "CarDrawer", name := "draw", desc := "(II)I" } : Jvm.MethodName) prog_1_method_2_code (3 : Nat) (Option.some Jvm.ClassFile.FieldType.int)) ∈ kq_T := kq_in (List.mem_of_getElem? (i := 145) (by decide +kernel)) (by decide +kernel)
theorem tw_146 : (Jvm.Cond.methodLink "CarDrawer" (51 : Nat) ({ cls := "CarDrawer", name := "isKind", desc := "(I)Z" } : Jvm.MethodName)) ∈ kq_T := kq_in (List.mem_of_getElem? (i := 146) (by decide +kernel)) (by decide +kernel)
theorem tw_147 : (Jvm.Cond.static ({ cls := "CarDrawer", name := "isKind", desc := "(I)Z" } : Jvm.MethodName)) ∈ kq_T := kq_in (List.mem_of_getElem? (i := 147) (by decide +kernel)) (by decide +kernel)
theorem tw_148 : (Jvm.Cond.code ({ cls := "CarDrawer", name := "isKind", desc := "(I)Z" } : Jvm.MethodName) prog_1_method_12_code (1 : Nat) (Option.some Jvm.ClassFile.FieldType.boolean)) ∈ kq_T := kq_in (List.mem_of_getElem? (i := 148) (by decide +kernel)) (by decide +kernel)
theorem tw_149 : (Jvm.Cond.methodLink "CarDrawer" (55 : Nat) ({ cls := "CarDrawer", name := "isSize", desc := "(I)Z" } : Jvm.MethodName)) ∈ kq_T := kq_in (List.mem_of_getElem? (i := 149) (by decide +kernel)) (by decide +kernel)
theorem tw_150 : (Jvm.Cond.static ({ cls := "CarDrawer", name := "isSize", desc := "(I)Z" } : Jvm.MethodName)) ∈ kq_T := kq_in (List.mem_of_getElem? (i := 150) (by decide +kernel)) (by decide +kernel)
theorem tw_151 : (Jvm.Cond.code ({ cls := "CarDrawer", name := "isSize", desc := "(I)Z" } : Jvm.MethodName) prog_1_method_13_code (1 : Nat) (Option.some Jvm.ClassFile.FieldType.boolean)) ∈ kq_T := kq_in (List.mem_of_getElem? (i := 151) (by decide +kernel)) (by decide +kernel)
theorem tw_152 : (Jvm.Cond.methodLink "CarDrawer" (58 : Nat) ({ cls := "CarDrawer$Drawing", name := "fill", desc := "(IILCarDrawer$Draws;)V" } : Jvm.MethodName)) ∈ kq_T := kq_in (List.mem_of_getElem? (i := 152) (by decide +kernel)) (by decide +kernel)
theorem tw_153 : (Jvm.Cond.instanceMethod ({ cls := "CarDrawer$Drawing", name := "fill", desc := "(IILCarDrawer$Draws;)V" } : Jvm.MethodName)) ∈ kq_T := kq_in (List.mem_of_getElem? (i := 153) (by decide +kernel)) (by decide +kernel)
theorem tw_154 : (Jvm.Cond.selects "CarDrawer$Drawing" ({ cls := "CarDrawer$Drawing", name := "fill", desc := "(IILCarDrawer$Draws;)V" } : Jvm.MethodName) ({ cls := "CarDrawer$Drawing", name := "fill", desc := "(IILCarDrawer$Draws;)V" } : Jvm.MethodName)) ∈ kq_T := kq_in (List.mem_of_getElem? (i := 154) (by decide +kernel)) (by decide +kernel)
theorem tw_155 : (Jvm.Cond.code ({ cls := "CarDrawer$Drawing", name := "fill", desc := "(IILCarDrawer$Draws;)V" } : Jvm.MethodName) prog_2_method_2_code (5 : Nat) (Option.none : Option Jvm.ClassFile.FieldType)) ∈ kq_T := kq_in (List.mem_of_getElem? (i := 155) (by decide +kernel)) (by decide +kernel)
theorem tw_157 : (Jvm.Cond.methodLink "CarDrawer$Drawing" (38 : Nat) ({ cls := "CarDrawer$Drawing", name := "fillWithNought", desc := "()V" } : Jvm.MethodName)) ∈ kq_T := kq_in (List.mem_of_getElem? (i := 157) (by decide +kernel)) (by decide +kernel)
theorem tw_159 : (Jvm.Cond.instanceMethod ({ cls := "CarDrawer$Drawing", name := "fillWithNought", desc := "()V" } : Jvm.MethodName)) ∈ kq_T := kq_in (List.mem_of_getElem? (i := 159) (by decide +kernel)) (by decide +kernel)
theorem tw_160 : (Jvm.Cond.code ({ cls := "CarDrawer$Drawing", name := "fillWithNought", desc := "()V" } : Jvm.MethodName) prog_2_method_3_code (1 : Nat) (Option.none : Option Jvm.ClassFile.FieldType)) ∈ kq_T := kq_in (List.mem_of_getElem? (i := 160) (by decide +kernel)) (by decide +kernel)
theorem tw_161 : (Jvm.Cond.methodLink "CarDrawer$Drawing" (41 : Nat) ({ cls := "CarDrawer$Draws", name := "below", desc := "(I)I" } : Jvm.MethodName)) ∈ kq_T := kq_in (List.mem_of_getElem? (i := 161) (by decide +kernel)) (by decide +kernel)
theorem tw_162 : (Jvm.Cond.instanceMethod ({ cls := "CarDrawer$Draws", name := "below", desc := "(I)I" } : Jvm.MethodName)) ∈ kq_T := kq_in (List.mem_of_getElem? (i := 162) (by decide +kernel)) (by decide +kernel)
theorem tw_163 : (Jvm.Cond.selects "CarDrawer$Draws" ({ cls := "CarDrawer$Draws", name := "below", desc := "(I)I" } : Jvm.MethodName) ({ cls := "CarDrawer$Draws", name := "below", desc := "(I)I" } : Jvm.MethodName)) ∈ kq_T := kq_in (List.mem_of_getElem? (i := 163) (by decide +kernel)) (by decide +kernel)
theorem tw_164 : (Jvm.Cond.code ({ cls := "CarDrawer$Draws", name := "below", desc := "(I)I" } : Jvm.MethodName) prog_3_method_3_code (3 : Nat) (Option.some Jvm.ClassFile.FieldType.int)) ∈ kq_T := kq_in (List.mem_of_getElem? (i := 164) (by decide +kernel)) (by decide +kernel)
theorem tw_165 : (Jvm.Cond.constantLong "CarDrawer$Draws" (13 : Nat) (6364136223846793005 : Int64)) ∈ kq_T := kq_in (List.mem_of_getElem? (i := 165) (by decide +kernel)) (by decide +kernel)
theorem tw_166 : (Jvm.Cond.constantLong "CarDrawer$Draws" (15 : Nat) (1442695040888963407 : Int64)) ∈ kq_T := kq_in (List.mem_of_getElem? (i := 166) (by decide +kernel)) (by decide +kernel)
theorem tw_169 : (Jvm.Cond.methodLink "CarDrawer$Drawing" (50 : Nat) ({ cls := "CarDrawer$Drawing", name := "drawX", desc := "(IILCarDrawer$Draws;)I" } : Jvm.MethodName)) ∈ kq_T := kq_in (List.mem_of_getElem? (i := 169) (by decide +kernel)) (by decide +kernel)
theorem tw_171 : (Jvm.Cond.instanceMethod ({ cls := "CarDrawer$Drawing", name := "drawX", desc := "(IILCarDrawer$Draws;)I" } : Jvm.MethodName)) ∈ kq_T := kq_in (List.mem_of_getElem? (i := 171) (by decide +kernel)) (by decide +kernel)
theorem tw_172 : (Jvm.Cond.code ({ cls := "CarDrawer$Drawing", name := "drawX", desc := "(IILCarDrawer$Draws;)I" } : Jvm.MethodName) prog_2_method_4_code (4 : Nat) (Option.some Jvm.ClassFile.FieldType.int)) ∈ kq_T := kq_in (List.mem_of_getElem? (i := 172) (by decide +kernel)) (by decide +kernel)
theorem tw_173 : (Jvm.Cond.methodLink "CarDrawer$Drawing" (54 : Nat) ({ cls := "CarDrawer$Drawing", name := "drawY", desc := "(IILCarDrawer$Draws;)I" } : Jvm.MethodName)) ∈ kq_T := kq_in (List.mem_of_getElem? (i := 173) (by decide +kernel)) (by decide +kernel)
theorem tw_175 : (Jvm.Cond.instanceMethod ({ cls := "CarDrawer$Drawing", name := "drawY", desc := "(IILCarDrawer$Draws;)I" } : Jvm.MethodName)) ∈ kq_T := kq_in (List.mem_of_getElem? (i := 175) (by decide +kernel)) (by decide +kernel)
theorem tw_176 : (Jvm.Cond.code ({ cls := "CarDrawer$Drawing", name := "drawY", desc := "(IILCarDrawer$Draws;)I" } : Jvm.MethodName) prog_2_method_5_code (5 : Nat) (Option.some Jvm.ClassFile.FieldType.int)) ∈ kq_T := kq_in (List.mem_of_getElem? (i := 176) (by decide +kernel)) (by decide +kernel)
theorem tw_177 : (Jvm.Cond.methodLink "CarDrawer$Drawing" (57 : Nat) ({ cls := "CarDrawer$Drawing", name := "plant", desc := "(ILCarDrawer$Draws;)V" } : Jvm.MethodName)) ∈ kq_T := kq_in (List.mem_of_getElem? (i := 177) (by decide +kernel)) (by decide +kernel)
theorem tw_179 : (Jvm.Cond.instanceMethod ({ cls := "CarDrawer$Drawing", name := "plant", desc := "(ILCarDrawer$Draws;)V" } : Jvm.MethodName)) ∈ kq_T := kq_in (List.mem_of_getElem? (i := 179) (by decide +kernel)) (by decide +kernel)
theorem tw_180 : (Jvm.Cond.code ({ cls := "CarDrawer$Drawing", name := "plant", desc := "(ILCarDrawer$Draws;)V" } : Jvm.MethodName) prog_2_method_6_code (4 : Nat) (Option.none : Option Jvm.ClassFile.FieldType)) ∈ kq_T := kq_in (List.mem_of_getElem? (i := 180) (by decide +kernel)) (by decide +kernel)
theorem tw_183 : (Jvm.Cond.methodLink "CarDrawer$Drawing" (64 : Nat) ({ cls := "CarDrawer$Drawing", name := "spoil", desc := "(II)V" } : Jvm.MethodName)) ∈ kq_T := kq_in (List.mem_of_getElem? (i := 183) (by decide +kernel)) (by decide +kernel)
theorem tw_185 : (Jvm.Cond.instanceMethod ({ cls := "CarDrawer$Drawing", name := "spoil", desc := "(II)V" } : Jvm.MethodName)) ∈ kq_T := kq_in (List.mem_of_getElem? (i := 185) (by decide +kernel)) (by decide +kernel)
theorem tw_186 : (Jvm.Cond.code ({ cls := "CarDrawer$Drawing", name := "spoil", desc := "(II)V" } : Jvm.MethodName) prog_2_method_7_code (3 : Nat) (Option.none : Option Jvm.ClassFile.FieldType)) ∈ kq_T := kq_in (List.mem_of_getElem? (i := 186) (by decide +kernel)) (by decide +kernel)
theorem tw_187 : (Jvm.Cond.methodLink "CarDrawer" (62 : Nat) ({ cls := "CarDrawer$Rest", name := "takeAll", desc := "()V" } : Jvm.MethodName)) ∈ kq_T := kq_in (List.mem_of_getElem? (i := 187) (by decide +kernel)) (by decide +kernel)
theorem tw_188 : (Jvm.Cond.instanceMethod ({ cls := "CarDrawer$Rest", name := "takeAll", desc := "()V" } : Jvm.MethodName)) ∈ kq_T := kq_in (List.mem_of_getElem? (i := 188) (by decide +kernel)) (by decide +kernel)
theorem tw_189 : (Jvm.Cond.selects "CarDrawer$Rest" ({ cls := "CarDrawer$Rest", name := "takeAll", desc := "()V" } : Jvm.MethodName) ({ cls := "CarDrawer$Rest", name := "takeAll", desc := "()V" } : Jvm.MethodName)) ∈ kq_T := kq_in (List.mem_of_getElem? (i := 189) (by decide +kernel)) (by decide +kernel)
theorem tw_190 : (Jvm.Cond.code ({ cls := "CarDrawer$Rest", name := "takeAll", desc := "()V" } : Jvm.MethodName) prog_4_method_2_code (2 : Nat) (Option.none : Option Jvm.ClassFile.FieldType)) ∈ kq_T := kq_in (List.mem_of_getElem? (i := 190) (by decide +kernel)) (by decide +kernel)
theorem tw_191 : (Jvm.Cond.methodLink "CarDrawerLaw" (26 : Nat) ({ cls := "CarDrawer", name := "part", desc := "(II)J" } : Jvm.MethodName)) ∈ kq_T := kq_in (List.mem_of_getElem? (i := 191) (by decide +kernel)) (by decide +kernel)
theorem tw_192 : (Jvm.Cond.instanceMethod ({ cls := "CarDrawer", name := "part", desc := "(II)J" } : Jvm.MethodName)) ∈ kq_T := kq_in (List.mem_of_getElem? (i := 192) (by decide +kernel)) (by decide +kernel)
theorem tw_193 : (Jvm.Cond.selects "CarDrawer" ({ cls := "CarDrawer", name := "part", desc := "(II)J" } : Jvm.MethodName) ({ cls := "CarDrawer", name := "part", desc := "(II)J" } : Jvm.MethodName)) ∈ kq_T := kq_in (List.mem_of_getElem? (i := 193) (by decide +kernel)) (by decide +kernel)
theorem tw_194 : (Jvm.Cond.code ({ cls := "CarDrawer", name := "part", desc := "(II)J" } : Jvm.MethodName) prog_1_method_3_code (3 : Nat) (Option.some Jvm.ClassFile.FieldType.long)) ∈ kq_T := kq_in (List.mem_of_getElem? (i := 194) (by decide +kernel)) (by decide +kernel)
theorem tw_195 : (Jvm.Cond.methodLink "CarDrawer" (69 : Nat) ({ cls := "CarDrawer$Drawing", name := "has", desc := "(I)Z" } : Jvm.MethodName)) ∈ kq_T := kq_in (List.mem_of_getElem? (i := 195) (by decide +kernel)) (by decide +kernel)
theorem tw_196 : (Jvm.Cond.instanceMethod ({ cls := "CarDrawer$Drawing", name := "has", desc := "(I)Z" } : Jvm.MethodName)) ∈ kq_T := kq_in (List.mem_of_getElem? (i := 196) (by decide +kernel)) (by decide +kernel)
theorem tw_197 : (Jvm.Cond.selects "CarDrawer$Drawing" ({ cls := "CarDrawer$Drawing", name := "has", desc := "(I)Z" } : Jvm.MethodName) ({ cls := "CarDrawer$Drawing", name := "has", desc := "(I)Z" } : Jvm.MethodName)) ∈ kq_T := kq_in (List.mem_of_getElem? (i := 197) (by decide +kernel)) (by decide +kernel)
theorem tw_198 : (Jvm.Cond.code ({ cls := "CarDrawer$Drawing", name := "has", desc := "(I)Z" } : Jvm.MethodName) prog_2_method_8_code (2 : Nat) (Option.some Jvm.ClassFile.FieldType.boolean)) ∈ kq_T := kq_in (List.mem_of_getElem? (i := 198) (by decide +kernel)) (by decide +kernel)
theorem tw_199 : (Jvm.Cond.constantLong "CarDrawer" (72 : Nat) (-1 : Int64)) ∈ kq_T := kq_in (List.mem_of_getElem? (i := 199) (by decide +kernel)) (by decide +kernel)
theorem tw_200 : (Jvm.Cond.methodLink "CarDrawer" (74 : Nat) ({ cls := "CarDrawer$Rest", name := "holds", desc := "(I)Z" } : Jvm.MethodName)) ∈ kq_T := kq_in (List.mem_of_getElem? (i := 200) (by decide +kernel)) (by decide +kernel)
theorem tw_201 : (Jvm.Cond.instanceMethod ({ cls := "CarDrawer$Rest", name := "holds", desc := "(I)Z" } : Jvm.MethodName)) ∈ kq_T := kq_in (List.mem_of_getElem? (i := 201) (by decide +kernel)) (by decide +kernel)
theorem tw_202 : (Jvm.Cond.selects "CarDrawer$Rest" ({ cls := "CarDrawer$Rest", name := "holds", desc := "(I)Z" } : Jvm.MethodName) ({ cls := "CarDrawer$Rest", name := "holds", desc := "(I)Z" } : Jvm.MethodName)) ∈ kq_T := kq_in (List.mem_of_getElem? (i := 202) (by decide +kernel)) (by decide +kernel)
theorem tw_203 : (Jvm.Cond.code ({ cls := "CarDrawer$Rest", name := "holds", desc := "(I)Z" } : Jvm.MethodName) prog_4_method_4_code (3 : Nat) (Option.some Jvm.ClassFile.FieldType.boolean)) ∈ kq_T := kq_in (List.mem_of_getElem? (i := 203) (by decide +kernel)) (by decide +kernel)
theorem tw_204 : (Jvm.Cond.constantLong "CarDrawer" (77 : Nat) (-2 : Int64)) ∈ kq_T := kq_in (List.mem_of_getElem? (i := 204) (by decide +kernel)) (by decide +kernel)
theorem tw_205 : (Jvm.Cond.methodLink "CarDrawer" (79 : Nat) ({ cls := "CarDrawer$Drawing", name := "number", desc := "(II)I" } : Jvm.MethodName)) ∈ kq_T := kq_in (List.mem_of_getElem? (i := 205) (by decide +kernel)) (by decide +kernel)
theorem tw_206 : (Jvm.Cond.instanceMethod ({ cls := "CarDrawer$Drawing", name := "number", desc := "(II)I" } : Jvm.MethodName)) ∈ kq_T := kq_in (List.mem_of_getElem? (i := 206) (by decide +kernel)) (by decide +kernel)
theorem tw_207 : (Jvm.Cond.selects "CarDrawer$Drawing" ({ cls := "CarDrawer$Drawing", name := "number", desc := "(II)I" } : Jvm.MethodName) ({ cls := "CarDrawer$Drawing", name := "number", desc := "(II)I" } : Jvm.MethodName)) ∈ kq_T := kq_in (List.mem_of_getElem? (i := 207) (by decide +kernel)) (by decide +kernel)
theorem tw_208 : (Jvm.Cond.code ({ cls := "CarDrawer$Drawing", name := "number", desc := "(II)I" } : Jvm.MethodName) prog_2_method_9_code (3 : Nat) (Option.some Jvm.ClassFile.FieldType.int)) ∈ kq_T := kq_in (List.mem_of_getElem? (i := 208) (by decide +kernel)) (by decide +kernel)
theorem tw_209 : (Jvm.Cond.methodLink "CarDrawerLaw" (31 : Nat) ({ cls := "CarDrawer", name := "letter", desc := "(I)I" } : Jvm.MethodName)) ∈ kq_T := kq_in (List.mem_of_getElem? (i := 209) (by decide +kernel)) (by decide +kernel)
theorem tw_210 : (Jvm.Cond.instanceMethod ({ cls := "CarDrawer", name := "letter", desc := "(I)I" } : Jvm.MethodName)) ∈ kq_T := kq_in (List.mem_of_getElem? (i := 210) (by decide +kernel)) (by decide +kernel)
theorem tw_211 : (Jvm.Cond.selects "CarDrawer" ({ cls := "CarDrawer", name := "letter", desc := "(I)I" } : Jvm.MethodName) ({ cls := "CarDrawer", name := "letter", desc := "(I)I" } : Jvm.MethodName)) ∈ kq_T := kq_in (List.mem_of_getElem? (i := 211) (by decide +kernel)) (by decide +kernel)
theorem tw_212 : (Jvm.Cond.code ({ cls := "CarDrawer", name := "letter", desc := "(I)I" } : Jvm.MethodName) prog_1_method_4_code (2 : Nat) (Option.some Jvm.ClassFile.FieldType.int)) ∈ kq_T := kq_in (List.mem_of_getElem? (i := 212) (by decide +kernel)) (by decide +kernel)
theorem tw_213 : (Jvm.Cond.methodLink "CarDrawer" (83 : Nat) ({ cls := "CarDrawer$Rest", name := "letterAt", desc := "(I)I" } : Jvm.MethodName)) ∈ kq_T := kq_in (List.mem_of_getElem? (i := 213) (by decide +kernel)) (by decide +kernel)
theorem tw_214 : (Jvm.Cond.instanceMethod ({ cls := "CarDrawer$Rest", name := "letterAt", desc := "(I)I" } : Jvm.MethodName)) ∈ kq_T := kq_in (List.mem_of_getElem? (i := 214) (by decide +kernel)) (by decide +kernel)
theorem tw_215 : (Jvm.Cond.selects "CarDrawer$Rest" ({ cls := "CarDrawer$Rest", name := "letterAt", desc := "(I)I" } : Jvm.MethodName) ({ cls := "CarDrawer$Rest", name := "letterAt", desc := "(I)I" } : Jvm.MethodName)) ∈ kq_T := kq_in (List.mem_of_getElem? (i := 215) (by decide +kernel)) (by decide +kernel)
theorem tw_216 : (Jvm.Cond.code ({ cls := "CarDrawer$Rest", name := "letterAt", desc := "(I)I" } : Jvm.MethodName) prog_4_method_12_code (5 : Nat) (Option.some Jvm.ClassFile.FieldType.int)) ∈ kq_T := kq_in (List.mem_of_getElem? (i := 216) (by decide +kernel)) (by decide +kernel)
theorem tw_217 : (Jvm.Cond.methodLink "CarDrawer$Rest" (71 : Nat) ({ cls := "CarDrawer$Rest", name := "lineLength", desc := "(I)I" } : Jvm.MethodName)) ∈ kq_T := kq_in (List.mem_of_getElem? (i := 217) (by decide +kernel)) (by decide +kernel)
theorem tw_219 : (Jvm.Cond.instanceMethod ({ cls := "CarDrawer$Rest", name := "lineLength", desc := "(I)I" } : Jvm.MethodName)) ∈ kq_T := kq_in (List.mem_of_getElem? (i := 219) (by decide +kernel)) (by decide +kernel)
theorem tw_220 : (Jvm.Cond.code ({ cls := "CarDrawer$Rest", name := "lineLength", desc := "(I)I" } : Jvm.MethodName) prog_4_method_13_code (4 : Nat) (Option.some Jvm.ClassFile.FieldType.int)) ∈ kq_T := kq_in (List.mem_of_getElem? (i := 220) (by decide +kernel)) (by decide +kernel)
theorem tw_221 : (Jvm.Cond.methodLink "CarDrawer$Rest" (78 : Nat) ({ cls := "CarDrawer$Drawing", name := "number", desc := "(II)I" } : Jvm.MethodName)) ∈ kq_T := kq_in (List.mem_of_getElem? (i := 221) (by decide +kernel)) (by decide +kernel)
theorem tw_222 : (Jvm.Cond.methodLink "CarDrawer$Rest" (81 : Nat) ({ cls := "CarDrawer$Tens", name := "length", desc := "(I)I" } : Jvm.MethodName)) ∈ kq_T := kq_in (List.mem_of_getElem? (i := 222) (by decide +kernel)) (by decide +kernel)
theorem tw_223 : (Jvm.Cond.static ({ cls := "CarDrawer$Tens", name := "length", desc := "(I)I" } : Jvm.MethodName)) ∈ kq_T := kq_in (List.mem_of_getElem? (i := 223) (by decide +kernel)) (by decide +kernel)
theorem tw_224 : (Jvm.Cond.code ({ cls := "CarDrawer$Tens", name := "length", desc := "(I)I" } : Jvm.MethodName) prog_5_method_2_code (1 : Nat) (Option.some Jvm.ClassFile.FieldType.int)) ∈ kq_T := kq_in (List.mem_of_getElem? (i := 224) (by decide +kernel)) (by decide +kernel)
theorem tw_225 : (Jvm.Cond.methodLink "CarDrawer$Tens" (9 : Nat) ({ cls := "CarDrawer$Tens", name := "digits", desc := "(I)I" } : Jvm.MethodName)) ∈ kq_T := kq_in (List.mem_of_getElem? (i := 225) (by decide +kernel)) (by decide +kernel)
theorem tw_226 : (Jvm.Cond.static ({ cls := "CarDrawer$Tens", name := "digits", desc := "(I)I" } : Jvm.MethodName)) ∈ kq_T := kq_in (List.mem_of_getElem? (i := 226) (by decide +kernel)) (by decide +kernel)
theorem tw_227 : (Jvm.Cond.code ({ cls := "CarDrawer$Tens", name := "digits", desc := "(I)I" } : Jvm.MethodName) prog_5_method_4_code (4 : Nat) (Option.some Jvm.ClassFile.FieldType.int)) ∈ kq_T := kq_in (List.mem_of_getElem? (i := 227) (by decide +kernel)) (by decide +kernel)
theorem tw_228 : (Jvm.Cond.methodLink "CarDrawer$Rest" (75 : Nat) ({ cls := "CarDrawer$Rest", name := "letterOfLine", desc := "(II)I" } : Jvm.MethodName)) ∈ kq_T := kq_in (List.mem_of_getElem? (i := 228) (by decide +kernel)) (by decide +kernel)
theorem tw_230 : (Jvm.Cond.instanceMethod ({ cls := "CarDrawer$Rest", name := "letterOfLine", desc := "(II)I" } : Jvm.MethodName)) ∈ kq_T := kq_in (List.mem_of_getElem? (i := 230) (by decide +kernel)) (by decide +kernel)
theorem tw_231 : (Jvm.Cond.code ({ cls := "CarDrawer$Rest", name := "letterOfLine", desc := "(II)I" } : Jvm.MethodName) prog_4_method_14_code (7 : Nat) (Option.some Jvm.ClassFile.FieldType.int)) ∈ kq_T := kq_in (List.mem_of_getElem? (i := 231) (by decide +kernel)) (by decide +kernel)
theorem tw_232 : (Jvm.Cond.methodLink "CarDrawer$Rest" (86 : Nat) ({ cls := "CarDrawer$Tens", name := "letterAt", desc := "(II)I" } : Jvm.MethodName)) ∈ kq_T := kq_in (List.mem_of_getElem? (i := 232) (by decide +kernel)) (by decide +kernel)
theorem tw_233 : (Jvm.Cond.static ({ cls := "CarDrawer$Tens", name := "letterAt", desc := "(II)I" } : Jvm.MethodName)) ∈ kq_T := kq_in (List.mem_of_getElem? (i := 233) (by decide +kernel)) (by decide +kernel)
theorem tw_234 : (Jvm.Cond.code ({ cls := "CarDrawer$Tens", name := "letterAt", desc := "(II)I" } : Jvm.MethodName) prog_5_method_3_code (5 : Nat) (Option.some Jvm.ClassFile.FieldType.int)) ∈ kq_T := kq_in (List.mem_of_getElem? (i := 234) (by decide +kernel)) (by decide +kernel)
theorem tw_235 : (Jvm.Cond.methodLink "CarDrawer$Tens" (15 : Nat) ({ cls := "CarDrawer$Tens", name := "length", desc := "(I)I" } : Jvm.MethodName)) ∈ kq_T := kq_in (List.mem_of_getElem? (i := 235) (by decide +kernel)) (by decide +kernel)
theorem tw_236 : (Jvm.Cond.methodLink "CarDrawer$Tens" (18 : Nat) ({ cls := "java/lang/Math", name := "abs", desc := "(I)I" } : Jvm.MethodName)) ∈ kq_T := kq_in (List.mem_of_getElem? (i := 236) (by decide +kernel)) (by decide +kernel)
theorem tw_237 : (Jvm.Cond.static ({ cls := "java/lang/Math", name := "abs", desc := "(I)I" } : Jvm.MethodName)) ∈ kq_T := kq_in (List.mem_of_getElem? (i := 237) (by decide +kernel)) (by decide +kernel)
theorem tw_238 : (Jvm.Cond.code ({ cls := "java/lang/Math", name := "abs", desc := "(I)I" } : Jvm.MethodName) prog_9_method_59_code (1 : Nat) (Option.some Jvm.ClassFile.FieldType.int)) ∈ kq_T := kq_in (List.mem_of_getElem? (i := 238) (by decide +kernel)) (by decide +kernel)
theorem tw_239 : (Jvm.Cond.methodLink "CarDrawerLaw" (36 : Nat) ({ cls := "CarDrawer", name := "planted", desc := "(I)I" } : Jvm.MethodName)) ∈ kq_T := kq_in (List.mem_of_getElem? (i := 239) (by decide +kernel)) (by decide +kernel)
theorem tw_240 : (Jvm.Cond.instanceMethod ({ cls := "CarDrawer", name := "planted", desc := "(I)I" } : Jvm.MethodName)) ∈ kq_T := kq_in (List.mem_of_getElem? (i := 240) (by decide +kernel)) (by decide +kernel)
theorem tw_241 : (Jvm.Cond.selects "CarDrawer" ({ cls := "CarDrawer", name := "planted", desc := "(I)I" } : Jvm.MethodName) ({ cls := "CarDrawer", name := "planted", desc := "(I)I" } : Jvm.MethodName)) ∈ kq_T := kq_in (List.mem_of_getElem? (i := 241) (by decide +kernel)) (by decide +kernel)
theorem tw_242 : (Jvm.Cond.code ({ cls := "CarDrawer", name := "planted", desc := "(I)I" } : Jvm.MethodName) prog_1_method_5_code (2 : Nat) (Option.some Jvm.ClassFile.FieldType.int)) ∈ kq_T := kq_in (List.mem_of_getElem? (i := 242) (by decide +kernel)) (by decide +kernel)
theorem tw_243 : (Jvm.Cond.methodLink "CarDrawer" (93 : Nat) ({ cls := "CarDrawer$Rest", name := "signature", desc := "()I" } : Jvm.MethodName)) ∈ kq_T := kq_in (List.mem_of_getElem? (i := 243) (by decide +kernel)) (by decide +kernel)
theorem tw_244 : (Jvm.Cond.instanceMethod ({ cls := "CarDrawer$Rest", name := "signature", desc := "()I" } : Jvm.MethodName)) ∈ kq_T := kq_in (List.mem_of_getElem? (i := 244) (by decide +kernel)) (by decide +kernel)
theorem tw_245 : (Jvm.Cond.selects "CarDrawer$Rest" ({ cls := "CarDrawer$Rest", name := "signature", desc := "()I" } : Jvm.MethodName) ({ cls := "CarDrawer$Rest", name := "signature", desc := "()I" } : Jvm.MethodName)) ∈ kq_T := kq_in (List.mem_of_getElem? (i := 245) (by decide +kernel)) (by decide +kernel)
theorem tw_246 : (Jvm.Cond.code ({ cls := "CarDrawer$Rest", name := "signature", desc := "()I" } : Jvm.MethodName) prog_4_method_5_code (1 : Nat) (Option.some Jvm.ClassFile.FieldType.int)) ∈ kq_T := kq_in (List.mem_of_getElem? (i := 246) (by decide +kernel)) (by decide +kernel)
theorem tw_247 : (Jvm.Cond.methodLink "CarDrawer$Rest" (34 : Nat) ({ cls := "CarDrawer$Rest", name := "signatureWithout", desc := "(II)I" } : Jvm.MethodName)) ∈ kq_T := kq_in (List.mem_of_getElem? (i := 247) (by decide +kernel)) (by decide +kernel)
theorem tw_249 : (Jvm.Cond.instanceMethod ({ cls := "CarDrawer$Rest", name := "signatureWithout", desc := "(II)I" } : Jvm.MethodName)) ∈ kq_T := kq_in (List.mem_of_getElem? (i := 249) (by decide +kernel)) (by decide +kernel)
theorem tw_250 : (Jvm.Cond.code ({ cls := "CarDrawer$Rest", name := "signatureWithout", desc := "(II)I" } : Jvm.MethodName) prog_4_method_6_code (7 : Nat) (Option.some Jvm.ClassFile.FieldType.int)) ∈ kq_T := kq_in (List.mem_of_getElem? (i := 250) (by decide +kernel)) (by decide +kernel)
theorem tw_251 : (Jvm.Cond.methodLink "CarDrawerLaw" (40 : Nat) ({ cls := "CarDrawer", name := "verdict", desc := "(IZ)V" } : Jvm.MethodName)) ∈ kq_T := kq_in (List.mem_of_getElem? (i := 251) (by decide +kernel)) (by decide +kernel)
theorem tw_252 : (Jvm.Cond.instanceMethod ({ cls := "CarDrawer", name := "verdict", desc := "(IZ)V" } : Jvm.MethodName)) ∈ kq_T := kq_in (List.mem_of_getElem? (i := 252) (by decide +kernel)) (by decide +kernel)
theorem tw_253 : (Jvm.Cond.selects "CarDrawer" ({ cls := "CarDrawer", name := "verdict", desc := "(IZ)V" } : Jvm.MethodName) ({ cls := "CarDrawer", name := "verdict", desc := "(IZ)V" } : Jvm.MethodName)) ∈ kq_T := kq_in (List.mem_of_getElem? (i := 253) (by decide +kernel)) (by decide +kernel)
theorem tw_254 : (Jvm.Cond.code ({ cls := "CarDrawer", name := "verdict", desc := "(IZ)V" } : Jvm.MethodName) prog_1_method_6_code (3 : Nat) (Option.none : Option Jvm.ClassFile.FieldType)) ∈ kq_T := kq_in (List.mem_of_getElem? (i := 254) (by decide +kernel)) (by decide +kernel)
theorem tw_255 : (Jvm.Cond.methodLink "CarDrawer" (97 : Nat) ({ cls := "CarDrawer$Verdict", name := "say", desc := "(IZ)V" } : Jvm.MethodName)) ∈ kq_T := kq_in (List.mem_of_getElem? (i := 255) (by decide +kernel)) (by decide +kernel)
theorem tw_256 : (Jvm.Cond.instanceMethod ({ cls := "CarDrawer$Verdict", name := "say", desc := "(IZ)V" } : Jvm.MethodName)) ∈ kq_T := kq_in (List.mem_of_getElem? (i := 256) (by decide +kernel)) (by decide +kernel)
theorem tw_257 : (Jvm.Cond.selects "CarDrawer$Verdict" ({ cls := "CarDrawer$Verdict", name := "say", desc := "(IZ)V" } : Jvm.MethodName) ({ cls := "CarDrawer$Verdict", name := "say", desc := "(IZ)V" } : Jvm.MethodName)) ∈ kq_T := kq_in (List.mem_of_getElem? (i := 257) (by decide +kernel)) (by decide +kernel)
theorem tw_258 : (Jvm.Cond.code ({ cls := "CarDrawer$Verdict", name := "say", desc := "(IZ)V" } : Jvm.MethodName) prog_6_method_2_code (3 : Nat) (Option.none : Option Jvm.ClassFile.FieldType)) ∈ kq_T := kq_in (List.mem_of_getElem? (i := 258) (by decide +kernel)) (by decide +kernel)
theorem tw_259 : (Jvm.Cond.methodLink "CarDrawer$Verdict" (15 : Nat) ({ cls := "CarDrawer$Verdict", name := "isSignature", desc := "(I)Z" } : Jvm.MethodName)) ∈ kq_T := kq_in (List.mem_of_getElem? (i := 259) (by decide +kernel)) (by decide +kernel)
theorem tw_260 : (Jvm.Cond.static ({ cls := "CarDrawer$Verdict", name := "isSignature", desc := "(I)Z" } : Jvm.MethodName)) ∈ kq_T := kq_in (List.mem_of_getElem? (i := 260) (by decide +kernel)) (by decide +kernel)
theorem tw_261 : (Jvm.Cond.code ({ cls := "CarDrawer$Verdict", name := "isSignature", desc := "(I)Z" } : Jvm.MethodName) prog_6_method_4_code (1 : Nat) (Option.some Jvm.ClassFile.FieldType.boolean)) ∈ kq_T := kq_in (List.mem_of_getElem? (i := 261) (by decide +kernel)) (by decide +kernel)
theorem tw_262 : (Jvm.Cond.methodLink "CarDrawerLaw" (45 : Nat) ({ cls := "CarDrawer", name := "shorter", desc := "()I" } : Jvm.MethodName)) ∈ kq_T := kq_in (List.mem_of_getElem? (i := 262) (by decide +kernel)) (by decide +kernel)
theorem tw_263 : (Jvm.Cond.instanceMethod ({ cls := "CarDrawer", name := "shorter", desc := "()I" } : Jvm.MethodName)) ∈ kq_T := kq_in (List.mem_of_getElem? (i := 263) (by decide +kernel)) (by decide +kernel)
theorem tw_264 : (Jvm.Cond.selects "CarDrawer" ({ cls := "CarDrawer", name := "shorter", desc := "()I" } : Jvm.MethodName) ({ cls := "CarDrawer", name := "shorter", desc := "()I" } : Jvm.MethodName)) ∈ kq_T := kq_in (List.mem_of_getElem? (i := 264) (by decide +kernel)) (by decide +kernel)
theorem tw_265 : (Jvm.Cond.code ({ cls := "CarDrawer", name := "shorter", desc := "()I" } : Jvm.MethodName) prog_1_method_7_code (1 : Nat) (Option.some Jvm.ClassFile.FieldType.int)) ∈ kq_T := kq_in (List.mem_of_getElem? (i := 265) (by decide +kernel)) (by decide +kernel)
theorem tw_266 : (Jvm.Cond.methodLink "CarDrawer" (103 : Nat) ({ cls := "CarDrawer$Rest", name := "shorten", desc := "()V" } : Jvm.MethodName)) ∈ kq_T := kq_in (List.mem_of_getElem? (i := 266) (by decide +kernel)) (by decide +kernel)
theorem tw_267 : (Jvm.Cond.instanceMethod ({ cls := "CarDrawer$Rest", name := "shorten", desc := "()V" } : Jvm.MethodName)) ∈ kq_T := kq_in (List.mem_of_getElem? (i := 267) (by decide +kernel)) (by decide +kernel)
theorem tw_268 : (Jvm.Cond.selects "CarDrawer$Rest" ({ cls := "CarDrawer$Rest", name := "shorten", desc := "()V" } : Jvm.MethodName) ({ cls := "CarDrawer$Rest", name := "shorten", desc := "()V" } : Jvm.MethodName)) ∈ kq_T := kq_in (List.mem_of_getElem? (i := 268) (by decide +kernel)) (by decide +kernel)
theorem tw_269 : (Jvm.Cond.code ({ cls := "CarDrawer$Rest", name := "shorten", desc := "()V" } : Jvm.MethodName) prog_4_method_9_code (4 : Nat) (Option.none : Option Jvm.ClassFile.FieldType)) ∈ kq_T := kq_in (List.mem_of_getElem? (i := 269) (by decide +kernel)) (by decide +kernel)
theorem tw_270 : (Jvm.Cond.methodLink "CarDrawer$Rest" (51 : Nat) ({ cls := "CarDrawer$Rest", name := "signature", desc := "()I" } : Jvm.MethodName)) ∈ kq_T := kq_in (List.mem_of_getElem? (i := 270) (by decide +kernel)) (by decide +kernel)
theorem tw_271 : (Jvm.Cond.methodLink "CarDrawer$Rest" (47 : Nat) ({ cls := "CarDrawer$Verdict", name := "keeps", desc := "(I)Z" } : Jvm.MethodName)) ∈ kq_T := kq_in (List.mem_of_getElem? (i := 271) (by decide +kernel)) (by decide +kernel)
theorem tw_272 : (Jvm.Cond.instanceMethod ({ cls := "CarDrawer$Verdict", name := "keeps", desc := "(I)Z" } : Jvm.MethodName)) ∈ kq_T := kq_in (List.mem_of_getElem? (i := 272) (by decide +kernel)) (by decide +kernel)
theorem tw_273 : (Jvm.Cond.selects "CarDrawer$Verdict" ({ cls := "CarDrawer$Verdict", name := "keeps", desc := "(I)Z" } : Jvm.MethodName) ({ cls := "CarDrawer$Verdict", name := "keeps", desc := "(I)Z" } : Jvm.MethodName)) ∈ kq_T := kq_in (List.mem_of_getElem? (i := 273) (by decide +kernel)) (by decide +kernel)
theorem tw_274 : (Jvm.Cond.code ({ cls := "CarDrawer$Verdict", name := "keeps", desc := "(I)Z" } : Jvm.MethodName) prog_6_method_3_code (2 : Nat) (Option.some Jvm.ClassFile.FieldType.boolean)) ∈ kq_T := kq_in (List.mem_of_getElem? (i := 274) (by decide +kernel)) (by decide +kernel)
theorem tw_275 : (Jvm.Cond.methodLink "CarDrawer$Rest" (59 : Nat) ({ cls := "CarDrawer$Rest", name := "leaveOutRows", desc := "(I)Z" } : Jvm.MethodName)) ∈ kq_T := kq_in (List.mem_of_getElem? (i := 275) (by decide +kernel)) (by decide +kernel)
theorem tw_277 : (Jvm.Cond.instanceMethod ({ cls := "CarDrawer$Rest", name := "leaveOutRows", desc := "(I)Z" } : Jvm.MethodName)) ∈ kq_T := kq_in (List.mem_of_getElem? (i := 277) (by decide +kernel)) (by decide +kernel)
theorem tw_278 : (Jvm.Cond.code ({ cls := "CarDrawer$Rest", name := "leaveOutRows", desc := "(I)Z" } : Jvm.MethodName) prog_4_method_10_code (6 : Nat) (Option.some Jvm.ClassFile.FieldType.boolean)) ∈ kq_T := kq_in (List.mem_of_getElem? (i := 278) (by decide +kernel)) (by decide +kernel)
theorem tw_279 : (Jvm.Cond.methodLink "CarDrawer$Rest" (62 : Nat) ({ cls := "java/lang/Math", name := "min", desc := "(II)I" } : Jvm.MethodName)) ∈ kq_T := kq_in (List.mem_of_getElem? (i := 279) (by decide +kernel)) (by decide +kernel)
theorem tw_280 : (Jvm.Cond.static ({ cls := "java/lang/Math", name := "min", desc := "(II)I" } : Jvm.MethodName)) ∈ kq_T := kq_in (List.mem_of_getElem? (i := 280) (by decide +kernel)) (by decide +kernel)
theorem tw_281 : (Jvm.Cond.code ({ cls := "java/lang/Math", name := "min", desc := "(II)I" } : Jvm.MethodName) prog_9_method_69_code (2 : Nat) (Option.some Jvm.ClassFile.FieldType.int)) ∈ kq_T := kq_in (List.mem_of_getElem? (i := 281) (by decide +kernel)) (by decide +kernel)
theorem tw_282 : (Jvm.Cond.methodLink "CarDrawer$Rest" (55 : Nat) ({ cls := "CarDrawer$Rest", name := "canGo", desc := "(II)Z" } : Jvm.MethodName)) ∈ kq_T := kq_in (List.mem_of_getElem? (i := 282) (by decide +kernel)) (by decide +kernel)
theorem tw_284 : (Jvm.Cond.instanceMethod ({ cls := "CarDrawer$Rest", name := "canGo", desc := "(II)Z" } : Jvm.MethodName)) ∈ kq_T := kq_in (List.mem_of_getElem? (i := 284) (by decide +kernel)) (by decide +kernel)
theorem tw_285 : (Jvm.Cond.code ({ cls := "CarDrawer$Rest", name := "canGo", desc := "(II)Z" } : Jvm.MethodName) prog_4_method_7_code (3 : Nat) (Option.some Jvm.ClassFile.FieldType.boolean)) ∈ kq_T := kq_in (List.mem_of_getElem? (i := 285) (by decide +kernel)) (by decide +kernel)
theorem tw_286 : (Jvm.Cond.methodLink "CarDrawer$Rest" (67 : Nat) ({ cls := "CarDrawer$Rest", name := "takeOut", desc := "(II)V" } : Jvm.MethodName)) ∈ kq_T := kq_in (List.mem_of_getElem? (i := 286) (by decide +kernel)) (by decide +kernel)
theorem tw_288 : (Jvm.Cond.instanceMethod ({ cls := "CarDrawer$Rest", name := "takeOut", desc := "(II)V" } : Jvm.MethodName)) ∈ kq_T := kq_in (List.mem_of_getElem? (i := 288) (by decide +kernel)) (by decide +kernel)
theorem tw_289 : (Jvm.Cond.code ({ cls := "CarDrawer$Rest", name := "takeOut", desc := "(II)V" } : Jvm.MethodName) prog_4_method_11_code (5 : Nat) (Option.none : Option Jvm.ClassFile.FieldType)) ∈ kq_T := kq_in (List.mem_of_getElem? (i := 289) (by decide +kernel)) (by decide +kernel)
theorem tw_290 : (Jvm.Cond.methodLink "CarDrawerLaw" (50 : Nat) ({ cls := "CarDrawer", name := "left", desc := "(I)I" } : Jvm.MethodName)) ∈ kq_T := kq_in (List.mem_of_getElem? (i := 290) (by decide +kernel)) (by decide +kernel)
theorem tw_291 : (Jvm.Cond.instanceMethod ({ cls := "CarDrawer", name := "left", desc := "(I)I" } : Jvm.MethodName)) ∈ kq_T := kq_in (List.mem_of_getElem? (i := 291) (by decide +kernel)) (by decide +kernel)
theorem tw_292 : (Jvm.Cond.selects "CarDrawer" ({ cls := "CarDrawer", name := "left", desc := "(I)I" } : Jvm.MethodName) ({ cls := "CarDrawer", name := "left", desc := "(I)I" } : Jvm.MethodName)) ∈ kq_T := kq_in (List.mem_of_getElem? (i := 292) (by decide +kernel)) (by decide +kernel)
theorem tw_293 : (Jvm.Cond.code ({ cls := "CarDrawer", name := "left", desc := "(I)I" } : Jvm.MethodName) prog_1_method_8_code (2 : Nat) (Option.some Jvm.ClassFile.FieldType.int)) ∈ kq_T := kq_in (List.mem_of_getElem? (i := 293) (by decide +kernel)) (by decide +kernel)
theorem tw_294 : (Jvm.Cond.methodLink "CarDrawer" (107 : Nat) ({ cls := "CarDrawer$Rest", name := "numberAt", desc := "(I)I" } : Jvm.MethodName)) ∈ kq_T := kq_in (List.mem_of_getElem? (i := 294) (by decide +kernel)) (by decide +kernel)
theorem tw_295 : (Jvm.Cond.instanceMethod ({ cls := "CarDrawer$Rest", name := "numberAt", desc := "(I)I" } : Jvm.MethodName)) ∈ kq_T := kq_in (List.mem_of_getElem? (i := 295) (by decide +kernel)) (by decide +kernel)
theorem tw_296 : (Jvm.Cond.selects "CarDrawer$Rest" ({ cls := "CarDrawer$Rest", name := "numberAt", desc := "(I)I" } : Jvm.MethodName) ({ cls := "CarDrawer$Rest", name := "numberAt", desc := "(I)I" } : Jvm.MethodName)) ∈ kq_T := kq_in (List.mem_of_getElem? (i := 296) (by decide +kernel)) (by decide +kernel)
theorem tw_297 : (Jvm.Cond.code ({ cls := "CarDrawer$Rest", name := "numberAt", desc := "(I)I" } : Jvm.MethodName) prog_4_method_3_code (2 : Nat) (Option.some Jvm.ClassFile.FieldType.int)) ∈ kq_T := kq_in (List.mem_of_getElem? (i := 297) (by decide +kernel)) (by decide +kernel)
theorem tw_298 : (Jvm.Cond.methodLink "CarDrawerLaw" (54 : Nat) ({ cls := "CarDrawer", name := "minimal", desc := "()Z" } : Jvm.MethodName)) ∈ kq_T := kq_in (List.mem_of_getElem? (i := 298) (by decide +kernel)) (by decide +kernel)
theorem tw_299 : (Jvm.Cond.instanceMethod ({ cls := "CarDrawer", name := "minimal", desc := "()Z" } : Jvm.MethodName)) ∈ kq_T := kq_in (List.mem_of_getElem? (i := 299) (by decide +kernel)) (by decide +kernel)
theorem tw_300 : (Jvm.Cond.selects "CarDrawer" ({ cls := "CarDrawer", name := "minimal", desc := "()Z" } : Jvm.MethodName) ({ cls := "CarDrawer", name := "minimal", desc := "()Z" } : Jvm.MethodName)) ∈ kq_T := kq_in (List.mem_of_getElem? (i := 300) (by decide +kernel)) (by decide +kernel)
theorem tw_301 : (Jvm.Cond.code ({ cls := "CarDrawer", name := "minimal", desc := "()Z" } : Jvm.MethodName) prog_1_method_9_code (1 : Nat) (Option.some Jvm.ClassFile.FieldType.boolean)) ∈ kq_T := kq_in (List.mem_of_getElem? (i := 301) (by decide +kernel)) (by decide +kernel)
theorem tw_302 : (Jvm.Cond.methodLink "CarDrawer" (110 : Nat) ({ cls := "CarDrawer$Rest", name := "isMinimal", desc := "()Z" } : Jvm.MethodName)) ∈ kq_T := kq_in (List.mem_of_getElem? (i := 302) (by decide +kernel)) (by decide +kernel)
theorem tw_303 : (Jvm.Cond.instanceMethod ({ cls := "CarDrawer$Rest", name := "isMinimal", desc := "()Z" } : Jvm.MethodName)) ∈ kq_T := kq_in (List.mem_of_getElem? (i := 303) (by decide +kernel)) (by decide +kernel)
theorem tw_304 : (Jvm.Cond.selects "CarDrawer$Rest" ({ cls := "CarDrawer$Rest", name := "isMinimal", desc := "()Z" } : Jvm.MethodName) ({ cls := "CarDrawer$Rest", name := "isMinimal", desc := "()Z" } : Jvm.MethodName)) ∈ kq_T := kq_in (List.mem_of_getElem? (i := 304) (by decide +kernel)) (by decide +kernel)
theorem tw_305 : (Jvm.Cond.code ({ cls := "CarDrawer$Rest", name := "isMinimal", desc := "()Z" } : Jvm.MethodName) prog_4_method_8_code (2 : Nat) (Option.some Jvm.ClassFile.FieldType.boolean)) ∈ kq_T := kq_in (List.mem_of_getElem? (i := 305) (by decide +kernel)) (by decide +kernel)
theorem tw_306 : (Jvm.Cond.methodLink "CarDrawerLaw" (59 : Nat) ({ cls := "CarDrawer", name := "answers", desc := "()Z" } : Jvm.MethodName)) ∈ kq_T := kq_in (List.mem_of_getElem? (i := 306) (by decide +kernel)) (by decide +kernel)
theorem tw_307 : (Jvm.Cond.instanceMethod ({ cls := "CarDrawer", name := "answers", desc := "()Z" } : Jvm.MethodName)) ∈ kq_T := kq_in (List.mem_of_getElem? (i := 307) (by decide +kernel)) (by decide +kernel)
theorem tw_308 : (Jvm.Cond.selects "CarDrawer" ({ cls := "CarDrawer", name := "answers", desc := "()Z" } : Jvm.MethodName) ({ cls := "CarDrawer", name := "answers", desc := "()Z" } : Jvm.MethodName)) ∈ kq_T := kq_in (List.mem_of_getElem? (i := 308) (by decide +kernel)) (by decide +kernel)
theorem tw_309 : (Jvm.Cond.code ({ cls := "CarDrawer", name := "answers", desc := "()Z" } : Jvm.MethodName) prog_1_method_10_code (1 : Nat) (Option.some Jvm.ClassFile.FieldType.boolean)) ∈ kq_T := kq_in (List.mem_of_getElem? (i := 309) (by decide +kernel)) (by decide +kernel)
theorem tw_310 : (Jvm.Cond.methodLink "CarDrawer" (114 : Nat) ({ cls := "CarDrawer$Drawing", name := "hasEvenSum", desc := "()Z" } : Jvm.MethodName)) ∈ kq_T := kq_in (List.mem_of_getElem? (i := 310) (by decide +kernel)) (by decide +kernel)
theorem tw_311 : (Jvm.Cond.instanceMethod ({ cls := "CarDrawer$Drawing", name := "hasEvenSum", desc := "()Z" } : Jvm.MethodName)) ∈ kq_T := kq_in (List.mem_of_getElem? (i := 311) (by decide +kernel)) (by decide +kernel)
theorem tw_312 : (Jvm.Cond.selects "CarDrawer$Drawing" ({ cls := "CarDrawer$Drawing", name := "hasEvenSum", desc := "()Z" } : Jvm.MethodName) ({ cls := "CarDrawer$Drawing", name := "hasEvenSum", desc := "()Z" } : Jvm.MethodName)) ∈ kq_T := kq_in (List.mem_of_getElem? (i := 312) (by decide +kernel)) (by decide +kernel)
theorem tw_313 : (Jvm.Cond.code ({ cls := "CarDrawer$Drawing", name := "hasEvenSum", desc := "()Z" } : Jvm.MethodName) prog_2_method_10_code (3 : Nat) (Option.some Jvm.ClassFile.FieldType.boolean)) ∈ kq_T := kq_in (List.mem_of_getElem? (i := 313) (by decide +kernel)) (by decide +kernel)
theorem tw_314 : (Jvm.Cond.methodLink "CarDrawerLaw" (65 : Nat) ({ cls := "CarDrawer", name := "same", desc := "(JII)Z" } : Jvm.MethodName)) ∈ kq_T := kq_in (List.mem_of_getElem? (i := 314) (by decide +kernel)) (by decide +kernel)
theorem tw_315 : (Jvm.Cond.instanceMethod ({ cls := "CarDrawer", name := "same", desc := "(JII)Z" } : Jvm.MethodName)) ∈ kq_T := kq_in (List.mem_of_getElem? (i := 315) (by decide +kernel)) (by decide +kernel)
theorem tw_316 : (Jvm.Cond.selects "CarDrawer" ({ cls := "CarDrawer", name := "same", desc := "(JII)Z" } : Jvm.MethodName) ({ cls := "CarDrawer", name := "same", desc := "(JII)Z" } : Jvm.MethodName)) ∈ kq_T := kq_in (List.mem_of_getElem? (i := 316) (by decide +kernel)) (by decide +kernel)
theorem tw_317 : (Jvm.Cond.code ({ cls := "CarDrawer", name := "same", desc := "(JII)Z" } : Jvm.MethodName) prog_1_method_11_code (5 : Nat) (Option.some Jvm.ClassFile.FieldType.boolean)) ∈ kq_T := kq_in (List.mem_of_getElem? (i := 317) (by decide +kernel)) (by decide +kernel)
theorem tw_318 : (Jvm.Cond.methodLink "CarDrawer" (117 : Nat) ({ cls := "CarDrawer$Draws", name := "startAt", desc := "(J)V" } : Jvm.MethodName)) ∈ kq_T := kq_in (List.mem_of_getElem? (i := 318) (by decide +kernel)) (by decide +kernel)
theorem tw_319 : (Jvm.Cond.instanceMethod ({ cls := "CarDrawer$Draws", name := "startAt", desc := "(J)V" } : Jvm.MethodName)) ∈ kq_T := kq_in (List.mem_of_getElem? (i := 319) (by decide +kernel)) (by decide +kernel)
theorem tw_320 : (Jvm.Cond.selects "CarDrawer$Draws" ({ cls := "CarDrawer$Draws", name := "startAt", desc := "(J)V" } : Jvm.MethodName) ({ cls := "CarDrawer$Draws", name := "startAt", desc := "(J)V" } : Jvm.MethodName)) ∈ kq_T := kq_in (List.mem_of_getElem? (i := 320) (by decide +kernel)) (by decide +kernel)
theorem tw_321 : (Jvm.Cond.code ({ cls := "CarDrawer$Draws", name := "startAt", desc := "(J)V" } : Jvm.MethodName) prog_3_method_2_code (3 : Nat) (Option.none : Option Jvm.ClassFile.FieldType)) ∈ kq_T := kq_in (List.mem_of_getElem? (i := 321) (by decide +kernel)) (by decide +kernel)
theorem tw_322 : (Jvm.Cond.methodLink "CarDrawer" (120 : Nat) ({ cls := "CarDrawer$Drawing", name := "equalTo", desc := "(LCarDrawer$Drawing;)Z" } : Jvm.MethodName)) ∈ kq_T := kq_in (List.mem_of_getElem? (i := 322) (by decide +kernel)) (by decide +kernel)
theorem tw_323 : (Jvm.Cond.instanceMethod ({ cls := "CarDrawer$Drawing", name := "equalTo", desc := "(LCarDrawer$Drawing;)Z" } : Jvm.MethodName)) ∈ kq_T := kq_in (List.mem_of_getElem? (i := 323) (by decide +kernel)) (by decide +kernel)
theorem tw_324 : (Jvm.Cond.selects "CarDrawer$Drawing" ({ cls := "CarDrawer$Drawing", name := "equalTo", desc := "(LCarDrawer$Drawing;)Z" } : Jvm.MethodName) ({ cls := "CarDrawer$Drawing", name := "equalTo", desc := "(LCarDrawer$Drawing;)Z" } : Jvm.MethodName)) ∈ kq_T := kq_in (List.mem_of_getElem? (i := 324) (by decide +kernel)) (by decide +kernel)
theorem tw_325 : (Jvm.Cond.code ({ cls := "CarDrawer$Drawing", name := "equalTo", desc := "(LCarDrawer$Drawing;)Z" } : Jvm.MethodName) prog_2_method_11_code (3 : Nat) (Option.some Jvm.ClassFile.FieldType.boolean)) ∈ kq_T := kq_in (List.mem_of_getElem? (i := 325) (by decide +kernel)) (by decide +kernel)
theorem tw_326 : (Jvm.Cond.methodLink "CarDrawerLaw" (9 : Nat) ({ cls := "CarDrawerLaw", name := "cell", desc := "([II)I" } : Jvm.MethodName)) ∈ kq_T := kq_in (List.mem_of_getElem? (i := 326) (by decide +kernel)) (by decide +kernel)
theorem tw_327 : (Jvm.Cond.static ({ cls := "CarDrawerLaw", name := "cell", desc := "([II)I" } : Jvm.MethodName)) ∈ kq_T := kq_in (List.mem_of_getElem? (i := 327) (by decide +kernel)) (by decide +kernel)
theorem tw_328 : (Jvm.Cond.code ({ cls := "CarDrawerLaw", name := "cell", desc := "([II)I" } : Jvm.MethodName) method_2_code (2 : Nat) (Option.some Jvm.ClassFile.FieldType.int)) ∈ kq_T := kq_in (List.mem_of_getElem? (i := 328) (by decide +kernel)) (by decide +kernel)
theorem tw_329 : (Jvm.Cond.classLink "CarDrawerLaw" (18 : Nat) "CarDrawerModel") ∈ kq_T := kq_in (List.mem_of_getElem? (i := 329) (by decide +kernel)) (by decide +kernel)
theorem tw_330 : (Jvm.Cond.instantiable "CarDrawerModel" (15 : Nat)) ∈ kq_T := kq_in (List.mem_of_getElem? (i := 330) (by decide +kernel)) (by decide +kernel)
theorem tw_331 : (Jvm.Cond.methodLink "CarDrawerLaw" (20 : Nat) ({ cls := "CarDrawerModel", name := "<init>", desc := "(J)V" } : Jvm.MethodName)) ∈ kq_T := kq_in (List.mem_of_getElem? (i := 331) (by decide +kernel)) (by decide +kernel)
theorem tw_332 : (Jvm.Cond.instanceMethod ({ cls := "CarDrawerModel", name := "<init>", desc := "(J)V" } : Jvm.MethodName)) ∈ kq_T := kq_in (List.mem_of_getElem? (i := 332) (by decide +kernel)) (by decide +kernel)
theorem tw_333 : (Jvm.Cond.code ({ cls := "CarDrawerModel", name := "<init>", desc := "(J)V" } : Jvm.MethodName) prog_8_method_1_code (3 : Nat) (Option.none : Option Jvm.ClassFile.FieldType)) ∈ kq_T := kq_in (List.mem_of_getElem? (i := 333) (by decide +kernel)) (by decide +kernel)
theorem tw_334 : (Jvm.Cond.methodLink "CarDrawerModel" (1 : Nat) ({ cls := "java/lang/Object", name := "<init>", desc := "()V" } : Jvm.MethodName)) ∈ kq_T := kq_in (List.mem_of_getElem? (i := 334) (by decide +kernel)) (by decide +kernel)
theorem tw_335 : (Jvm.Cond.fieldLink "CarDrawerModel" (50 : Nat) "CarDrawerModel" "code" "I") ∈ kq_T := kq_in (List.mem_of_getElem? (i := 335) (by decide +kernel)) (by decide +kernel)
theorem tw_336 : (Jvm.Cond.fieldLink "CarDrawerModel" (43 : Nat) "CarDrawerModel" "seed" "J") ∈ kq_T := kq_in (List.mem_of_getElem? (i := 336) (by decide +kernel)) (by decide +kernel)
theorem tw_337 : (Jvm.Cond.fieldLink "CarDrawerModel" (47 : Nat) "CarDrawerModel" "state" "J") ∈ kq_T := kq_in (List.mem_of_getElem? (i := 337) (by decide +kernel)) (by decide +kernel)
theorem tw_338 : (Jvm.Cond.fieldLink "CarDrawerModel" (7 : Nat) "CarDrawerModel" "many" "[I") ∈ kq_T := kq_in (List.mem_of_getElem? (i := 338) (by decide +kernel)) (by decide +kernel)
theorem tw_339 : (Jvm.Cond.fieldLink "CarDrawerModel" (13 : Nat) "CarDrawerModel" "sort" "[I") ∈ kq_T := kq_in (List.mem_of_getElem? (i := 339) (by decide +kernel)) (by decide +kernel)
theorem tw_340 : (Jvm.Cond.fieldLink "CarDrawerModel" (16 : Nat) "CarDrawerModel" "x" "[J") ∈ kq_T := kq_in (List.mem_of_getElem? (i := 340) (by decide +kernel)) (by decide +kernel)
theorem tw_341 : (Jvm.Cond.fieldLink "CarDrawerModel" (20 : Nat) "CarDrawerModel" "y" "[J") ∈ kq_T := kq_in (List.mem_of_getElem? (i := 341) (by decide +kernel)) (by decide +kernel)
theorem tw_342 : (Jvm.Cond.fieldLink "CarDrawerModel" (23 : Nat) "CarDrawerModel" "z" "[J") ∈ kq_T := kq_in (List.mem_of_getElem? (i := 342) (by decide +kernel)) (by decide +kernel)
theorem tw_343 : (Jvm.Cond.fieldLink "CarDrawerModel" (26 : Nat) "CarDrawerModel" "fault" "[I") ∈ kq_T := kq_in (List.mem_of_getElem? (i := 343) (by decide +kernel)) (by decide +kernel)
theorem tw_344 : (Jvm.Cond.fieldLink "CarDrawerModel" (29 : Nat) "CarDrawerModel" "faultAt" "[I") ∈ kq_T := kq_in (List.mem_of_getElem? (i := 344) (by decide +kernel)) (by decide +kernel)
theorem tw_345 : (Jvm.Cond.fieldLink "CarDrawerModel" (32 : Nat) "CarDrawerModel" "left" "[I") ∈ kq_T := kq_in (List.mem_of_getElem? (i := 345) (by decide +kernel)) (by decide +kernel)
theorem tw_346 : (Jvm.Cond.fieldLink "CarDrawerModel" (88 : Nat) "CarDrawerModel" "lefts" "I") ∈ kq_T := kq_in (List.mem_of_getElem? (i := 346) (by decide +kernel)) (by decide +kernel)
theorem tw_347 : (Jvm.Cond.fieldLink "CarDrawerModel" (35 : Nat) "CarDrawerModel" "stays" "[Z") ∈ kq_T := kq_in (List.mem_of_getElem? (i := 347) (by decide +kernel)) (by decide +kernel)
theorem tw_348 : (Jvm.Cond.fieldLink "CarDrawerModel" (39 : Nat) "CarDrawerModel" "text" "[B") ∈ kq_T := kq_in (List.mem_of_getElem? (i := 348) (by decide +kernel)) (by decide +kernel)
theorem tw_349 : (Jvm.Cond.fieldLink "CarDrawerModel" (96 : Nat) "CarDrawerModel" "size" "I") ∈ kq_T := kq_in (List.mem_of_getElem? (i := 349) (by decide +kernel)) (by decide +kernel)
theorem tw_350 : (Jvm.Cond.lays "CarDrawerModel" "CarDrawerModel" "code" "I") ∈ kq_T := kq_in (List.mem_of_getElem? (i := 350) (by decide +kernel)) (by decide +kernel)
theorem tw_351 : (Jvm.Cond.soleField "CarDrawerModel" "code") ∈ kq_T := kq_in (List.mem_of_getElem? (i := 351) (by decide +kernel)) (by decide +kernel)
theorem tw_352 : (Jvm.Cond.laysFinal "CarDrawerModel" "CarDrawerModel" "seed" "J") ∈ kq_T := kq_in (List.mem_of_getElem? (i := 352) (by decide +kernel)) (by decide +kernel)
theorem tw_353 : (Jvm.Cond.soleField "CarDrawerModel" "seed") ∈ kq_T := kq_in (List.mem_of_getElem? (i := 353) (by decide +kernel)) (by decide +kernel)
theorem tw_354 : (Jvm.Cond.lays "CarDrawerModel" "CarDrawerModel" "state" "J") ∈ kq_T := kq_in (List.mem_of_getElem? (i := 354) (by decide +kernel)) (by decide +kernel)
theorem tw_355 : (Jvm.Cond.soleField "CarDrawerModel" "state") ∈ kq_T := kq_in (List.mem_of_getElem? (i := 355) (by decide +kernel)) (by decide +kernel)
theorem tw_356 : (Jvm.Cond.laysFinal "CarDrawerModel" "CarDrawerModel" "many" "[I") ∈ kq_T := kq_in (List.mem_of_getElem? (i := 356) (by decide +kernel)) (by decide +kernel)
theorem tw_357 : (Jvm.Cond.soleField "CarDrawerModel" "many") ∈ kq_T := kq_in (List.mem_of_getElem? (i := 357) (by decide +kernel)) (by decide +kernel)
theorem tw_358 : (Jvm.Cond.laysFinal "CarDrawerModel" "CarDrawerModel" "sort" "[I") ∈ kq_T := kq_in (List.mem_of_getElem? (i := 358) (by decide +kernel)) (by decide +kernel)
theorem tw_359 : (Jvm.Cond.soleField "CarDrawerModel" "sort") ∈ kq_T := kq_in (List.mem_of_getElem? (i := 359) (by decide +kernel)) (by decide +kernel)
theorem tw_360 : (Jvm.Cond.laysFinal "CarDrawerModel" "CarDrawerModel" "x" "[J") ∈ kq_T := kq_in (List.mem_of_getElem? (i := 360) (by decide +kernel)) (by decide +kernel)
theorem tw_361 : (Jvm.Cond.soleField "CarDrawerModel" "x") ∈ kq_T := kq_in (List.mem_of_getElem? (i := 361) (by decide +kernel)) (by decide +kernel)
theorem tw_362 : (Jvm.Cond.laysFinal "CarDrawerModel" "CarDrawerModel" "y" "[J") ∈ kq_T := kq_in (List.mem_of_getElem? (i := 362) (by decide +kernel)) (by decide +kernel)
theorem tw_363 : (Jvm.Cond.soleField "CarDrawerModel" "y") ∈ kq_T := kq_in (List.mem_of_getElem? (i := 363) (by decide +kernel)) (by decide +kernel)
theorem tw_364 : (Jvm.Cond.laysFinal "CarDrawerModel" "CarDrawerModel" "z" "[J") ∈ kq_T := kq_in (List.mem_of_getElem? (i := 364) (by decide +kernel)) (by decide +kernel)
theorem tw_365 : (Jvm.Cond.soleField "CarDrawerModel" "z") ∈ kq_T := kq_in (List.mem_of_getElem? (i := 365) (by decide +kernel)) (by decide +kernel)
theorem tw_366 : (Jvm.Cond.laysFinal "CarDrawerModel" "CarDrawerModel" "fault" "[I") ∈ kq_T := kq_in (List.mem_of_getElem? (i := 366) (by decide +kernel)) (by decide +kernel)
theorem tw_367 : (Jvm.Cond.soleField "CarDrawerModel" "fault") ∈ kq_T := kq_in (List.mem_of_getElem? (i := 367) (by decide +kernel)) (by decide +kernel)
theorem tw_368 : (Jvm.Cond.laysFinal "CarDrawerModel" "CarDrawerModel" "faultAt" "[I") ∈ kq_T := kq_in (List.mem_of_getElem? (i := 368) (by decide +kernel)) (by decide +kernel)
theorem tw_369 : (Jvm.Cond.soleField "CarDrawerModel" "faultAt") ∈ kq_T := kq_in (List.mem_of_getElem? (i := 369) (by decide +kernel)) (by decide +kernel)
theorem tw_370 : (Jvm.Cond.laysFinal "CarDrawerModel" "CarDrawerModel" "left" "[I") ∈ kq_T := kq_in (List.mem_of_getElem? (i := 370) (by decide +kernel)) (by decide +kernel)
theorem tw_371 : (Jvm.Cond.soleField "CarDrawerModel" "left") ∈ kq_T := kq_in (List.mem_of_getElem? (i := 371) (by decide +kernel)) (by decide +kernel)
theorem tw_372 : (Jvm.Cond.lays "CarDrawerModel" "CarDrawerModel" "lefts" "I") ∈ kq_T := kq_in (List.mem_of_getElem? (i := 372) (by decide +kernel)) (by decide +kernel)
theorem tw_373 : (Jvm.Cond.soleField "CarDrawerModel" "lefts") ∈ kq_T := kq_in (List.mem_of_getElem? (i := 373) (by decide +kernel)) (by decide +kernel)
theorem tw_374 : (Jvm.Cond.laysFinal "CarDrawerModel" "CarDrawerModel" "stays" "[Z") ∈ kq_T := kq_in (List.mem_of_getElem? (i := 374) (by decide +kernel)) (by decide +kernel)
theorem tw_375 : (Jvm.Cond.soleField "CarDrawerModel" "stays") ∈ kq_T := kq_in (List.mem_of_getElem? (i := 375) (by decide +kernel)) (by decide +kernel)
theorem tw_376 : (Jvm.Cond.laysFinal "CarDrawerModel" "CarDrawerModel" "text" "[B") ∈ kq_T := kq_in (List.mem_of_getElem? (i := 376) (by decide +kernel)) (by decide +kernel)
theorem tw_377 : (Jvm.Cond.soleField "CarDrawerModel" "text") ∈ kq_T := kq_in (List.mem_of_getElem? (i := 377) (by decide +kernel)) (by decide +kernel)
theorem tw_378 : (Jvm.Cond.lays "CarDrawerModel" "CarDrawerModel" "size" "I") ∈ kq_T := kq_in (List.mem_of_getElem? (i := 378) (by decide +kernel)) (by decide +kernel)
theorem tw_379 : (Jvm.Cond.soleField "CarDrawerModel" "size") ∈ kq_T := kq_in (List.mem_of_getElem? (i := 379) (by decide +kernel)) (by decide +kernel)
theorem tw_380 : (Jvm.Cond.superclass "CarDrawerModel" "java/lang/Object") ∈ kq_T := kq_in (List.mem_of_getElem? (i := 380) (by decide +kernel)) (by decide +kernel)
theorem tw_381 : (Jvm.Cond.arrayClass Jvm.ClassFile.FieldType.long) ∈ kq_T := kq_in (List.mem_of_getElem? (i := 381) (by decide +kernel)) (by decide +kernel)
theorem tw_382 : (Jvm.Cond.arrayClass Jvm.ClassFile.FieldType.byte) ∈ kq_T := kq_in (List.mem_of_getElem? (i := 382) (by decide +kernel)) (by decide +kernel)
theorem tw_383 : (Jvm.Cond.methodLink "CarDrawerLaw" (25 : Nat) ({ cls := "CarDrawerModel", name := "draw", desc := "(II)I" } : Jvm.MethodName)) ∈ kq_T := kq_in (List.mem_of_getElem? (i := 383) (by decide +kernel)) (by decide +kernel)
theorem tw_384 : (Jvm.Cond.instanceMethod ({ cls := "CarDrawerModel", name := "draw", desc := "(II)I" } : Jvm.MethodName)) ∈ kq_T := kq_in (List.mem_of_getElem? (i := 384) (by decide +kernel)) (by decide +kernel)
theorem tw_385 : (Jvm.Cond.selects "CarDrawerModel" ({ cls := "CarDrawerModel", name := "draw", desc := "(II)I" } : Jvm.MethodName) ({ cls := "CarDrawerModel", name := "draw", desc := "(II)I" } : Jvm.MethodName)) ∈ kq_T := kq_in (List.mem_of_getElem? (i := 385) (by decide +kernel)) (by decide +kernel)
theorem tw_386 : (Jvm.Cond.code ({ cls := "CarDrawerModel", name := "draw", desc := "(II)I" } : Jvm.MethodName) prog_8_method_9_code (4 : Nat) (Option.some Jvm.ClassFile.FieldType.int)) ∈ kq_T := kq_in (List.mem_of_getElem? (i := 386) (by decide +kernel)) (by decide +kernel)
theorem tw_387 : (Jvm.Cond.methodLink "CarDrawerModel" (80 : Nat) ({ cls := "CarDrawerModel", name := "none", desc := "(II)Z" } : Jvm.MethodName)) ∈ kq_T := kq_in (List.mem_of_getElem? (i := 387) (by decide +kernel)) (by decide +kernel)
theorem tw_388 : (Jvm.Cond.static ({ cls := "CarDrawerModel", name := "none", desc := "(II)Z" } : Jvm.MethodName)) ∈ kq_T := kq_in (List.mem_of_getElem? (i := 388) (by decide +kernel)) (by decide +kernel)
theorem tw_389 : (Jvm.Cond.code ({ cls := "CarDrawerModel", name := "none", desc := "(II)Z" } : Jvm.MethodName) prog_8_method_6_code (2 : Nat) (Option.some Jvm.ClassFile.FieldType.boolean)) ∈ kq_T := kq_in (List.mem_of_getElem? (i := 389) (by decide +kernel)) (by decide +kernel)
theorem tw_390 : (Jvm.Cond.methodLink "CarDrawerModel" (84 : Nat) ({ cls := "CarDrawerModel", name := "drawAll", desc := "(III)V" } : Jvm.MethodName)) ∈ kq_T := kq_in (List.mem_of_getElem? (i := 390) (by decide +kernel)) (by decide +kernel)
theorem tw_392 : (Jvm.Cond.instanceMethod ({ cls := "CarDrawerModel", name := "drawAll", desc := "(III)V" } : Jvm.MethodName)) ∈ kq_T := kq_in (List.mem_of_getElem? (i := 392) (by decide +kernel)) (by decide +kernel)
theorem tw_393 : (Jvm.Cond.code ({ cls := "CarDrawerModel", name := "drawAll", desc := "(III)V" } : Jvm.MethodName) prog_8_method_8_code (8 : Nat) (Option.none : Option Jvm.ClassFile.FieldType)) ∈ kq_T := kq_in (List.mem_of_getElem? (i := 393) (by decide +kernel)) (by decide +kernel)
theorem tw_394 : (Jvm.Cond.methodLink "CarDrawerModel" (60 : Nat) ({ cls := "CarDrawerModel", name := "next", desc := "(I)I" } : Jvm.MethodName)) ∈ kq_T := kq_in (List.mem_of_getElem? (i := 394) (by decide +kernel)) (by decide +kernel)
theorem tw_396 : (Jvm.Cond.instanceMethod ({ cls := "CarDrawerModel", name := "next", desc := "(I)I" } : Jvm.MethodName)) ∈ kq_T := kq_in (List.mem_of_getElem? (i := 396) (by decide +kernel)) (by decide +kernel)
theorem tw_397 : (Jvm.Cond.code ({ cls := "CarDrawerModel", name := "next", desc := "(I)I" } : Jvm.MethodName) prog_8_method_3_code (2 : Nat) (Option.some Jvm.ClassFile.FieldType.int)) ∈ kq_T := kq_in (List.mem_of_getElem? (i := 397) (by decide +kernel)) (by decide +kernel)
theorem tw_398 : (Jvm.Cond.constantLong "CarDrawerModel" (54 : Nat) (6364136223846793005 : Int64)) ∈ kq_T := kq_in (List.mem_of_getElem? (i := 398) (by decide +kernel)) (by decide +kernel)
theorem tw_399 : (Jvm.Cond.constantLong "CarDrawerModel" (56 : Nat) (1442695040888963407 : Int64)) ∈ kq_T := kq_in (List.mem_of_getElem? (i := 399) (by decide +kernel)) (by decide +kernel)
theorem tw_400 : (Jvm.Cond.methodLink "CarDrawerModel" (66 : Nat) ({ cls := "CarDrawerModel", name := "sortsOf", desc := "(I)I" } : Jvm.MethodName)) ∈ kq_T := kq_in (List.mem_of_getElem? (i := 400) (by decide +kernel)) (by decide +kernel)
theorem tw_401 : (Jvm.Cond.static ({ cls := "CarDrawerModel", name := "sortsOf", desc := "(I)I" } : Jvm.MethodName)) ∈ kq_T := kq_in (List.mem_of_getElem? (i := 401) (by decide +kernel)) (by decide +kernel)
theorem tw_402 : (Jvm.Cond.code ({ cls := "CarDrawerModel", name := "sortsOf", desc := "(I)I" } : Jvm.MethodName) prog_8_method_4_code (1 : Nat) (Option.some Jvm.ClassFile.FieldType.int)) ∈ kq_T := kq_in (List.mem_of_getElem? (i := 402) (by decide +kernel)) (by decide +kernel)
theorem tw_403 : (Jvm.Cond.methodLink "CarDrawerModel" (69 : Nat) ({ cls := "CarDrawerModel", name := "drawX", desc := "(III)J" } : Jvm.MethodName)) ∈ kq_T := kq_in (List.mem_of_getElem? (i := 403) (by decide +kernel)) (by decide +kernel)
theorem tw_405 : (Jvm.Cond.instanceMethod ({ cls := "CarDrawerModel", name := "drawX", desc := "(III)J" } : Jvm.MethodName)) ∈ kq_T := kq_in (List.mem_of_getElem? (i := 405) (by decide +kernel)) (by decide +kernel)
theorem tw_406 : (Jvm.Cond.code ({ cls := "CarDrawerModel", name := "drawX", desc := "(III)J" } : Jvm.MethodName) prog_8_method_7_code (4 : Nat) (Option.some Jvm.ClassFile.FieldType.long)) ∈ kq_T := kq_in (List.mem_of_getElem? (i := 406) (by decide +kernel)) (by decide +kernel)
theorem tw_407 : (Jvm.Cond.constantLong "CarDrawerModel" (58 : Nat) (8 : Int64)) ∈ kq_T := kq_in (List.mem_of_getElem? (i := 407) (by decide +kernel)) (by decide +kernel)
theorem tw_408 : (Jvm.Cond.constantLong "CarDrawerModel" (64 : Nat) (16 : Int64)) ∈ kq_T := kq_in (List.mem_of_getElem? (i := 408) (by decide +kernel)) (by decide +kernel)
theorem tw_409 : (Jvm.Cond.methodLink "CarDrawerModel" (73 : Nat) ({ cls := "CarDrawerModel", name := "faultsOf", desc := "(I)I" } : Jvm.MethodName)) ∈ kq_T := kq_in (List.mem_of_getElem? (i := 409) (by decide +kernel)) (by decide +kernel)
theorem tw_410 : (Jvm.Cond.static ({ cls := "CarDrawerModel", name := "faultsOf", desc := "(I)I" } : Jvm.MethodName)) ∈ kq_T := kq_in (List.mem_of_getElem? (i := 410) (by decide +kernel)) (by decide +kernel)
theorem tw_411 : (Jvm.Cond.code ({ cls := "CarDrawerModel", name := "faultsOf", desc := "(I)I" } : Jvm.MethodName) prog_8_method_5_code (1 : Nat) (Option.some Jvm.ClassFile.FieldType.int)) ∈ kq_T := kq_in (List.mem_of_getElem? (i := 411) (by decide +kernel)) (by decide +kernel)
theorem tw_412 : (Jvm.Cond.constantLong "CarDrawerModel" (76 : Nat) (1000 : Int64)) ∈ kq_T := kq_in (List.mem_of_getElem? (i := 412) (by decide +kernel)) (by decide +kernel)
theorem tw_413 : (Jvm.Cond.constantLong "CarDrawerModel" (78 : Nat) (-1 : Int64)) ∈ kq_T := kq_in (List.mem_of_getElem? (i := 413) (by decide +kernel)) (by decide +kernel)
theorem tw_414 : (Jvm.Cond.methodLink "CarDrawerLaw" (69 : Nat) ({ cls := "CarDrawerModel", name := "same", desc := "(JII)Z" } : Jvm.MethodName)) ∈ kq_T := kq_in (List.mem_of_getElem? (i := 414) (by decide +kernel)) (by decide +kernel)
theorem tw_415 : (Jvm.Cond.instanceMethod ({ cls := "CarDrawerModel", name := "same", desc := "(JII)Z" } : Jvm.MethodName)) ∈ kq_T := kq_in (List.mem_of_getElem? (i := 415) (by decide +kernel)) (by decide +kernel)
theorem tw_416 : (Jvm.Cond.selects "CarDrawerModel" ({ cls := "CarDrawerModel", name := "same", desc := "(JII)Z" } : Jvm.MethodName) ({ cls := "CarDrawerModel", name := "same", desc := "(JII)Z" } : Jvm.MethodName)) ∈ kq_T := kq_in (List.mem_of_getElem? (i := 416) (by decide +kernel)) (by decide +kernel)
theorem tw_417 : (Jvm.Cond.code ({ cls := "CarDrawerModel", name := "same", desc := "(JII)Z" } : Jvm.MethodName) prog_8_method_10_code (11 : Nat) (Option.some Jvm.ClassFile.FieldType.boolean)) ∈ kq_T := kq_in (List.mem_of_getElem? (i := 417) (by decide +kernel)) (by decide +kernel)
theorem tw_418 : (Jvm.Cond.methodLink "CarDrawerLaw" (30 : Nat) ({ cls := "CarDrawerModel", name := "part", desc := "(II)J" } : Jvm.MethodName)) ∈ kq_T := kq_in (List.mem_of_getElem? (i := 418) (by decide +kernel)) (by decide +kernel)
theorem tw_419 : (Jvm.Cond.instanceMethod ({ cls := "CarDrawerModel", name := "part", desc := "(II)J" } : Jvm.MethodName)) ∈ kq_T := kq_in (List.mem_of_getElem? (i := 419) (by decide +kernel)) (by decide +kernel)
theorem tw_420 : (Jvm.Cond.selects "CarDrawerModel" ({ cls := "CarDrawerModel", name := "part", desc := "(II)J" } : Jvm.MethodName) ({ cls := "CarDrawerModel", name := "part", desc := "(II)J" } : Jvm.MethodName)) ∈ kq_T := kq_in (List.mem_of_getElem? (i := 420) (by decide +kernel)) (by decide +kernel)
theorem tw_421 : (Jvm.Cond.code ({ cls := "CarDrawerModel", name := "part", desc := "(II)J" } : Jvm.MethodName) prog_8_method_12_code (3 : Nat) (Option.some Jvm.ClassFile.FieldType.long)) ∈ kq_T := kq_in (List.mem_of_getElem? (i := 421) (by decide +kernel)) (by decide +kernel)
theorem tw_422 : (Jvm.Cond.methodLink "CarDrawerModel" (91 : Nat) ({ cls := "CarDrawerModel", name := "placeOf", desc := "(I)I" } : Jvm.MethodName)) ∈ kq_T := kq_in (List.mem_of_getElem? (i := 422) (by decide +kernel)) (by decide +kernel)
theorem tw_424 : (Jvm.Cond.instanceMethod ({ cls := "CarDrawerModel", name := "placeOf", desc := "(I)I" } : Jvm.MethodName)) ∈ kq_T := kq_in (List.mem_of_getElem? (i := 424) (by decide +kernel)) (by decide +kernel)
theorem tw_425 : (Jvm.Cond.code ({ cls := "CarDrawerModel", name := "placeOf", desc := "(I)I" } : Jvm.MethodName) prog_8_method_11_code (3 : Nat) (Option.some Jvm.ClassFile.FieldType.int)) ∈ kq_T := kq_in (List.mem_of_getElem? (i := 425) (by decide +kernel)) (by decide +kernel)
theorem tw_426 : (Jvm.Cond.constantLong "CarDrawerModel" (94 : Nat) (-2 : Int64)) ∈ kq_T := kq_in (List.mem_of_getElem? (i := 426) (by decide +kernel)) (by decide +kernel)
theorem tw_427 : (Jvm.Cond.methodLink "CarDrawerLaw" (35 : Nat) ({ cls := "CarDrawerModel", name := "letter", desc := "(I)I" } : Jvm.MethodName)) ∈ kq_T := kq_in (List.mem_of_getElem? (i := 427) (by decide +kernel)) (by decide +kernel)
theorem tw_428 : (Jvm.Cond.instanceMethod ({ cls := "CarDrawerModel", name := "letter", desc := "(I)I" } : Jvm.MethodName)) ∈ kq_T := kq_in (List.mem_of_getElem? (i := 428) (by decide +kernel)) (by decide +kernel)
theorem tw_429 : (Jvm.Cond.selects "CarDrawerModel" ({ cls := "CarDrawerModel", name := "letter", desc := "(I)I" } : Jvm.MethodName) ({ cls := "CarDrawerModel", name := "letter", desc := "(I)I" } : Jvm.MethodName)) ∈ kq_T := kq_in (List.mem_of_getElem? (i := 429) (by decide +kernel)) (by decide +kernel)
theorem tw_430 : (Jvm.Cond.code ({ cls := "CarDrawerModel", name := "letter", desc := "(I)I" } : Jvm.MethodName) prog_8_method_15_code (4 : Nat) (Option.some Jvm.ClassFile.FieldType.int)) ∈ kq_T := kq_in (List.mem_of_getElem? (i := 430) (by decide +kernel)) (by decide +kernel)
theorem tw_431 : (Jvm.Cond.methodLink "CarDrawerModel" (99 : Nat) ({ cls := "CarDrawerModel", name := "type", desc := "(I)V" } : Jvm.MethodName)) ∈ kq_T := kq_in (List.mem_of_getElem? (i := 431) (by decide +kernel)) (by decide +kernel)
theorem tw_433 : (Jvm.Cond.instanceMethod ({ cls := "CarDrawerModel", name := "type", desc := "(I)V" } : Jvm.MethodName)) ∈ kq_T := kq_in (List.mem_of_getElem? (i := 433) (by decide +kernel)) (by decide +kernel)
theorem tw_434 : (Jvm.Cond.code ({ cls := "CarDrawerModel", name := "type", desc := "(I)V" } : Jvm.MethodName) prog_8_method_13_code (2 : Nat) (Option.none : Option Jvm.ClassFile.FieldType)) ∈ kq_T := kq_in (List.mem_of_getElem? (i := 434) (by decide +kernel)) (by decide +kernel)
theorem tw_435 : (Jvm.Cond.methodLink "CarDrawerModel" (107 : Nat) ({ cls := "CarDrawerModel", name := "typeNumber", desc := "(J)V" } : Jvm.MethodName)) ∈ kq_T := kq_in (List.mem_of_getElem? (i := 435) (by decide +kernel)) (by decide +kernel)
theorem tw_437 : (Jvm.Cond.instanceMethod ({ cls := "CarDrawerModel", name := "typeNumber", desc := "(J)V" } : Jvm.MethodName)) ∈ kq_T := kq_in (List.mem_of_getElem? (i := 437) (by decide +kernel)) (by decide +kernel)
theorem tw_438 : (Jvm.Cond.code ({ cls := "CarDrawerModel", name := "typeNumber", desc := "(J)V" } : Jvm.MethodName) prog_8_method_14_code (7 : Nat) (Option.none : Option Jvm.ClassFile.FieldType)) ∈ kq_T := kq_in (List.mem_of_getElem? (i := 438) (by decide +kernel)) (by decide +kernel)
theorem tw_439 : (Jvm.Cond.constantLong "CarDrawerModel" (103 : Nat) (9 : Int64)) ∈ kq_T := kq_in (List.mem_of_getElem? (i := 439) (by decide +kernel)) (by decide +kernel)
theorem tw_440 : (Jvm.Cond.constantLong "CarDrawerModel" (105 : Nat) (10 : Int64)) ∈ kq_T := kq_in (List.mem_of_getElem? (i := 440) (by decide +kernel)) (by decide +kernel)
theorem tw_441 : (Jvm.Cond.methodLink "CarDrawerLaw" (39 : Nat) ({ cls := "CarDrawerModel", name := "planted", desc := "(I)I" } : Jvm.MethodName)) ∈ kq_T := kq_in (List.mem_of_getElem? (i := 441) (by decide +kernel)) (by decide +kernel)
theorem tw_442 : (Jvm.Cond.instanceMethod ({ cls := "CarDrawerModel", name := "planted", desc := "(I)I" } : Jvm.MethodName)) ∈ kq_T := kq_in (List.mem_of_getElem? (i := 442) (by decide +kernel)) (by decide +kernel)
theorem tw_443 : (Jvm.Cond.selects "CarDrawerModel" ({ cls := "CarDrawerModel", name := "planted", desc := "(I)I" } : Jvm.MethodName) ({ cls := "CarDrawerModel", name := "planted", desc := "(I)I" } : Jvm.MethodName)) ∈ kq_T := kq_in (List.mem_of_getElem? (i := 443) (by decide +kernel)) (by decide +kernel)
theorem tw_444 : (Jvm.Cond.code ({ cls := "CarDrawerModel", name := "planted", desc := "(I)I" } : Jvm.MethodName) prog_8_method_17_code (3 : Nat) (Option.some Jvm.ClassFile.FieldType.int)) ∈ kq_T := kq_in (List.mem_of_getElem? (i := 444) (by decide +kernel)) (by decide +kernel)
theorem tw_445 : (Jvm.Cond.methodLink "CarDrawerModel" (113 : Nat) ({ cls := "CarDrawerModel", name := "signature", desc := "(II)I" } : Jvm.MethodName)) ∈ kq_T := kq_in (List.mem_of_getElem? (i := 445) (by decide +kernel)) (by decide +kernel)
theorem tw_447 : (Jvm.Cond.instanceMethod ({ cls := "CarDrawerModel", name := "signature", desc := "(II)I" } : Jvm.MethodName)) ∈ kq_T := kq_in (List.mem_of_getElem? (i := 447) (by decide +kernel)) (by decide +kernel)
theorem tw_448 : (Jvm.Cond.code ({ cls := "CarDrawerModel", name := "signature", desc := "(II)I" } : Jvm.MethodName) prog_8_method_16_code (8 : Nat) (Option.some Jvm.ClassFile.FieldType.int)) ∈ kq_T := kq_in (List.mem_of_getElem? (i := 448) (by decide +kernel)) (by decide +kernel)
theorem tw_449 : (Jvm.Cond.constantLong "CarDrawerModel" (111 : Nat) (2 : Int64)) ∈ kq_T := kq_in (List.mem_of_getElem? (i := 449) (by decide +kernel)) (by decide +kernel)
theorem tw_450 : (Jvm.Cond.methodLink "CarDrawerLaw" (44 : Nat) ({ cls := "CarDrawerModel", name := "verdict", desc := "(IZ)V" } : Jvm.MethodName)) ∈ kq_T := kq_in (List.mem_of_getElem? (i := 450) (by decide +kernel)) (by decide +kernel)
theorem tw_451 : (Jvm.Cond.instanceMethod ({ cls := "CarDrawerModel", name := "verdict", desc := "(IZ)V" } : Jvm.MethodName)) ∈ kq_T := kq_in (List.mem_of_getElem? (i := 451) (by decide +kernel)) (by decide +kernel)
theorem tw_452 : (Jvm.Cond.selects "CarDrawerModel" ({ cls := "CarDrawerModel", name := "verdict", desc := "(IZ)V" } : Jvm.MethodName) ({ cls := "CarDrawerModel", name := "verdict", desc := "(IZ)V" } : Jvm.MethodName)) ∈ kq_T := kq_in (List.mem_of_getElem? (i := 452) (by decide +kernel)) (by decide +kernel)
theorem tw_453 : (Jvm.Cond.code ({ cls := "CarDrawerModel", name := "verdict", desc := "(IZ)V" } : Jvm.MethodName) prog_8_method_18_code (3 : Nat) (Option.none : Option Jvm.ClassFile.FieldType)) ∈ kq_T := kq_in (List.mem_of_getElem? (i := 453) (by decide +kernel)) (by decide +kernel)
theorem tw_454 : (Jvm.Cond.methodLink "CarDrawerLaw" (49 : Nat) ({ cls := "CarDrawerModel", name := "shorter", desc := "()I" } : Jvm.MethodName)) ∈ kq_T := kq_in (List.mem_of_getElem? (i := 454) (by decide +kernel)) (by decide +kernel)
theorem tw_455 : (Jvm.Cond.instanceMethod ({ cls := "CarDrawerModel", name := "shorter", desc := "()I" } : Jvm.MethodName)) ∈ kq_T := kq_in (List.mem_of_getElem? (i := 455) (by decide +kernel)) (by decide +kernel)
theorem tw_456 : (Jvm.Cond.selects "CarDrawerModel" ({ cls := "CarDrawerModel", name := "shorter", desc := "()I" } : Jvm.MethodName) ({ cls := "CarDrawerModel", name := "shorter", desc := "()I" } : Jvm.MethodName)) ∈ kq_T := kq_in (List.mem_of_getElem? (i := 456) (by decide +kernel)) (by decide +kernel)
theorem tw_457 : (Jvm.Cond.code ({ cls := "CarDrawerModel", name := "shorter", desc := "()I" } : Jvm.MethodName) prog_8_method_20_code (3 : Nat) (Option.some Jvm.ClassFile.FieldType.int)) ∈ kq_T := kq_in (List.mem_of_getElem? (i := 457) (by decide +kernel)) (by decide +kernel)
theorem tw_458 : (Jvm.Cond.methodLink "CarDrawerModel" (117 : Nat) ({ cls := "CarDrawerModel", name := "pass", desc := "(I)Z" } : Jvm.MethodName)) ∈ kq_T := kq_in (List.mem_of_getElem? (i := 458) (by decide +kernel)) (by decide +kernel)
theorem tw_460 : (Jvm.Cond.instanceMethod ({ cls := "CarDrawerModel", name := "pass", desc := "(I)Z" } : Jvm.MethodName)) ∈ kq_T := kq_in (List.mem_of_getElem? (i := 460) (by decide +kernel)) (by decide +kernel)
theorem tw_461 : (Jvm.Cond.code ({ cls := "CarDrawerModel", name := "pass", desc := "(I)Z" } : Jvm.MethodName) prog_8_method_19_code (6 : Nat) (Option.some Jvm.ClassFile.FieldType.boolean)) ∈ kq_T := kq_in (List.mem_of_getElem? (i := 461) (by decide +kernel)) (by decide +kernel)
theorem tw_462 : (Jvm.Cond.methodLink "CarDrawerLaw" (53 : Nat) ({ cls := "CarDrawerModel", name := "left", desc := "(I)I" } : Jvm.MethodName)) ∈ kq_T := kq_in (List.mem_of_getElem? (i := 462) (by decide +kernel)) (by decide +kernel)
theorem tw_463 : (Jvm.Cond.instanceMethod ({ cls := "CarDrawerModel", name := "left", desc := "(I)I" } : Jvm.MethodName)) ∈ kq_T := kq_in (List.mem_of_getElem? (i := 463) (by decide +kernel)) (by decide +kernel)
theorem tw_464 : (Jvm.Cond.selects "CarDrawerModel" ({ cls := "CarDrawerModel", name := "left", desc := "(I)I" } : Jvm.MethodName) ({ cls := "CarDrawerModel", name := "left", desc := "(I)I" } : Jvm.MethodName)) ∈ kq_T := kq_in (List.mem_of_getElem? (i := 464) (by decide +kernel)) (by decide +kernel)
theorem tw_465 : (Jvm.Cond.code ({ cls := "CarDrawerModel", name := "left", desc := "(I)I" } : Jvm.MethodName) prog_8_method_21_code (2 : Nat) (Option.some Jvm.ClassFile.FieldType.int)) ∈ kq_T := kq_in (List.mem_of_getElem? (i := 465) (by decide +kernel)) (by decide +kernel)
theorem tw_466 : (Jvm.Cond.methodLink "CarDrawerLaw" (58 : Nat) ({ cls := "CarDrawerModel", name := "minimal", desc := "()Z" } : Jvm.MethodName)) ∈ kq_T := kq_in (List.mem_of_getElem? (i := 466) (by decide +kernel)) (by decide +kernel)
theorem tw_467 : (Jvm.Cond.instanceMethod ({ cls := "CarDrawerModel", name := "minimal", desc := "()Z" } : Jvm.MethodName)) ∈ kq_T := kq_in (List.mem_of_getElem? (i := 467) (by decide +kernel)) (by decide +kernel)
theorem tw_468 : (Jvm.Cond.selects "CarDrawerModel" ({ cls := "CarDrawerModel", name := "minimal", desc := "()Z" } : Jvm.MethodName) ({ cls := "CarDrawerModel", name := "minimal", desc := "()Z" } : Jvm.MethodName)) ∈ kq_T := kq_in (List.mem_of_getElem? (i := 468) (by decide +kernel)) (by decide +kernel)
theorem tw_469 : (Jvm.Cond.code ({ cls := "CarDrawerModel", name := "minimal", desc := "()Z" } : Jvm.MethodName) prog_8_method_22_code (3 : Nat) (Option.some Jvm.ClassFile.FieldType.boolean)) ∈ kq_T := kq_in (List.mem_of_getElem? (i := 469) (by decide +kernel)) (by decide +kernel)
theorem tw_470 : (Jvm.Cond.methodLink "CarDrawerLaw" (62 : Nat) ({ cls := "CarDrawerModel", name := "answers", desc := "()Z" } : Jvm.MethodName)) ∈ kq_T := kq_in (List.mem_of_getElem? (i := 470) (by decide +kernel)) (by decide +kernel)
theorem tw_471 : (Jvm.Cond.instanceMethod ({ cls := "CarDrawerModel", name := "answers", desc := "()Z" } : Jvm.MethodName)) ∈ kq_T := kq_in (List.mem_of_getElem? (i := 471) (by decide +kernel)) (by decide +kernel)
theorem tw_472 : (Jvm.Cond.selects "CarDrawerModel" ({ cls := "CarDrawerModel", name := "answers", desc := "()Z" } : Jvm.MethodName) ({ cls := "CarDrawerModel", name := "answers", desc := "()Z" } : Jvm.MethodName)) ∈ kq_T := kq_in (List.mem_of_getElem? (i := 472) (by decide +kernel)) (by decide +kernel)
theorem tw_473 : (Jvm.Cond.code ({ cls := "CarDrawerModel", name := "answers", desc := "()Z" } : Jvm.MethodName) prog_8_method_23_code (4 : Nat) (Option.some Jvm.ClassFile.FieldType.boolean)) ∈ kq_T := kq_in (List.mem_of_getElem? (i := 473) (by decide +kernel)) (by decide +kernel)
theorem tw_474 : (Jvm.Cond.constantLong "CarDrawerLaw" (63 : Nat) (4294967295 : Int64)) ∈ kq_T := kq_in (List.mem_of_getElem? (i := 474) (by decide +kernel)) (by decide +kernel)
theorem tn_48 : (Jvm.Cond.methodLinkNest "CarDrawer" (24 : Nat) ({ cls := "CarDrawer$Rest", name := "<init>", desc := "()V" } : Jvm.MethodName) "CarDrawer") ∈ lw_tbl := List.mem_of_getElem? (i := 48) (by decide +kernel)
theorem tn_54 : (Jvm.Cond.methodLinkNest "CarDrawer$Rest" (11 : Nat) ({ cls := "CarDrawer$Drawing", name := "<init>", desc := "()V" } : Jvm.MethodName) "CarDrawer") ∈ lw_tbl := List.mem_of_getElem? (i := 54) (by decide +kernel)
theorem tn_59 : (Jvm.Cond.fieldLinkNest "CarDrawer$Rest" (38 : Nat) "CarDrawer$Drawing" "sort" "[I" "CarDrawer") ∈ lw_tbl := List.mem_of_getElem? (i := 59) (by decide +kernel)
theorem tn_63 : (Jvm.Cond.fieldLinkNest "CarDrawer$Rest" (44 : Nat) "CarDrawer$Drawing" "z" "[I" "CarDrawer") ∈ lw_tbl := List.mem_of_getElem? (i := 63) (by decide +kernel)
theorem tn_65 : (Jvm.Cond.fieldLinkNest "CarDrawer$Rest" (33 : Nat) "CarDrawer$Drawing" "count" "I" "CarDrawer") ∈ lw_tbl := List.mem_of_getElem? (i := 65) (by decide +kernel)
theorem tn_66 : (Jvm.Cond.fieldLinkNest "CarDrawer" (65 : Nat) "CarDrawer$Drawing" "count" "I" "CarDrawer") ∈ lw_tbl := List.mem_of_getElem? (i := 66) (by decide +kernel)
theorem tn_68 : (Jvm.Cond.fieldLinkNest "CarDrawer" (87 : Nat) "CarDrawer$Drawing" "fault" "I" "CarDrawer") ∈ lw_tbl := List.mem_of_getElem? (i := 68) (by decide +kernel)
theorem tn_70 : (Jvm.Cond.fieldLinkNest "CarDrawer" (90 : Nat) "CarDrawer$Drawing" "faultPart" "I" "CarDrawer") ∈ lw_tbl := List.mem_of_getElem? (i := 70) (by decide +kernel)
theorem tn_71 : (Jvm.Cond.fieldLinkNest "CarDrawer$Rest" (41 : Nat) "CarDrawer$Drawing" "faultPart" "I" "CarDrawer") ∈ lw_tbl := List.mem_of_getElem? (i := 71) (by decide +kernel)
theorem tn_90 : (Jvm.Cond.methodLinkNest "CarDrawer$Rest" (20 : Nat) ({ cls := "CarDrawer$Verdict", name := "<init>", desc := "()V" } : Jvm.MethodName) "CarDrawer") ∈ lw_tbl := List.mem_of_getElem? (i := 90) (by decide +kernel)
theorem tn_100 : (Jvm.Cond.fieldLinkNest "CarDrawer" (29 : Nat) "CarDrawer$Rest" "drawing" "LCarDrawer$Drawing;" "CarDrawer") ∈ lw_tbl := List.mem_of_getElem? (i := 100) (by decide +kernel)
theorem tn_102 : (Jvm.Cond.fieldLinkNest "CarDrawer" (34 : Nat) "CarDrawer$Rest" "saying" "LCarDrawer$Verdict;" "CarDrawer") ∈ lw_tbl := List.mem_of_getElem? (i := 102) (by decide +kernel)
theorem tn_105 : (Jvm.Cond.fieldLinkNest "CarDrawer" (106 : Nat) "CarDrawer$Rest" "count" "I" "CarDrawer") ∈ lw_tbl := List.mem_of_getElem? (i := 105) (by decide +kernel)
theorem tn_116 : (Jvm.Cond.methodLinkNest "CarDrawer" (44 : Nat) ({ cls := "CarDrawer$Drawing", name := "<init>", desc := "()V" } : Jvm.MethodName) "CarDrawer") ∈ lw_tbl := List.mem_of_getElem? (i := 116) (by decide +kernel)
theorem tn_156 : (Jvm.Cond.methodLinkNest "CarDrawer$Drawing" (34 : Nat) ({ cls := "CarDrawer", name := "isKind", desc := "(I)Z" } : Jvm.MethodName) "CarDrawer") ∈ lw_tbl := List.mem_of_getElem? (i := 156) (by decide +kernel)
theorem tn_167 : (Jvm.Cond.fieldLinkNest "CarDrawer$Drawing" (47 : Nat) "CarDrawer" "SORTS" "[I" "CarDrawer") ∈ lw_tbl := List.mem_of_getElem? (i := 167) (by decide +kernel)
theorem tn_168 : (Jvm.Cond.laysStatic "CarDrawer" "SORTS" "[I") ∈ lw_tbl := List.mem_of_getElem? (i := 168) (by decide +kernel)
theorem tn_181 : (Jvm.Cond.fieldLinkNest "CarDrawer$Drawing" (61 : Nat) "CarDrawer" "FAULTS" "[I" "CarDrawer") ∈ lw_tbl := List.mem_of_getElem? (i := 181) (by decide +kernel)
theorem tn_182 : (Jvm.Cond.laysStatic "CarDrawer" "FAULTS" "[I") ∈ lw_tbl := List.mem_of_getElem? (i := 182) (by decide +kernel)
theorem iwX0 : ∀ w ∈ u_ws RX0 TX0 1, w ∈ kq_T := List.forall_mem_cons.mpr ⟨tw_43, fun _ h => absurd h List.not_mem_nil⟩
theorem iwX1 : ∀ w ∈ u_ws RX1 TX1 7, w ∈ kq_T := List.forall_mem_cons.mpr ⟨tw_72, List.forall_mem_cons.mpr ⟨tw_74, List.forall_mem_cons.mpr ⟨tw_76, List.forall_mem_cons.mpr ⟨tw_78, List.forall_mem_cons.mpr ⟨tw_80, List.forall_mem_cons.mpr ⟨tw_82, List.forall_mem_cons.mpr ⟨tw_84, fun _ h => absurd h List.not_mem_nil⟩⟩⟩⟩⟩⟩⟩
theorem iwX2 : ∀ w ∈ u_ws RX2 TX2 1, w ∈ kq_T := List.forall_mem_cons.mpr ⟨tw_95, fun _ h => absurd h List.not_mem_nil⟩
theorem iwX3 : ∀ w ∈ u_ws RX3 TX3 4, w ∈ kq_T := List.forall_mem_cons.mpr ⟨tw_106, List.forall_mem_cons.mpr ⟨tw_108, List.forall_mem_cons.mpr ⟨tw_110, List.forall_mem_cons.mpr ⟨tw_112, fun _ h => absurd h List.not_mem_nil⟩⟩⟩⟩
theorem iwX4 : ∀ w ∈ u_ws RX4 TX4 8, w ∈ kq_T := List.forall_mem_cons.mpr ⟨tw_125, List.forall_mem_cons.mpr ⟨tw_127, List.forall_mem_cons.mpr ⟨tw_129, List.forall_mem_cons.mpr ⟨tw_131, List.forall_mem_cons.mpr ⟨tw_133, List.forall_mem_cons.mpr ⟨tw_135, List.forall_mem_cons.mpr ⟨tw_137, List.forall_mem_cons.mpr ⟨tw_139, fun _ h => absurd h List.not_mem_nil⟩⟩⟩⟩⟩⟩⟩⟩
theorem iwX5 : ∀ w ∈ u_ws RX5 TX5 15, w ∈ kq_T := List.forall_mem_cons.mpr ⟨tw_350, List.forall_mem_cons.mpr ⟨tw_352, List.forall_mem_cons.mpr ⟨tw_354, List.forall_mem_cons.mpr ⟨tw_356, List.forall_mem_cons.mpr ⟨tw_358, List.forall_mem_cons.mpr ⟨tw_360, List.forall_mem_cons.mpr ⟨tw_362, List.forall_mem_cons.mpr ⟨tw_364, List.forall_mem_cons.mpr ⟨tw_366, List.forall_mem_cons.mpr ⟨tw_368, List.forall_mem_cons.mpr ⟨tw_370, List.forall_mem_cons.mpr ⟨tw_372, List.forall_mem_cons.mpr ⟨tw_374, List.forall_mem_cons.mpr ⟨tw_376, List.forall_mem_cons.mpr ⟨tw_378, fun _ h => absurd h List.not_mem_nil⟩⟩⟩⟩⟩⟩⟩⟩⟩⟩⟩⟩⟩⟩⟩
abbrev yX4_init : MethodName := ⟨RX4, "<init>", "(J)V"⟩
abbrev cX4_init : ByteArray := prog_1_method_1_code
def wX4_init : List Cond := .code yX4_init cX4_init 3 none :: kq_T
abbrev yX4_draw : MethodName := ⟨RX4, "draw", "(II)I"⟩
abbrev cX4_draw : ByteArray := prog_1_method_2_code
def wX4_draw : List Cond := .code yX4_draw cX4_draw 3 (some .int) :: kq_T
abbrev yX4_part : MethodName := ⟨RX4, "part", "(II)J"⟩
abbrev cX4_part : ByteArray := prog_1_method_3_code
def wX4_part : List Cond := .code yX4_part cX4_part 3 (some .long) :: kq_T
abbrev yX4_letter : MethodName := ⟨RX4, "letter", "(I)I"⟩
abbrev cX4_letter : ByteArray := prog_1_method_4_code
def wX4_letter : List Cond := .code yX4_letter cX4_letter 2 (some .int) :: kq_T
abbrev yX4_planted : MethodName := ⟨RX4, "planted", "(I)I"⟩
abbrev cX4_planted : ByteArray := prog_1_method_5_code
def wX4_planted : List Cond := .code yX4_planted cX4_planted 2 (some .int) :: kq_T
abbrev yX4_verdict : MethodName := ⟨RX4, "verdict", "(IZ)V"⟩
abbrev cX4_verdict : ByteArray := prog_1_method_6_code
def wX4_verdict : List Cond := .code yX4_verdict cX4_verdict 3 none :: kq_T
abbrev yX4_shorter : MethodName := ⟨RX4, "shorter", "()I"⟩
abbrev cX4_shorter : ByteArray := prog_1_method_7_code
def wX4_shorter : List Cond := .code yX4_shorter cX4_shorter 1 (some .int) :: kq_T
abbrev yX4_left : MethodName := ⟨RX4, "left", "(I)I"⟩
abbrev cX4_left : ByteArray := prog_1_method_8_code
def wX4_left : List Cond := .code yX4_left cX4_left 2 (some .int) :: kq_T
abbrev yX4_minimal : MethodName := ⟨RX4, "minimal", "()Z"⟩
abbrev cX4_minimal : ByteArray := prog_1_method_9_code
def wX4_minimal : List Cond := .code yX4_minimal cX4_minimal 1 (some .boolean) :: kq_T
abbrev yX4_answers : MethodName := ⟨RX4, "answers", "()Z"⟩
abbrev cX4_answers : ByteArray := prog_1_method_10_code
def wX4_answers : List Cond := .code yX4_answers cX4_answers 1 (some .boolean) :: kq_T
abbrev yX4_same : MethodName := ⟨RX4, "same", "(JII)Z"⟩
abbrev cX4_same : ByteArray := prog_1_method_11_code
def wX4_same : List Cond := .code yX4_same cX4_same 5 (some .boolean) :: kq_T
abbrev yX4_isKind : MethodName := ⟨RX4, "isKind", "(I)Z"⟩
abbrev cX4_isKind : ByteArray := prog_1_method_12_code
def wX4_isKind : List Cond := .code yX4_isKind cX4_isKind 1 (some .boolean) :: kq_T
abbrev yX4_isSize : MethodName := ⟨RX4, "isSize", "(I)Z"⟩
abbrev cX4_isSize : ByteArray := prog_1_method_13_code
def wX4_isSize : List Cond := .code yX4_isSize cX4_isSize 1 (some .boolean) :: kq_T
abbrev yX5_init : MethodName := ⟨RX5, "<init>", "(J)V"⟩
abbrev cX5_init : ByteArray := prog_8_method_1_code
def wX5_init : List Cond := .code yX5_init cX5_init 3 none :: kq_T
abbrev yX5_next : MethodName := ⟨RX5, "next", "(I)I"⟩
abbrev cX5_next : ByteArray := prog_8_method_3_code
def wX5_next : List Cond := .code yX5_next cX5_next 2 (some .int) :: kq_T
abbrev yX5_sortsOf : MethodName := ⟨RX5, "sortsOf", "(I)I"⟩
abbrev cX5_sortsOf : ByteArray := prog_8_method_4_code
def wX5_sortsOf : List Cond := .code yX5_sortsOf cX5_sortsOf 1 (some .int) :: kq_T
abbrev yX5_faultsOf : MethodName := ⟨RX5, "faultsOf", "(I)I"⟩
abbrev cX5_faultsOf : ByteArray := prog_8_method_5_code
def wX5_faultsOf : List Cond := .code yX5_faultsOf cX5_faultsOf 1 (some .int) :: kq_T
abbrev yX5_none : MethodName := ⟨RX5, "none", "(II)Z"⟩
abbrev cX5_none : ByteArray := prog_8_method_6_code
def wX5_none : List Cond := .code yX5_none cX5_none 2 (some .boolean) :: kq_T
abbrev yX5_drawX : MethodName := ⟨RX5, "drawX", "(III)J"⟩
abbrev cX5_drawX : ByteArray := prog_8_method_7_code
def wX5_drawX : List Cond := .code yX5_drawX cX5_drawX 4 (some .long) :: kq_T
abbrev yX5_drawAll : MethodName := ⟨RX5, "drawAll", "(III)V"⟩
abbrev cX5_drawAll : ByteArray := prog_8_method_8_code
def wX5_drawAll : List Cond := .code yX5_drawAll cX5_drawAll 8 none :: kq_T
abbrev yX5_draw : MethodName := ⟨RX5, "draw", "(II)I"⟩
abbrev cX5_draw : ByteArray := prog_8_method_9_code
def wX5_draw : List Cond := .code yX5_draw cX5_draw 4 (some .int) :: kq_T
abbrev yX5_same : MethodName := ⟨RX5, "same", "(JII)Z"⟩
abbrev cX5_same : ByteArray := prog_8_method_10_code
def wX5_same : List Cond := .code yX5_same cX5_same 11 (some .boolean) :: kq_T
abbrev yX5_placeOf : MethodName := ⟨RX5, "placeOf", "(I)I"⟩
abbrev cX5_placeOf : ByteArray := prog_8_method_11_code
def wX5_placeOf : List Cond := .code yX5_placeOf cX5_placeOf 3 (some .int) :: kq_T
abbrev yX5_part : MethodName := ⟨RX5, "part", "(II)J"⟩
abbrev cX5_part : ByteArray := prog_8_method_12_code
def wX5_part : List Cond := .code yX5_part cX5_part 3 (some .long) :: kq_T
abbrev yX5_type : MethodName := ⟨RX5, "type", "(I)V"⟩
abbrev cX5_type : ByteArray := prog_8_method_13_code
def wX5_type : List Cond := .code yX5_type cX5_type 2 none :: kq_T
abbrev yX5_typeNumber : MethodName := ⟨RX5, "typeNumber", "(J)V"⟩
abbrev cX5_typeNumber : ByteArray := prog_8_method_14_code
def wX5_typeNumber : List Cond := .code yX5_typeNumber cX5_typeNumber 7 none :: kq_T
abbrev yX5_letter : MethodName := ⟨RX5, "letter", "(I)I"⟩
abbrev cX5_letter : ByteArray := prog_8_method_15_code
def wX5_letter : List Cond := .code yX5_letter cX5_letter 4 (some .int) :: kq_T
abbrev yX5_signature : MethodName := ⟨RX5, "signature", "(II)I"⟩
abbrev cX5_signature : ByteArray := prog_8_method_16_code
def wX5_signature : List Cond := .code yX5_signature cX5_signature 8 (some .int) :: kq_T
abbrev yX5_planted : MethodName := ⟨RX5, "planted", "(I)I"⟩
abbrev cX5_planted : ByteArray := prog_8_method_17_code
def wX5_planted : List Cond := .code yX5_planted cX5_planted 3 (some .int) :: kq_T
abbrev yX5_verdict : MethodName := ⟨RX5, "verdict", "(IZ)V"⟩
abbrev cX5_verdict : ByteArray := prog_8_method_18_code
def wX5_verdict : List Cond := .code yX5_verdict cX5_verdict 3 none :: kq_T
abbrev yX5_pass : MethodName := ⟨RX5, "pass", "(I)Z"⟩
abbrev cX5_pass : ByteArray := prog_8_method_19_code
def wX5_pass : List Cond := .code yX5_pass cX5_pass 6 (some .boolean) :: kq_T
abbrev yX5_shorter : MethodName := ⟨RX5, "shorter", "()I"⟩
abbrev cX5_shorter : ByteArray := prog_8_method_20_code
def wX5_shorter : List Cond := .code yX5_shorter cX5_shorter 3 (some .int) :: kq_T
abbrev yX5_left : MethodName := ⟨RX5, "left", "(I)I"⟩
abbrev cX5_left : ByteArray := prog_8_method_21_code
def wX5_left : List Cond := .code yX5_left cX5_left 2 (some .int) :: kq_T
abbrev yX5_minimal : MethodName := ⟨RX5, "minimal", "()Z"⟩
abbrev cX5_minimal : ByteArray := prog_8_method_22_code
def wX5_minimal : List Cond := .code yX5_minimal cX5_minimal 3 (some .boolean) :: kq_T
abbrev yX5_answers : MethodName := ⟨RX5, "answers", "()Z"⟩
abbrev cX5_answers : ByteArray := prog_8_method_23_code
def wX5_answers : List Cond := .code yX5_answers cX5_answers 4 (some .boolean) :: kq_T
abbrev yX1_init : MethodName := ⟨RX1, "<init>", "()V"⟩
abbrev cX1_init : ByteArray := prog_2_method_1_code
def wX1_init : List Cond := .code yX1_init cX1_init 1 none :: kq_T
abbrev yX1_fill : MethodName := ⟨RX1, "fill", "(IILCarDrawer$Draws;)V"⟩
abbrev cX1_fill : ByteArray := prog_2_method_2_code
def wX1_fill : List Cond := .code yX1_fill cX1_fill 5 none :: kq_T
abbrev yX1_fillWithNought : MethodName := ⟨RX1, "fillWithNought", "()V"⟩
abbrev cX1_fillWithNought : ByteArray := prog_2_method_3_code
def wX1_fillWithNought : List Cond := .code yX1_fillWithNought cX1_fillWithNought 1 none :: kq_T
abbrev yX1_drawX : MethodName := ⟨RX1, "drawX", "(IILCarDrawer$Draws;)I"⟩
abbrev cX1_drawX : ByteArray := prog_2_method_4_code
def wX1_drawX : List Cond := .code yX1_drawX cX1_drawX 4 (some .int) :: kq_T
abbrev yX1_drawY : MethodName := ⟨RX1, "drawY", "(IILCarDrawer$Draws;)I"⟩
abbrev cX1_drawY : ByteArray := prog_2_method_5_code
def wX1_drawY : List Cond := .code yX1_drawY cX1_drawY 5 (some .int) :: kq_T
abbrev yX1_plant : MethodName := ⟨RX1, "plant", "(ILCarDrawer$Draws;)V"⟩
abbrev cX1_plant : ByteArray := prog_2_method_6_code
def wX1_plant : List Cond := .code yX1_plant cX1_plant 4 none :: kq_T
abbrev yX1_spoil : MethodName := ⟨RX1, "spoil", "(II)V"⟩
abbrev cX1_spoil : ByteArray := prog_2_method_7_code
def wX1_spoil : List Cond := .code yX1_spoil cX1_spoil 3 none :: kq_T
abbrev yX1_has : MethodName := ⟨RX1, "has", "(I)Z"⟩
abbrev cX1_has : ByteArray := prog_2_method_8_code
def wX1_has : List Cond := .code yX1_has cX1_has 2 (some .boolean) :: kq_T
abbrev yX1_number : MethodName := ⟨RX1, "number", "(II)I"⟩
abbrev cX1_number : ByteArray := prog_2_method_9_code
def wX1_number : List Cond := .code yX1_number cX1_number 3 (some .int) :: kq_T
abbrev yX1_hasEvenSum : MethodName := ⟨RX1, "hasEvenSum", "()Z"⟩
abbrev cX1_hasEvenSum : ByteArray := prog_2_method_10_code
def wX1_hasEvenSum : List Cond := .code yX1_hasEvenSum cX1_hasEvenSum 3 (some .boolean) :: kq_T
abbrev yX1_equalTo : MethodName := ⟨RX1, "equalTo", "(LCarDrawer$Drawing;)Z"⟩
abbrev cX1_equalTo : ByteArray := prog_2_method_11_code
def wX1_equalTo : List Cond := .code yX1_equalTo cX1_equalTo 3 (some .boolean) :: kq_T
abbrev yX0_init : MethodName := ⟨RX0, "<init>", "(J)V"⟩
abbrev cX0_init : ByteArray := prog_3_method_1_code
def wX0_init : List Cond := .code yX0_init cX0_init 3 none :: kq_T
abbrev yX0_startAt : MethodName := ⟨RX0, "startAt", "(J)V"⟩
abbrev cX0_startAt : ByteArray := prog_3_method_2_code
def wX0_startAt : List Cond := .code yX0_startAt cX0_startAt 3 none :: kq_T
abbrev yX0_below : MethodName := ⟨RX0, "below", "(I)I"⟩
abbrev cX0_below : ByteArray := prog_3_method_3_code
def wX0_below : List Cond := .code yX0_below cX0_below 3 (some .int) :: kq_T
abbrev yX3_init : MethodName := ⟨RX3, "<init>", "()V"⟩
abbrev cX3_init : ByteArray := prog_4_method_1_code
def wX3_init : List Cond := .code yX3_init cX3_init 1 none :: kq_T
abbrev yX3_takeAll : MethodName := ⟨RX3, "takeAll", "()V"⟩
abbrev cX3_takeAll : ByteArray := prog_4_method_2_code
def wX3_takeAll : List Cond := .code yX3_takeAll cX3_takeAll 2 none :: kq_T
abbrev yX3_numberAt : MethodName := ⟨RX3, "numberAt", "(I)I"⟩
abbrev cX3_numberAt : ByteArray := prog_4_method_3_code
def wX3_numberAt : List Cond := .code yX3_numberAt cX3_numberAt 2 (some .int) :: kq_T
abbrev yX3_holds : MethodName := ⟨RX3, "holds", "(I)Z"⟩
abbrev cX3_holds : ByteArray := prog_4_method_4_code
def wX3_holds : List Cond := .code yX3_holds cX3_holds 3 (some .boolean) :: kq_T
abbrev yX3_signature : MethodName := ⟨RX3, "signature", "()I"⟩
abbrev cX3_signature : ByteArray := prog_4_method_5_code
def wX3_signature : List Cond := .code yX3_signature cX3_signature 1 (some .int) :: kq_T
abbrev yX3_signatureWithout : MethodName := ⟨RX3, "signatureWithout", "(II)I"⟩
abbrev cX3_signatureWithout : ByteArray := prog_4_method_6_code
def wX3_signatureWithout : List Cond := .code yX3_signatureWithout cX3_signatureWithout 7 (some .int) :: kq_T
abbrev yX3_canGo : MethodName := ⟨RX3, "canGo", "(II)Z"⟩
abbrev cX3_canGo : ByteArray := prog_4_method_7_code
def wX3_canGo : List Cond := .code yX3_canGo cX3_canGo 3 (some .boolean) :: kq_T
abbrev yX3_isMinimal : MethodName := ⟨RX3, "isMinimal", "()Z"⟩
abbrev cX3_isMinimal : ByteArray := prog_4_method_8_code
def wX3_isMinimal : List Cond := .code yX3_isMinimal cX3_isMinimal 2 (some .boolean) :: kq_T
abbrev yX3_shorten : MethodName := ⟨RX3, "shorten", "()V"⟩
abbrev cX3_shorten : ByteArray := prog_4_method_9_code
def wX3_shorten : List Cond := .code yX3_shorten cX3_shorten 4 none :: kq_T
abbrev yX3_leaveOutRows : MethodName := ⟨RX3, "leaveOutRows", "(I)Z"⟩
abbrev cX3_leaveOutRows : ByteArray := prog_4_method_10_code
def wX3_leaveOutRows : List Cond := .code yX3_leaveOutRows cX3_leaveOutRows 6 (some .boolean) :: kq_T
abbrev yX3_takeOut : MethodName := ⟨RX3, "takeOut", "(II)V"⟩
abbrev cX3_takeOut : ByteArray := prog_4_method_11_code
def wX3_takeOut : List Cond := .code yX3_takeOut cX3_takeOut 5 none :: kq_T
abbrev yX3_letterAt : MethodName := ⟨RX3, "letterAt", "(I)I"⟩
abbrev cX3_letterAt : ByteArray := prog_4_method_12_code
def wX3_letterAt : List Cond := .code yX3_letterAt cX3_letterAt 5 (some .int) :: kq_T
abbrev yX3_lineLength : MethodName := ⟨RX3, "lineLength", "(I)I"⟩
abbrev cX3_lineLength : ByteArray := prog_4_method_13_code
def wX3_lineLength : List Cond := .code yX3_lineLength cX3_lineLength 4 (some .int) :: kq_T
abbrev yX3_letterOfLine : MethodName := ⟨RX3, "letterOfLine", "(II)I"⟩
abbrev cX3_letterOfLine : ByteArray := prog_4_method_14_code
def wX3_letterOfLine : List Cond := .code yX3_letterOfLine cX3_letterOfLine 7 (some .int) :: kq_T
abbrev yX6_length : MethodName := ⟨RX6, "length", "(I)I"⟩
abbrev cX6_length : ByteArray := prog_5_method_2_code
def wX6_length : List Cond := .code yX6_length cX6_length 1 (some .int) :: kq_T
abbrev yX6_letterAt : MethodName := ⟨RX6, "letterAt", "(II)I"⟩
abbrev cX6_letterAt : ByteArray := prog_5_method_3_code
def wX6_letterAt : List Cond := .code yX6_letterAt cX6_letterAt 5 (some .int) :: kq_T
abbrev yX6_digits : MethodName := ⟨RX6, "digits", "(I)I"⟩
abbrev cX6_digits : ByteArray := prog_5_method_4_code
def wX6_digits : List Cond := .code yX6_digits cX6_digits 4 (some .int) :: kq_T
abbrev yX2_init : MethodName := ⟨RX2, "<init>", "()V"⟩
abbrev cX2_init : ByteArray := prog_6_method_1_code
def wX2_init : List Cond := .code yX2_init cX2_init 1 none :: kq_T
abbrev yX2_say : MethodName := ⟨RX2, "say", "(IZ)V"⟩
abbrev cX2_say : ByteArray := prog_6_method_2_code
def wX2_say : List Cond := .code yX2_say cX2_say 3 none :: kq_T
abbrev yX2_keeps : MethodName := ⟨RX2, "keeps", "(I)Z"⟩
abbrev cX2_keeps : ByteArray := prog_6_method_3_code
def wX2_keeps : List Cond := .code yX2_keeps cX2_keeps 2 (some .boolean) :: kq_T
abbrev yX2_isSignature : MethodName := ⟨RX2, "isSignature", "(I)Z"⟩
abbrev cX2_isSignature : ByteArray := prog_6_method_4_code
def wX2_isSignature : List Cond := .code yX2_isSignature cX2_isSignature 1 (some .boolean) :: kq_T
