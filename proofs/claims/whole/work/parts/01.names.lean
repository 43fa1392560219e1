-- ===== PART A: goes FIRST, ahead of the names: the tables' words, and 'selects' of the private methods out of them =====
/-- a private method of a class that the tables say can be made, by its rows of tables_1 -/
def lw_okq (q : MethodName × Nat) : Prop := (q.1.cls ≠ "java/lang/invoke/MethodHandle" ∧ q.1.cls ≠ "java/lang/invoke/VarHandle") ∧ Cond.instantiable q.1.cls q.2 ∈ tables_1 ∧ Cond.privateMethod q.1 ∈ tables_1 ∧ Cond.instanceMethod q.1 ∈ tables_1
theorem lw_p0 : lw_okq (⟨"GrindWorks", "unitAt", "(I)LGrindWorks$Unit;"⟩, 4) := ⟨⟨by decide +kernel, by decide +kernel⟩, List.mem_of_getElem? (i := 17) (by decide +kernel), List.mem_of_getElem? (i := 300) (by decide +kernel), List.mem_of_getElem? (i := 301) (by decide +kernel)⟩
theorem lw_p1 : lw_okq (⟨"GrindWorks$Mill", "tellTenths", "(III)V"⟩, 7) := ⟨⟨by decide +kernel, by decide +kernel⟩, List.mem_of_getElem? (i := 202) (by decide +kernel), List.mem_of_getElem? (i := 355) (by decide +kernel), List.mem_of_getElem? (i := 356) (by decide +kernel)⟩
theorem lw_p2 : lw_okq (⟨"GrindWorks", "passMinute", "()V"⟩, 4) := ⟨⟨by decide +kernel, by decide +kernel⟩, List.mem_of_getElem? (i := 17) (by decide +kernel), List.mem_of_getElem? (i := 395) (by decide +kernel), List.mem_of_getElem? (i := 396) (by decide +kernel)⟩
theorem lw_p3 : lw_okq (⟨"GrindWorks$Mill", "grind", "(I)V"⟩, 7) := ⟨⟨by decide +kernel, by decide +kernel⟩, List.mem_of_getElem? (i := 202) (by decide +kernel), List.mem_of_getElem? (i := 430) (by decide +kernel), List.mem_of_getElem? (i := 431) (by decide +kernel)⟩
theorem lw_p4 : lw_okq (⟨"GrindWorks$Parter", "shareOf", "(I)I"⟩, 8) := ⟨⟨by decide +kernel, by decide +kernel⟩, List.mem_of_getElem? (i := 216) (by decide +kernel), List.mem_of_getElem? (i := 437) (by decide +kernel), List.mem_of_getElem? (i := 438) (by decide +kernel)⟩
theorem lw_p5 : lw_okq (⟨"GrindWorks$Pile", "heap", "()V"⟩, 10) := ⟨⟨by decide +kernel, by decide +kernel⟩, List.mem_of_getElem? (i := 254) (by decide +kernel), List.mem_of_getElem? (i := 448) (by decide +kernel), List.mem_of_getElem? (i := 449) (by decide +kernel)⟩
theorem lw_p6 : lw_okq (⟨"GrindWorks$Tank", "slotOfAge", "(I)I"⟩, 9) := ⟨⟨by decide +kernel, by decide +kernel⟩, List.mem_of_getElem? (i := 233) (by decide +kernel), List.mem_of_getElem? (i := 458) (by decide +kernel), List.mem_of_getElem? (i := 459) (by decide +kernel)⟩
theorem lw_p7 : lw_okq (⟨"GrindWorks", "bringWhatGave", "(ILGrindWorks$Unit;)V"⟩, 4) := ⟨⟨by decide +kernel, by decide +kernel⟩, List.mem_of_getElem? (i := 17) (by decide +kernel), List.mem_of_getElem? (i := 465) (by decide +kernel), List.mem_of_getElem? (i := 466) (by decide +kernel)⟩
theorem lw_p8 : lw_okq (⟨"GrindWorks", "controlFeed", "(LGrindWorks$Feed;)V"⟩, 4) := ⟨⟨by decide +kernel, by decide +kernel⟩, List.mem_of_getElem? (i := 17) (by decide +kernel), List.mem_of_getElem? (i := 484) (by decide +kernel), List.mem_of_getElem? (i := 485) (by decide +kernel)⟩
theorem lw_p9 : lw_okq (⟨"GrindWorks$Readings", "wanting", "()I"⟩, 2) := ⟨⟨by decide +kernel, by decide +kernel⟩, List.mem_of_getElem? (i := 88) (by decide +kernel), List.mem_of_getElem? (i := 641) (by decide +kernel), List.mem_of_getElem? (i := 642) (by decide +kernel)⟩
theorem lw_p10 : lw_okq (⟨"GrindWorks", "countFeedsThatAreOn", "()I"⟩, 4) := ⟨⟨by decide +kernel, by decide +kernel⟩, List.mem_of_getElem? (i := 17) (by decide +kernel), List.mem_of_getElem? (i := 690) (by decide +kernel), List.mem_of_getElem? (i := 691) (by decide +kernel)⟩
theorem lw_p11 : lw_okq (⟨"GrindWorksModel", "isUnit", "(I)Z"⟩, 30) := ⟨⟨by decide +kernel, by decide +kernel⟩, List.mem_of_getElem? (i := 694) (by decide +kernel), List.mem_of_getElem? (i := 804) (by decide +kernel), List.mem_of_getElem? (i := 805) (by decide +kernel)⟩
theorem lw_p12 : lw_okq (⟨"GrindWorksModel", "ports", "(I)I"⟩, 30) := ⟨⟨by decide +kernel, by decide +kernel⟩, List.mem_of_getElem? (i := 694) (by decide +kernel), List.mem_of_getElem? (i := 808) (by decide +kernel), List.mem_of_getElem? (i := 809) (by decide +kernel)⟩
theorem lw_p13 : lw_okq (⟨"GrindWorksModel", "settings", "(I)I"⟩, 30) := ⟨⟨by decide +kernel, by decide +kernel⟩, List.mem_of_getElem? (i := 694) (by decide +kernel), List.mem_of_getElem? (i := 824) (by decide +kernel), List.mem_of_getElem? (i := 825) (by decide +kernel)⟩
theorem lw_p14 : lw_okq (⟨"GrindWorksModel", "minute", "()V"⟩, 30) := ⟨⟨by decide +kernel, by decide +kernel⟩, List.mem_of_getElem? (i := 694) (by decide +kernel), List.mem_of_getElem? (i := 848) (by decide +kernel), List.mem_of_getElem? (i := 849) (by decide +kernel)⟩
theorem lw_p15 : lw_okq (⟨"GrindWorksModel", "gives", "(I)V"⟩, 30) := ⟨⟨by decide +kernel, by decide +kernel⟩, List.mem_of_getElem? (i := 694) (by decide +kernel), List.mem_of_getElem? (i := 852) (by decide +kernel), List.mem_of_getElem? (i := 853) (by decide +kernel)⟩
def lw_privs_1 : List (MethodName × Nat) := [(⟨"GrindWorks", "unitAt", "(I)LGrindWorks$Unit;"⟩, 4), (⟨"GrindWorks$Mill", "tellTenths", "(III)V"⟩, 7), (⟨"GrindWorks", "passMinute", "()V"⟩, 4), (⟨"GrindWorks$Mill", "grind", "(I)V"⟩, 7), (⟨"GrindWorks$Parter", "shareOf", "(I)I"⟩, 8), (⟨"GrindWorks$Pile", "heap", "()V"⟩, 10), (⟨"GrindWorks$Tank", "slotOfAge", "(I)I"⟩, 9), (⟨"GrindWorks", "bringWhatGave", "(ILGrindWorks$Unit;)V"⟩, 4), (⟨"GrindWorks", "controlFeed", "(LGrindWorks$Feed;)V"⟩, 4), (⟨"GrindWorks$Readings", "wanting", "()I"⟩, 2), (⟨"GrindWorks", "countFeedsThatAreOn", "()I"⟩, 4), (⟨"GrindWorksModel", "isUnit", "(I)Z"⟩, 30), (⟨"GrindWorksModel", "ports", "(I)I"⟩, 30), (⟨"GrindWorksModel", "settings", "(I)I"⟩, 30), (⟨"GrindWorksModel", "minute", "()V"⟩, 30), (⟨"GrindWorksModel", "gives", "(I)V"⟩, 30)]
theorem lw_r1 : ∀ q ∈ lw_privs_1, lw_okq q := List.forall_mem_cons.mpr ⟨lw_p0, List.forall_mem_cons.mpr ⟨lw_p1, List.forall_mem_cons.mpr ⟨lw_p2, List.forall_mem_cons.mpr ⟨lw_p3, List.forall_mem_cons.mpr ⟨lw_p4, List.forall_mem_cons.mpr ⟨lw_p5, List.forall_mem_cons.mpr ⟨lw_p6, List.forall_mem_cons.mpr ⟨lw_p7, List.forall_mem_cons.mpr ⟨lw_p8, List.forall_mem_cons.mpr ⟨lw_p9, List.forall_mem_cons.mpr ⟨lw_p10, List.forall_mem_cons.mpr ⟨lw_p11, List.forall_mem_cons.mpr ⟨lw_p12, List.forall_mem_cons.mpr ⟨lw_p13, List.forall_mem_cons.mpr ⟨lw_p14, List.forall_mem_cons.mpr ⟨lw_p15, fun _ h => absurd h List.not_mem_nil⟩⟩⟩⟩⟩⟩⟩⟩⟩⟩⟩⟩⟩⟩⟩⟩
theorem lw_p16 : lw_okq (⟨"GrindWorksModel", "outAt", "(III)I"⟩, 30) := ⟨⟨by decide +kernel, by decide +kernel⟩, List.mem_of_getElem? (i := 694) (by decide +kernel), List.mem_of_getElem? (i := 856) (by decide +kernel), List.mem_of_getElem? (i := 857) (by decide +kernel)⟩
theorem lw_p17 : lw_okq (⟨"GrindWorksModel", "mills", "(III)V"⟩, 30) := ⟨⟨by decide +kernel, by decide +kernel⟩, List.mem_of_getElem? (i := 694) (by decide +kernel), List.mem_of_getElem? (i := 860) (by decide +kernel), List.mem_of_getElem? (i := 861) (by decide +kernel)⟩
theorem lw_p18 : lw_okq (⟨"GrindWorksModel", "parts", "(II)V"⟩, 30) := ⟨⟨by decide +kernel, by decide +kernel⟩, List.mem_of_getElem? (i := 694) (by decide +kernel), List.mem_of_getElem? (i := 865) (by decide +kernel), List.mem_of_getElem? (i := 866) (by decide +kernel)⟩
theorem lw_p19 : lw_okq (⟨"GrindWorksModel", "tanks", "(I)V"⟩, 30) := ⟨⟨by decide +kernel, by decide +kernel⟩, List.mem_of_getElem? (i := 694) (by decide +kernel), List.mem_of_getElem? (i := 869) (by decide +kernel), List.mem_of_getElem? (i := 870) (by decide +kernel)⟩
theorem lw_p20 : lw_okq (⟨"GrindWorksModel", "slotAt", "(III)I"⟩, 30) := ⟨⟨by decide +kernel, by decide +kernel⟩, List.mem_of_getElem? (i := 694) (by decide +kernel), List.mem_of_getElem? (i := 873) (by decide +kernel), List.mem_of_getElem? (i := 874) (by decide +kernel)⟩
theorem lw_p21 : lw_okq (⟨"GrindWorksModel", "piles", "(I)V"⟩, 30) := ⟨⟨by decide +kernel, by decide +kernel⟩, List.mem_of_getElem? (i := 694) (by decide +kernel), List.mem_of_getElem? (i := 877) (by decide +kernel), List.mem_of_getElem? (i := 878) (by decide +kernel)⟩
theorem lw_p22 : lw_okq (⟨"GrindWorksModel", "sumOf", "(I)I"⟩, 30) := ⟨⟨by decide +kernel, by decide +kernel⟩, List.mem_of_getElem? (i := 694) (by decide +kernel), List.mem_of_getElem? (i := 881) (by decide +kernel), List.mem_of_getElem? (i := 882) (by decide +kernel)⟩
theorem lw_p23 : lw_okq (⟨"GrindWorksModel", "lotAt", "(III)I"⟩, 30) := ⟨⟨by decide +kernel, by decide +kernel⟩, List.mem_of_getElem? (i := 694) (by decide +kernel), List.mem_of_getElem? (i := 885) (by decide +kernel), List.mem_of_getElem? (i := 886) (by decide +kernel)⟩
theorem lw_p24 : lw_okq (⟨"GrindWorksModel", "lotSum", "(II)I"⟩, 30) := ⟨⟨by decide +kernel, by decide +kernel⟩, List.mem_of_getElem? (i := 694) (by decide +kernel), List.mem_of_getElem? (i := 889) (by decide +kernel), List.mem_of_getElem? (i := 890) (by decide +kernel)⟩
theorem lw_p25 : lw_okq (⟨"GrindWorksModel", "comes", "(II)V"⟩, 30) := ⟨⟨by decide +kernel, by decide +kernel⟩, List.mem_of_getElem? (i := 694) (by decide +kernel), List.mem_of_getElem? (i := 893) (by decide +kernel), List.mem_of_getElem? (i := 894) (by decide +kernel)⟩
theorem lw_p26 : lw_okq (⟨"GrindWorksModel", "levelOf", "(I)I"⟩, 30) := ⟨⟨by decide +kernel, by decide +kernel⟩, List.mem_of_getElem? (i := 694) (by decide +kernel), List.mem_of_getElem? (i := 897) (by decide +kernel), List.mem_of_getElem? (i := 898) (by decide +kernel)⟩
theorem lw_p27 : lw_okq (⟨"GrindWorksModel", "lotSums", "(I)I"⟩, 30) := ⟨⟨by decide +kernel, by decide +kernel⟩, List.mem_of_getElem? (i := 694) (by decide +kernel), List.mem_of_getElem? (i := 909) (by decide +kernel), List.mem_of_getElem? (i := 910) (by decide +kernel)⟩
theorem lw_p28 : lw_okq (⟨"GrindWorksModel", "spiltOf", "(I)J"⟩, 30) := ⟨⟨by decide +kernel, by decide +kernel⟩, List.mem_of_getElem? (i := 694) (by decide +kernel), List.mem_of_getElem? (i := 913) (by decide +kernel), List.mem_of_getElem? (i := 914) (by decide +kernel)⟩
theorem lw_p29 : lw_okq (⟨"GrindWorksModel", "gave", "(II)I"⟩, 30) := ⟨⟨by decide +kernel, by decide +kernel⟩, List.mem_of_getElem? (i := 694) (by decide +kernel), List.mem_of_getElem? (i := 917) (by decide +kernel), List.mem_of_getElem? (i := 918) (by decide +kernel)⟩
theorem lw_p30 : lw_okq (⟨"GrindWorksModel", "within", "(II)J"⟩, 30) := ⟨⟨by decide +kernel, by decide +kernel⟩, List.mem_of_getElem? (i := 694) (by decide +kernel), List.mem_of_getElem? (i := 927) (by decide +kernel), List.mem_of_getElem? (i := 928) (by decide +kernel)⟩
theorem lw_p31 : lw_okq (⟨"GrindWorksModel", "isRead", "(I)Z"⟩, 30) := ⟨⟨by decide +kernel, by decide +kernel⟩, List.mem_of_getElem? (i := 694) (by decide +kernel), List.mem_of_getElem? (i := 939) (by decide +kernel), List.mem_of_getElem? (i := 940) (by decide +kernel)⟩
def lw_privs_2 : List (MethodName × Nat) := [(⟨"GrindWorksModel", "outAt", "(III)I"⟩, 30), (⟨"GrindWorksModel", "mills", "(III)V"⟩, 30), (⟨"GrindWorksModel", "parts", "(II)V"⟩, 30), (⟨"GrindWorksModel", "tanks", "(I)V"⟩, 30), (⟨"GrindWorksModel", "slotAt", "(III)I"⟩, 30), (⟨"GrindWorksModel", "piles", "(I)V"⟩, 30), (⟨"GrindWorksModel", "sumOf", "(I)I"⟩, 30), (⟨"GrindWorksModel", "lotAt", "(III)I"⟩, 30), (⟨"GrindWorksModel", "lotSum", "(II)I"⟩, 30), (⟨"GrindWorksModel", "comes", "(II)V"⟩, 30), (⟨"GrindWorksModel", "levelOf", "(I)I"⟩, 30), (⟨"GrindWorksModel", "lotSums", "(I)I"⟩, 30), (⟨"GrindWorksModel", "spiltOf", "(I)J"⟩, 30), (⟨"GrindWorksModel", "gave", "(II)I"⟩, 30), (⟨"GrindWorksModel", "within", "(II)J"⟩, 30), (⟨"GrindWorksModel", "isRead", "(I)Z"⟩, 30)]
theorem lw_r2 : ∀ q ∈ lw_privs_2, lw_okq q := List.forall_mem_cons.mpr ⟨lw_p16, List.forall_mem_cons.mpr ⟨lw_p17, List.forall_mem_cons.mpr ⟨lw_p18, List.forall_mem_cons.mpr ⟨lw_p19, List.forall_mem_cons.mpr ⟨lw_p20, List.forall_mem_cons.mpr ⟨lw_p21, List.forall_mem_cons.mpr ⟨lw_p22, List.forall_mem_cons.mpr ⟨lw_p23, List.forall_mem_cons.mpr ⟨lw_p24, List.forall_mem_cons.mpr ⟨lw_p25, List.forall_mem_cons.mpr ⟨lw_p26, List.forall_mem_cons.mpr ⟨lw_p27, List.forall_mem_cons.mpr ⟨lw_p28, List.forall_mem_cons.mpr ⟨lw_p29, List.forall_mem_cons.mpr ⟨lw_p30, List.forall_mem_cons.mpr ⟨lw_p31, fun _ h => absurd h List.not_mem_nil⟩⟩⟩⟩⟩⟩⟩⟩⟩⟩⟩⟩⟩⟩⟩⟩
def lw_privs : List (MethodName × Nat) := lw_privs_1 ++ (lw_privs_2)
def lw_tbl : List Cond := k2_sels lw_privs ++ tables_1
theorem lw_privs_ok : ∀ q ∈ lw_privs, lw_okq q := by
  show ∀ q ∈ lw_privs_1 ++ (lw_privs_2), lw_okq q
  exact List.forall_mem_append.mpr ⟨lw_r1, lw_r2⟩
def RX0 : String := "GrindWorks$End"
def TX0 : u_T := fun k => match k with
  | 0 => ("GrindWorks$Unit", "kind", "I", true)
  | 1 => ("GrindWorks$Unit", "held", "[I", true)
  | 2 => ("GrindWorks$Unit", "spilt", "[I", true)
  | 3 => ("GrindWorks$Unit", "leads", "[I", true)
  | 4 => ("GrindWorks$Unit", "given", "[[I", true)
  | 5 => ("GrindWorks$Unit", "numbers", "[I", true)
  | 6 => ("GrindWorks$Unit", "readings", "LGrindWorks$Readings;", true)
  | _ => ("GrindWorks$End", "came", "[[I", true)
def tyX0 : Nat → FieldType := fun k => match k with
  | 0 => .int
  | 1 => .array .int
  | 2 => .array .int
  | 3 => .array .int
  | 4 => .array (.array .int)
  | 5 => .array .int
  | 6 => .object "GrindWorks$Readings"
  | _ => .array (.array .int)
theorem nmX0 : ∀ a, a < 8 → ∀ b, b < 8 → a ≠ b → (TX0 a).2.1 ≠ (TX0 b).2.1 := by decide +kernel
theorem tyX0_ok : ∀ k, k < 8 → parseFieldDescriptor (TX0 k).2.2.1 = some (tyX0 k) := by decide +kernel
abbrev cX0_init : ByteArray := prog_2_method_1_code
def yX0_init : MethodName := ⟨RX0, "<init>", "()V"⟩
abbrev cX0_give : ByteArray := prog_2_method_2_code
def yX0_give : MethodName := ⟨RX0, "give", "()V"⟩
abbrev cX0_take : ByteArray := prog_2_method_3_code
def yX0_take : MethodName := ⟨RX0, "take", "(I[I)V"⟩
abbrev cX0_cameFrom : ByteArray := prog_2_method_4_code
def yX0_cameFrom : MethodName := ⟨RX0, "cameFrom", "(II)I"⟩
def RX1 : String := "GrindWorks$Feed"
def TX1 : u_T := fun k => match k with
  | 0 => ("GrindWorks$Unit", "kind", "I", true)
  | 1 => ("GrindWorks$Unit", "held", "[I", true)
  | 2 => ("GrindWorks$Unit", "spilt", "[I", true)
  | 3 => ("GrindWorks$Unit", "leads", "[I", true)
  | 4 => ("GrindWorks$Unit", "given", "[[I", true)
  | 5 => ("GrindWorks$Unit", "numbers", "[I", true)
  | 6 => ("GrindWorks$Unit", "readings", "LGrindWorks$Readings;", true)
  | 7 => ("GrindWorks$Feed", "fed", "[I", true)
  | 8 => ("GrindWorks$Feed", "on", "Z", false)
  | 9 => ("GrindWorks$Feed", "controller", "I", false)
  | 10 => ("GrindWorks$Feed", "stopAbove", "I", false)
  | _ => ("GrindWorks$Feed", "startBelow", "I", false)
def tyX1 : Nat → FieldType := fun k => match k with
  | 0 => .int
  | 1 => .array .int
  | 2 => .array .int
  | 3 => .array .int
  | 4 => .array (.array .int)
  | 5 => .array .int
  | 6 => .object "GrindWorks$Readings"
  | 7 => .array .int
  | 8 => .boolean
  | 9 => .int
  | 10 => .int
  | _ => .int
theorem nmX1 : ∀ a, a < 12 → ∀ b, b < 12 → a ≠ b → (TX1 a).2.1 ≠ (TX1 b).2.1 := by decide +kernel
theorem tyX1_ok : ∀ k, k < 12 → parseFieldDescriptor (TX1 k).2.2.1 = some (tyX1 k) := by decide +kernel
abbrev cX1_init : ByteArray := prog_3_method_1_code
def yX1_init : MethodName := ⟨RX1, "<init>", "()V"⟩
abbrev cX1_give : ByteArray := prog_3_method_2_code
def yX1_give : MethodName := ⟨RX1, "give", "()V"⟩
abbrev cX1_controlBy : ByteArray := prog_3_method_3_code
def yX1_controlBy : MethodName := ⟨RX1, "controlBy", "(III)V"⟩
abbrev cX1_obey : ByteArray := prog_3_method_4_code
def yX1_obey : MethodName := ⟨RX1, "obey", "(I)V"⟩
def RX2 : String := "GrindWorks$Join"
def TX2 : u_T := fun k => match k with
  | 0 => ("GrindWorks$Unit", "kind", "I", true)
  | 1 => ("GrindWorks$Unit", "held", "[I", true)
  | 2 => ("GrindWorks$Unit", "spilt", "[I", true)
  | 3 => ("GrindWorks$Unit", "leads", "[I", true)
  | 4 => ("GrindWorks$Unit", "given", "[[I", true)
  | 5 => ("GrindWorks$Unit", "numbers", "[I", true)
  | _ => ("GrindWorks$Unit", "readings", "LGrindWorks$Readings;", true)
def tyX2 : Nat → FieldType := fun k => match k with
  | 0 => .int
  | 1 => .array .int
  | 2 => .array .int
  | 3 => .array .int
  | 4 => .array (.array .int)
  | 5 => .array .int
  | _ => .object "GrindWorks$Readings"
theorem nmX2 : ∀ a, a < 7 → ∀ b, b < 7 → a ≠ b → (TX2 a).2.1 ≠ (TX2 b).2.1 := by decide +kernel
theorem tyX2_ok : ∀ k, k < 7 → parseFieldDescriptor (TX2 k).2.2.1 = some (tyX2 k) := by decide +kernel
abbrev cX2_init : ByteArray := prog_4_method_1_code
def yX2_init : MethodName := ⟨RX2, "<init>", "()V"⟩
abbrev cX2_give : ByteArray := prog_4_method_2_code
def yX2_give : MethodName := ⟨RX2, "give", "()V"⟩
def RX3 : String := "GrindWorks$Loads"
def TX3 : u_T := fun k => match k with
  | 0 => ("GrindWorks$Loads", "weights", "[I", true)
  | 1 => ("GrindWorks$Loads", "goods", "[I", true)
  | 2 => ("GrindWorks$Loads", "prices", "[I", true)
  | _ => ("GrindWorks$Loads", "count", "I", false)
def tyX3 : Nat → FieldType := fun k => match k with
  | 0 => .array .int
  | 1 => .array .int
  | 2 => .array .int
  | _ => .int
theorem nmX3 : ∀ a, a < 4 → ∀ b, b < 4 → a ≠ b → (TX3 a).2.1 ≠ (TX3 b).2.1 := by decide +kernel
theorem tyX3_ok : ∀ k, k < 4 → parseFieldDescriptor (TX3 k).2.2.1 = some (tyX3 k) := by decide +kernel
abbrev cX3_init : ByteArray := prog_5_method_1_code
def yX3_init : MethodName := ⟨RX3, "<init>", "()V"⟩
abbrev cX3_isGood : ByteArray := prog_5_method_2_code
def yX3_isGood : MethodName := ⟨RX3, "isGood", "(III)Z"⟩
abbrev cX3_isFull : ByteArray := prog_5_method_3_code
def yX3_isFull : MethodName := ⟨RX3, "isFull", "()Z"⟩
abbrev cX3_put : ByteArray := prog_5_method_4_code
def yX3_put : MethodName := ⟨RX3, "put", "(III)I"⟩
abbrev cX3_clear : ByteArray := prog_5_method_5_code
def yX3_clear : MethodName := ⟨RX3, "clear", "()I"⟩
abbrev cX3_choose : ByteArray := prog_5_method_6_code
def yX3_choose : MethodName := ⟨RX3, "choose", "(III)I"⟩
def RX4 : String := "GrindWorks$Mill"
def TX4 : u_T := fun k => match k with
  | 0 => ("GrindWorks$Unit", "kind", "I", true)
  | 1 => ("GrindWorks$Unit", "held", "[I", true)
  | 2 => ("GrindWorks$Unit", "spilt", "[I", true)
  | 3 => ("GrindWorks$Unit", "leads", "[I", true)
  | 4 => ("GrindWorks$Unit", "given", "[[I", true)
  | 5 => ("GrindWorks$Unit", "numbers", "[I", true)
  | _ => ("GrindWorks$Unit", "readings", "LGrindWorks$Readings;", true)
def tyX4 : Nat → FieldType := fun k => match k with
  | 0 => .int
  | 1 => .array .int
  | 2 => .array .int
  | 3 => .array .int
  | 4 => .array (.array .int)
  | 5 => .array .int
  | _ => .object "GrindWorks$Readings"
theorem nmX4 : ∀ a, a < 7 → ∀ b, b < 7 → a ≠ b → (TX4 a).2.1 ≠ (TX4 b).2.1 := by decide +kernel
theorem tyX4_ok : ∀ k, k < 7 → parseFieldDescriptor (TX4 k).2.2.1 = some (tyX4 k) := by decide +kernel
abbrev cX4_init : ByteArray := prog_6_method_1_code
def yX4_init : MethodName := ⟨RX4, "<init>", "()V"⟩
abbrev cX4_breakSize : ByteArray := prog_6_method_2_code
def yX4_breakSize : MethodName := ⟨RX4, "breakSize", "(IIII)V"⟩
abbrev cX4_tellTenths : ByteArray := prog_6_method_3_code
def yX4_tellTenths : MethodName := ⟨RX4, "tellTenths", "(III)V"⟩
abbrev cX4_give : ByteArray := prog_6_method_4_code
def yX4_give : MethodName := ⟨RX4, "give", "()V"⟩
abbrev cX4_grind : ByteArray := prog_6_method_5_code
def yX4_grind : MethodName := ⟨RX4, "grind", "(I)V"⟩
def RX5 : String := "GrindWorks$Parter"
def TX5 : u_T := fun k => match k with
  | 0 => ("GrindWorks$Unit", "kind", "I", true)
  | 1 => ("GrindWorks$Unit", "held", "[I", true)
  | 2 => ("GrindWorks$Unit", "spilt", "[I", true)
  | 3 => ("GrindWorks$Unit", "leads", "[I", true)
  | 4 => ("GrindWorks$Unit", "given", "[[I", true)
  | 5 => ("GrindWorks$Unit", "numbers", "[I", true)
  | 6 => ("GrindWorks$Unit", "readings", "LGrindWorks$Readings;", true)
  | _ => ("GrindWorks$Parter", "rests", "[I", true)
def tyX5 : Nat → FieldType := fun k => match k with
  | 0 => .int
  | 1 => .array .int
  | 2 => .array .int
  | 3 => .array .int
  | 4 => .array (.array .int)
  | 5 => .array .int
  | 6 => .object "GrindWorks$Readings"
  | _ => .array .int
theorem nmX5 : ∀ a, a < 8 → ∀ b, b < 8 → a ≠ b → (TX5 a).2.1 ≠ (TX5 b).2.1 := by decide +kernel
theorem tyX5_ok : ∀ k, k < 8 → parseFieldDescriptor (TX5 k).2.2.1 = some (tyX5 k) := by decide +kernel
abbrev cX5_init : ByteArray := prog_7_method_1_code
def yX5_init : MethodName := ⟨RX5, "<init>", "(I)V"⟩
abbrev cX5_give : ByteArray := prog_7_method_2_code
def yX5_give : MethodName := ⟨RX5, "give", "()V"⟩
abbrev cX5_shareOf : ByteArray := prog_7_method_3_code
def yX5_shareOf : MethodName := ⟨RX5, "shareOf", "(I)I"⟩
def RX6 : String := "GrindWorks$Pile"
def TX6 : u_T := fun k => match k with
  | 0 => ("GrindWorks$Unit", "kind", "I", true)
  | 1 => ("GrindWorks$Unit", "held", "[I", true)
  | 2 => ("GrindWorks$Unit", "spilt", "[I", true)
  | 3 => ("GrindWorks$Unit", "leads", "[I", true)
  | 4 => ("GrindWorks$Unit", "given", "[[I", true)
  | 5 => ("GrindWorks$Unit", "numbers", "[I", true)
  | 6 => ("GrindWorks$Unit", "readings", "LGrindWorks$Readings;", true)
  | 7 => ("GrindWorks$Pile", "lots", "[[I", true)
  | 8 => ("GrindWorks$Pile", "first", "I", false)
  | _ => ("GrindWorks$Pile", "lotsThere", "I", false)
def tyX6 : Nat → FieldType := fun k => match k with
  | 0 => .int
  | 1 => .array .int
  | 2 => .array .int
  | 3 => .array .int
  | 4 => .array (.array .int)
  | 5 => .array .int
  | 6 => .object "GrindWorks$Readings"
  | 7 => .array (.array .int)
  | 8 => .int
  | _ => .int
theorem nmX6 : ∀ a, a < 10 → ∀ b, b < 10 → a ≠ b → (TX6 a).2.1 ≠ (TX6 b).2.1 := by decide +kernel
theorem tyX6_ok : ∀ k, k < 10 → parseFieldDescriptor (TX6 k).2.2.1 = some (tyX6 k) := by decide +kernel
abbrev cX6_init : ByteArray := prog_8_method_1_code
def yX6_init : MethodName := ⟨RX6, "<init>", "()V"⟩
abbrev cX6_give : ByteArray := prog_8_method_2_code
def yX6_give : MethodName := ⟨RX6, "give", "()V"⟩
abbrev cX6_heap : ByteArray := prog_8_method_3_code
def yX6_heap : MethodName := ⟨RX6, "heap", "()V"⟩
abbrev cX6_inLots : ByteArray := prog_8_method_4_code
def yX6_inLots : MethodName := ⟨RX6, "inLots", "()I"⟩
abbrev cX6_lotCount : ByteArray := prog_8_method_5_code
def yX6_lotCount : MethodName := ⟨RX6, "lotCount", "()I"⟩
abbrev cX6_storedOfStuff : ByteArray := prog_8_method_6_code
def yX6_storedOfStuff : MethodName := ⟨RX6, "storedOfStuff", "(I)I"⟩
def RX7 : String := "GrindWorks$Readings"
def TX7 : u_T := fun k => match k with
  | 0 => ("GrindWorks$Readings", "numbers", "[I", true)
  | _ => ("GrindWorks$Readings", "doubts", "[I", true)
def tyX7 : Nat → FieldType := fun k => match k with
  | 0 => .array .int
  | _ => .array .int
theorem nmX7 : ∀ a, a < 2 → ∀ b, b < 2 → a ≠ b → (TX7 a).2.1 ≠ (TX7 b).2.1 := by decide +kernel
theorem tyX7_ok : ∀ k, k < 2 → parseFieldDescriptor (TX7 k).2.2.1 = some (tyX7 k) := by decide +kernel
abbrev cX7_init : ByteArray := prog_9_method_1_code
def yX7_init : MethodName := ⟨RX7, "<init>", "(I)V"⟩
abbrev cX7_has : ByteArray := prog_9_method_2_code
def yX7_has : MethodName := ⟨RX7, "has", "(I)Z"⟩
abbrev cX7_areGood : ByteArray := prog_9_method_3_code
def yX7_areGood : MethodName := ⟨RX7, "areGood", "(II)Z"⟩
abbrev cX7_put : ByteArray := prog_9_method_4_code
def yX7_put : MethodName := ⟨RX7, "put", "(III)V"⟩
abbrev cX7_closing : ByteArray := prog_9_method_5_code
def yX7_closing : MethodName := ⟨RX7, "closing", "(IZ)J"⟩
abbrev cX7_wanting : ByteArray := prog_9_method_6_code
def yX7_wanting : MethodName := ⟨RX7, "wanting", "()I"⟩
abbrev cX7_commonDivisor : ByteArray := prog_9_method_7_code
def yX7_commonDivisor : MethodName := ⟨RX7, "commonDivisor", "(JJ)J"⟩
def RX8 : String := "GrindWorks$Tank"
def TX8 : u_T := fun k => match k with
  | 0 => ("GrindWorks$Unit", "kind", "I", true)
  | 1 => ("GrindWorks$Unit", "held", "[I", true)
  | 2 => ("GrindWorks$Unit", "spilt", "[I", true)
  | 3 => ("GrindWorks$Unit", "leads", "[I", true)
  | 4 => ("GrindWorks$Unit", "given", "[[I", true)
  | 5 => ("GrindWorks$Unit", "numbers", "[I", true)
  | 6 => ("GrindWorks$Unit", "readings", "LGrindWorks$Readings;", true)
  | 7 => ("GrindWorks$Tank", "slots", "[[I", true)
  | _ => ("GrindWorks$Tank", "latest", "I", false)
def tyX8 : Nat → FieldType := fun k => match k with
  | 0 => .int
  | 1 => .array .int
  | 2 => .array .int
  | 3 => .array .int
  | 4 => .array (.array .int)
  | 5 => .array .int
  | 6 => .object "GrindWorks$Readings"
  | 7 => .array (.array .int)
  | _ => .int
theorem nmX8 : ∀ a, a < 9 → ∀ b, b < 9 → a ≠ b → (TX8 a).2.1 ≠ (TX8 b).2.1 := by decide +kernel
theorem tyX8_ok : ∀ k, k < 9 → parseFieldDescriptor (TX8 k).2.2.1 = some (tyX8 k) := by decide +kernel
abbrev cX8_init : ByteArray := prog_10_method_1_code
def yX8_init : MethodName := ⟨RX8, "<init>", "()V"⟩
abbrev cX8_give : ByteArray := prog_10_method_2_code
def yX8_give : MethodName := ⟨RX8, "give", "()V"⟩
abbrev cX8_slotOfAge : ByteArray := prog_10_method_3_code
def yX8_slotOfAge : MethodName := ⟨RX8, "slotOfAge", "(I)I"⟩
abbrev cX8_inSlots : ByteArray := prog_10_method_4_code
def yX8_inSlots : MethodName := ⟨RX8, "inSlots", "()I"⟩
abbrev cX8_storedOfStuff : ByteArray := prog_10_method_5_code
def yX8_storedOfStuff : MethodName := ⟨RX8, "storedOfStuff", "(I)I"⟩
def RX9 : String := "GrindWorks$Unit"
def TX9 : u_T := fun k => match k with
  | _ => ("", "", "", false)
def tyX9 : Nat → FieldType := fun k => match k with
  | _ => .int
theorem nmX9 : ∀ a, a < 0 → ∀ b, b < 0 → a ≠ b → (TX9 a).2.1 ≠ (TX9 b).2.1 := by decide +kernel
theorem tyX9_ok : ∀ k, k < 0 → parseFieldDescriptor (TX9 k).2.2.1 = some (tyX9 k) := by decide +kernel
abbrev cX9_init : ByteArray := prog_11_method_1_code
def yX9_init : MethodName := ⟨RX9, "<init>", "(I)V"⟩
abbrev cX9_take : ByteArray := prog_11_method_3_code
def yX9_take : MethodName := ⟨RX9, "take", "(I[I)V"⟩
abbrev cX9_inSlots : ByteArray := prog_11_method_4_code
def yX9_inSlots : MethodName := ⟨RX9, "inSlots", "()I"⟩
abbrev cX9_inLots : ByteArray := prog_11_method_5_code
def yX9_inLots : MethodName := ⟨RX9, "inLots", "()I"⟩
abbrev cX9_lotCount : ByteArray := prog_11_method_6_code
def yX9_lotCount : MethodName := ⟨RX9, "lotCount", "()I"⟩
abbrev cX9_storedOfStuff : ByteArray := prog_11_method_7_code
def yX9_storedOfStuff : MethodName := ⟨RX9, "storedOfStuff", "(I)I"⟩
abbrev cX9_hasPort : ByteArray := prog_11_method_8_code
def yX9_hasPort : MethodName := ⟨RX9, "hasPort", "(I)Z"⟩
abbrev cX9_hasNumber : ByteArray := prog_11_method_9_code
def yX9_hasNumber : MethodName := ⟨RX9, "hasNumber", "(I)Z"⟩
abbrev cX9_change : ByteArray := prog_11_method_10_code
def yX9_change : MethodName := ⟨RX9, "change", "(II)I"⟩
abbrev cX9_leadOf : ByteArray := prog_11_method_11_code
def yX9_leadOf : MethodName := ⟨RX9, "leadOf", "(I)I"⟩
abbrev cX9_gaveBy : ByteArray := prog_11_method_12_code
def yX9_gaveBy : MethodName := ⟨RX9, "gaveBy", "(I)I"⟩
def RX10 : String := "GrindWorks"
def TX10 : u_T := fun k => match k with
  | 0 => ("GrindWorks", "units", "[LGrindWorks$Unit;", true)
  | 1 => ("GrindWorks", "loads", "LGrindWorks$Loads;", true)
  | 2 => ("GrindWorks", "unitCount", "I", false)
  | _ => ("GrindWorks", "minutes", "I", false)
def tyX10 : Nat → FieldType := fun k => match k with
  | 0 => .array (.object "GrindWorks$Unit")
  | 1 => .object "GrindWorks$Loads"
  | 2 => .int
  | _ => .int
theorem nmX10 : ∀ a, a < 4 → ∀ b, b < 4 → a ≠ b → (TX10 a).2.1 ≠ (TX10 b).2.1 := by decide +kernel
theorem tyX10_ok : ∀ k, k < 4 → parseFieldDescriptor (TX10 k).2.2.1 = some (tyX10 k) := by decide +kernel
abbrev cX10_init : ByteArray := prog_1_method_1_code
def yX10_init : MethodName := ⟨RX10, "<init>", "()V"⟩
abbrev cX10_unit : ByteArray := prog_1_method_2_code
def yX10_unit : MethodName := ⟨RX10, "unit", "(I)I"⟩
abbrev cX10_lead : ByteArray := prog_1_method_3_code
def yX10_lead : MethodName := ⟨RX10, "lead", "(III)I"⟩
abbrev cX10_rate : ByteArray := prog_1_method_4_code
def yX10_rate : MethodName := ⟨RX10, "rate", "(III)I"⟩
abbrev cX10_table : ByteArray := prog_1_method_5_code
def yX10_table : MethodName := ⟨RX10, "table", "(IIIII)I"⟩
abbrev cX10_set : ByteArray := prog_1_method_6_code
def yX10_set : MethodName := ⟨RX10, "set", "(III)I"⟩
abbrev cX10_control : ByteArray := prog_1_method_7_code
def yX10_control : MethodName := ⟨RX10, "control", "(IIII)I"⟩
abbrev cX10_turn : ByteArray := prog_1_method_8_code
def yX10_turn : MethodName := ⟨RX10, "turn", "(II)I"⟩
abbrev cX10_run : ByteArray := prog_1_method_9_code
def yX10_run : MethodName := ⟨RX10, "run", "(I)I"⟩
abbrev cX10_hold : ByteArray := prog_1_method_10_code
def yX10_hold : MethodName := ⟨RX10, "hold", "(II)I"⟩
abbrev cX10_about : ByteArray := prog_1_method_11_code
def yX10_about : MethodName := ⟨RX10, "about", "(II)I"⟩
abbrev cX10_told : ByteArray := prog_1_method_12_code
def yX10_told : MethodName := ⟨RX10, "told", "(II)I"⟩
abbrev cX10_sum : ByteArray := prog_1_method_13_code
def yX10_sum : MethodName := ⟨RX10, "sum", "(II)J"⟩
abbrev cX10_ledBack : ByteArray := prog_1_method_14_code
def yX10_ledBack : MethodName := ⟨RX10, "ledBack", "(IIII)J"⟩
abbrev cX10_reading : ByteArray := prog_1_method_15_code
def yX10_reading : MethodName := ⟨RX10, "reading", "(IIII)I"⟩
abbrev cX10_close : ByteArray := prog_1_method_16_code
def yX10_close : MethodName := ⟨RX10, "close", "(III)J"⟩
abbrev cX10_load : ByteArray := prog_1_method_17_code
def yX10_load : MethodName := ⟨RX10, "load", "(III)I"⟩
abbrev cX10_unload : ByteArray := prog_1_method_18_code
def yX10_unload : MethodName := ⟨RX10, "unload", "()I"⟩
abbrev cX10_blend : ByteArray := prog_1_method_19_code
def yX10_blend : MethodName := ⟨RX10, "blend", "(III)I"⟩
abbrev cX10_count : ByteArray := prog_1_method_20_code
def yX10_count : MethodName := ⟨RX10, "count", "(I)I"⟩
abbrev cX10_newUnit : ByteArray := prog_1_method_21_code
def yX10_newUnit : MethodName := ⟨RX10, "newUnit", "(I)LGrindWorks$Unit;"⟩
abbrev cX10_unitAt : ByteArray := prog_1_method_22_code
def yX10_unitAt : MethodName := ⟨RX10, "unitAt", "(I)LGrindWorks$Unit;"⟩
abbrev cX10_isCell : ByteArray := prog_1_method_23_code
def yX10_isCell : MethodName := ⟨RX10, "isCell", "(I)Z"⟩
abbrev cX10_isSize : ByteArray := prog_1_method_24_code
def yX10_isSize : MethodName := ⟨RX10, "isSize", "(I)Z"⟩
abbrev cX10_isStuff : ByteArray := prog_1_method_25_code
def yX10_isStuff : MethodName := ⟨RX10, "isStuff", "(I)Z"⟩
abbrev cX10_isLevel : ByteArray := prog_1_method_26_code
def yX10_isLevel : MethodName := ⟨RX10, "isLevel", "(I)Z"⟩
abbrev cX10_areTenths : ByteArray := prog_1_method_27_code
def yX10_areTenths : MethodName := ⟨RX10, "areTenths", "(III)Z"⟩
abbrev cX10_hasSizesFor : ByteArray := prog_1_method_28_code
def yX10_hasSizesFor : MethodName := ⟨RX10, "hasSizesFor", "(IIII)Z"⟩
abbrev cX10_passMinute : ByteArray := prog_1_method_29_code
def yX10_passMinute : MethodName := ⟨RX10, "passMinute", "()V"⟩
abbrev cX10_bringWhatGave : ByteArray := prog_1_method_30_code
def yX10_bringWhatGave : MethodName := ⟨RX10, "bringWhatGave", "(ILGrindWorks$Unit;)V"⟩
abbrev cX10_controlFeed : ByteArray := prog_1_method_31_code
def yX10_controlFeed : MethodName := ⟨RX10, "controlFeed", "(LGrindWorks$Feed;)V"⟩
abbrev cX10_isFeedThatIsOn : ByteArray := prog_1_method_32_code
def yX10_isFeedThatIsOn : MethodName := ⟨RX10, "isFeedThatIsOn", "(LGrindWorks$Unit;)Z"⟩
abbrev cX10_countFeedsThatAreOn : ByteArray := prog_1_method_33_code
def yX10_countFeedsThatAreOn : MethodName := ⟨RX10, "countFeedsThatAreOn", "()I"⟩
abbrev cX10_shareOfSum : ByteArray := prog_1_method_34_code
def yX10_shareOfSum : MethodName := ⟨RX10, "shareOfSum", "(LGrindWorks$Unit;II)J"⟩
abbrev cX10_total : ByteArray := prog_1_method_35_code
def yX10_total : MethodName := ⟨RX10, "total", "([I)I"⟩
abbrev cX10_totalOfStuff : ByteArray := prog_1_method_36_code
def yX10_totalOfStuff : MethodName := ⟨RX10, "totalOfStuff", "([II)I"⟩
abbrev cX10_totalOfRows : ByteArray := prog_1_method_37_code
def yX10_totalOfRows : MethodName := ⟨RX10, "totalOfRows", "([[I)I"⟩
abbrev cX10_totalOfStuffInRows : ByteArray := prog_1_method_38_code
def yX10_totalOfStuffInRows : MethodName := ⟨RX10, "totalOfStuffInRows", "([[II)I"⟩
abbrev cX10_add : ByteArray := prog_1_method_39_code
def yX10_add : MethodName := ⟨RX10, "add", "([I[I)V"⟩
abbrev cX10_move : ByteArray := prog_1_method_40_code
def yX10_move : MethodName := ⟨RX10, "move", "([I[I)V"⟩
def RX11 : String := "GrindWorksModel"
def TX11 : u_T := fun k => match k with
  | 0 => ("GrindWorksModel", "units", "I", false)
  | 1 => ("GrindWorksModel", "minutes", "I", false)
  | 2 => ("GrindWorksModel", "loads", "I", false)
  | 3 => ("GrindWorksModel", "kind", "[I", true)
  | 4 => ("GrindWorksModel", "leads", "[I", true)
  | 5 => ("GrindWorksModel", "hold", "[I", true)
  | 6 => ("GrindWorksModel", "rate", "[I", true)
  | 7 => ("GrindWorksModel", "tenths", "[I", true)
  | 8 => ("GrindWorksModel", "share", "[I", true)
  | 9 => ("GrindWorksModel", "rest", "[I", true)
  | 10 => ("GrindWorksModel", "time", "[I", true)
  | 11 => ("GrindWorksModel", "most", "[I", true)
  | 12 => ("GrindWorksModel", "by", "[I", true)
  | 13 => ("GrindWorksModel", "stop", "[I", true)
  | 14 => ("GrindWorksModel", "start", "[I", true)
  | 15 => ("GrindWorksModel", "isOn", "[Z", true)
  | 16 => ("GrindWorksModel", "slots", "[I", true)
  | 17 => ("GrindWorksModel", "slot", "[I", true)
  | 18 => ("GrindWorksModel", "age", "[I", true)
  | 19 => ("GrindWorksModel", "lots", "[I", true)
  | 20 => ("GrindWorksModel", "lot", "[I", true)
  | 21 => ("GrindWorksModel", "out", "[I", true)
  | 22 => ("GrindWorksModel", "in", "[J", true)
  | 23 => ("GrindWorksModel", "spilt", "[J", true)
  | 24 => ("GrindWorksModel", "led", "[J", true)
  | 25 => ("GrindWorksModel", "reading", "[I", true)
  | 26 => ("GrindWorksModel", "doubt", "[I", true)
  | 27 => ("GrindWorksModel", "weight", "[I", true)
  | 28 => ("GrindWorksModel", "good", "[I", true)
  | _ => ("GrindWorksModel", "price", "[I", true)
def tyX11 : Nat → FieldType := fun k => match k with
  | 0 => .int
  | 1 => .int
  | 2 => .int
  | 3 => .array .int
  | 4 => .array .int
  | 5 => .array .int
  | 6 => .array .int
  | 7 => .array .int
  | 8 => .array .int
  | 9 => .array .int
  | 10 => .array .int
  | 11 => .array .int
  | 12 => .array .int
  | 13 => .array .int
  | 14 => .array .int
  | 15 => .array .boolean
  | 16 => .array .int
  | 17 => .array .int
  | 18 => .array .int
  | 19 => .array .int
  | 20 => .array .int
  | 21 => .array .int
  | 22 => .array .long
  | 23 => .array .long
  | 24 => .array .long
  | 25 => .array .int
  | 26 => .array .int
  | 27 => .array .int
  | 28 => .array .int
  | _ => .array .int
theorem nmX11 : ∀ a, a < 30 → ∀ b, b < 30 → a ≠ b → (TX11 a).2.1 ≠ (TX11 b).2.1 := by decide +kernel
theorem tyX11_ok : ∀ k, k < 30 → parseFieldDescriptor (TX11 k).2.2.1 = some (tyX11 k) := by decide +kernel
abbrev cX11_init : ByteArray := prog_13_method_1_code
def yX11_init : MethodName := ⟨RX11, "<init>", "()V"⟩
abbrev cX11_isIn : ByteArray := prog_13_method_2_code
def yX11_isIn : MethodName := ⟨RX11, "isIn", "(III)Z"⟩
abbrev cX11_isUnit : ByteArray := prog_13_method_3_code
def yX11_isUnit : MethodName := ⟨RX11, "isUnit", "(I)Z"⟩
abbrev cX11_ports : ByteArray := prog_13_method_4_code
def yX11_ports : MethodName := ⟨RX11, "ports", "(I)I"⟩
abbrev cX11_unit : ByteArray := prog_13_method_5_code
def yX11_unit : MethodName := ⟨RX11, "unit", "(I)I"⟩
abbrev cX11_lead : ByteArray := prog_13_method_6_code
def yX11_lead : MethodName := ⟨RX11, "lead", "(III)I"⟩
abbrev cX11_rate : ByteArray := prog_13_method_7_code
def yX11_rate : MethodName := ⟨RX11, "rate", "(III)I"⟩
abbrev cX11_table : ByteArray := prog_13_method_8_code
def yX11_table : MethodName := ⟨RX11, "table", "(IIIII)I"⟩
abbrev cX11_settings : ByteArray := prog_13_method_9_code
def yX11_settings : MethodName := ⟨RX11, "settings", "(I)I"⟩
abbrev cX11_set : ByteArray := prog_13_method_10_code
def yX11_set : MethodName := ⟨RX11, "set", "(III)I"⟩
abbrev cX11_control : ByteArray := prog_13_method_11_code
def yX11_control : MethodName := ⟨RX11, "control", "(IIII)I"⟩
abbrev cX11_turn : ByteArray := prog_13_method_12_code
def yX11_turn : MethodName := ⟨RX11, "turn", "(II)I"⟩
abbrev cX11_spot : ByteArray := prog_13_method_13_code
def yX11_spot : MethodName := ⟨RX11, "spot", "(II)I"⟩
abbrev cX11_outAt : ByteArray := prog_13_method_14_code
def yX11_outAt : MethodName := ⟨RX11, "outAt", "(III)I"⟩
abbrev cX11_gives : ByteArray := prog_13_method_15_code
def yX11_gives : MethodName := ⟨RX11, "gives", "(I)V"⟩
abbrev cX11_mills : ByteArray := prog_13_method_16_code
def yX11_mills : MethodName := ⟨RX11, "mills", "(III)V"⟩
abbrev cX11_parts : ByteArray := prog_13_method_17_code
def yX11_parts : MethodName := ⟨RX11, "parts", "(II)V"⟩
abbrev cX11_slotAt : ByteArray := prog_13_method_18_code
def yX11_slotAt : MethodName := ⟨RX11, "slotAt", "(III)I"⟩
abbrev cX11_tanks : ByteArray := prog_13_method_19_code
def yX11_tanks : MethodName := ⟨RX11, "tanks", "(I)V"⟩
abbrev cX11_lotAt : ByteArray := prog_13_method_20_code
def yX11_lotAt : MethodName := ⟨RX11, "lotAt", "(III)I"⟩
abbrev cX11_lotSum : ByteArray := prog_13_method_21_code
def yX11_lotSum : MethodName := ⟨RX11, "lotSum", "(II)I"⟩
abbrev cX11_piles : ByteArray := prog_13_method_22_code
def yX11_piles : MethodName := ⟨RX11, "piles", "(I)V"⟩
abbrev cX11_sumOf : ByteArray := prog_13_method_23_code
def yX11_sumOf : MethodName := ⟨RX11, "sumOf", "(I)I"⟩
abbrev cX11_comes : ByteArray := prog_13_method_24_code
def yX11_comes : MethodName := ⟨RX11, "comes", "(II)V"⟩
abbrev cX11_levelOf : ByteArray := prog_13_method_25_code
def yX11_levelOf : MethodName := ⟨RX11, "levelOf", "(I)I"⟩
abbrev cX11_minute : ByteArray := prog_13_method_26_code
def yX11_minute : MethodName := ⟨RX11, "minute", "()V"⟩
abbrev cX11_run : ByteArray := prog_13_method_27_code
def yX11_run : MethodName := ⟨RX11, "run", "(I)I"⟩
abbrev cX11_hold : ByteArray := prog_13_method_28_code
def yX11_hold : MethodName := ⟨RX11, "hold", "(II)I"⟩
abbrev cX11_gave : ByteArray := prog_13_method_29_code
def yX11_gave : MethodName := ⟨RX11, "gave", "(II)I"⟩
abbrev cX11_lotSums : ByteArray := prog_13_method_30_code
def yX11_lotSums : MethodName := ⟨RX11, "lotSums", "(I)I"⟩
abbrev cX11_about : ByteArray := prog_13_method_31_code
def yX11_about : MethodName := ⟨RX11, "about", "(II)I"⟩
abbrev cX11_spiltOf : ByteArray := prog_13_method_32_code
def yX11_spiltOf : MethodName := ⟨RX11, "spiltOf", "(I)J"⟩
abbrev cX11_told : ByteArray := prog_13_method_33_code
def yX11_told : MethodName := ⟨RX11, "told", "(II)I"⟩
abbrev cX11_within : ByteArray := prog_13_method_34_code
def yX11_within : MethodName := ⟨RX11, "within", "(II)J"⟩
abbrev cX11_sum : ByteArray := prog_13_method_35_code
def yX11_sum : MethodName := ⟨RX11, "sum", "(II)J"⟩
abbrev cX11_ledBack : ByteArray := prog_13_method_36_code
def yX11_ledBack : MethodName := ⟨RX11, "ledBack", "(IIII)J"⟩
abbrev cX11_isRead : ByteArray := prog_13_method_37_code
def yX11_isRead : MethodName := ⟨RX11, "isRead", "(I)Z"⟩
abbrev cX11_reading : ByteArray := prog_13_method_38_code
def yX11_reading : MethodName := ⟨RX11, "reading", "(IIII)I"⟩
abbrev cX11_close : ByteArray := prog_13_method_39_code
def yX11_close : MethodName := ⟨RX11, "close", "(III)J"⟩
abbrev cX11_load : ByteArray := prog_13_method_40_code
def yX11_load : MethodName := ⟨RX11, "load", "(III)I"⟩
abbrev cX11_unload : ByteArray := prog_13_method_41_code
def yX11_unload : MethodName := ⟨RX11, "unload", "()I"⟩
abbrev cX11_blend : ByteArray := prog_13_method_42_code
def yX11_blend : MethodName := ⟨RX11, "blend", "(III)I"⟩
abbrev cX11_count : ByteArray := prog_13_method_43_code
def yX11_count : MethodName := ⟨RX11, "count", "(I)I"⟩
def RJ9 : String := "java/lang/Math"
def TJ9 : u_T := fun k => match k with
  | _ => ("", "", "", false)
def tyJ9 : Nat → FieldType := fun k => match k with
  | _ => .int
theorem nmJ9 : ∀ a, a < 0 → ∀ b, b < 0 → a ≠ b → (TJ9 a).2.1 ≠ (TJ9 b).2.1 := by decide +kernel
theorem tyJ9_ok : ∀ k, k < 0 → parseFieldDescriptor (TJ9 k).2.2.1 = some (tyJ9 k) := by decide +kernel
abbrev cJ9_floorMod_7cf53 : ByteArray := prog_14_method_50_code
def yJ9_floorMod_7cf53 : MethodName := ⟨RJ9, "floorMod", "(II)I"⟩
abbrev cJ9_abs_067f4 : ByteArray := prog_14_method_61_code
def yJ9_abs_067f4 : MethodName := ⟨RJ9, "abs", "(J)J"⟩
abbrev cJ9_max_7cf53 : ByteArray := prog_14_method_65_code
def yJ9_max_7cf53 : MethodName := ⟨RJ9, "max", "(II)I"⟩
abbrev cJ9_max_f86c9 : ByteArray := prog_14_method_66_code
def yJ9_max_f86c9 : MethodName := ⟨RJ9, "max", "(JJ)J"⟩
def RJ10 : String := "java/lang/System"
def TJ10 : u_T := fun k => match k with
  | _ => ("", "", "", false)
def tyJ10 : Nat → FieldType := fun k => match k with
  | _ => .int
theorem nmJ10 : ∀ a, a < 0 → ∀ b, b < 0 → a ≠ b → (TJ10 a).2.1 ≠ (TJ10 b).2.1 := by decide +kernel
theorem tyJ10_ok : ∀ k, k < 0 → parseFieldDescriptor (TJ10 k).2.2.1 = some (tyJ10 k) := by decide +kernel
def RJ7 : String := "java/util/Arrays"
def TJ7 : u_T := fun k => match k with
  | _ => ("", "", "", false)
def tyJ7 : Nat → FieldType := fun k => match k with
  | _ => .int
theorem nmJ7 : ∀ a, a < 0 → ∀ b, b < 0 → a ≠ b → (TJ7 a).2.1 ≠ (TJ7 b).2.1 := by decide +kernel
theorem tyJ7_ok : ∀ k, k < 0 → parseFieldDescriptor (TJ7 k).2.2.1 = some (tyJ7 k) := by decide +kernel
abbrev cJ7_fill_53178 : ByteArray := prog_16_method_103_code
def yJ7_fill_53178 : MethodName := ⟨RJ7, "fill", "([II)V"⟩
def RL : String := "GrindWorksLaw"
abbrev cL_law : ByteArray := code
def yL_law : MethodName := ⟨RL, "law", "([I)Z"⟩
abbrev vwCl : List vw_C := [(RX0, TX0, 8), (RX1, TX1, 12), (RX2, TX2, 7), (RX3, TX3, 4), (RX4, TX4, 7), (RX5, TX5, 8), (RX6, TX6, 10), (RX7, TX7, 2), (RX8, TX8, 9), (RX10, TX10, 4), (RX11, TX11, 30)]
