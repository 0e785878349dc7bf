section
-- ===== PART A: goes FIRST, ahead of the names: the tables' words, and 'selects' of the private methods out of them =====
/-- a private method of a class that the tables say can be made, by its rows of tables_1 -/
def lw_okq (q : MethodName × Nat) : Prop := (q.1.cls ≠ "java/lang/invoke/MethodHandle" ∧ q.1.cls ≠ "java/lang/invoke/VarHandle") ∧ Cond.instantiable q.1.cls q.2 ∈ tables_1 ∧ Cond.privateMethod q.1 ∈ tables_1 ∧ Cond.instanceMethod q.1 ∈ tables_1
theorem lw_p0 : lw_okq (⟨"LogLetters", "startThought", "()V"⟩, 10) := ⟨⟨by decide +kernel, by decide +kernel⟩, List.mem_of_getElem? (i := 19) (by decide +kernel), List.mem_of_getElem? (i := 504) (by decide +kernel), List.mem_of_getElem? (i := 505) (by decide +kernel)⟩
theorem lw_p1 : lw_okq (⟨"LogLetters", "startThoughtWithout", "(I)V"⟩, 10) := ⟨⟨by decide +kernel, by decide +kernel⟩, List.mem_of_getElem? (i := 19) (by decide +kernel), List.mem_of_getElem? (i := 530) (by decide +kernel), List.mem_of_getElem? (i := 531) (by decide +kernel)⟩
theorem lw_p2 : lw_okq (⟨"LogLetters", "apartWithMass", "(LLogLetters$Row;II)I"⟩, 10) := ⟨⟨by decide +kernel, by decide +kernel⟩, List.mem_of_getElem? (i := 19) (by decide +kernel), List.mem_of_getElem? (i := 563) (by decide +kernel), List.mem_of_getElem? (i := 564) (by decide +kernel)⟩
theorem lw_p3 : lw_okq (⟨"LogLetters", "isWaiting", "(III)Z"⟩, 10) := ⟨⟨by decide +kernel, by decide +kernel⟩, List.mem_of_getElem? (i := 19) (by decide +kernel), List.mem_of_getElem? (i := 913) (by decide +kernel), List.mem_of_getElem? (i := 914) (by decide +kernel)⟩
theorem lw_p4 : lw_okq (⟨"LogLettersModel", "comes", "(III)I"⟩, 33) := ⟨⟨by decide +kernel, by decide +kernel⟩, List.mem_of_getElem? (i := 933) (by decide +kernel), List.mem_of_getElem? (i := 1050) (by decide +kernel), List.mem_of_getElem? (i := 1051) (by decide +kernel)⟩
theorem lw_p5 : lw_okq (⟨"LogLettersModel", "put", "(III)V"⟩, 33) := ⟨⟨by decide +kernel, by decide +kernel⟩, List.mem_of_getElem? (i := 933) (by decide +kernel), List.mem_of_getElem? (i := 1054) (by decide +kernel), List.mem_of_getElem? (i := 1055) (by decide +kernel)⟩
theorem lw_p6 : lw_okq (⟨"LogLettersModel", "isLog", "(I)Z"⟩, 33) := ⟨⟨by decide +kernel, by decide +kernel⟩, List.mem_of_getElem? (i := 933) (by decide +kernel), List.mem_of_getElem? (i := 1062) (by decide +kernel), List.mem_of_getElem? (i := 1063) (by decide +kernel)⟩
theorem lw_p7 : lw_okq (⟨"LogLettersModel", "of", "(II)I"⟩, 33) := ⟨⟨by decide +kernel, by decide +kernel⟩, List.mem_of_getElem? (i := 933) (by decide +kernel), List.mem_of_getElem? (i := 1066) (by decide +kernel), List.mem_of_getElem? (i := 1067) (by decide +kernel)⟩
theorem lw_p8 : lw_okq (⟨"LogLettersModel", "driftsOf", "(I)I"⟩, 33) := ⟨⟨by decide +kernel, by decide +kernel⟩, List.mem_of_getElem? (i := 933) (by decide +kernel), List.mem_of_getElem? (i := 1070) (by decide +kernel), List.mem_of_getElem? (i := 1071) (by decide +kernel)⟩
theorem lw_p9 : lw_okq (⟨"LogLettersModel", "counts", "(I)I"⟩, 33) := ⟨⟨by decide +kernel, by decide +kernel⟩, List.mem_of_getElem? (i := 933) (by decide +kernel), List.mem_of_getElem? (i := 1074) (by decide +kernel), List.mem_of_getElem? (i := 1075) (by decide +kernel)⟩
theorem lw_p10 : lw_okq (⟨"LogLettersModel", "worksOut", "(I)I"⟩, 33) := ⟨⟨by decide +kernel, by decide +kernel⟩, List.mem_of_getElem? (i := 933) (by decide +kernel), List.mem_of_getElem? (i := 1078) (by decide +kernel), List.mem_of_getElem? (i := 1079) (by decide +kernel)⟩
theorem lw_p11 : lw_okq (⟨"LogLettersModel", "claimedOf", "(I)I"⟩, 33) := ⟨⟨by decide +kernel, by decide +kernel⟩, List.mem_of_getElem? (i := 933) (by decide +kernel), List.mem_of_getElem? (i := 1088) (by decide +kernel), List.mem_of_getElem? (i := 1089) (by decide +kernel)⟩
theorem lw_p12 : lw_okq (⟨"LogLettersModel", "worthOf", "(I)I"⟩, 33) := ⟨⟨by decide +kernel, by decide +kernel⟩, List.mem_of_getElem? (i := 933) (by decide +kernel), List.mem_of_getElem? (i := 1092) (by decide +kernel), List.mem_of_getElem? (i := 1093) (by decide +kernel)⟩
theorem lw_p13 : lw_okq (⟨"LogLettersModel", "becomes", "(II)I"⟩, 33) := ⟨⟨by decide +kernel, by decide +kernel⟩, List.mem_of_getElem? (i := 933) (by decide +kernel), List.mem_of_getElem? (i := 1108) (by decide +kernel), List.mem_of_getElem? (i := 1109) (by decide +kernel)⟩
theorem lw_p14 : lw_okq (⟨"LogLettersModel", "draw", "()I"⟩, 33) := ⟨⟨by decide +kernel, by decide +kernel⟩, List.mem_of_getElem? (i := 933) (by decide +kernel), List.mem_of_getElem? (i := 1144) (by decide +kernel), List.mem_of_getElem? (i := 1145) (by decide +kernel)⟩
theorem lw_p15 : lw_okq (⟨"LogLettersModel", "manyAt", "(I)I"⟩, 33) := ⟨⟨by decide +kernel, by decide +kernel⟩, List.mem_of_getElem? (i := 933) (by decide +kernel), List.mem_of_getElem? (i := 1157) (by decide +kernel), List.mem_of_getElem? (i := 1158) (by decide +kernel)⟩
def lw_privs_1 : List (MethodName × Nat) := [(⟨"LogLetters", "startThought", "()V"⟩, 10), (⟨"LogLetters", "startThoughtWithout", "(I)V"⟩, 10), (⟨"LogLetters", "apartWithMass", "(LLogLetters$Row;II)I"⟩, 10), (⟨"LogLetters", "isWaiting", "(III)Z"⟩, 10), (⟨"LogLettersModel", "comes", "(III)I"⟩, 33), (⟨"LogLettersModel", "put", "(III)V"⟩, 33), (⟨"LogLettersModel", "isLog", "(I)Z"⟩, 33), (⟨"LogLettersModel", "of", "(II)I"⟩, 33), (⟨"LogLettersModel", "driftsOf", "(I)I"⟩, 33), (⟨"LogLettersModel", "counts", "(I)I"⟩, 33), (⟨"LogLettersModel", "worksOut", "(I)I"⟩, 33), (⟨"LogLettersModel", "claimedOf", "(I)I"⟩, 33), (⟨"LogLettersModel", "worthOf", "(I)I"⟩, 33), (⟨"LogLettersModel", "becomes", "(II)I"⟩, 33), (⟨"LogLettersModel", "draw", "()I"⟩, 33), (⟨"LogLettersModel", "manyAt", "(I)I"⟩, 33)]
theorem lw_r1 : ∀ q ∈ lw_privs_1, lw_okq q := List.forall_mem_cons.mpr ⟨lw_p0, List.forall_mem_cons.mpr ⟨lw_p1, List.forall_mem_cons.mpr ⟨lw_p2, List.forall_mem_cons.mpr ⟨lw_p3, List.forall_mem_cons.mpr ⟨lw_p4, List.forall_mem_cons.mpr ⟨lw_p5, List.forall_mem_cons.mpr ⟨lw_p6, List.forall_mem_cons.mpr ⟨lw_p7, List.forall_mem_cons.mpr ⟨lw_p8, List.forall_mem_cons.mpr ⟨lw_p9, List.forall_mem_cons.mpr ⟨lw_p10, List.forall_mem_cons.mpr ⟨lw_p11, List.forall_mem_cons.mpr ⟨lw_p12, List.forall_mem_cons.mpr ⟨lw_p13, List.forall_mem_cons.mpr ⟨lw_p14, List.forall_mem_cons.mpr ⟨lw_p15, fun _ h => absurd h List.not_mem_nil⟩⟩⟩⟩⟩⟩⟩⟩⟩⟩⟩⟩⟩⟩⟩⟩
theorem lw_p16 : lw_okq (⟨"LogLettersModel", "goesOn", "(I)V"⟩, 33) := ⟨⟨by decide +kernel, by decide +kernel⟩, List.mem_of_getElem? (i := 933) (by decide +kernel), List.mem_of_getElem? (i := 1161) (by decide +kernel), List.mem_of_getElem? (i := 1162) (by decide +kernel)⟩
theorem lw_p17 : lw_okq (⟨"LogLettersModel", "week", "()V"⟩, 33) := ⟨⟨by decide +kernel, by decide +kernel⟩, List.mem_of_getElem? (i := 933) (by decide +kernel), List.mem_of_getElem? (i := 1165) (by decide +kernel), List.mem_of_getElem? (i := 1166) (by decide +kernel)⟩
theorem lw_p18 : lw_okq (⟨"LogLettersModel", "goesDown", "(I)V"⟩, 33) := ⟨⟨by decide +kernel, by decide +kernel⟩, List.mem_of_getElem? (i := 933) (by decide +kernel), List.mem_of_getElem? (i := 1169) (by decide +kernel), List.mem_of_getElem? (i := 1170) (by decide +kernel)⟩
theorem lw_p19 : lw_okq (⟨"LogLettersModel", "saws", "()V"⟩, 33) := ⟨⟨by decide +kernel, by decide +kernel⟩, List.mem_of_getElem? (i := 933) (by decide +kernel), List.mem_of_getElem? (i := 1173) (by decide +kernel), List.mem_of_getElem? (i := 1174) (by decide +kernel)⟩
theorem lw_p20 : lw_okq (⟨"LogLettersModel", "spelt", "()I"⟩, 33) := ⟨⟨by decide +kernel, by decide +kernel⟩, List.mem_of_getElem? (i := 933) (by decide +kernel), List.mem_of_getElem? (i := 1186) (by decide +kernel), List.mem_of_getElem? (i := 1187) (by decide +kernel)⟩
theorem lw_p21 : lw_okq (⟨"LogLettersModel", "jam", "()I"⟩, 33) := ⟨⟨by decide +kernel, by decide +kernel⟩, List.mem_of_getElem? (i := 933) (by decide +kernel), List.mem_of_getElem? (i := 1190) (by decide +kernel), List.mem_of_getElem? (i := 1191) (by decide +kernel)⟩
theorem lw_p22 : lw_okq (⟨"LogLettersModel", "thinks", "()V"⟩, 33) := ⟨⟨by decide +kernel, by decide +kernel⟩, List.mem_of_getElem? (i := 933) (by decide +kernel), List.mem_of_getElem? (i := 1198) (by decide +kernel), List.mem_of_getElem? (i := 1199) (by decide +kernel)⟩
theorem lw_p23 : lw_okq (⟨"LogLettersModel", "putsBack", "()V"⟩, 33) := ⟨⟨by decide +kernel, by decide +kernel⟩, List.mem_of_getElem? (i := 933) (by decide +kernel), List.mem_of_getElem? (i := 1202) (by decide +kernel), List.mem_of_getElem? (i := 1203) (by decide +kernel)⟩
theorem lw_p24 : lw_okq (⟨"LogLettersModel", "comeBehind", "(I)I"⟩, 33) := ⟨⟨by decide +kernel, by decide +kernel⟩, List.mem_of_getElem? (i := 933) (by decide +kernel), List.mem_of_getElem? (i := 1214) (by decide +kernel), List.mem_of_getElem? (i := 1215) (by decide +kernel)⟩
theorem lw_p25 : lw_okq (⟨"LogLettersModel", "speltBehind", "(I)I"⟩, 33) := ⟨⟨by decide +kernel, by decide +kernel⟩, List.mem_of_getElem? (i := 933) (by decide +kernel), List.mem_of_getElem? (i := 1222) (by decide +kernel), List.mem_of_getElem? (i := 1223) (by decide +kernel)⟩
theorem lw_p26 : lw_okq (⟨"LogLettersModel", "offBy", "(III)J"⟩, 33) := ⟨⟨by decide +kernel, by decide +kernel⟩, List.mem_of_getElem? (i := 933) (by decide +kernel), List.mem_of_getElem? (i := 1246) (by decide +kernel), List.mem_of_getElem? (i := 1247) (by decide +kernel)⟩
theorem lw_p27 : lw_okq (⟨"LogLettersModel", "go", "()V"⟩, 33) := ⟨⟨by decide +kernel, by decide +kernel⟩, List.mem_of_getElem? (i := 933) (by decide +kernel), List.mem_of_getElem? (i := 1270) (by decide +kernel), List.mem_of_getElem? (i := 1271) (by decide +kernel)⟩
theorem lw_p28 : lw_okq (⟨"LogLettersModel", "isLetter", "(I)Z"⟩, 33) := ⟨⟨by decide +kernel, by decide +kernel⟩, List.mem_of_getElem? (i := 933) (by decide +kernel), List.mem_of_getElem? (i := 1274) (by decide +kernel), List.mem_of_getElem? (i := 1275) (by decide +kernel)⟩
theorem lw_p29 : lw_okq (⟨"LogLettersModel", "isFigure", "(I)Z"⟩, 33) := ⟨⟨by decide +kernel, by decide +kernel⟩, List.mem_of_getElem? (i := 933) (by decide +kernel), List.mem_of_getElem? (i := 1278) (by decide +kernel), List.mem_of_getElem? (i := 1279) (by decide +kernel)⟩
theorem lw_p30 : lw_okq (⟨"LogLettersModel", "takesKey", "()Z"⟩, 33) := ⟨⟨by decide +kernel, by decide +kernel⟩, List.mem_of_getElem? (i := 933) (by decide +kernel), List.mem_of_getElem? (i := 1282) (by decide +kernel), List.mem_of_getElem? (i := 1283) (by decide +kernel)⟩
theorem lw_p31 : lw_okq (⟨"LogLettersModel", "takesE", "()Z"⟩, 33) := ⟨⟨by decide +kernel, by decide +kernel⟩, List.mem_of_getElem? (i := 933) (by decide +kernel), List.mem_of_getElem? (i := 1286) (by decide +kernel), List.mem_of_getElem? (i := 1287) (by decide +kernel)⟩
def lw_privs_2 : List (MethodName × Nat) := [(⟨"LogLettersModel", "goesOn", "(I)V"⟩, 33), (⟨"LogLettersModel", "week", "()V"⟩, 33), (⟨"LogLettersModel", "goesDown", "(I)V"⟩, 33), (⟨"LogLettersModel", "saws", "()V"⟩, 33), (⟨"LogLettersModel", "spelt", "()I"⟩, 33), (⟨"LogLettersModel", "jam", "()I"⟩, 33), (⟨"LogLettersModel", "thinks", "()V"⟩, 33), (⟨"LogLettersModel", "putsBack", "()V"⟩, 33), (⟨"LogLettersModel", "comeBehind", "(I)I"⟩, 33), (⟨"LogLettersModel", "speltBehind", "(I)I"⟩, 33), (⟨"LogLettersModel", "offBy", "(III)J"⟩, 33), (⟨"LogLettersModel", "go", "()V"⟩, 33), (⟨"LogLettersModel", "isLetter", "(I)Z"⟩, 33), (⟨"LogLettersModel", "isFigure", "(I)Z"⟩, 33), (⟨"LogLettersModel", "takesKey", "()Z"⟩, 33), (⟨"LogLettersModel", "takesE", "()Z"⟩, 33)]
theorem lw_r2 : ∀ q ∈ lw_privs_2, lw_okq q := List.forall_mem_cons.mpr ⟨lw_p16, List.forall_mem_cons.mpr ⟨lw_p17, List.forall_mem_cons.mpr ⟨lw_p18, List.forall_mem_cons.mpr ⟨lw_p19, List.forall_mem_cons.mpr ⟨lw_p20, List.forall_mem_cons.mpr ⟨lw_p21, List.forall_mem_cons.mpr ⟨lw_p22, List.forall_mem_cons.mpr ⟨lw_p23, List.forall_mem_cons.mpr ⟨lw_p24, List.forall_mem_cons.mpr ⟨lw_p25, List.forall_mem_cons.mpr ⟨lw_p26, List.forall_mem_cons.mpr ⟨lw_p27, List.forall_mem_cons.mpr ⟨lw_p28, List.forall_mem_cons.mpr ⟨lw_p29, List.forall_mem_cons.mpr ⟨lw_p30, List.forall_mem_cons.mpr ⟨lw_p31, fun _ h => absurd h List.not_mem_nil⟩⟩⟩⟩⟩⟩⟩⟩⟩⟩⟩⟩⟩⟩⟩⟩
theorem lw_p32 : lw_okq (⟨"LogLettersModel", "takesPart", "()Z"⟩, 33) := ⟨⟨by decide +kernel, by decide +kernel⟩, List.mem_of_getElem? (i := 933) (by decide +kernel), List.mem_of_getElem? (i := 1290) (by decide +kernel), List.mem_of_getElem? (i := 1291) (by decide +kernel)⟩
theorem lw_p33 : lw_okq (⟨"LogLettersModel", "nameOf", "(I)I"⟩, 33) := ⟨⟨by decide +kernel, by decide +kernel⟩, List.mem_of_getElem? (i := 933) (by decide +kernel), List.mem_of_getElem? (i := 1294) (by decide +kernel), List.mem_of_getElem? (i := 1295) (by decide +kernel)⟩
theorem lw_p34 : lw_okq (⟨"LogLettersModel", "settle", "(I)V"⟩, 33) := ⟨⟨by decide +kernel, by decide +kernel⟩, List.mem_of_getElem? (i := 933) (by decide +kernel), List.mem_of_getElem? (i := 1298) (by decide +kernel), List.mem_of_getElem? (i := 1299) (by decide +kernel)⟩
theorem lw_p35 : lw_okq (⟨"LogLettersModel", "notsOpen", "()I"⟩, 33) := ⟨⟨by decide +kernel, by decide +kernel⟩, List.mem_of_getElem? (i := 933) (by decide +kernel), List.mem_of_getElem? (i := 1305) (by decide +kernel), List.mem_of_getElem? (i := 1306) (by decide +kernel)⟩
theorem lw_p36 : lw_okq (⟨"LogLettersModel", "signHere", "()I"⟩, 33) := ⟨⟨by decide +kernel, by decide +kernel⟩, List.mem_of_getElem? (i := 933) (by decide +kernel), List.mem_of_getElem? (i := 1309) (by decide +kernel), List.mem_of_getElem? (i := 1310) (by decide +kernel)⟩
theorem lw_p37 : lw_okq (⟨"LogLettersModel", "allReaches", "()I"⟩, 33) := ⟨⟨by decide +kernel, by decide +kernel⟩, List.mem_of_getElem? (i := 933) (by decide +kernel), List.mem_of_getElem? (i := 1375) (by decide +kernel), List.mem_of_getElem? (i := 1376) (by decide +kernel)⟩
def lw_privs_3 : List (MethodName × Nat) := [(⟨"LogLettersModel", "takesPart", "()Z"⟩, 33), (⟨"LogLettersModel", "nameOf", "(I)I"⟩, 33), (⟨"LogLettersModel", "settle", "(I)V"⟩, 33), (⟨"LogLettersModel", "notsOpen", "()I"⟩, 33), (⟨"LogLettersModel", "signHere", "()I"⟩, 33), (⟨"LogLettersModel", "allReaches", "()I"⟩, 33)]
theorem lw_r3 : ∀ q ∈ lw_privs_3, lw_okq q := List.forall_mem_cons.mpr ⟨lw_p32, List.forall_mem_cons.mpr ⟨lw_p33, List.forall_mem_cons.mpr ⟨lw_p34, List.forall_mem_cons.mpr ⟨lw_p35, List.forall_mem_cons.mpr ⟨lw_p36, List.forall_mem_cons.mpr ⟨lw_p37, fun _ h => absurd h List.not_mem_nil⟩⟩⟩⟩⟩⟩
def lw_privs : List (MethodName × Nat) := lw_privs_1 ++ (lw_privs_2 ++ (lw_privs_3))
def lw_tbl : List Cond := k2_sels lw_privs ++ tables_1
theorem lw_privs_ok : ∀ q ∈ lw_privs, lw_okq q := by
  show ∀ q ∈ lw_privs_1 ++ (lw_privs_2 ++ (lw_privs_3)), lw_okq q
  exact List.forall_mem_append.mpr ⟨lw_r1, List.forall_mem_append.mpr ⟨lw_r2, lw_r3⟩⟩
def RX0 : String := "LogLetters$Law"
def TX0 : u_T := fun k => match k with
  | 0 => ("LogLetters$Law", "key", "I", true)
  | 1 => ("LogLetters$Law", "pieces", "I", true)
  | 2 => ("LogLetters$Law", "code", "[I", true)
  | _ => ("LogLetters$Law", "stack", "[I", true)
def tyX0 : Nat → FieldType := fun k => match k with
  | 0 => .int
  | 1 => .int
  | 2 => .array .int
  | _ => .array .int
theorem nmX0 : ∀ a, a < 4 → ∀ b, b < 4 → a ≠ b → (TX0 a).2.1 ≠ (TX0 b).2.1 := by decide +kernel
theorem tyX0_ok : ∀ k, k < 4 → parseFieldDescriptor (TX0 k).2.2.1 = some (tyX0 k) := by decide +kernel
abbrev cX0_init : ByteArray := prog_2_method_1_code
def yX0_init : MethodName := ⟨RX0, "<init>", "(II[II)V"⟩
abbrev cX0_give : ByteArray := prog_2_method_2_code
def yX0_give : MethodName := ⟨RX0, "give", "(III)I"⟩
abbrev cX0_valueOf : ByteArray := prog_2_method_3_code
def yX0_valueOf : MethodName := ⟨RX0, "valueOf", "(IIII)I"⟩
abbrev cX0_joined : ByteArray := prog_2_method_4_code
def yX0_joined : MethodName := ⟨RX0, "joined", "(III)I"⟩
def RX1 : String := "LogLetters$Log"
def TX1 : u_T := fun k => match k with
  | 0 => ("LogLetters$Log", "kind", "I", false)
  | 1 => ("LogLetters$Log", "letter", "I", false)
  | 2 => ("LogLetters$Log", "mass", "I", false)
  | 3 => ("LogLetters$Log", "reach", "I", false)
  | _ => ("LogLetters$Log", "came", "I", false)
def tyX1 : Nat → FieldType := fun k => match k with
  | 0 => .int
  | 1 => .int
  | 2 => .int
  | 3 => .int
  | _ => .int
theorem nmX1 : ∀ a, a < 5 → ∀ b, b < 5 → a ≠ b → (TX1 a).2.1 ≠ (TX1 b).2.1 := by decide +kernel
theorem tyX1_ok : ∀ k, k < 5 → parseFieldDescriptor (TX1 k).2.2.1 = some (tyX1 k) := by decide +kernel
abbrev cX1_init : ByteArray := prog_3_method_1_code
def yX1_init : MethodName := ⟨RX1, "<init>", "()V"⟩
abbrev cX1_takeOver : ByteArray := prog_3_method_2_code
def yX1_takeOver : MethodName := ⟨RX1, "takeOver", "(LLogLetters$Log;)V"⟩
abbrev cX1_isAfloat : ByteArray := prog_3_method_3_code
def yX1_isAfloat : MethodName := ⟨RX1, "isAfloat", "()Z"⟩
abbrev cX1_isOf : ByteArray := prog_3_method_4_code
def yX1_isOf : MethodName := ⟨RX1, "isOf", "(I)Z"⟩
abbrev cX1_driftFrom : ByteArray := prog_3_method_5_code
def yX1_driftFrom : MethodName := ⟨RX1, "driftFrom", "(II)I"⟩
abbrev cX1_claimedBy : ByteArray := prog_3_method_6_code
def yX1_claimedBy : MethodName := ⟨RX1, "claimedBy", "(I)I"⟩
abbrev cX1_worth : ByteArray := prog_3_method_7_code
def yX1_worth : MethodName := ⟨RX1, "worth", "()I"⟩
def RX2 : String := "LogLetters$Reader"
def TX2 : u_T := fun k => match k with
  | 0 => ("LogLetters$Reader", "tape", "LLogLetters$Tape;", true)
  | 1 => ("LogLetters$Reader", "code", "[I", true)
  | 2 => ("LogLetters$Reader", "open", "[I", true)
  | 3 => ("LogLetters$Reader", "fault", "I", false)
  | 4 => ("LogLetters$Reader", "codeSize", "I", false)
  | 5 => ("LogLetters$Reader", "openSize", "I", false)
  | 6 => ("LogLetters$Reader", "key", "I", false)
  | 7 => ("LogLetters$Reader", "pieces", "I", false)
  | 8 => ("LogLetters$Reader", "brackets", "I", false)
  | 9 => ("LogLetters$Reader", "bangs", "I", false)
  | 10 => ("LogLetters$Reader", "tested", "I", false)
  | 11 => ("LogLetters$Reader", "wantsPiece", "Z", false)
  | 12 => ("LogLetters$Reader", "start", "I", false)
  | _ => ("LogLetters$Reader", "end", "I", false)
def tyX2 : Nat → FieldType := fun k => match k with
  | 0 => .object "LogLetters$Tape"
  | 1 => .array .int
  | 2 => .array .int
  | 3 => .int
  | 4 => .int
  | 5 => .int
  | 6 => .int
  | 7 => .int
  | 8 => .int
  | 9 => .int
  | 10 => .int
  | 11 => .boolean
  | 12 => .int
  | _ => .int
theorem nmX2 : ∀ a, a < 14 → ∀ b, b < 14 → a ≠ b → (TX2 a).2.1 ≠ (TX2 b).2.1 := by decide +kernel
theorem tyX2_ok : ∀ k, k < 14 → parseFieldDescriptor (TX2 k).2.2.1 = some (tyX2 k) := by decide +kernel
abbrev cX2_init : ByteArray := prog_4_method_1_code
def yX2_init : MethodName := ⟨RX2, "<init>", "()V"⟩
abbrev cX2_readLaw : ByteArray := prog_4_method_2_code
def yX2_readLaw : MethodName := ⟨RX2, "readLaw", "()LLogLetters$Law;"⟩
abbrev cX2_begin : ByteArray := prog_4_method_3_code
def yX2_begin : MethodName := ⟨RX2, "begin", "()V"⟩
abbrev cX2_nextWord : ByteArray := prog_4_method_4_code
def yX2_nextWord : MethodName := ⟨RX2, "nextWord", "()Z"⟩
abbrev cX2_sortOf : ByteArray := prog_4_method_5_code
def yX2_sortOf : MethodName := ⟨RX2, "sortOf", "(I)I"⟩
abbrev cX2_takesKey : ByteArray := prog_4_method_6_code
def yX2_takesKey : MethodName := ⟨RX2, "takesKey", "()Z"⟩
abbrev cX2_isWord : ByteArray := prog_4_method_7_code
def yX2_isWord : MethodName := ⟨RX2, "isWord", "(Ljava/lang/String;)Z"⟩
abbrev cX2_goesOn : ByteArray := prog_4_method_8_code
def yX2_goesOn : MethodName := ⟨RX2, "goesOn", "()Z"⟩
abbrev cX2_takesPiece : ByteArray := prog_4_method_9_code
def yX2_takesPiece : MethodName := ⟨RX2, "takesPiece", "(I)Z"⟩
abbrev cX2_takesNumber : ByteArray := prog_4_method_10_code
def yX2_takesNumber : MethodName := ⟨RX2, "takesNumber", "()Z"⟩
abbrev cX2_takesName : ByteArray := prog_4_method_11_code
def yX2_takesName : MethodName := ⟨RX2, "takesName", "(I)Z"⟩
abbrev cX2_namesOf : ByteArray := prog_4_method_12_code
def yX2_namesOf : MethodName := ⟨RX2, "namesOf", "(I)Ljava/lang/String;"⟩
abbrev cX2_takesSign : ByteArray := prog_4_method_13_code
def yX2_takesSign : MethodName := ⟨RX2, "takesSign", "(I)Z"⟩
abbrev cX2_levelOf : ByteArray := prog_4_method_14_code
def yX2_levelOf : MethodName := ⟨RX2, "levelOf", "(I)I"⟩
abbrev cX2_closesBracket : ByteArray := prog_4_method_15_code
def yX2_closesBracket : MethodName := ⟨RX2, "closesBracket", "()Z"⟩
abbrev cX2_addPiece : ByteArray := prog_4_method_16_code
def yX2_addPiece : MethodName := ⟨RX2, "addPiece", "(I)V"⟩
abbrev cX2_closeBangs : ByteArray := prog_4_method_17_code
def yX2_closeBangs : MethodName := ⟨RX2, "closeBangs", "()V"⟩
abbrev cX2_closeDownTo : ByteArray := prog_4_method_18_code
def yX2_closeDownTo : MethodName := ⟨RX2, "closeDownTo", "(I)V"⟩
abbrev cX2_topSign : ByteArray := prog_4_method_19_code
def yX2_topSign : MethodName := ⟨RX2, "topSign", "()I"⟩
abbrev cX2_pop : ByteArray := prog_4_method_20_code
def yX2_pop : MethodName := ⟨RX2, "pop", "()I"⟩
abbrev cX2_push : ByteArray := prog_4_method_21_code
def yX2_push : MethodName := ⟨RX2, "push", "(I)V"⟩
abbrev cX2_addCode : ByteArray := prog_4_method_22_code
def yX2_addCode : MethodName := ⟨RX2, "addCode", "(I)V"⟩
def RX3 : String := "LogLetters$River"
def TX3 : u_T := fun k => match k with
  | 0 => ("LogLetters$River", "logs", "[LLogLetters$Log;", true)
  | 1 => ("LogLetters$River", "room", "[I", true)
  | 2 => ("LogLetters$River", "boom", "[I", true)
  | 3 => ("LogLetters$River", "held", "[I", true)
  | 4 => ("LogLetters$River", "letters", "[I", true)
  | 5 => ("LogLetters$River", "laws", "[LLogLetters$Law;", true)
  | 6 => ("LogLetters$River", "logCount", "I", false)
  | 7 => ("LogLetters$River", "letterCount", "I", false)
  | 8 => ("LogLetters$River", "lawCount", "I", false)
  | 9 => ("LogLetters$River", "flood", "I", false)
  | 10 => ("LogLetters$River", "saw", "I", false)
  | 11 => ("LogLetters$River", "dry", "I", false)
  | 12 => ("LogLetters$River", "sawn", "I", false)
  | 13 => ("LogLetters$River", "comeCount", "I", false)
  | 14 => ("LogLetters$River", "week", "I", false)
  | _ => ("LogLetters$River", "z", "I", false)
def tyX3 : Nat → FieldType := fun k => match k with
  | 0 => .array (.object "LogLetters$Log")
  | 1 => .array .int
  | 2 => .array .int
  | 3 => .array .int
  | 4 => .array .int
  | 5 => .array (.object "LogLetters$Law")
  | 6 => .int
  | 7 => .int
  | 8 => .int
  | 9 => .int
  | 10 => .int
  | 11 => .int
  | 12 => .int
  | 13 => .int
  | 14 => .int
  | _ => .int
theorem nmX3 : ∀ a, a < 16 → ∀ b, b < 16 → a ≠ b → (TX3 a).2.1 ≠ (TX3 b).2.1 := by decide +kernel
theorem tyX3_ok : ∀ k, k < 16 → parseFieldDescriptor (TX3 k).2.2.1 = some (tyX3 k) := by decide +kernel
abbrev cX3_init : ByteArray := prog_5_method_1_code
def yX3_init : MethodName := ⟨RX3, "<init>", "()V"⟩
abbrev cX3_takeOver : ByteArray := prog_5_method_2_code
def yX3_takeOver : MethodName := ⟨RX3, "takeOver", "(LLogLetters$River;)V"⟩
abbrev cX3_hasLog : ByteArray := prog_5_method_3_code
def yX3_hasLog : MethodName := ⟨RX3, "hasLog", "(I)Z"⟩
abbrev cX3_addLog : ByteArray := prog_5_method_4_code
def yX3_addLog : MethodName := ⟨RX3, "addLog", "(III)Z"⟩
abbrev cX3_drawLog : ByteArray := prog_5_method_5_code
def yX3_drawLog : MethodName := ⟨RX3, "drawLog", "()V"⟩
abbrev cX3_addLetter : ByteArray := prog_5_method_6_code
def yX3_addLetter : MethodName := ⟨RX3, "addLetter", "(I)Z"⟩
abbrev cX3_addLaw : ByteArray := prog_5_method_7_code
def yX3_addLaw : MethodName := ⟨RX3, "addLaw", "(LLogLetters$Law;)Z"⟩
abbrev cX3_lawAt : ByteArray := prog_5_method_8_code
def yX3_lawAt : MethodName := ⟨RX3, "lawAt", "(I)LLogLetters$Law;"⟩
abbrev cX3_lawNumberFor : ByteArray := prog_5_method_9_code
def yX3_lawNumberFor : MethodName := ⟨RX3, "lawNumberFor", "(I)I"⟩
abbrev cX3_lawFor : ByteArray := prog_5_method_10_code
def yX3_lawFor : MethodName := ⟨RX3, "lawFor", "(I)LLogLetters$Law;"⟩
abbrev cX3_draw : ByteArray := prog_5_method_11_code
def yX3_draw : MethodName := ⟨RX3, "draw", "()I"⟩
abbrev cX3_driftOf : ByteArray := prog_5_method_12_code
def yX3_driftOf : MethodName := ⟨RX3, "driftOf", "(LLogLetters$Log;LLogLetters$Law;)I"⟩
abbrev cX3_passWeeks : ByteArray := prog_5_method_13_code
def yX3_passWeeks : MethodName := ⟨RX3, "passWeeks", "(I)V"⟩
abbrev cX3_passWeek : ByteArray := prog_5_method_14_code
def yX3_passWeek : MethodName := ⟨RX3, "passWeek", "()V"⟩
abbrev cX3_countHeld : ByteArray := prog_5_method_15_code
def yX3_countHeld : MethodName := ⟨RX3, "countHeld", "()V"⟩
abbrev cX3_carryFrom : ByteArray := prog_5_method_16_code
def yX3_carryFrom : MethodName := ⟨RX3, "carryFrom", "(ILLogLetters$Law;)V"⟩
abbrev cX3_carry : ByteArray := prog_5_method_17_code
def yX3_carry : MethodName := ⟨RX3, "carry", "(LLogLetters$Log;I)V"⟩
abbrev cX3_mayLeave : ByteArray := prog_5_method_18_code
def yX3_mayLeave : MethodName := ⟨RX3, "mayLeave", "(I)Z"⟩
abbrev cX3_sawByLot : ByteArray := prog_5_method_19_code
def yX3_sawByLot : MethodName := ⟨RX3, "sawByLot", "(I)V"⟩
abbrev cX3_letterRead : ByteArray := prog_5_method_20_code
def yX3_letterRead : MethodName := ⟨RX3, "letterRead", "(I)I"⟩
abbrev cX3_spelt : ByteArray := prog_5_method_21_code
def yX3_spelt : MethodName := ⟨RX3, "spelt", "()I"⟩
abbrev cX3_unusedWith : ByteArray := prog_5_method_22_code
def yX3_unusedWith : MethodName := ⟨RX3, "unusedWith", "(II)I"⟩
abbrev cX3_jammed : ByteArray := prog_5_method_23_code
def yX3_jammed : MethodName := ⟨RX3, "jammed", "()I"⟩
abbrev cX3_afloat : ByteArray := prog_5_method_24_code
def yX3_afloat : MethodName := ⟨RX3, "afloat", "()I"⟩
abbrev cX3_reachesTogether : ByteArray := prog_5_method_25_code
def yX3_reachesTogether : MethodName := ⟨RX3, "reachesTogether", "()I"⟩
def RX4 : String := "LogLetters$Row"
def TX4 : u_T := fun k => match k with
  | 0 => ("LogLetters$Row", "places", "[I", true)
  | 1 => ("LogLetters$Row", "sort", "I", false)
  | _ => ("LogLetters$Row", "size", "I", false)
def tyX4 : Nat → FieldType := fun k => match k with
  | 0 => .array .int
  | 1 => .int
  | _ => .int
theorem nmX4 : ∀ a, a < 3 → ∀ b, b < 3 → a ≠ b → (TX4 a).2.1 ≠ (TX4 b).2.1 := by decide +kernel
theorem tyX4_ok : ∀ k, k < 3 → parseFieldDescriptor (TX4 k).2.2.1 = some (tyX4 k) := by decide +kernel
abbrev cX4_init : ByteArray := prog_6_method_1_code
def yX4_init : MethodName := ⟨RX4, "<init>", "()V"⟩
abbrev cX4_become : ByteArray := prog_6_method_2_code
def yX4_become : MethodName := ⟨RX4, "become", "(II)V"⟩
abbrev cX4_takeOver : ByteArray := prog_6_method_3_code
def yX4_takeOver : MethodName := ⟨RX4, "takeOver", "(LLogLetters$Row;)V"⟩
abbrev cX4_isMissing : ByteArray := prog_6_method_4_code
def yX4_isMissing : MethodName := ⟨RX4, "isMissing", "()Z"⟩
abbrev cX4_hasPlace : ByteArray := prog_6_method_5_code
def yX4_hasPlace : MethodName := ⟨RX4, "hasPlace", "(I)Z"⟩
abbrev cX4_hasNumber : ByteArray := prog_6_method_6_code
def yX4_hasNumber : MethodName := ⟨RX4, "hasNumber", "(I)Z"⟩
abbrev cX4_hasPlaces : ByteArray := prog_6_method_7_code
def yX4_hasPlaces : MethodName := ⟨RX4, "hasPlaces", "(II)Z"⟩
def RX5 : String := "LogLetters$Slot"
def TX5 : u_T := fun k => match k with
  | 0 => ("LogLetters$Slot", "log", "LLogLetters$Log;", true)
  | 1 => ("LogLetters$Slot", "row", "LLogLetters$Row;", true)
  | 2 => ("LogLetters$Slot", "thing", "I", false)
  | _ => ("LogLetters$Slot", "number", "I", false)
def tyX5 : Nat → FieldType := fun k => match k with
  | 0 => .object "LogLetters$Log"
  | 1 => .object "LogLetters$Row"
  | 2 => .int
  | _ => .int
theorem nmX5 : ∀ a, a < 4 → ∀ b, b < 4 → a ≠ b → (TX5 a).2.1 ≠ (TX5 b).2.1 := by decide +kernel
theorem tyX5_ok : ∀ k, k < 4 → parseFieldDescriptor (TX5 k).2.2.1 = some (tyX5 k) := by decide +kernel
abbrev cX5_init : ByteArray := prog_7_method_1_code
def yX5_init : MethodName := ⟨RX5, "<init>", "()V"⟩
abbrev cX5_findingFor : ByteArray := prog_7_method_2_code
def yX5_findingFor : MethodName := ⟨RX5, "findingFor", "(I)I"⟩
def RX6 : String := "LogLetters$Tape"
def TX6 : u_T := fun k => match k with
  | 0 => ("LogLetters$Tape", "bytes", "[B", true)
  | _ => ("LogLetters$Tape", "size", "I", false)
def tyX6 : Nat → FieldType := fun k => match k with
  | 0 => .array .byte
  | _ => .int
theorem nmX6 : ∀ a, a < 2 → ∀ b, b < 2 → a ≠ b → (TX6 a).2.1 ≠ (TX6 b).2.1 := by decide +kernel
theorem tyX6_ok : ∀ k, k < 2 → parseFieldDescriptor (TX6 k).2.2.1 = some (tyX6 k) := by decide +kernel
abbrev cX6_init : ByteArray := prog_8_method_1_code
def yX6_init : MethodName := ⟨RX6, "<init>", "()V"⟩
abbrev cX6_addBytesOf : ByteArray := prog_8_method_2_code
def yX6_addBytesOf : MethodName := ⟨RX6, "addBytesOf", "(I)V"⟩
abbrev cX6_byteAt : ByteArray := prog_8_method_3_code
def yX6_byteAt : MethodName := ⟨RX6, "byteAt", "(I)I"⟩
def RX7 : String := "LogLetters"
def TX7 : u_T := fun k => match k with
  | 0 => ("LogLetters", "river", "LLogLetters$River;", true)
  | 1 => ("LogLetters", "image", "LLogLetters$River;", true)
  | 2 => ("LogLetters", "thought", "LLogLetters$River;", true)
  | 3 => ("LogLetters", "fork", "LLogLetters$River;", true)
  | 4 => ("LogLetters", "reader", "LLogLetters$Reader;", true)
  | 5 => ("LogLetters", "sheets", "[LLogLetters$Row;", true)
  | 6 => ("LogLetters", "slots", "[LLogLetters$Slot;", true)
  | 7 => ("LogLetters", "waiting", "[I", true)
  | 8 => ("LogLetters", "waitingCount", "I", false)
  | _ => ("LogLetters", "hasImage", "Z", false)
def tyX7 : Nat → FieldType := fun k => match k with
  | 0 => .object "LogLetters$River"
  | 1 => .object "LogLetters$River"
  | 2 => .object "LogLetters$River"
  | 3 => .object "LogLetters$River"
  | 4 => .object "LogLetters$Reader"
  | 5 => .array (.object "LogLetters$Row")
  | 6 => .array (.object "LogLetters$Slot")
  | 7 => .array .int
  | 8 => .int
  | _ => .boolean
theorem nmX7 : ∀ a, a < 10 → ∀ b, b < 10 → a ≠ b → (TX7 a).2.1 ≠ (TX7 b).2.1 := by decide +kernel
theorem tyX7_ok : ∀ k, k < 10 → parseFieldDescriptor (TX7 k).2.2.1 = some (tyX7 k) := by decide +kernel
abbrev cX7_init : ByteArray := prog_1_method_1_code
def yX7_init : MethodName := ⟨RX7, "<init>", "()V"⟩
abbrev cX7_log : ByteArray := prog_1_method_2_code
def yX7_log : MethodName := ⟨RX7, "log", "(III)I"⟩
abbrev cX7_told : ByteArray := prog_1_method_3_code
def yX7_told : MethodName := ⟨RX7, "told", "(II)I"⟩
abbrev cX7_as : ByteArray := prog_1_method_4_code
def yX7_as : MethodName := ⟨RX7, "as", "(II)I"⟩
abbrev cX7_turns : ByteArray := prog_1_method_5_code
def yX7_turns : MethodName := ⟨RX7, "turns", "(II)I"⟩
abbrev cX7_set : ByteArray := prog_1_method_6_code
def yX7_set : MethodName := ⟨RX7, "set", "(III)I"⟩
abbrev cX7_lays : ByteArray := prog_1_method_7_code
def yX7_lays : MethodName := ⟨RX7, "lays", "(II)I"⟩
abbrev cX7_reach : ByteArray := prog_1_method_8_code
def yX7_reach : MethodName := ⟨RX7, "reach", "(III)I"⟩
abbrev cX7_rule : ByteArray := prog_1_method_9_code
def yX7_rule : MethodName := ⟨RX7, "rule", "(II)I"⟩
abbrev cX7_word : ByteArray := prog_1_method_10_code
def yX7_word : MethodName := ⟨RX7, "word", "(I)I"⟩
abbrev cX7_unword : ByteArray := prog_1_method_11_code
def yX7_unword : MethodName := ⟨RX7, "unword", "()I"⟩
abbrev cX7_deal : ByteArray := prog_1_method_12_code
def yX7_deal : MethodName := ⟨RX7, "deal", "(I)I"⟩
abbrev cX7_seed : ByteArray := prog_1_method_13_code
def yX7_seed : MethodName := ⟨RX7, "seed", "(I)I"⟩
abbrev cX7_weeks : ByteArray := prog_1_method_14_code
def yX7_weeks : MethodName := ⟨RX7, "weeks", "(I)I"⟩
abbrev cX7_read : ByteArray := prog_1_method_15_code
def yX7_read : MethodName := ⟨RX7, "read", "(I)I"⟩
abbrev cX7_river : ByteArray := prog_1_method_16_code
def yX7_river : MethodName := ⟨RX7, "river", "(I)I"⟩
abbrev cX7_behind : ByteArray := prog_1_method_17_code
def yX7_behind : MethodName := ⟨RX7, "behind", "(II)I"⟩
abbrev cX7_whole : ByteArray := prog_1_method_18_code
def yX7_whole : MethodName := ⟨RX7, "whole", "()I"⟩
abbrev cX7_frees : ByteArray := prog_1_method_19_code
def yX7_frees : MethodName := ⟨RX7, "frees", "(II)I"⟩
abbrev cX7_lost : ByteArray := prog_1_method_20_code
def yX7_lost : MethodName := ⟨RX7, "lost", "(I)I"⟩
abbrev cX7_wider : ByteArray := prog_1_method_21_code
def yX7_wider : MethodName := ⟨RX7, "wider", "(II)I"⟩
abbrev cX7_opened : ByteArray := prog_1_method_22_code
def yX7_opened : MethodName := ⟨RX7, "opened", "(I)I"⟩
abbrev cX7_rolled : ByteArray := prog_1_method_23_code
def yX7_rolled : MethodName := ⟨RX7, "rolled", "(II)I"⟩
abbrev cX7_looked : ByteArray := prog_1_method_24_code
def yX7_looked : MethodName := ⟨RX7, "looked", "(III)I"⟩
abbrev cX7_fee : ByteArray := prog_1_method_25_code
def yX7_fee : MethodName := ⟨RX7, "fee", "()I"⟩
abbrev cX7_fine : ByteArray := prog_1_method_26_code
def yX7_fine : MethodName := ⟨RX7, "fine", "(I)I"⟩
abbrev cX7_feed : ByteArray := prog_1_method_27_code
def yX7_feed : MethodName := ⟨RX7, "feed", "(III)I"⟩
abbrev cX7_trim : ByteArray := prog_1_method_28_code
def yX7_trim : MethodName := ⟨RX7, "trim", "(I)I"⟩
abbrev cX7_text : ByteArray := prog_1_method_29_code
def yX7_text : MethodName := ⟨RX7, "text", "()I"⟩
abbrev cX7_textTold : ByteArray := prog_1_method_30_code
def yX7_textTold : MethodName := ⟨RX7, "textTold", "(II)I"⟩
abbrev cX7_why : ByteArray := prog_1_method_31_code
def yX7_why : MethodName := ⟨RX7, "why", "(I)I"⟩
abbrev cX7_sheet : ByteArray := prog_1_method_32_code
def yX7_sheet : MethodName := ⟨RX7, "sheet", "(III)I"⟩
abbrev cX7_mark : ByteArray := prog_1_method_33_code
def yX7_mark : MethodName := ⟨RX7, "mark", "(III)I"⟩
abbrev cX7_pour : ByteArray := prog_1_method_34_code
def yX7_pour : MethodName := ⟨RX7, "pour", "(I)I"⟩
abbrev cX7_reads : ByteArray := prog_1_method_35_code
def yX7_reads : MethodName := ⟨RX7, "reads", "(I)I"⟩
abbrev cX7_copy : ByteArray := prog_1_method_36_code
def yX7_copy : MethodName := ⟨RX7, "copy", "(IIIII)I"⟩
abbrev cX7_lay : ByteArray := prog_1_method_37_code
def yX7_lay : MethodName := ⟨RX7, "lay", "(III)I"⟩
abbrev cX7_ask : ByteArray := prog_1_method_38_code
def yX7_ask : MethodName := ⟨RX7, "ask", "(II)I"⟩
abbrev cX7_item : ByteArray := prog_1_method_39_code
def yX7_item : MethodName := ⟨RX7, "item", "(II)I"⟩
abbrev cX7_rest : ByteArray := prog_1_method_40_code
def yX7_rest : MethodName := ⟨RX7, "rest", "(II)I"⟩
abbrev cX7_tell : ByteArray := prog_1_method_41_code
def yX7_tell : MethodName := ⟨RX7, "tell", "(I)I"⟩
abbrev cX7_check : ByteArray := prog_1_method_42_code
def yX7_check : MethodName := ⟨RX7, "check", "(I)I"⟩
abbrev cX7_keep : ByteArray := prog_1_method_43_code
def yX7_keep : MethodName := ⟨RX7, "keep", "()I"⟩
abbrev cX7_back : ByteArray := prog_1_method_44_code
def yX7_back : MethodName := ⟨RX7, "back", "()I"⟩
abbrev cX7_count : ByteArray := prog_1_method_45_code
def yX7_count : MethodName := ⟨RX7, "count", "(I)I"⟩
abbrev cX7_startThought : ByteArray := prog_1_method_46_code
def yX7_startThought : MethodName := ⟨RX7, "startThought", "()V"⟩
abbrev cX7_startThoughtWithout : ByteArray := prog_1_method_47_code
def yX7_startThoughtWithout : MethodName := ⟨RX7, "startThoughtWithout", "(I)V"⟩
abbrev cX7_apartWithMass : ByteArray := prog_1_method_48_code
def yX7_apartWithMass : MethodName := ⟨RX7, "apartWithMass", "(LLogLetters$Row;II)I"⟩
abbrev cX7_isWaiting : ByteArray := prog_1_method_49_code
def yX7_isWaiting : MethodName := ⟨RX7, "isWaiting", "(III)Z"⟩
abbrev cX7_within : ByteArray := prog_1_method_50_code
def yX7_within : MethodName := ⟨RX7, "within", "(III)Z"⟩
abbrev cX7_hold : ByteArray := prog_1_method_51_code
def yX7_hold : MethodName := ⟨RX7, "hold", "(III)I"⟩
abbrev cX7_isKind : ByteArray := prog_1_method_52_code
def yX7_isKind : MethodName := ⟨RX7, "isKind", "(I)Z"⟩
abbrev cX7_isLetter : ByteArray := prog_1_method_53_code
def yX7_isLetter : MethodName := ⟨RX7, "isLetter", "(I)Z"⟩
abbrev cX7_isMass : ByteArray := prog_1_method_54_code
def yX7_isMass : MethodName := ⟨RX7, "isMass", "(I)Z"⟩
abbrev cX7_isReach : ByteArray := prog_1_method_55_code
def yX7_isReach : MethodName := ⟨RX7, "isReach", "(I)Z"⟩
abbrev cX7_isSheet : ByteArray := prog_1_method_56_code
def yX7_isSheet : MethodName := ⟨RX7, "isSheet", "(I)Z"⟩
abbrev cX7_isSlot : ByteArray := prog_1_method_57_code
def yX7_isSlot : MethodName := ⟨RX7, "isSlot", "(I)Z"⟩
def RX8 : String := "LogLettersModel"
def TX8 : u_T := fun k => match k with
  | 0 => ("LogLettersModel", "now", "[I", true)
  | 1 => ("LogLettersModel", "image", "[I", true)
  | 2 => ("LogLettersModel", "aside", "[I", true)
  | 3 => ("LogLettersModel", "hasImage", "Z", false)
  | 4 => ("LogLettersModel", "before", "[I", true)
  | 5 => ("LogLettersModel", "tape", "[I", true)
  | 6 => ("LogLettersModel", "taped", "I", false)
  | 7 => ("LogLettersModel", "next", "I", false)
  | 8 => ("LogLettersModel", "from", "I", false)
  | 9 => ("LogLettersModel", "token", "I", false)
  | 10 => ("LogLettersModel", "value", "I", false)
  | 11 => ("LogLettersModel", "ended", "I", false)
  | 12 => ("LogLettersModel", "key", "I", false)
  | 13 => ("LogLettersModel", "keys", "[C", true)
  | 14 => ("LogLettersModel", "keyAt", "[I", true)
  | 15 => ("LogLettersModel", "code", "[I", true)
  | 16 => ("LogLettersModel", "codes", "I", false)
  | 17 => ("LogLettersModel", "atoms", "I", false)
  | 18 => ("LogLettersModel", "waits", "[I", true)
  | 19 => ("LogLettersModel", "held", "I", false)
  | 20 => ("LogLettersModel", "tested", "[Z", true)
  | 21 => ("LogLettersModel", "stack", "[I", true)
  | 22 => ("LogLettersModel", "facts", "[I", true)
  | 23 => ("LogLettersModel", "sorts", "[I", true)
  | 24 => ("LogLettersModel", "sizes", "[I", true)
  | 25 => ("LogLettersModel", "cells", "[I", true)
  | 26 => ("LogLettersModel", "holds", "[I", true)
  | 27 => ("LogLettersModel", "holdsA", "[I", true)
  | 28 => ("LogLettersModel", "holdsB", "[I", true)
  | 29 => ("LogLettersModel", "heldCells", "[I", true)
  | 30 => ("LogLettersModel", "moved", "[I", true)
  | 31 => ("LogLettersModel", "tells", "[I", true)
  | _ => ("LogLettersModel", "waiting", "I", false)
def tyX8 : Nat → FieldType := fun k => match k with
  | 0 => .array .int
  | 1 => .array .int
  | 2 => .array .int
  | 3 => .boolean
  | 4 => .array .int
  | 5 => .array .int
  | 6 => .int
  | 7 => .int
  | 8 => .int
  | 9 => .int
  | 10 => .int
  | 11 => .int
  | 12 => .int
  | 13 => .array .char
  | 14 => .array .int
  | 15 => .array .int
  | 16 => .int
  | 17 => .int
  | 18 => .array .int
  | 19 => .int
  | 20 => .array .boolean
  | 21 => .array .int
  | 22 => .array .int
  | 23 => .array .int
  | 24 => .array .int
  | 25 => .array .int
  | 26 => .array .int
  | 27 => .array .int
  | 28 => .array .int
  | 29 => .array .int
  | 30 => .array .int
  | 31 => .array .int
  | _ => .int
theorem nmX8 : ∀ a, a < 33 → ∀ b, b < 33 → a ≠ b → (TX8 a).2.1 ≠ (TX8 b).2.1 := by decide +kernel
theorem tyX8_ok : ∀ k, k < 33 → parseFieldDescriptor (TX8 k).2.2.1 = some (tyX8 k) := by decide +kernel
abbrev cX8_init : ByteArray := prog_10_method_1_code
def yX8_init : MethodName := ⟨RX8, "<init>", "()V"⟩
abbrev cX8_in : ByteArray := prog_10_method_2_code
def yX8_in : MethodName := ⟨RX8, "in", "(III)Z"⟩
abbrev cX8_within : ByteArray := prog_10_method_3_code
def yX8_within : MethodName := ⟨RX8, "within", "(III)I"⟩
abbrev cX8_copyAll : ByteArray := prog_10_method_4_code
def yX8_copyAll : MethodName := ⟨RX8, "copyAll", "([I[I)V"⟩
abbrev cX8_isLog : ByteArray := prog_10_method_5_code
def yX8_isLog : MethodName := ⟨RX8, "isLog", "(I)Z"⟩
abbrev cX8_isReach : ByteArray := prog_10_method_6_code
def yX8_isReach : MethodName := ⟨RX8, "isReach", "(I)Z"⟩
abbrev cX8_of : ByteArray := prog_10_method_7_code
def yX8_of : MethodName := ⟨RX8, "of", "(II)I"⟩
abbrev cX8_put : ByteArray := prog_10_method_8_code
def yX8_put : MethodName := ⟨RX8, "put", "(III)V"⟩
abbrev cX8_becomes : ByteArray := prog_10_method_9_code
def yX8_becomes : MethodName := ⟨RX8, "becomes", "(II)I"⟩
abbrev cX8_comes : ByteArray := prog_10_method_10_code
def yX8_comes : MethodName := ⟨RX8, "comes", "(III)I"⟩
abbrev cX8_log : ByteArray := prog_10_method_11_code
def yX8_log : MethodName := ⟨RX8, "log", "(III)I"⟩
abbrev cX8_driftsOf : ByteArray := prog_10_method_12_code
def yX8_driftsOf : MethodName := ⟨RX8, "driftsOf", "(I)I"⟩
abbrev cX8_claimedOf : ByteArray := prog_10_method_13_code
def yX8_claimedOf : MethodName := ⟨RX8, "claimedOf", "(I)I"⟩
abbrev cX8_worthOf : ByteArray := prog_10_method_14_code
def yX8_worthOf : MethodName := ⟨RX8, "worthOf", "(I)I"⟩
abbrev cX8_told : ByteArray := prog_10_method_15_code
def yX8_told : MethodName := ⟨RX8, "told", "(II)I"⟩
abbrev cX8_isUnder : ByteArray := prog_10_method_16_code
def yX8_isUnder : MethodName := ⟨RX8, "isUnder", "(II)Z"⟩
abbrev cX8_as : ByteArray := prog_10_method_17_code
def yX8_as : MethodName := ⟨RX8, "as", "(II)I"⟩
abbrev cX8_turns : ByteArray := prog_10_method_18_code
def yX8_turns : MethodName := ⟨RX8, "turns", "(II)I"⟩
abbrev cX8_set : ByteArray := prog_10_method_19_code
def yX8_set : MethodName := ⟨RX8, "set", "(III)I"⟩
abbrev cX8_lays : ByteArray := prog_10_method_20_code
def yX8_lays : MethodName := ⟨RX8, "lays", "(II)I"⟩
abbrev cX8_reach : ByteArray := prog_10_method_21_code
def yX8_reach : MethodName := ⟨RX8, "reach", "(III)I"⟩
abbrev cX8_rule : ByteArray := prog_10_method_22_code
def yX8_rule : MethodName := ⟨RX8, "rule", "(II)I"⟩
abbrev cX8_word : ByteArray := prog_10_method_23_code
def yX8_word : MethodName := ⟨RX8, "word", "(I)I"⟩
abbrev cX8_unword : ByteArray := prog_10_method_24_code
def yX8_unword : MethodName := ⟨RX8, "unword", "()I"⟩
abbrev cX8_draw : ByteArray := prog_10_method_25_code
def yX8_draw : MethodName := ⟨RX8, "draw", "()I"⟩
abbrev cX8_deal : ByteArray := prog_10_method_26_code
def yX8_deal : MethodName := ⟨RX8, "deal", "(I)I"⟩
abbrev cX8_seed : ByteArray := prog_10_method_27_code
def yX8_seed : MethodName := ⟨RX8, "seed", "(I)I"⟩
abbrev cX8_manyAt : ByteArray := prog_10_method_28_code
def yX8_manyAt : MethodName := ⟨RX8, "manyAt", "(I)I"⟩
abbrev cX8_goesDown : ByteArray := prog_10_method_29_code
def yX8_goesDown : MethodName := ⟨RX8, "goesDown", "(I)V"⟩
abbrev cX8_saws : ByteArray := prog_10_method_30_code
def yX8_saws : MethodName := ⟨RX8, "saws", "()V"⟩
abbrev cX8_week : ByteArray := prog_10_method_31_code
def yX8_week : MethodName := ⟨RX8, "week", "()V"⟩
abbrev cX8_goesOn : ByteArray := prog_10_method_32_code
def yX8_goesOn : MethodName := ⟨RX8, "goesOn", "(I)V"⟩
abbrev cX8_weeks : ByteArray := prog_10_method_33_code
def yX8_weeks : MethodName := ⟨RX8, "weeks", "(I)I"⟩
abbrev cX8_read : ByteArray := prog_10_method_34_code
def yX8_read : MethodName := ⟨RX8, "read", "(I)I"⟩
abbrev cX8_spelt : ByteArray := prog_10_method_35_code
def yX8_spelt : MethodName := ⟨RX8, "spelt", "()I"⟩
abbrev cX8_jam : ByteArray := prog_10_method_36_code
def yX8_jam : MethodName := ⟨RX8, "jam", "()I"⟩
abbrev cX8_river : ByteArray := prog_10_method_37_code
def yX8_river : MethodName := ⟨RX8, "river", "(I)I"⟩
abbrev cX8_thinks : ByteArray := prog_10_method_38_code
def yX8_thinks : MethodName := ⟨RX8, "thinks", "()V"⟩
abbrev cX8_putsBack : ByteArray := prog_10_method_39_code
def yX8_putsBack : MethodName := ⟨RX8, "putsBack", "()V"⟩
abbrev cX8_behind : ByteArray := prog_10_method_40_code
def yX8_behind : MethodName := ⟨RX8, "behind", "(II)I"⟩
abbrev cX8_whole : ByteArray := prog_10_method_41_code
def yX8_whole : MethodName := ⟨RX8, "whole", "()I"⟩
abbrev cX8_comeBehind : ByteArray := prog_10_method_42_code
def yX8_comeBehind : MethodName := ⟨RX8, "comeBehind", "(I)I"⟩
abbrev cX8_frees : ByteArray := prog_10_method_43_code
def yX8_frees : MethodName := ⟨RX8, "frees", "(II)I"⟩
abbrev cX8_speltBehind : ByteArray := prog_10_method_44_code
def yX8_speltBehind : MethodName := ⟨RX8, "speltBehind", "(I)I"⟩
abbrev cX8_lost : ByteArray := prog_10_method_45_code
def yX8_lost : MethodName := ⟨RX8, "lost", "(I)I"⟩
abbrev cX8_wider : ByteArray := prog_10_method_46_code
def yX8_wider : MethodName := ⟨RX8, "wider", "(II)I"⟩
abbrev cX8_opened : ByteArray := prog_10_method_47_code
def yX8_opened : MethodName := ⟨RX8, "opened", "(I)I"⟩
abbrev cX8_rolled : ByteArray := prog_10_method_48_code
def yX8_rolled : MethodName := ⟨RX8, "rolled", "(II)I"⟩
abbrev cX8_offBy : ByteArray := prog_10_method_49_code
def yX8_offBy : MethodName := ⟨RX8, "offBy", "(III)J"⟩
abbrev cX8_looked : ByteArray := prog_10_method_50_code
def yX8_looked : MethodName := ⟨RX8, "looked", "(III)I"⟩
abbrev cX8_fee : ByteArray := prog_10_method_51_code
def yX8_fee : MethodName := ⟨RX8, "fee", "()I"⟩
abbrev cX8_fine : ByteArray := prog_10_method_52_code
def yX8_fine : MethodName := ⟨RX8, "fine", "(I)I"⟩
abbrev cX8_feed : ByteArray := prog_10_method_53_code
def yX8_feed : MethodName := ⟨RX8, "feed", "(III)I"⟩
abbrev cX8_trim : ByteArray := prog_10_method_54_code
def yX8_trim : MethodName := ⟨RX8, "trim", "(I)I"⟩
abbrev cX8_isLetter : ByteArray := prog_10_method_55_code
def yX8_isLetter : MethodName := ⟨RX8, "isLetter", "(I)Z"⟩
abbrev cX8_isFigure : ByteArray := prog_10_method_56_code
def yX8_isFigure : MethodName := ⟨RX8, "isFigure", "(I)Z"⟩
abbrev cX8_go : ByteArray := prog_10_method_57_code
def yX8_go : MethodName := ⟨RX8, "go", "()V"⟩
abbrev cX8_takesKey : ByteArray := prog_10_method_58_code
def yX8_takesKey : MethodName := ⟨RX8, "takesKey", "()Z"⟩
abbrev cX8_nameOf : ByteArray := prog_10_method_59_code
def yX8_nameOf : MethodName := ⟨RX8, "nameOf", "(I)I"⟩
abbrev cX8_rank : ByteArray := prog_10_method_60_code
def yX8_rank : MethodName := ⟨RX8, "rank", "(I)I"⟩
abbrev cX8_settle : ByteArray := prog_10_method_61_code
def yX8_settle : MethodName := ⟨RX8, "settle", "(I)V"⟩
abbrev cX8_signHere : ByteArray := prog_10_method_62_code
def yX8_signHere : MethodName := ⟨RX8, "signHere", "()I"⟩
abbrev cX8_takesPart : ByteArray := prog_10_method_63_code
def yX8_takesPart : MethodName := ⟨RX8, "takesPart", "()Z"⟩
abbrev cX8_takesE : ByteArray := prog_10_method_64_code
def yX8_takesE : MethodName := ⟨RX8, "takesE", "()Z"⟩
abbrev cX8_notsOpen : ByteArray := prog_10_method_65_code
def yX8_notsOpen : MethodName := ⟨RX8, "notsOpen", "()I"⟩
abbrev cX8_text : ByteArray := prog_10_method_66_code
def yX8_text : MethodName := ⟨RX8, "text", "()I"⟩
abbrev cX8_textTold : ByteArray := prog_10_method_67_code
def yX8_textTold : MethodName := ⟨RX8, "textTold", "(II)I"⟩
abbrev cX8_counts : ByteArray := prog_10_method_68_code
def yX8_counts : MethodName := ⟨RX8, "counts", "(I)I"⟩
abbrev cX8_why : ByteArray := prog_10_method_69_code
def yX8_why : MethodName := ⟨RX8, "why", "(I)I"⟩
abbrev cX8_two : ByteArray := prog_10_method_70_code
def yX8_two : MethodName := ⟨RX8, "two", "(III)I"⟩
abbrev cX8_worksOut : ByteArray := prog_10_method_71_code
def yX8_worksOut : MethodName := ⟨RX8, "worksOut", "(I)I"⟩
abbrev cX8_isSheet : ByteArray := prog_10_method_72_code
def yX8_isSheet : MethodName := ⟨RX8, "isSheet", "(I)Z"⟩
abbrev cX8_isSlot : ByteArray := prog_10_method_73_code
def yX8_isSlot : MethodName := ⟨RX8, "isSlot", "(I)Z"⟩
abbrev cX8_sheet : ByteArray := prog_10_method_74_code
def yX8_sheet : MethodName := ⟨RX8, "sheet", "(III)I"⟩
abbrev cX8_mark : ByteArray := prog_10_method_75_code
def yX8_mark : MethodName := ⟨RX8, "mark", "(III)I"⟩
abbrev cX8_pour : ByteArray := prog_10_method_76_code
def yX8_pour : MethodName := ⟨RX8, "pour", "(I)I"⟩
abbrev cX8_reads : ByteArray := prog_10_method_77_code
def yX8_reads : MethodName := ⟨RX8, "reads", "(I)I"⟩
abbrev cX8_copy : ByteArray := prog_10_method_78_code
def yX8_copy : MethodName := ⟨RX8, "copy", "(IIIII)I"⟩
abbrev cX8_lay : ByteArray := prog_10_method_79_code
def yX8_lay : MethodName := ⟨RX8, "lay", "(III)I"⟩
abbrev cX8_ask : ByteArray := prog_10_method_80_code
def yX8_ask : MethodName := ⟨RX8, "ask", "(II)I"⟩
abbrev cX8_item : ByteArray := prog_10_method_81_code
def yX8_item : MethodName := ⟨RX8, "item", "(II)I"⟩
abbrev cX8_rest : ByteArray := prog_10_method_82_code
def yX8_rest : MethodName := ⟨RX8, "rest", "(II)I"⟩
abbrev cX8_tell : ByteArray := prog_10_method_83_code
def yX8_tell : MethodName := ⟨RX8, "tell", "(I)I"⟩
abbrev cX8_allReaches : ByteArray := prog_10_method_84_code
def yX8_allReaches : MethodName := ⟨RX8, "allReaches", "()I"⟩
abbrev cX8_check : ByteArray := prog_10_method_85_code
def yX8_check : MethodName := ⟨RX8, "check", "(I)I"⟩
abbrev cX8_keep : ByteArray := prog_10_method_86_code
def yX8_keep : MethodName := ⟨RX8, "keep", "()I"⟩
abbrev cX8_back : ByteArray := prog_10_method_87_code
def yX8_back : MethodName := ⟨RX8, "back", "()I"⟩
abbrev cX8_count : ByteArray := prog_10_method_88_code
def yX8_count : MethodName := ⟨RX8, "count", "(I)I"⟩
def RJ11 : String := "java/lang/Character"
abbrev cJ11_isValidCodePoint_9a6ad : ByteArray := prog_11_method_11_code
def yJ11_isValidCodePoint_9a6ad : MethodName := ⟨RJ11, "isValidCodePoint", "(I)Z"⟩
abbrev cJ11_highSurrogate_5068e : ByteArray := prog_11_method_28_code
def yJ11_highSurrogate_5068e : MethodName := ⟨RJ11, "highSurrogate", "(I)C"⟩
abbrev cJ11_lowSurrogate_5068e : ByteArray := prog_11_method_29_code
def yJ11_lowSurrogate_5068e : MethodName := ⟨RJ11, "lowSurrogate", "(I)C"⟩
def RJ6 : String := "java/lang/Integer"
abbrev cJ6_bitCount_0f7a4 : ByteArray := prog_12_method_49_code
def yJ6_bitCount_0f7a4 : MethodName := ⟨RJ6, "bitCount", "(I)I"⟩
def RJ9 : String := "java/lang/Math"
abbrev cJ9_abs_0f7a4 : ByteArray := prog_13_method_59_code
def yJ9_abs_0f7a4 : MethodName := ⟨RJ9, "abs", "(I)I"⟩
abbrev cJ9_max_7cf53 : ByteArray := prog_13_method_65_code
def yJ9_max_7cf53 : MethodName := ⟨RJ9, "max", "(II)I"⟩
abbrev cJ9_min_7cf53 : ByteArray := prog_13_method_69_code
def yJ9_min_7cf53 : MethodName := ⟨RJ9, "min", "(II)I"⟩
def RJ0 : String := "java/lang/String"
abbrev cJ0_length_8abf5 : ByteArray := prog_14_method_54_code
def yJ0_length_8abf5 : MethodName := ⟨RJ0, "length", "()I"⟩
abbrev cJ0_charAt_5068e : ByteArray := prog_14_method_56_code
def yJ0_charAt_5068e : MethodName := ⟨RJ0, "charAt", "(I)C"⟩
abbrev cJ0_indexOf_0f7a4 : ByteArray := prog_14_method_79_code
def yJ0_indexOf_0f7a4 : MethodName := ⟨RJ0, "indexOf", "(I)I"⟩
abbrev cJ0_indexOf_7cf53 : ByteArray := prog_14_method_80_code
def yJ0_indexOf_7cf53 : MethodName := ⟨RJ0, "indexOf", "(II)I"⟩
abbrev cJ0_coder_7d493 : ByteArray := prog_14_method_152_code
def yJ0_coder_7d493 : MethodName := ⟨RJ0, "coder", "()B"⟩
abbrev cJ0_isLatin1_aae02 : ByteArray := prog_14_method_154_code
def yJ0_isLatin1_aae02 : MethodName := ⟨RJ0, "isLatin1", "()Z"⟩
abbrev cJ0_checkIndex_df160 : ByteArray := prog_14_method_155_code
def yJ0_checkIndex_df160 : MethodName := ⟨RJ0, "checkIndex", "(II)V"⟩
abbrev cJ0_checkBoundsBeginEnd_23922 : ByteArray := prog_14_method_158_code
def yJ0_checkBoundsBeginEnd_23922 : MethodName := ⟨RJ0, "checkBoundsBeginEnd", "(III)V"⟩
def RJ1 : String := "java/lang/StringLatin1"
abbrev cJ1_charAt_3b067 : ByteArray := prog_15_method_2_code
def yJ1_charAt_3b067 : MethodName := ⟨RJ1, "charAt", "([BI)C"⟩
abbrev cJ1_canEncode_9a6ad : ByteArray := prog_15_method_4_code
def yJ1_canEncode_9a6ad : MethodName := ⟨RJ1, "canEncode", "(I)Z"⟩
abbrev cJ1_indexOf_4cfef : ByteArray := prog_15_method_22_code
def yJ1_indexOf_4cfef : MethodName := ⟨RJ1, "indexOf", "([BIII)I"⟩
abbrev cJ1_indexOfChar_4cfef : ByteArray := prog_15_method_23_code
def yJ1_indexOfChar_4cfef : MethodName := ⟨RJ1, "indexOfChar", "([BIII)I"⟩
def RJ2 : String := "java/lang/StringUTF16"
abbrev cJ2_getChar_3b067 : ByteArray := prog_16_method_5_code
def yJ2_getChar_3b067 : MethodName := ⟨RJ2, "getChar", "([BI)C"⟩
abbrev cJ2_length_9d52b : ByteArray := prog_16_method_6_code
def yJ2_length_9d52b : MethodName := ⟨RJ2, "length", "([B)I"⟩
abbrev cJ2_indexOf_4cfef : ByteArray := prog_16_method_40_code
def yJ2_indexOf_4cfef : MethodName := ⟨RJ2, "indexOf", "([BIII)I"⟩
abbrev cJ2_indexOfChar_4cfef : ByteArray := prog_16_method_47_code
def yJ2_indexOfChar_4cfef : MethodName := ⟨RJ2, "indexOfChar", "([BIII)I"⟩
abbrev cJ2_indexOfCharUnsafe_4cfef : ByteArray := prog_16_method_48_code
def yJ2_indexOfCharUnsafe_4cfef : MethodName := ⟨RJ2, "indexOfCharUnsafe", "([BIII)I"⟩
abbrev cJ2_indexOfSupplementary_4cfef : ByteArray := prog_16_method_49_code
def yJ2_indexOfSupplementary_4cfef : MethodName := ⟨RJ2, "indexOfSupplementary", "([BIII)I"⟩
abbrev cJ2_charAt_3b067 : ByteArray := prog_16_method_83_code
def yJ2_charAt_3b067 : MethodName := ⟨RJ2, "charAt", "([BI)C"⟩
abbrev cJ2_checkIndex_2214a : ByteArray := prog_16_method_91_code
def yJ2_checkIndex_2214a : MethodName := ⟨RJ2, "checkIndex", "(I[B)V"⟩
abbrev cJ2_checkBoundsBeginEnd_d044e : ByteArray := prog_16_method_93_code
def yJ2_checkBoundsBeginEnd_d044e : MethodName := ⟨RJ2, "checkBoundsBeginEnd", "(II[B)V"⟩
def RJ10 : String := "java/lang/System"
def RJ3 : String := "jdk/internal/util/Preconditions"
abbrev cJ3_checkIndex_8e157 : ByteArray := prog_18_method_11_code
def yJ3_checkIndex_8e157 : MethodName := ⟨RJ3, "checkIndex", "(IILjava/util/function/BiFunction;)I"⟩
abbrev cJ3_checkFromToIndex_8c36e : ByteArray := prog_18_method_12_code
def yJ3_checkFromToIndex_8c36e : MethodName := ⟨RJ3, "checkFromToIndex", "(IIILjava/util/function/BiFunction;)I"⟩
def RL : String := "LogLettersLaw"
abbrev cL_law : ByteArray := code
def yL_law : MethodName := ⟨RL, "law", "([I)Z"⟩
abbrev vwCl : List vw_C := [(RX0, TX0, 4), (RX1, TX1, 5), (RX2, TX2, 14), (RX3, TX3, 16), (RX4, TX4, 3), (RX5, TX5, 4), (RX6, TX6, 2), (RX7, TX7, 10), (RX8, TX8, 33)]
end
section
/-! THE ABSTRACT MACHINE: a plain interpreter of the claim's bytecode over named cells. A cell's name is (tag, i, j); its contents are a function of the place. -/
abbrev Rf : Type := Nat × Nat × Nat
abbrev Av : Type := Int32 ⊕ (Int64 ⊕ Option Rf)
abbrev vI (x : Int32) : Av := Sum.inl x
abbrev vL (x : Int64) : Av := Sum.inr (Sum.inl x)
abbrev vR (t i j : Nat) : Av := Sum.inr (Sum.inr (some (t, i, j)))
abbrev vN : Av := Sum.inr (Sum.inr none)
abbrev Hp : Type := Rf → Nat → Av
/-- cells, lengths of arrays, how many cells, how many slots -/
abbrev St : Type := Hp × (Rf → Nat) × Nat × Nat
abbrev Lv : Type := List (Option Av)
/-- a method: bytes, name, locals, return type -/
abbrev Mu : Type := ByteArray × MethodName × Nat × Option FieldType
/-- the kind of a tag: 0 .. 8 a class of vwCl; 10 int[], 11 byte[], 12 boolean[], 13 char[], 14 Log[], 15 Law[], 16 Row[], 17 Slot[]; 20 String -/
def kdL : List Nat := [10, 10, 20, 11, 98, 99, 99, 99, 99, 99, 7, 3, 1, 14, 10, 10, 10, 10, 15, 99, 2, 6, 11, 10, 10, 16, 17, 10, 4, 10, 5, 1, 4, 10, 0, 10, 10, 99, 99, 99, 8, 10, 13, 12]
def kd (t : Nat) : Nat := kdL.getD t 99
def aty (k : Nat) : FieldType := match k with
  | 10 => .int
  | 11 => .byte
  | 12 => .boolean
  | 13 => .char
  | 14 => .object RX1
  | 15 => .object RX0
  | 16 => .object RX4
  | _ => .object RX5
/-- the class whose objects an array of kind k holds -/
def ecl (k : Nat) : Nat := match k with
  | 14 => 1
  | 15 => 0
  | 16 => 4
  | _ => 5
def qoff (r : Rf) : Nat := match r.1 with
  | 10 => 0
  | 11 => 1 + 19 * r.2.1
  | 12 => 8 + 19 * r.2.1 + r.2.2
  | 13 => 2 + 19 * r.2.1
  | 14 => 3 + 19 * r.2.1
  | 15 => 4 + 19 * r.2.1
  | 16 => 5 + 19 * r.2.1
  | 17 => 6 + 19 * r.2.1
  | 18 => 7 + 19 * r.2.1
  | 20 => 77
  | 21 => 78
  | 22 => 79
  | 23 => 80
  | 24 => 81
  | 25 => 82
  | 26 => 83
  | 27 => 84
  | 28 => 85 + 2 * r.2.1
  | 29 => 86 + 2 * r.2.1
  | 30 => 93 + 4 * r.2.1
  | 31 => 94 + 4 * r.2.1
  | 32 => 95 + 4 * r.2.1
  | 33 => 96 + 4 * r.2.1
  | 40 => 113
  | 41 => 114 + r.2.1
  | 42 => 119
  | 43 => 123
  | 34 => 135 + 3 * r.2.1
  | 35 => 136 + 3 * r.2.1
  | 36 => 137 + 3 * r.2.1
  | _ => 0
/-- the name of the cell that is made as the n-th -/
def qmk (n : Nat) : Rf :=
  if n = 0 then (10, 0, 0)
  else if n < 77 then (if (n - 1) % 19 = 0 then (11, (n - 1) / 19, 0) else if (n - 1) % 19 < 7 then (12 + (n - 1) % 19, (n - 1) / 19, 0) else (12, (n - 1) / 19, (n - 1) % 19 - 7))
  else if n < 85 then (n - 57, 0, 0)
  else if n < 93 then (28 + (n - 85) % 2, (n - 85) / 2, 0)
  else if n < 113 then (30 + (n - 93) % 4, (n - 93) / 4, 0)
  else if n = 113 then (40, 0, 0)
  else if n = 119 then (42, 0, 0)
  else if n = 123 then (43, 0, 0)
  else if n < 135 then (41, n - 114, 0)
  else (34 + (n - 135) % 3, (n - 135) / 3, 0)
theorem qoff_mk_lo : ∀ n, n < 135 → qoff (qmk n) = n := by decide +kernel
theorem qoff_mk (n : Nat) : qoff (qmk n) = n := by
  by_cases h : n < 135
  · exact qoff_mk_lo n h
  · have e : qmk n = (34 + (n - 135) % 3, (n - 135) / 3, 0) := by
      unfold qmk
      rw [if_neg (by omega), if_neg (by omega), if_neg (by omega), if_neg (by omega), if_neg (by omega), if_neg (by omega), if_neg (by omega), if_neg (by omega), if_neg (by omega)]
    rw [e]
    have h3 : (n - 135) % 3 = 0 ∨ (n - 135) % 3 = 1 ∨ (n - 135) % 3 = 2 := by omega
    rcases h3 with h3 | h3 | h3 <;> rw [h3] <;> simp only [qoff] <;> omega
theorem mk_tag_lo : ∀ n, n < 135 → 10 ≤ (qmk n).1 := by decide +kernel
theorem mk_tag (n : Nat) : 10 ≤ (qmk n).1 := by
  by_cases h : n < 135
  · exact mk_tag_lo n h
  · unfold qmk
    rw [if_neg (by omega), if_neg (by omega), if_neg (by omega), if_neg (by omega), if_neg (by omega), if_neg (by omega), if_neg (by omega), if_neg (by omega), if_neg (by omega)]
    show 10 ≤ 34 + (n - 135) % 3
    omega
/-! what the tables say: the words stand at their places of lw_tbl -/
def okw (w : Jvm.Cond) : Bool := decide (w ∈ lw_tbl) && goodWord w
/-- the word w stands at place i -/
def tat (i : Nat) (w : Jvm.Cond) : Bool := decide (lw_tbl[i]? = some w) && goodWord w
theorem tat_okw {i : Nat} {w : Jvm.Cond} (h : tat i w = true) : okw w = true := by
  unfold tat at h
  simp only [Bool.and_eq_true, decide_eq_true_eq] at h
  unfold okw
  rw [decide_eq_true (List.mem_of_getElem? h.1), h.2]
  rfl
/-! THE TABLES: what the pools say, with the places of the words that say so -/
def MX0_init : Mu := (cX0_init, yX0_init, 6, none)
def MX0_give : Mu := (cX0_give, yX0_give, 7, (some .int))
def MX0_valueOf : Mu := (cX0_valueOf, yX0_valueOf, 4, (some .int))
def MX0_joined : Mu := (cX0_joined, yX0_joined, 3, (some .int))
def MX1_init : Mu := (cX1_init, yX1_init, 1, none)
def MX1_takeOver : Mu := (cX1_takeOver, yX1_takeOver, 2, none)
def MX1_isAfloat : Mu := (cX1_isAfloat, yX1_isAfloat, 1, (some .boolean))
def MX1_isOf : Mu := (cX1_isOf, yX1_isOf, 4, (some .boolean))
def MX1_driftFrom : Mu := (cX1_driftFrom, yX1_driftFrom, 3, (some .int))
def MX1_claimedBy : Mu := (cX1_claimedBy, yX1_claimedBy, 2, (some .int))
def MX1_worth : Mu := (cX1_worth, yX1_worth, 1, (some .int))
def MX2_init : Mu := (cX2_init, yX2_init, 1, none)
def MX2_readLaw : Mu := (cX2_readLaw, yX2_readLaw, 2, (some (.object "LogLetters$Law")))
def MX2_begin : Mu := (cX2_begin, yX2_begin, 1, none)
def MX2_nextWord : Mu := (cX2_nextWord, yX2_nextWord, 2, (some .boolean))
def MX2_sortOf : Mu := (cX2_sortOf, yX2_sortOf, 1, (some .int))
def MX2_takesKey : Mu := (cX2_takesKey, yX2_takesKey, 1, (some .boolean))
def MX2_isWord : Mu := (cX2_isWord, yX2_isWord, 3, (some .boolean))
def MX2_goesOn : Mu := (cX2_goesOn, yX2_goesOn, 2, (some .boolean))
def MX2_takesPiece : Mu := (cX2_takesPiece, yX2_takesPiece, 2, (some .boolean))
def MX2_takesNumber : Mu := (cX2_takesNumber, yX2_takesNumber, 3, (some .boolean))
def MX2_takesName : Mu := (cX2_takesName, yX2_takesName, 3, (some .boolean))
def MX2_namesOf : Mu := (cX2_namesOf, yX2_namesOf, 1, (some (.object "java/lang/String")))
def MX2_takesSign : Mu := (cX2_takesSign, yX2_takesSign, 4, (some .boolean))
def MX2_levelOf : Mu := (cX2_levelOf, yX2_levelOf, 1, (some .int))
def MX2_closesBracket : Mu := (cX2_closesBracket, yX2_closesBracket, 1, (some .boolean))
def MX2_addPiece : Mu := (cX2_addPiece, yX2_addPiece, 2, none)
def MX2_closeBangs : Mu := (cX2_closeBangs, yX2_closeBangs, 1, none)
def MX2_closeDownTo : Mu := (cX2_closeDownTo, yX2_closeDownTo, 2, none)
def MX2_topSign : Mu := (cX2_topSign, yX2_topSign, 1, (some .int))
def MX2_pop : Mu := (cX2_pop, yX2_pop, 1, (some .int))
def MX2_push : Mu := (cX2_push, yX2_push, 2, none)
def MX2_addCode : Mu := (cX2_addCode, yX2_addCode, 2, none)
def MX3_init : Mu := (cX3_init, yX3_init, 2, none)
def MX3_takeOver : Mu := (cX3_takeOver, yX3_takeOver, 3, none)
def MX3_hasLog : Mu := (cX3_hasLog, yX3_hasLog, 2, (some .boolean))
def MX3_addLog : Mu := (cX3_addLog, yX3_addLog, 5, (some .boolean))
def MX3_drawLog : Mu := (cX3_drawLog, yX3_drawLog, 4, none)
def MX3_addLetter : Mu := (cX3_addLetter, yX3_addLetter, 2, (some .boolean))
def MX3_addLaw : Mu := (cX3_addLaw, yX3_addLaw, 2, (some .boolean))
def MX3_lawAt : Mu := (cX3_lawAt, yX3_lawAt, 2, (some (.object "LogLetters$Law")))
def MX3_lawNumberFor : Mu := (cX3_lawNumberFor, yX3_lawNumberFor, 4, (some .int))
def MX3_lawFor : Mu := (cX3_lawFor, yX3_lawFor, 2, (some (.object "LogLetters$Law")))
def MX3_draw : Mu := (cX3_draw, yX3_draw, 1, (some .int))
def MX3_driftOf : Mu := (cX3_driftOf, yX3_driftOf, 4, (some .int))
def MX3_passWeeks : Mu := (cX3_passWeeks, yX3_passWeeks, 3, none)
def MX3_passWeek : Mu := (cX3_passWeek, yX3_passWeek, 3, none)
def MX3_countHeld : Mu := (cX3_countHeld, yX3_countHeld, 2, none)
def MX3_carryFrom : Mu := (cX3_carryFrom, yX3_carryFrom, 4, none)
def MX3_carry : Mu := (cX3_carry, yX3_carry, 4, none)
def MX3_mayLeave : Mu := (cX3_mayLeave, yX3_mayLeave, 3, (some .boolean))
def MX3_sawByLot : Mu := (cX3_sawByLot, yX3_sawByLot, 2, none)
def MX3_letterRead : Mu := (cX3_letterRead, yX3_letterRead, 3, (some .int))
def MX3_spelt : Mu := (cX3_spelt, yX3_spelt, 3, (some .int))
def MX3_unusedWith : Mu := (cX3_unusedWith, yX3_unusedWith, 5, (some .int))
def MX3_jammed : Mu := (cX3_jammed, yX3_jammed, 3, (some .int))
def MX3_afloat : Mu := (cX3_afloat, yX3_afloat, 3, (some .int))
def MX3_reachesTogether : Mu := (cX3_reachesTogether, yX3_reachesTogether, 3, (some .int))
def MX4_init : Mu := (cX4_init, yX4_init, 1, none)
def MX4_become : Mu := (cX4_become, yX4_become, 4, none)
def MX4_takeOver : Mu := (cX4_takeOver, yX4_takeOver, 2, none)
def MX4_isMissing : Mu := (cX4_isMissing, yX4_isMissing, 1, (some .boolean))
def MX4_hasPlace : Mu := (cX4_hasPlace, yX4_hasPlace, 2, (some .boolean))
def MX4_hasNumber : Mu := (cX4_hasNumber, yX4_hasNumber, 2, (some .boolean))
def MX4_hasPlaces : Mu := (cX4_hasPlaces, yX4_hasPlaces, 3, (some .boolean))
def MX5_init : Mu := (cX5_init, yX5_init, 1, none)
def MX5_findingFor : Mu := (cX5_findingFor, yX5_findingFor, 2, (some .int))
def MX6_init : Mu := (cX6_init, yX6_init, 1, none)
def MX6_addBytesOf : Mu := (cX6_addBytesOf, yX6_addBytesOf, 3, none)
def MX6_byteAt : Mu := (cX6_byteAt, yX6_byteAt, 2, (some .int))
def MX7_init : Mu := (cX7_init, yX7_init, 2, none)
def MX7_log : Mu := (cX7_log, yX7_log, 4, (some .int))
def MX7_told : Mu := (cX7_told, yX7_told, 4, (some .int))
def MX7_as : Mu := (cX7_as, yX7_as, 3, (some .int))
def MX7_turns : Mu := (cX7_turns, yX7_turns, 4, (some .int))
def MX7_set : Mu := (cX7_set, yX7_set, 6, (some .int))
def MX7_lays : Mu := (cX7_lays, yX7_lays, 4, (some .int))
def MX7_reach : Mu := (cX7_reach, yX7_reach, 5, (some .int))
def MX7_rule : Mu := (cX7_rule, yX7_rule, 4, (some .int))
def MX7_word : Mu := (cX7_word, yX7_word, 2, (some .int))
def MX7_unword : Mu := (cX7_unword, yX7_unword, 2, (some .int))
def MX7_deal : Mu := (cX7_deal, yX7_deal, 4, (some .int))
def MX7_seed : Mu := (cX7_seed, yX7_seed, 3, (some .int))
def MX7_weeks : Mu := (cX7_weeks, yX7_weeks, 3, (some .int))
def MX7_read : Mu := (cX7_read, yX7_read, 2, (some .int))
def MX7_river : Mu := (cX7_river, yX7_river, 2, (some .int))
def MX7_behind : Mu := (cX7_behind, yX7_behind, 3, (some .int))
def MX7_whole : Mu := (cX7_whole, yX7_whole, 2, (some .int))
def MX7_frees : Mu := (cX7_frees, yX7_frees, 6, (some .int))
def MX7_lost : Mu := (cX7_lost, yX7_lost, 5, (some .int))
def MX7_wider : Mu := (cX7_wider, yX7_wider, 6, (some .int))
def MX7_opened : Mu := (cX7_opened, yX7_opened, 4, (some .int))
def MX7_rolled : Mu := (cX7_rolled, yX7_rolled, 5, (some .int))
def MX7_looked : Mu := (cX7_looked, yX7_looked, 8, (some .int))
def MX7_fee : Mu := (cX7_fee, yX7_fee, 2, (some .int))
def MX7_fine : Mu := (cX7_fine, yX7_fine, 4, (some .int))
def MX7_feed : Mu := (cX7_feed, yX7_feed, 5, (some .int))
def MX7_trim : Mu := (cX7_trim, yX7_trim, 2, (some .int))
def MX7_text : Mu := (cX7_text, yX7_text, 2, (some .int))
def MX7_textTold : Mu := (cX7_textTold, yX7_textTold, 4, (some .int))
def MX7_why : Mu := (cX7_why, yX7_why, 2, (some .int))
def MX7_sheet : Mu := (cX7_sheet, yX7_sheet, 4, (some .int))
def MX7_mark : Mu := (cX7_mark, yX7_mark, 5, (some .int))
def MX7_pour : Mu := (cX7_pour, yX7_pour, 5, (some .int))
def MX7_reads : Mu := (cX7_reads, yX7_reads, 4, (some .int))
def MX7_copy : Mu := (cX7_copy, yX7_copy, 8, (some .int))
def MX7_lay : Mu := (cX7_lay, yX7_lay, 5, (some .int))
def MX7_ask : Mu := (cX7_ask, yX7_ask, 4, (some .int))
def MX7_item : Mu := (cX7_item, yX7_item, 5, (some .int))
def MX7_rest : Mu := (cX7_rest, yX7_rest, 4, (some .int))
def MX7_tell : Mu := (cX7_tell, yX7_tell, 2, (some .int))
def MX7_check : Mu := (cX7_check, yX7_check, 5, (some .int))
def MX7_keep : Mu := (cX7_keep, yX7_keep, 1, (some .int))
def MX7_back : Mu := (cX7_back, yX7_back, 1, (some .int))
def MX7_count : Mu := (cX7_count, yX7_count, 2, (some .int))
def MX7_startThought : Mu := (cX7_startThought, yX7_startThought, 1, none)
def MX7_startThoughtWithout : Mu := (cX7_startThoughtWithout, yX7_startThoughtWithout, 2, none)
def MX7_apartWithMass : Mu := (cX7_apartWithMass, yX7_apartWithMass, 6, (some .int))
def MX7_isWaiting : Mu := (cX7_isWaiting, yX7_isWaiting, 4, (some .boolean))
def MX7_within : Mu := (cX7_within, yX7_within, 3, (some .boolean))
def MX7_hold : Mu := (cX7_hold, yX7_hold, 3, (some .int))
def MX7_isKind : Mu := (cX7_isKind, yX7_isKind, 1, (some .boolean))
def MX7_isLetter : Mu := (cX7_isLetter, yX7_isLetter, 1, (some .boolean))
def MX7_isMass : Mu := (cX7_isMass, yX7_isMass, 1, (some .boolean))
def MX7_isReach : Mu := (cX7_isReach, yX7_isReach, 1, (some .boolean))
def MX7_isSheet : Mu := (cX7_isSheet, yX7_isSheet, 1, (some .boolean))
def MX7_isSlot : Mu := (cX7_isSlot, yX7_isSlot, 1, (some .boolean))
def MX8_init : Mu := (cX8_init, yX8_init, 2, none)
def MX8_in : Mu := (cX8_in, yX8_in, 3, (some .boolean))
def MX8_within : Mu := (cX8_within, yX8_within, 3, (some .int))
def MX8_copyAll : Mu := (cX8_copyAll, yX8_copyAll, 3, none)
def MX8_isLog : Mu := (cX8_isLog, yX8_isLog, 2, (some .boolean))
def MX8_isReach : Mu := (cX8_isReach, yX8_isReach, 1, (some .boolean))
def MX8_of : Mu := (cX8_of, yX8_of, 3, (some .int))
def MX8_put : Mu := (cX8_put, yX8_put, 4, none)
def MX8_becomes : Mu := (cX8_becomes, yX8_becomes, 4, (some .int))
def MX8_comes : Mu := (cX8_comes, yX8_comes, 5, (some .int))
def MX8_log : Mu := (cX8_log, yX8_log, 4, (some .int))
def MX8_driftsOf : Mu := (cX8_driftsOf, yX8_driftsOf, 4, (some .int))
def MX8_claimedOf : Mu := (cX8_claimedOf, yX8_claimedOf, 2, (some .int))
def MX8_worthOf : Mu := (cX8_worthOf, yX8_worthOf, 3, (some .int))
def MX8_told : Mu := (cX8_told, yX8_told, 3, (some .int))
def MX8_isUnder : Mu := (cX8_isUnder, yX8_isUnder, 2, (some .boolean))
def MX8_as : Mu := (cX8_as, yX8_as, 3, (some .int))
def MX8_turns : Mu := (cX8_turns, yX8_turns, 3, (some .int))
def MX8_set : Mu := (cX8_set, yX8_set, 4, (some .int))
def MX8_lays : Mu := (cX8_lays, yX8_lays, 3, (some .int))
def MX8_reach : Mu := (cX8_reach, yX8_reach, 4, (some .int))
def MX8_rule : Mu := (cX8_rule, yX8_rule, 3, (some .int))
def MX8_word : Mu := (cX8_word, yX8_word, 2, (some .int))
def MX8_unword : Mu := (cX8_unword, yX8_unword, 1, (some .int))
def MX8_draw : Mu := (cX8_draw, yX8_draw, 1, (some .int))
def MX8_deal : Mu := (cX8_deal, yX8_deal, 6, (some .int))
def MX8_seed : Mu := (cX8_seed, yX8_seed, 2, (some .int))
def MX8_manyAt : Mu := (cX8_manyAt, yX8_manyAt, 4, (some .int))
def MX8_goesDown : Mu := (cX8_goesDown, yX8_goesDown, 5, none)
def MX8_saws : Mu := (cX8_saws, yX8_saws, 2, none)
def MX8_week : Mu := (cX8_week, yX8_week, 3, none)
def MX8_goesOn : Mu := (cX8_goesOn, yX8_goesOn, 3, none)
def MX8_weeks : Mu := (cX8_weeks, yX8_weeks, 3, (some .int))
def MX8_read : Mu := (cX8_read, yX8_read, 4, (some .int))
def MX8_spelt : Mu := (cX8_spelt, yX8_spelt, 6, (some .int))
def MX8_jam : Mu := (cX8_jam, yX8_jam, 4, (some .int))
def MX8_river : Mu := (cX8_river, yX8_river, 4, (some .int))
def MX8_thinks : Mu := (cX8_thinks, yX8_thinks, 2, none)
def MX8_putsBack : Mu := (cX8_putsBack, yX8_putsBack, 2, none)
def MX8_behind : Mu := (cX8_behind, yX8_behind, 4, (some .int))
def MX8_whole : Mu := (cX8_whole, yX8_whole, 2, (some .int))
def MX8_comeBehind : Mu := (cX8_comeBehind, yX8_comeBehind, 3, (some .int))
def MX8_frees : Mu := (cX8_frees, yX8_frees, 7, (some .int))
def MX8_speltBehind : Mu := (cX8_speltBehind, yX8_speltBehind, 3, (some .int))
def MX8_lost : Mu := (cX8_lost, yX8_lost, 5, (some .int))
def MX8_wider : Mu := (cX8_wider, yX8_wider, 7, (some .int))
def MX8_opened : Mu := (cX8_opened, yX8_opened, 4, (some .int))
def MX8_rolled : Mu := (cX8_rolled, yX8_rolled, 5, (some .int))
def MX8_offBy : Mu := (cX8_offBy, yX8_offBy, 10, (some .long))
def MX8_looked : Mu := (cX8_looked, yX8_looked, 10, (some .int))
def MX8_fee : Mu := (cX8_fee, yX8_fee, 2, (some .int))
def MX8_fine : Mu := (cX8_fine, yX8_fine, 3, (some .int))
def MX8_feed : Mu := (cX8_feed, yX8_feed, 6, (some .int))
def MX8_trim : Mu := (cX8_trim, yX8_trim, 2, (some .int))
def MX8_isLetter : Mu := (cX8_isLetter, yX8_isLetter, 2, (some .boolean))
def MX8_isFigure : Mu := (cX8_isFigure, yX8_isFigure, 2, (some .boolean))
def MX8_go : Mu := (cX8_go, yX8_go, 2, none)
def MX8_takesKey : Mu := (cX8_takesKey, yX8_takesKey, 5, (some .boolean))
def MX8_nameOf : Mu := (cX8_nameOf, yX8_nameOf, 2, (some .int))
def MX8_rank : Mu := (cX8_rank, yX8_rank, 1, (some .int))
def MX8_settle : Mu := (cX8_settle, yX8_settle, 2, none)
def MX8_signHere : Mu := (cX8_signHere, yX8_signHere, 1, (some .int))
def MX8_takesPart : Mu := (cX8_takesPart, yX8_takesPart, 2, (some .boolean))
def MX8_takesE : Mu := (cX8_takesE, yX8_takesE, 5, (some .boolean))
def MX8_notsOpen : Mu := (cX8_notsOpen, yX8_notsOpen, 3, (some .int))
def MX8_text : Mu := (cX8_text, yX8_text, 4, (some .int))
def MX8_textTold : Mu := (cX8_textTold, yX8_textTold, 3, (some .int))
def MX8_counts : Mu := (cX8_counts, yX8_counts, 3, (some .int))
def MX8_why : Mu := (cX8_why, yX8_why, 3, (some .int))
def MX8_two : Mu := (cX8_two, yX8_two, 3, (some .int))
def MX8_worksOut : Mu := (cX8_worksOut, yX8_worksOut, 6, (some .int))
def MX8_isSheet : Mu := (cX8_isSheet, yX8_isSheet, 1, (some .boolean))
def MX8_isSlot : Mu := (cX8_isSlot, yX8_isSlot, 1, (some .boolean))
def MX8_sheet : Mu := (cX8_sheet, yX8_sheet, 5, (some .int))
def MX8_mark : Mu := (cX8_mark, yX8_mark, 4, (some .int))
def MX8_pour : Mu := (cX8_pour, yX8_pour, 6, (some .int))
def MX8_reads : Mu := (cX8_reads, yX8_reads, 4, (some .int))
def MX8_copy : Mu := (cX8_copy, yX8_copy, 7, (some .int))
def MX8_lay : Mu := (cX8_lay, yX8_lay, 6, (some .int))
def MX8_ask : Mu := (cX8_ask, yX8_ask, 3, (some .int))
def MX8_item : Mu := (cX8_item, yX8_item, 4, (some .int))
def MX8_rest : Mu := (cX8_rest, yX8_rest, 3, (some .int))
def MX8_tell : Mu := (cX8_tell, yX8_tell, 2, (some .int))
def MX8_allReaches : Mu := (cX8_allReaches, yX8_allReaches, 3, (some .int))
def MX8_check : Mu := (cX8_check, yX8_check, 6, (some .int))
def MX8_keep : Mu := (cX8_keep, yX8_keep, 1, (some .int))
def MX8_back : Mu := (cX8_back, yX8_back, 1, (some .int))
def MX8_count : Mu := (cX8_count, yX8_count, 2, (some .int))
def MJ6_bitCount_0f7a4 : Mu := (cJ6_bitCount_0f7a4, yJ6_bitCount_0f7a4, 1, (some .int))
def MJ0_length_8abf5 : Mu := (cJ0_length_8abf5, yJ0_length_8abf5, 1, (some .int))
def MJ0_charAt_5068e : Mu := (cJ0_charAt_5068e, yJ0_charAt_5068e, 2, (some .char))
def MJ0_indexOf_0f7a4 : Mu := (cJ0_indexOf_0f7a4, yJ0_indexOf_0f7a4, 2, (some .int))
def MJ0_indexOf_7cf53 : Mu := (cJ0_indexOf_7cf53, yJ0_indexOf_7cf53, 3, (some .int))
def MJ0_coder_7d493 : Mu := (cJ0_coder_7d493, yJ0_coder_7d493, 1, (some .byte))
def MJ0_isLatin1_aae02 : Mu := (cJ0_isLatin1_aae02, yJ0_isLatin1_aae02, 1, (some .boolean))
def MJ0_checkIndex_df160 : Mu := (cJ0_checkIndex_df160, yJ0_checkIndex_df160, 2, none)
def MJ1_charAt_3b067 : Mu := (cJ1_charAt_3b067, yJ1_charAt_3b067, 2, (some .char))
def MJ1_canEncode_9a6ad : Mu := (cJ1_canEncode_9a6ad, yJ1_canEncode_9a6ad, 1, (some .boolean))
def MJ1_indexOf_4cfef : Mu := (cJ1_indexOf_4cfef, yJ1_indexOf_4cfef, 4, (some .int))
def MJ1_indexOfChar_4cfef : Mu := (cJ1_indexOfChar_4cfef, yJ1_indexOfChar_4cfef, 6, (some .int))
def MJ3_checkIndex_8e157 : Mu := (cJ3_checkIndex_8e157, yJ3_checkIndex_8e157, 3, (some .int))
def ML_law : Mu := (code, x, maxLocals, ret)
def rslT_0 : List (Nat × Nat × String × Mu × Nat × Option String × List Nat) := [(18, 0, RX0, MX7_hold, 3, some "LogLetters", [377, 39, 842, 376]), (41, 0, RX0, MX0_valueOf, 4, none, [371, 48, 369, 370]), (45, 0, RX0, MX0_joined, 3, none, [374, 48, 372, 373]), (27, 0, RX1, MX7_isReach, 1, some "LogLetters", [421, 39, 481, 420]), (35, 0, RX1, MX7_isKind, 1, some "LogLetters", [320, 39, 405, 319]), (11, 2, RX2, MX6_init, 0, some "LogLetters", [178, 43, 176, 177]), (60, 1, RX2, MX2_begin, 0, none, [648, 42, 645, 646, 647]), (63, 1, RX2, MX2_nextWord, 0, none, [652, 42, 649, 650, 651]), (67, 1, RX2, MX2_takesKey, 0, none, [664, 42, 661, 662, 663]), (70, 1, RX2, MX2_goesOn, 0, none, [723, 42, 720, 721, 722]), (73, 1, RX2, MX2_closeBangs, 0, none, [835, 42, 832, 833, 834]), (79, 1, RX2, MX2_closeDownTo, 1, none, [820, 42, 817, 818, 819]), (85, 2, RX2, MX0_init, 4, none, [840, 48, 838, 839]), (88, 1, RX2, MX6_byteAt, 1, none, [656, 43, 653, 654, 655]), (92, 0, RX2, MX2_sortOf, 1, none, [659, 42, 657, 658]), (95, 0, RX2, MX7_within, 3, some "LogLetters", [323, 39, 660, 322]), (101, 1, RX2, MX2_isWord, 1, none, [669, 42, 666, 667, 668]), (109, 1, RX2, MJ0_length_8abf5, 0, none, [673, 51, 670, 671, 672]), (115, 1, RX2, MJ0_charAt_5068e, 1, none, [683, 51, 680, 681, 682]), (119, 1, RX2, MX2_takesPiece, 1, none, [727, 42, 724, 725, 726]), (123, 1, RX2, MX2_takesSign, 1, none, [812, 42, 809, 810, 811]), (126, 1, RX2, MX2_takesNumber, 0, none, [731, 42, 728, 729, 730]), (129, 1, RX2, MX2_takesName, 1, none, [743, 42, 740, 741, 742]), (132, 1, RX2, MX2_push, 1, none, [808, 42, 805, 806, 807]), (135, 1, RX2, MX2_addPiece, 1, none, [735, 42, 732, 733, 734]), (138, 0, RX2, MX2_namesOf, 1, none, [746, 42, 744, 745]), (142, 1, RX2, MJ0_indexOf_0f7a4, 1, none, [753, 51, 750, 751, 752]), (151, 1, RX2, MX2_closesBracket, 0, none, [816, 42, 813, 814, 815]), (154, 0, RX2, MX2_levelOf, 1, none, [827, 42, 825, 826]), (157, 1, RX2, MX2_pop, 0, none, [831, 42, 828, 829, 830]), (160, 1, RX2, MX2_addCode, 1, none, [739, 42, 736, 737, 738]), (163, 1, RX2, MX2_topSign, 0, none, [824, 42, 821, 822, 823]), (67, 2, RX3, MX1_init, 0, some "LogLetters", [77, 41, 75, 76]), (74, 1, RX3, MX1_takeOver, 1, none, [555, 41, 552, 553, 554]), (78, 0, RX3, MX7_within, 3, some "LogLetters", [323, 39, 344, 322]), (97, 1, RX3, MX3_draw, 0, none, [454, 40, 451, 452, 453]), (101, 1, RX3, MX3_addLog, 3, none, [334, 40, 456, 332, 333]), (104, 1, RX3, MX3_lawAt, 1, none, [356, 40, 353, 354, 355]), (112, 1, RX3, MX3_lawNumberFor, 1, none, [352, 40, 349, 350, 351]), (123, 1, RX3, MX0_give, 3, none, [368, 48, 365, 366, 367])]
def rslT_1 : List (Nat × Nat × String × Mu × Nat × Option String × List Nat) := [(127, 0, RX3, MX7_hold, 3, some "LogLetters", [377, 39, 375, 376]), (130, 1, RX3, MX1_driftFrom, 2, none, [385, 41, 382, 383, 384]), (133, 1, RX3, MX3_passWeek, 0, none, [472, 40, 469, 470, 471]), (136, 1, RX3, MX3_countHeld, 0, none, [476, 40, 473, 474, 475]), (139, 1, RX3, MX3_lawFor, 1, none, [348, 40, 482, 346, 347]), (142, 1, RX3, MX3_carryFrom, 2, none, [486, 40, 483, 484, 485]), (146, 1, RX3, MX3_sawByLot, 1, none, [500, 40, 497, 498, 499]), (150, 1, RX3, MX1_isAfloat, 0, none, [480, 41, 477, 478, 479]), (154, 1, RX3, MX3_driftOf, 2, none, [361, 40, 487, 359, 360]), (158, 1, RX3, MX3_carry, 2, none, [491, 40, 488, 489, 490]), (162, 1, RX3, MX3_mayLeave, 1, none, [495, 40, 492, 493, 494]), (166, 0, RX3, MX7_isReach, 1, some "LogLetters", [421, 39, 496, 420]), (169, 1, RX3, MX3_hasLog, 1, none, [343, 40, 501, 341, 342]), (172, 1, RX3, MX1_claimedBy, 1, none, [390, 41, 502, 388, 389]), (175, 1, RX3, MX3_unusedWith, 2, none, [522, 40, 519, 520, 521]), (178, 0, RX3, MJ6_bitCount_0f7a4, 1, none, [525, 49, 523, 524]), (28, 1, RX4, MX4_hasPlace, 1, none, [611, 44, 608, 609, 610]), (33, 0, RX4, MX7_within, 3, some "LogLetters", [323, 39, 909, 322]), (11, 2, RX5, MX1_init, 0, some "LogLetters", [77, 41, 263, 76]), (20, 2, RX5, MX4_init, 0, some "LogLetters", [242, 44, 265, 241]), (9, 2, RX7, MX3_init, 0, none, [68, 40, 66, 67]), (27, 2, RX7, MX2_init, 0, some "LogLetters", [172, 42, 170, 171]), (56, 2, RX7, MX4_init, 0, some "LogLetters", [242, 44, 240, 241]), (57, 2, RX7, MX5_init, 0, some "LogLetters", [260, 45, 258, 259]), (58, 0, RX7, MX7_isKind, 1, none, [320, 39, 318, 319]), (62, 0, RX7, MX7_isLetter, 1, none, [326, 39, 324, 325]), (65, 0, RX7, MX7_isMass, 1, none, [329, 39, 327, 328]), (69, 1, RX7, MX3_addLog, 3, none, [334, 40, 331, 332, 333]), (77, 1, RX7, MX3_hasLog, 1, none, [343, 40, 340, 341, 342]), (101, 1, RX7, MX3_lawFor, 1, none, [348, 40, 345, 346, 347]), (105, 1, RX7, MX3_driftOf, 2, none, [361, 40, 358, 359, 360]), (112, 1, RX7, MX1_claimedBy, 1, none, [390, 41, 387, 388, 389]), (116, 1, RX7, MX1_worth, 0, none, [394, 41, 391, 392, 393]), (120, 1, RX7, MX1_isOf, 1, none, [402, 41, 399, 400, 401]), (124, 0, RX7, MX7_isReach, 1, none, [421, 39, 419, 420]), (128, 0, RX7, MX7_within, 3, none, [323, 39, 321, 322]), (143, 1, RX7, MX3_addLetter, 1, none, [438, 40, 435, 436, 437]), (155, 1, RX7, MX3_drawLog, 0, none, [450, 40, 447, 448, 449]), (167, 1, RX7, MX3_passWeeks, 1, none, [468, 40, 465, 466, 467]), (171, 1, RX7, MX3_letterRead, 1, none, [510, 40, 507, 508, 509])]
def rslT_2 : List (Nat × Nat × String × Mu × Nat × Option String × List Nat) := [(174, 1, RX7, MX3_spelt, 0, none, [518, 40, 515, 516, 517]), (177, 1, RX7, MX3_jammed, 0, none, [532, 40, 529, 530, 531]), (183, 1, RX7, MX3_afloat, 0, none, [536, 40, 533, 534, 535]), (186, 1, RX7, MX7_startThought, 0, none, [544, 39, 541, 543, 0]), (189, 1, RX7, MX3_passWeek, 0, none, [472, 40, 560, 470, 471]), (193, 1, RX7, MX1_isAfloat, 0, none, [480, 41, 566, 478, 479]), (197, 1, RX7, MX7_startThoughtWithout, 1, none, [570, 39, 567, 569, 1]), (200, 1, RX7, MX3_takeOver, 1, none, [548, 40, 545, 546, 547]), (204, 0, RX7, MX7_isSheet, 1, none, [593, 39, 591, 592]), (207, 1, RX7, MX4_isMissing, 0, none, [597, 44, 594, 595, 596]), (214, 1, RX7, MX7_apartWithMass, 3, none, [603, 39, 600, 602, 2]), (218, 1, RX7, MX0_give, 3, none, [368, 48, 620, 366, 367]), (233, 1, RX7, MX6_addBytesOf, 1, none, [632, 43, 629, 630, 631]), (236, 1, RX7, MX2_readLaw, 0, none, [644, 42, 641, 642, 643]), (243, 1, RX7, MX3_addLaw, 1, none, [864, 40, 861, 862, 863]), (250, 1, RX7, MX3_lawAt, 1, none, [356, 40, 869, 354, 355]), (259, 1, RX7, MX3_lawNumberFor, 1, none, [352, 40, 874, 350, 351]), (263, 1, RX7, MX4_become, 2, none, [883, 44, 880, 881, 882]), (268, 1, RX7, MX4_hasPlace, 1, none, [611, 44, 888, 609, 610]), (280, 1, RX7, MX4_hasNumber, 1, none, [607, 44, 604, 605, 606]), (283, 0, RX7, MX7_hold, 3, none, [377, 39, 896, 376]), (286, 1, RX7, MX4_hasPlaces, 2, none, [908, 44, 905, 906, 907]), (296, 0, RX7, MX7_isSlot, 1, none, [917, 39, 915, 916]), (306, 1, RX7, MX1_takeOver, 1, none, [555, 41, 918, 553, 554]), (313, 1, RX7, MX4_takeOver, 1, none, [922, 44, 919, 920, 921]), (319, 1, RX7, MX5_findingFor, 1, none, [931, 45, 928, 929, 930]), (322, 1, RX7, MX7_isWaiting, 3, none, [953, 39, 950, 952, 3]), (325, 1, RX7, MX3_reachesTogether, 0, none, [957, 40, 954, 955, 956]), (75, 0, RX8, MX8_in, 3, none, [1084, 46, 1082, 1083]), (79, 1, RX8, MX8_put, 3, none, [1094, 46, 1091, 1093, 5]), (85, 1, RX8, MX8_comes, 3, none, [1090, 46, 1087, 1089, 4]), (89, 1, RX8, MX8_counts, 1, none, [1114, 46, 1111, 1113, 9]), (93, 1, RX8, MX8_of, 2, none, [1106, 46, 1103, 1105, 7]), (97, 1, RX8, MX8_worksOut, 1, none, [1118, 46, 1115, 1117, 10]), (100, 0, RX8, MX8_within, 3, none, [1124, 46, 1122, 1123]), (103, 1, RX8, MX8_isLog, 1, none, [1102, 46, 1099, 1101, 6]), (107, 1, RX8, MX8_driftsOf, 1, none, [1110, 46, 1107, 1109, 8]), (110, 1, RX8, MX8_claimedOf, 1, none, [1128, 46, 1125, 1127, 11]), (113, 1, RX8, MX8_worthOf, 1, none, [1132, 46, 1129, 1131, 12]), (116, 0, RX8, MX8_isUnder, 2, none, [1139, 46, 1137, 1138])]
def rslT_3 : List (Nat × Nat × String × Mu × Nat × Option String × List Nat) := [(121, 1, RX8, MX8_becomes, 2, none, [1148, 46, 1145, 1147, 13]), (124, 0, RX8, MX8_isReach, 1, none, [1159, 46, 1157, 1158]), (129, 1, RX8, MX8_draw, 0, none, [1184, 46, 1181, 1183, 14]), (133, 1, RX8, MX8_manyAt, 1, none, [1197, 46, 1194, 1196, 15]), (136, 1, RX8, MX8_goesDown, 1, none, [1209, 46, 1206, 1208, 18]), (140, 1, RX8, MX8_saws, 0, none, [1213, 46, 1210, 1212, 19]), (143, 1, RX8, MX8_week, 0, none, [1205, 46, 1202, 1204, 17]), (146, 1, RX8, MX8_goesOn, 1, none, [1201, 46, 1198, 1200, 16]), (150, 1, RX8, MX8_spelt, 0, none, [1226, 46, 1223, 1225, 20]), (153, 1, RX8, MX8_jam, 0, none, [1230, 46, 1227, 1229, 21]), (156, 1, RX8, MX8_thinks, 0, none, [1238, 46, 1235, 1237, 22]), (159, 1, RX8, MX8_putsBack, 0, none, [1242, 46, 1239, 1241, 23]), (162, 1, RX8, MX8_comeBehind, 1, none, [1254, 46, 1251, 1253, 24]), (165, 1, RX8, MX8_speltBehind, 1, none, [1262, 46, 1259, 1261, 25]), (168, 0, RX8, MX8_isSheet, 1, none, [1281, 46, 1279, 1280]), (172, 1, RX8, MX8_offBy, 3, none, [1286, 46, 1283, 1285, 26]), (192, 1, RX8, MX8_isLetter, 1, none, [1314, 46, 1311, 1313, 28]), (198, 1, RX8, MX8_isFigure, 1, none, [1318, 46, 1315, 1317, 29]), (204, 1, RX8, MX8_go, 0, none, [1310, 46, 1307, 1309, 27]), (210, 0, RX8, MX8_rank, 1, none, [1341, 46, 1339, 1340]), (216, 1, RX8, MX8_nameOf, 1, none, [1334, 46, 1331, 1333, 33]), (222, 1, RX8, MX8_settle, 1, none, [1338, 46, 1335, 1337, 34]), (225, 1, RX8, MX8_takesPart, 0, none, [1330, 46, 1327, 1329, 32]), (229, 1, RX8, MX8_notsOpen, 0, none, [1345, 46, 1342, 1344, 35]), (232, 1, RX8, MX8_signHere, 0, none, [1349, 46, 1346, 1348, 36]), (235, 1, RX8, MX8_takesKey, 0, none, [1322, 46, 1319, 1321, 30]), (238, 1, RX8, MX8_takesE, 0, none, [1326, 46, 1323, 1325, 31]), (241, 0, RX8, MX8_two, 3, none, [1121, 46, 1119, 1120]), (248, 0, RX8, MX8_isSlot, 1, none, [1388, 46, 1386, 1387]), (258, 0, RX8, MX8_copyAll, 2, none, [1411, 46, 1409, 1410]), (262, 1, RX8, MX8_allReaches, 0, none, [1415, 46, 1412, 1414, 37]), (335, 1, RJ0, MJ0_coder_7d493, 0, none, [677, 51, 674, 675, 676]), (492, 1, RJ0, MJ0_isLatin1_aae02, 0, none, [687, 51, 684, 685, 686]), (495, 0, RJ0, MJ1_charAt_3b067, 2, none, [690, 52, 688, 689]), (633, 1, RJ0, MJ0_indexOf_7cf53, 2, none, [757, 51, 754, 755, 756]), (505, 1, RJ0, MJ0_length_8abf5, 0, none, [673, 51, 758, 671, 672]), (637, 0, RJ0, MJ1_indexOf_4cfef, 4, none, [761, 52, 759, 760]), (1059, 0, RJ0, MJ3_checkIndex_8e157, 3, none, [698, 53, 696, 697]), (9, 0, RJ1, MJ0_checkIndex_df160, 2, none, [693, 51, 691, 692]), (88, 0, RJ1, MJ1_canEncode_9a6ad, 1, none, [764, 52, 762, 763])]
def rslT_4 : List (Nat × Nat × String × Mu × Nat × Option String × List Nat) := [(95, 0, RJ1, MJ1_indexOfChar_4cfef, 4, none, [769, 52, 767, 768]), (9, 2, "LogLettersLaw", MX7_init, 0, none, [60, 39, 58, 59]), (12, 2, "LogLettersLaw", MX8_init, 0, none, [974, 46, 972, 973]), (13, 1, "LogLettersLaw", MX7_log, 3, none, [317, 39, 314, 315, 316]), (17, 1, "LogLettersLaw", MX8_log, 3, none, [1081, 46, 1078, 1079, 1080]), (18, 1, "LogLettersLaw", MX7_told, 2, none, [339, 39, 336, 337, 338]), (22, 1, "LogLettersLaw", MX8_told, 2, none, [1098, 46, 1095, 1096, 1097]), (23, 1, "LogLettersLaw", MX7_as, 2, none, [398, 39, 395, 396, 397]), (26, 1, "LogLettersLaw", MX8_as, 2, none, [1136, 46, 1133, 1134, 1135]), (27, 1, "LogLettersLaw", MX7_turns, 2, none, [410, 39, 407, 408, 409]), (30, 1, "LogLettersLaw", MX8_turns, 2, none, [1144, 46, 1141, 1142, 1143]), (31, 1, "LogLettersLaw", MX7_set, 3, none, [414, 39, 411, 412, 413]), (34, 1, "LogLettersLaw", MX8_set, 3, none, [1152, 46, 1149, 1150, 1151]), (35, 1, "LogLettersLaw", MX7_lays, 2, none, [418, 39, 415, 416, 417]), (38, 1, "LogLettersLaw", MX8_lays, 2, none, [1156, 46, 1153, 1154, 1155]), (39, 1, "LogLettersLaw", MX7_reach, 3, none, [426, 39, 423, 424, 425]), (42, 1, "LogLettersLaw", MX8_reach, 3, none, [1164, 46, 1161, 1162, 1163]), (43, 1, "LogLettersLaw", MX7_rule, 2, none, [430, 39, 427, 428, 429]), (46, 1, "LogLettersLaw", MX8_rule, 2, none, [1168, 46, 1165, 1166, 1167]), (47, 1, "LogLettersLaw", MX7_word, 1, none, [434, 39, 431, 432, 433]), (51, 1, "LogLettersLaw", MX8_word, 1, none, [1172, 46, 1169, 1170, 1171]), (52, 1, "LogLettersLaw", MX7_unword, 0, none, [442, 39, 439, 440, 441]), (56, 1, "LogLettersLaw", MX8_unword, 0, none, [1176, 46, 1173, 1174, 1175]), (57, 1, "LogLettersLaw", MX7_deal, 1, none, [446, 39, 443, 444, 445]), (60, 1, "LogLettersLaw", MX8_deal, 1, none, [1180, 46, 1177, 1178, 1179]), (61, 1, "LogLettersLaw", MX7_seed, 1, none, [460, 39, 457, 458, 459]), (64, 1, "LogLettersLaw", MX8_seed, 1, none, [1189, 46, 1186, 1187, 1188]), (65, 1, "LogLettersLaw", MX7_weeks, 1, none, [464, 39, 461, 462, 463]), (68, 1, "LogLettersLaw", MX8_weeks, 1, none, [1193, 46, 1190, 1191, 1192]), (69, 1, "LogLettersLaw", MX7_read, 1, none, [506, 39, 503, 504, 505]), (72, 1, "LogLettersLaw", MX8_read, 1, none, [1217, 46, 1214, 1215, 1216]), (73, 1, "LogLettersLaw", MX7_river, 1, none, [514, 39, 511, 512, 513]), (76, 1, "LogLettersLaw", MX8_river, 1, none, [1222, 46, 1219, 1220, 1221]), (77, 1, "LogLettersLaw", MX7_behind, 2, none, [540, 39, 537, 538, 539]), (80, 1, "LogLettersLaw", MX8_behind, 2, none, [1234, 46, 1231, 1232, 1233]), (81, 1, "LogLettersLaw", MX7_whole, 0, none, [559, 39, 556, 557, 558]), (84, 1, "LogLettersLaw", MX8_whole, 0, none, [1246, 46, 1243, 1244, 1245]), (85, 1, "LogLettersLaw", MX7_frees, 2, none, [565, 39, 562, 563, 564]), (88, 1, "LogLettersLaw", MX8_frees, 2, none, [1250, 46, 1247, 1248, 1249]), (89, 1, "LogLettersLaw", MX7_lost, 1, none, [574, 39, 571, 572, 573])]
def rslT_5 : List (Nat × Nat × String × Mu × Nat × Option String × List Nat) := [(92, 1, "LogLettersLaw", MX8_lost, 1, none, [1258, 46, 1255, 1256, 1257]), (93, 1, "LogLettersLaw", MX7_wider, 2, none, [578, 39, 575, 576, 577]), (96, 1, "LogLettersLaw", MX8_wider, 2, none, [1266, 46, 1263, 1264, 1265]), (97, 1, "LogLettersLaw", MX7_opened, 1, none, [582, 39, 579, 580, 581]), (100, 1, "LogLettersLaw", MX8_opened, 1, none, [1270, 46, 1267, 1268, 1269]), (101, 1, "LogLettersLaw", MX7_rolled, 2, none, [586, 39, 583, 584, 585]), (104, 1, "LogLettersLaw", MX8_rolled, 2, none, [1274, 46, 1271, 1272, 1273]), (105, 1, "LogLettersLaw", MX7_looked, 3, none, [590, 39, 587, 588, 589]), (108, 1, "LogLettersLaw", MX8_looked, 3, none, [1278, 46, 1275, 1276, 1277]), (109, 1, "LogLettersLaw", MX7_fee, 0, none, [619, 39, 616, 617, 618]), (112, 1, "LogLettersLaw", MX8_fee, 0, none, [1290, 46, 1287, 1288, 1289]), (113, 1, "LogLettersLaw", MX7_fine, 1, none, [624, 39, 621, 622, 623]), (116, 1, "LogLettersLaw", MX8_fine, 1, none, [1294, 46, 1291, 1292, 1293]), (117, 1, "LogLettersLaw", MX7_feed, 3, none, [628, 39, 625, 626, 627]), (120, 1, "LogLettersLaw", MX8_feed, 3, none, [1298, 46, 1295, 1296, 1297]), (121, 1, "LogLettersLaw", MX7_trim, 1, none, [636, 39, 633, 634, 635]), (124, 1, "LogLettersLaw", MX8_trim, 1, none, [1302, 46, 1299, 1300, 1301]), (125, 1, "LogLettersLaw", MX7_text, 0, none, [640, 39, 637, 638, 639]), (128, 1, "LogLettersLaw", MX8_text, 0, none, [1306, 46, 1303, 1304, 1305]), (129, 1, "LogLettersLaw", MX7_textTold, 2, none, [868, 39, 865, 866, 867]), (132, 1, "LogLettersLaw", MX8_textTold, 2, none, [1353, 46, 1350, 1351, 1352]), (133, 1, "LogLettersLaw", MX7_why, 1, none, [873, 39, 870, 871, 872]), (136, 1, "LogLettersLaw", MX8_why, 1, none, [1357, 46, 1354, 1355, 1356]), (137, 1, "LogLettersLaw", MX7_sheet, 3, none, [878, 39, 875, 876, 877]), (140, 1, "LogLettersLaw", MX8_sheet, 3, none, [1361, 46, 1358, 1359, 1360]), (141, 1, "LogLettersLaw", MX7_mark, 3, none, [887, 39, 884, 885, 886]), (144, 1, "LogLettersLaw", MX8_mark, 3, none, [1366, 46, 1363, 1364, 1365]), (145, 1, "LogLettersLaw", MX7_pour, 1, none, [895, 39, 892, 893, 894]), (148, 1, "LogLettersLaw", MX8_pour, 1, none, [1373, 46, 1370, 1371, 1372]), (149, 1, "LogLettersLaw", MX7_reads, 1, none, [900, 39, 897, 898, 899]), (152, 1, "LogLettersLaw", MX8_reads, 1, none, [1377, 46, 1374, 1375, 1376]), (153, 1, "LogLettersLaw", MX7_copy, 5, none, [904, 39, 901, 902, 903]), (157, 1, "LogLettersLaw", MX8_copy, 5, none, [1381, 46, 1378, 1379, 1380]), (158, 1, "LogLettersLaw", MX7_lay, 3, none, [914, 39, 911, 912, 913]), (161, 1, "LogLettersLaw", MX8_lay, 3, none, [1385, 46, 1382, 1383, 1384]), (162, 1, "LogLettersLaw", MX7_ask, 2, none, [927, 39, 924, 925, 926]), (165, 1, "LogLettersLaw", MX8_ask, 2, none, [1392, 46, 1389, 1390, 1391]), (166, 1, "LogLettersLaw", MX7_item, 2, none, [937, 39, 934, 935, 936]), (169, 1, "LogLettersLaw", MX8_item, 2, none, [1396, 46, 1393, 1394, 1395]), (170, 1, "LogLettersLaw", MX7_rest, 2, none, [941, 39, 938, 939, 940])]
def rslT_6 : List (Nat × Nat × String × Mu × Nat × Option String × List Nat) := [(173, 1, "LogLettersLaw", MX8_rest, 2, none, [1400, 46, 1397, 1398, 1399]), (174, 1, "LogLettersLaw", MX7_tell, 1, none, [945, 39, 942, 943, 944]), (177, 1, "LogLettersLaw", MX8_tell, 1, none, [1404, 46, 1401, 1402, 1403]), (178, 1, "LogLettersLaw", MX7_check, 1, none, [949, 39, 946, 947, 948]), (181, 1, "LogLettersLaw", MX8_check, 1, none, [1408, 46, 1405, 1406, 1407]), (182, 1, "LogLettersLaw", MX7_keep, 0, none, [961, 39, 958, 959, 960]), (185, 1, "LogLettersLaw", MX8_keep, 0, none, [1419, 46, 1416, 1417, 1418]), (186, 1, "LogLettersLaw", MX7_back, 0, none, [965, 39, 962, 963, 964]), (189, 1, "LogLettersLaw", MX8_back, 0, none, [1423, 46, 1420, 1421, 1422]), (190, 1, "LogLettersLaw", MX7_count, 1, none, [969, 39, 966, 967, 968]), (193, 1, "LogLettersLaw", MX8_count, 1, none, [1427, 46, 1424, 1425, 1426])]
def rslT : List (Nat × Nat × String × Mu × Nat × Option String × List Nat) := rslT_0 ++ (rslT_1 ++ (rslT_2 ++ (rslT_3 ++ (rslT_4 ++ (rslT_5 ++ (rslT_6))))))
def fldT_0 : List (Nat × String × String × String × String × Nat × Nat × Nat) := [(9, RX0, "LogLetters$Law", "key", "I", 0, 0, 845), (15, RX0, "LogLetters$Law", "pieces", "I", 0, 1, 848), (22, RX0, "LogLetters$Law", "code", "[I", 0, 2, 850), (38, RX0, "LogLetters$Law", "stack", "[I", 0, 3, 851), (9, RX1, "LogLetters$Log", "kind", "I", 1, 0, 79), (15, RX1, "LogLetters$Log", "letter", "I", 1, 1, 82), (18, RX1, "LogLetters$Log", "mass", "I", 1, 2, 85), (21, RX1, "LogLetters$Log", "reach", "I", 1, 3, 88), (24, RX1, "LogLetters$Log", "came", "I", 1, 4, 91), (12, RX2, "LogLetters$Reader", "tape", "LLogLetters$Tape;", 2, 0, 190), (18, RX2, "LogLetters$Reader", "code", "[I", 2, 1, 192), (22, RX2, "LogLetters$Reader", "open", "[I", 2, 2, 193), (25, RX2, "LogLetters$Reader", "fault", "I", 2, 3, 194), (29, RX2, "LogLetters$Reader", "codeSize", "I", 2, 4, 196), (32, RX2, "LogLetters$Reader", "openSize", "I", 2, 5, 197), (35, RX2, "LogLetters$Reader", "key", "I", 2, 6, 198), (38, RX2, "LogLetters$Reader", "pieces", "I", 2, 7, 199), (41, RX2, "LogLetters$Reader", "brackets", "I", 2, 8, 200), (44, RX2, "LogLetters$Reader", "bangs", "I", 2, 9, 201), (47, RX2, "LogLetters$Reader", "tested", "I", 2, 10, 202), (50, RX2, "LogLetters$Reader", "wantsPiece", "Z", 2, 11, 203), (54, RX2, "LogLetters$Reader", "start", "I", 2, 12, 204), (57, RX2, "LogLetters$Reader", "end", "I", 2, 13, 205), (76, RX2, "LogLetters$Tape", "size", "I", 6, 1, 182), (11, RX3, "LogLetters$River", "logs", "[LLogLetters$Log;", 3, 0, 106), (17, RX3, "LogLetters$River", "room", "[I", 3, 1, 108), (21, RX3, "LogLetters$River", "boom", "[I", 3, 2, 110), (24, RX3, "LogLetters$River", "held", "[I", 3, 3, 112), (27, RX3, "LogLetters$River", "letters", "[I", 3, 4, 113), (32, RX3, "LogLetters$River", "laws", "[LLogLetters$Law;", 3, 5, 114), (36, RX3, "LogLetters$River", "logCount", "I", 3, 6, 115), (40, RX3, "LogLetters$River", "letterCount", "I", 3, 7, 117), (43, RX3, "LogLetters$River", "lawCount", "I", 3, 8, 119), (46, RX3, "LogLetters$River", "flood", "I", 3, 9, 121), (49, RX3, "LogLetters$River", "saw", "I", 3, 10, 123), (52, RX3, "LogLetters$River", "dry", "I", 3, 11, 125), (55, RX3, "LogLetters$River", "sawn", "I", 3, 12, 127), (58, RX3, "LogLetters$River", "comeCount", "I", 3, 13, 129), (61, RX3, "LogLetters$River", "week", "I", 3, 14, 131), (64, RX3, "LogLetters$River", "z", "I", 3, 15, 133)]
def fldT_1 : List (Nat × String × String × String × String × Nat × Nat × Nat) := [(82, RX3, "LogLetters$Log", "kind", "I", 1, 0, 81), (85, RX3, "LogLetters$Log", "letter", "I", 1, 1, 84), (88, RX3, "LogLetters$Log", "mass", "I", 1, 2, 87), (91, RX3, "LogLetters$Log", "reach", "I", 1, 3, 90), (94, RX3, "LogLetters$Log", "came", "I", 1, 4, 93), (108, RX3, "LogLetters$Law", "key", "I", 0, 0, 846), (9, RX4, "LogLetters$Row", "places", "[I", 4, 0, 244), (15, RX4, "LogLetters$Row", "sort", "I", 4, 1, 246), (19, RX4, "LogLetters$Row", "size", "I", 4, 2, 248), (12, RX5, "LogLetters$Slot", "log", "LLogLetters$Log;", 5, 0, 266), (21, RX5, "LogLetters$Slot", "row", "LLogLetters$Row;", 5, 1, 268), (25, RX5, "LogLetters$Slot", "thing", "I", 5, 2, 270), (29, RX5, "LogLetters$Slot", "number", "I", 5, 3, 272), (9, RX6, "LogLetters$Tape", "bytes", "[B", 6, 0, 180), (15, RX6, "LogLetters$Tape", "size", "I", 6, 1, 181), (10, RX7, "LogLetters", "river", "LLogLetters$River;", 7, 0, 283), (16, RX7, "LogLetters", "image", "LLogLetters$River;", 7, 1, 284), (19, RX7, "LogLetters", "thought", "LLogLetters$River;", 7, 2, 285), (22, RX7, "LogLetters", "fork", "LLogLetters$River;", 7, 3, 286), (28, RX7, "LogLetters", "reader", "LLogLetters$Reader;", 7, 4, 287), (34, RX7, "LogLetters", "sheets", "[LLogLetters$Row;", 7, 5, 288), (40, RX7, "LogLetters", "slots", "[LLogLetters$Slot;", 7, 6, 289), (44, RX7, "LogLetters", "waiting", "[I", 7, 7, 290), (48, RX7, "LogLetters", "waitingCount", "I", 7, 8, 291), (52, RX7, "LogLetters", "hasImage", "Z", 7, 9, 292), (73, RX7, "LogLetters$River", "logCount", "I", 3, 6, 116), (80, RX7, "LogLetters$River", "logs", "[LLogLetters$Log;", 3, 0, 107), (84, RX7, "LogLetters$Log", "kind", "I", 1, 0, 80), (89, RX7, "LogLetters$Log", "letter", "I", 1, 1, 83), (92, RX7, "LogLetters$Log", "mass", "I", 1, 2, 86), (95, RX7, "LogLetters$Log", "reach", "I", 1, 3, 89), (98, RX7, "LogLetters$Log", "came", "I", 1, 4, 92), (109, RX7, "LogLetters$River", "saw", "I", 3, 10, 124), (131, RX7, "LogLetters$River", "room", "[I", 3, 1, 109), (134, RX7, "LogLetters$River", "boom", "[I", 3, 2, 111), (137, RX7, "LogLetters$River", "dry", "I", 3, 11, 126), (140, RX7, "LogLetters$River", "flood", "I", 3, 9, 122), (146, RX7, "LogLetters$River", "letterCount", "I", 3, 7, 118), (158, RX7, "LogLetters$River", "z", "I", 3, 15, 134), (161, RX7, "LogLetters$River", "comeCount", "I", 3, 13, 130)]
def fldT_2 : List (Nat × String × String × String × String × Nat × Nat × Nat) := [(164, RX7, "LogLetters$River", "week", "I", 3, 14, 132), (180, RX7, "LogLetters$River", "sawn", "I", 3, 12, 128), (224, RX7, "LogLetters$Reader", "tape", "LLogLetters$Tape;", 2, 0, 191), (228, RX7, "LogLetters$Tape", "size", "I", 6, 1, 183), (240, RX7, "LogLetters$Reader", "fault", "I", 2, 3, 195), (247, RX7, "LogLetters$River", "lawCount", "I", 3, 8, 120), (253, RX7, "LogLetters$Law", "key", "I", 0, 0, 847), (256, RX7, "LogLetters$Law", "pieces", "I", 0, 1, 849), (267, RX7, "LogLetters$Row", "size", "I", 4, 2, 249), (272, RX7, "LogLetters$Row", "sort", "I", 4, 1, 247), (275, RX7, "LogLetters$Row", "places", "[I", 4, 0, 245), (299, RX7, "LogLetters$Slot", "thing", "I", 5, 2, 271), (302, RX7, "LogLetters$Slot", "log", "LLogLetters$Log;", 5, 0, 267), (309, RX7, "LogLetters$Slot", "row", "LLogLetters$Row;", 5, 1, 269), (316, RX7, "LogLetters$Slot", "number", "I", 5, 3, 273), (9, RX8, "LogLettersModel", "now", "[I", 8, 0, 976), (13, RX8, "LogLettersModel", "image", "[I", 8, 1, 977), (16, RX8, "LogLettersModel", "aside", "[I", 8, 2, 978), (19, RX8, "LogLettersModel", "before", "[I", 8, 4, 980), (22, RX8, "LogLettersModel", "tape", "[I", 8, 5, 981), (25, RX8, "LogLettersModel", "keys", "[C", 8, 13, 989), (29, RX8, "LogLettersModel", "keyAt", "[I", 8, 14, 990), (32, RX8, "LogLettersModel", "code", "[I", 8, 15, 991), (35, RX8, "LogLettersModel", "waits", "[I", 8, 18, 994), (38, RX8, "LogLettersModel", "tested", "[Z", 8, 20, 996), (42, RX8, "LogLettersModel", "stack", "[I", 8, 21, 997), (45, RX8, "LogLettersModel", "facts", "[I", 8, 22, 998), (48, RX8, "LogLettersModel", "sorts", "[I", 8, 23, 999), (51, RX8, "LogLettersModel", "sizes", "[I", 8, 24, 1000), (54, RX8, "LogLettersModel", "cells", "[I", 8, 25, 1001), (57, RX8, "LogLettersModel", "holds", "[I", 8, 26, 1002), (60, RX8, "LogLettersModel", "holdsA", "[I", 8, 27, 1003), (63, RX8, "LogLettersModel", "holdsB", "[I", 8, 28, 1004), (66, RX8, "LogLettersModel", "heldCells", "[I", 8, 29, 1005), (69, RX8, "LogLettersModel", "moved", "[I", 8, 30, 1006), (72, RX8, "LogLettersModel", "tells", "[I", 8, 31, 1007), (176, RX8, "LogLettersModel", "taped", "I", 8, 6, 982), (180, RX8, "LogLettersModel", "next", "I", 8, 7, 983), (183, RX8, "LogLettersModel", "from", "I", 8, 8, 984), (186, RX8, "LogLettersModel", "ended", "I", 8, 11, 987)]
def fldT_3 : List (Nat × String × String × String × String × Nat × Nat × Nat) := [(189, RX8, "LogLettersModel", "token", "I", 8, 9, 985), (195, RX8, "LogLettersModel", "value", "I", 8, 10, 986), (201, RX8, "LogLettersModel", "key", "I", 8, 12, 988), (207, RX8, "LogLettersModel", "held", "I", 8, 19, 995), (213, RX8, "LogLettersModel", "codes", "I", 8, 16, 992), (219, RX8, "LogLettersModel", "atoms", "I", 8, 17, 993), (251, RX8, "LogLettersModel", "waiting", "I", 8, 32, 1008), (254, RX8, "LogLettersModel", "hasImage", "Z", 8, 3, 979), (9, RJ0, "java/lang/String", "value", "[B", 20, 1, 1428), (15, RJ0, "java/lang/String", "coder", "B", 20, 0, 1429)]
def fldT : List (Nat × String × String × String × String × Nat × Nat × Nat) := fldT_0 ++ (fldT_1 ++ (fldT_2 ++ (fldT_3)))
def cstT_0 : List (Nat × String × Int32 × Nat) := [(111, RX3, -1000000005, 357), (116, RX3, 1103515245, 455), (32, RX4, -1000000005, 612), (32, RX5, -1000000011, 932), (33, RX5, -1000000012, 933), (68, RX7, -1000000001, 330), (76, RX7, -1000000003, 335), (123, RX7, -1000000012, 406), (127, RX7, -1000000002, 422), (192, RX7, -1000000005, 561), (210, RX7, -1000000011, 598), (213, RX7, 2147483647, 599), (262, RX7, -1000000014, 879), (271, RX7, -1000000013, 889), (278, RX7, -99999, 890), (279, RX7, 99999, 891), (83, RX8, -1000000001, 1085), (84, RX8, -1000000003, 1086), (120, RX8, -1000000012, 1140), (127, RX8, -1000000002, 1160), (128, RX8, 1103515245, 1185), (149, RX8, -1000000005, 1218), (171, RX8, -1000000011, 1282), (244, RX8, -1000000014, 1362), (245, RX8, -1000000013, 1367), (246, RX8, -99999, 1368), (247, RX8, 99999, 1369), (265, RJ6, 1431655765, 526), (266, RJ6, 858993459, 527), (267, RJ6, 252645135, 528)]
def cstT : List (Nat × String × Int32 × Nat) := cstT_0
def staT_0 : List (Nat × String × Nat × String × Nat) := [(31, RX1, 2, "LogLetters", 403), (38, RJ0, 0, "", 678), (1053, RJ0, 1, "", 694)]
def staT : List (Nat × String × Nat × String × Nat) := staT_0
def nwcT_0 : List (Nat × String × Nat × Nat × Nat × Nat) := [(9, RX2, 6, 174, 43, 175), (83, RX2, 0, 836, 48, 837), (9, RX3, 1, 70, 41, 74), (9, RX5, 1, 262, 41, 74), (18, RX5, 4, 264, 44, 239), (7, RX7, 3, 64, 40, 65), (25, RX7, 2, 168, 42, 169), (32, RX7, 4, 235, 44, 239), (38, RX7, 5, 237, 45, 257), (7, "LogLettersLaw", 7, 56, 39, 57), (10, "LogLettersLaw", 8, 970, 46, 971)]
def nwcT : List (Nat × String × Nat × Nat × Nat × Nat) := nwcT_0
def nwaT_0 : List (Nat × String × Nat × String × Nat × Nat) := [(9, RX3, 14, "LogLetters$Log", 70, 71), (30, RX3, 15, "LogLetters$Law", 72, 73), (32, RX7, 16, "LogLetters$Row", 235, 236), (38, RX7, 17, "LogLetters$Slot", 237, 238)]
def nwaT : List (Nat × String × Nat × String × Nat × Nat) := nwaT_0
def spcT_0 : List (Nat × String × Nat × List Nat) := [(3, RX0, 0, [841, 62, 63]), (26, RX0, 1, [843, 551, 550, 50]), (32, RX0, 2, [844, 363, 47, 364]), (3, RX1, 0, [78, 62, 63]), (38, RX1, 3, [386, 379, 47, 380]), (3, RX2, 0, [173, 62, 63]), (3, RX3, 0, [69, 62, 63]), (68, RX3, 1, [549, 551, 550, 50]), (117, RX3, 2, [362, 363, 47, 364]), (3, RX4, 0, [243, 62, 63]), (22, RX4, 1, [923, 551, 550, 50]), (3, RX5, 0, [261, 62, 63]), (3, RX6, 0, [179, 62, 63]), (1, RX7, 0, [61, 62, 63]), (149, RX7, 3, [378, 379, 47, 380]), (290, RX7, 1, [910, 551, 550, 50]), (328, RX7, 4, [613, 614, 47, 615]), (331, RX7, 2, [381, 363, 47, 364]), (1, RX8, 0, [975, 62, 63]), (92, RJ1, 2, [765, 363, 47, 364]), (38, RJ1, 3, [766, 379, 47, 380])]
def spcT : List (Nat × String × Nat × List Nat) := spcT_0
/-- the literals of the class: place in the pool, text -/
def strs : List (Nat × String) := [(99, "drift"), (105, "fee"), (107, "fine"), (145, "fmr"), (147, "sw"), (149, "lm")]
def fStr (own : String) (i : Nat) : Option Nat := if own = RX2 then strs.findIdx? (fun q => q.1 == i) else none
def fCst (own : String) (i : Nat) : Option Int32 := match cstT.find? (fun e => e.1 == i && decide (e.2.1 = own)) with
  | some (_, _, v, p) => if tat p (.constant own i v) = true then some v else none
  | none => none
/-- a call: 0 static, 1 virtual, 2 a constructor: the method, how many arguments (the receiver left out) -/
def rsl (c : Nat) (own : String) (i : Nat) : Option (Mu × Nat) := match rslT.find? (fun e => e.1 == i && (e.2.1 == c && decide (e.2.2.1 = own))) with
  | some (_, _, _, μ, np, nst, ps) => if tat (ps.getD 0 0) (.code μ.2.1 μ.1 μ.2.2.1 μ.2.2.2) = true ∧ tat (ps.getD 1 0) (.initialized μ.2.1.cls) = true ∧ plainName μ.2.1.cls = true ∧ (μ.2.1.cls ≠ "java/lang/invoke/MethodHandle" ∧ μ.2.1.cls ≠ "java/lang/invoke/VarHandle") ∧ μ.2.2.1 ≤ 19 ∧ (parseMethodDescriptor μ.2.1.desc).map (fun d => d.parameters.length) = some np ∧
      (match nst with
        | none => tat (ps.getD 2 0) (.methodLink own i μ.2.1)
        | some h => decide (lw_tbl[ps.getD 2 0]? = some (.methodLinkNest own i μ.2.1 h))) = true ∧
      (c = 0 → tat (ps.getD 3 0) (.static μ.2.1) = true) ∧ (c = 1 → tat (ps.getD 3 0) (.instanceMethod μ.2.1) = true ∧ tat (ps.getD 4 0) (.selects μ.2.1.cls μ.2.1 μ.2.1) = true ∧ nst = none) ∧ (c = 2 → tat (ps.getD 3 0) (.instanceMethod μ.2.1) = true ∧ μ.2.1.name = "<init>" ∧ μ.2.2.2 = none)
    then some (μ, np) else none
  | none => none
/-- a field: its class, its number -/
def fld (own : String) (i : Nat) : Option (Nat × Nat) := match fldT.find? (fun e => e.1 == i && decide (e.2.1 = own)) with
  | some (_, _, ref, n, d, ci, f, p) => if tat p (.fieldLink own i ref n d) = true ∧ ((ci = 20 ∧ f = 0 ∧ ref = "java/lang/String" ∧ n = "coder" ∧ d = "B") ∨ (ci = 20 ∧ f = 1 ∧ ref = "java/lang/String" ∧ n = "value" ∧ d = "[B") ∨ (ci < 9 ∧ (vwCl[ci]?).map (fun q => decide (q.1 = ref ∧ f < q.2.2 ∧ (q.2.1 f).1 = ref ∧ (q.2.1 f).2.1 = n ∧ (q.2.1 f).2.2.1 = d)) = some true)) then some (ci, f) else none
  | none => none
/-- a static: what it holds -/
def sta (own : String) (i : Nat) : Option Av := match staT.find? (fun e => e.1 == i && decide (e.2.1 = own)) with
  | some (_, _, k, h, p) => if k = 0 ∧ tat p (.fieldLink own i "java/lang/String" "COMPACT_STRINGS" "Z") = true then some (vI 1) else if k = 1 ∧ tat p (.fieldLink own i "jdk/internal/util/Preconditions" "SIOOBE_FORMATTER" "Ljava/util/function/BiFunction;") = true then some (vR 4 0 0) else if k = 2 ∧ lw_tbl[p]? = some (.fieldLinkNest own i "LogLetters" "ABOVE" "[I" h) then some (vR 1 0 0) else none
  | none => none
/-- new: the class -/
def nwc (own : String) (i : Nat) : Option Nat := match nwcT.find? (fun e => e.1 == i && decide (e.2.1 = own)) with
  | some (_, _, ci, p1, p2, p3) => (match vwCl[ci]? with
    | some q => if tat p1 (.classLink own i q.1) = true ∧ tat p2 (.initialized q.1) = true ∧ tat p3 (.instantiable q.1 q.2.2) = true then some ci else none
    | none => none)
  | none => none
/-- anewarray: the kind -/
def nwa (own : String) (i : Nat) : Option Nat := match nwaT.find? (fun e => e.1 == i && decide (e.2.1 = own)) with
  | some (_, _, kq, C, p1, p2) => if 14 ≤ kq ∧ kq < 18 ∧ aty kq = .object C ∧ tat p1 (.classLink own i C) = true ∧ lw_tbl[p2]? = some (.arrayOver (.object C)) then some kq else none
  | none => none
def mthN (k : Nat) : MethodName := match k with
  | 2 => Lib.Math.max.name
  | 3 => Lib.Math.min.name
  | _ => Lib.Math.abs.name
def mthC (k : Nat) : ByteArray := match k with
  | 2 => Lib.Math.max.code
  | 3 => Lib.Math.min.code
  | _ => Lib.Math.abs.code
/-- calls that are steps: 0 Object's constructor, 1 arraycopy, 2 max, 3 min, 4 abs -/
def spc (own : String) (i : Nat) : Option Nat := match spcT.find? (fun e => e.1 == i && decide (e.2.1 = own)) with
  | some (_, _, k, ps) => if k = 0 then (if tat (ps.getD 0 0) (.methodLink own i Lib.objectInit) = true ∧ tat (ps.getD 1 0) (.instanceMethod Lib.objectInit) = true ∧ tat (ps.getD 2 0) (.code Lib.objectInit ⟨#[0xb1]⟩ 1 none) = true then some 0 else none)
    else if k = 1 then (if tat (ps.getD 0 0) (.methodLink own i arraycopyName) = true ∧ tat (ps.getD 1 0) (.native arraycopyName) = true ∧ tat (ps.getD 2 0) (.static arraycopyName) = true ∧ tat (ps.getD 3 0) (.initialized "java/lang/System") = true then some 1 else none)
    else if k < 5 then (if tat (ps.getD 0 0) (.methodLink own i (mthN k)) = true ∧ tat (ps.getD 1 0) (.static (mthN k)) = true ∧ tat (ps.getD 2 0) (.initialized "java/lang/Math") = true ∧ tat (ps.getD 3 0) (.code (mthN k) (mthC k) (if k = 4 then 1 else 2) (some .int)) = true then some k else none) else none
  | none => none
def tyOf (ci k : Nat) : FieldType := match ci with
  | 0 => tyX0 k
  | 1 => tyX1 k
  | 2 => tyX2 k
  | 3 => tyX3 k
  | 4 => tyX4 k
  | 5 => tyX5 k
  | 6 => tyX6 k
  | 7 => tyX7 k
  | _ => tyX8 k
def nFl (ci : Nat) : Nat := [4, 5, 14, 16, 3, 4, 2, 10, 33].getD ci 0
/-- is a field final -/
def qfin (ci k : Nat) : Bool := match vwCl[ci]? with
  | some q => (q.2.1 k).2.2.2
  | none => false
def dfv (ty : FieldType) : Av := match ty with
  | .object _ => vN
  | .array _ => vN
  | _ => vI 0
/-- may a field of this type hold this value -/
def fok (ty : FieldType) (v : Av) : Bool := match ty, v with
  | .int, .inl _ => true
  | .boolean, .inl x => decide (x = 0 ∨ x = 1)
  | .object _, .inr (.inr _) => true
  | .array _, .inr (.inr _) => true
  | _, _ => false
/-! the steps -/
def qjmp (pc : Nat) (o : Int) : Option Nat := if 0 ≤ (pc : Int) + o then some ((pc : Int) + o).toNat else none
def ldv (l : Lv) (k : Nat) : Option Av := (l[k]?).join
def nlx (l : Lv) (i : Nat) : Bool := match i with
  | 0 => true
  | j + 1 => match ldv l j with
    | some (.inr (.inl _)) => false
    | _ => true
def qsto (l : Lv) (i : Nat) (v : Av) : Option Lv := if i < l.length ∧ nlx l i = true then some (l.set i (some v)) else none
def qstoL (l : Lv) (i : Nat) (v : Av) : Option Lv := if i + 1 < l.length ∧ nlx l i = true then some ((l.set i (some v)).set (i + 1) none) else none
def qcat (v : Av) : Nat := match v with
  | .inr (.inl _) => 2
  | _ => 1
def cndB (c : ClassFile.Cond) (x y : Int32) : Bool := match c with
  | .eq => decide (x = y)
  | .ne => decide (¬ x = y)
  | .lt => decide (x < y)
  | .ge => decide (y ≤ x)
  | .gt => decide (y < x)
  | .le => decide (x ≤ y)
def liI (l : Lv) (k pc : Nat) (st : List Av) : Option (Nat × Lv × List Av) := match ldv l k with
  | some (.inl x) => some (pc, l, vI x :: st)
  | _ => none
def liA (l : Lv) (k pc : Nat) (st : List Av) : Option (Nat × Lv × List Av) := match ldv l k with
  | some (.inr (.inr r)) => some (pc, l, .inr (.inr r) :: st)
  | _ => none
def liL (l : Lv) (k pc : Nat) (st : List Av) : Option (Nat × Lv × List Av) := match ldv l k with
  | some (.inr (.inl x)) => some (pc, l, vL x :: st)
  | _ => none
def siI (l : Lv) (k pc : Nat) (st : List Av) : Option (Nat × Lv × List Av) := match st with
  | .inl x :: rest => (qsto l k (vI x)).map fun l' => (pc, l', rest)
  | _ => none
def siA (l : Lv) (k pc : Nat) (st : List Av) : Option (Nat × Lv × List Av) := match st with
  | .inr (.inr r) :: rest => (qsto l k (.inr (.inr r))).map fun l' => (pc, l', rest)
  | _ => none
def siL (l : Lv) (k pc : Nat) (st : List Av) : Option (Nat × Lv × List Av) := match st with
  | .inr (.inl x) :: rest => (qstoL l k (vL x)).map fun l' => (pc, l', rest)
  | _ => none
def b2 (f : Int32 → Int32 → Int32) (pc : Nat) (l : Lv) (st : List Av) : Option (Nat × Lv × List Av) := match st with
  | .inl y :: .inl x :: rest => some (pc + 1, l, vI (f x y) :: rest)
  | _ => none
def b2L (f : Int64 → Int64 → Int64) (pc : Nat) (l : Lv) (st : List Av) : Option (Nat × Lv × List Av) := match st with
  | .inr (.inl y) :: .inr (.inl x) :: rest => some (pc + 1, l, vL (f x y) :: rest)
  | _ => none
def u1 (f : Int32 → Int32) (pc : Nat) (l : Lv) (st : List Av) : Option (Nat × Lv × List Av) := match st with
  | .inl x :: rest => some (pc + 1, l, vI (f x) :: rest)
  | _ => none
/-- stack, locals, numbers, jumps: the cells are not asked -/
def sA (i : Instr) (len pc : Nat) (l : Lv) (st : List Av) : Option (Nat × Lv × List Av) := match i with
  | .aconst_null => if len = 1 then some (pc + 1, l, vN :: st) else none
  | .iconst n => if len = 1 then some (pc + 1, l, vI (Int32.ofInt n) :: st) else none
  | .bipush n => if len = 2 then some (pc + 2, l, vI (Int8.ofInt n).toInt32 :: st) else none
  | .sipush n => if len = 3 then some (pc + 3, l, vI (Int16.ofInt n).toInt32 :: st) else none
  | .lconst n => if len = 1 then some (pc + 1, l, vL (Int64.ofNat (n : Nat)) :: st) else none
  | .iload_n k => if len = 1 then liI l k (pc + 1) st else none
  | .iload k => if len = 2 then liI l k (pc + 2) st else none
  | .aload_n k => if len = 1 then liA l k (pc + 1) st else none
  | .aload k => if len = 2 then liA l k (pc + 2) st else none
  | .lload_n k => if len = 1 then liL l k (pc + 1) st else none
  | .lload k => if len = 2 then liL l k (pc + 2) st else none
  | .istore_n k => if len = 1 then siI l k (pc + 1) st else none
  | .istore k => if len = 2 then siI l k (pc + 2) st else none
  | .astore_n k => if len = 1 then siA l k (pc + 1) st else none
  | .astore k => if len = 2 then siA l k (pc + 2) st else none
  | .lstore_n k => if len = 1 then siL l k (pc + 1) st else none
  | .lstore k => if len = 2 then siL l k (pc + 2) st else none
  | .iinc k n => if len = 3 then (match ldv l k with
    | some (.inl x) => (qsto l k (vI (x + Int32.ofInt n))).map fun l' => (pc + 3, l', st)
    | _ => none) else none
  | .iadd => if len = 1 then b2 (fun x y => x + y) pc l st else none
  | .isub => if len = 1 then b2 (fun x y => x - y) pc l st else none
  | .imul => if len = 1 then b2 (fun x y => x * y) pc l st else none
  | .iand => if len = 1 then b2 (fun x y => x &&& y) pc l st else none
  | .ior => if len = 1 then b2 (fun x y => x ||| y) pc l st else none
  | .ixor => if len = 1 then b2 (fun x y => x ^^^ y) pc l st else none
  | .ishl => if len = 1 then b2 (fun x y => x <<< (y &&& 31)) pc l st else none
  | .ishr => if len = 1 then b2 (fun x y => x >>> (y &&& 31)) pc l st else none
  | .iushr => if len = 1 then b2 (fun x y => (x.toUInt32 >>> (y.toUInt32 &&& Int32.toUInt32 31)).toInt32) pc l st else none
  | .idiv => if len = 1 then (match st with
    | .inl y :: .inl x :: rest => if y = 0 then none else some (pc + 1, l, vI (x / y) :: rest)
    | _ => none) else none
  | .irem => if len = 1 then (match st with
    | .inl y :: .inl x :: rest => if y = 0 then none else some (pc + 1, l, vI (x - x / y * y) :: rest)
    | _ => none) else none
  | .ineg => if len = 1 then u1 (fun x => -x) pc l st else none
  | .i2b => if len = 1 then u1 (fun x => x.toInt8.toInt32) pc l st else none
  | .i2s => if len = 1 then u1 (fun x => x.toInt16.toInt32) pc l st else none
  | .i2c => if len = 1 then u1 (fun x => (x.toUInt32 % 65536).toInt32) pc l st else none
  | .i2l => if len = 1 then (match st with
    | .inl x :: rest => some (pc + 1, l, vL x.toInt64 :: rest)
    | _ => none) else none
  | .l2i => if len = 1 then (match st with
    | .inr (.inl x) :: rest => some (pc + 1, l, vI x.toInt32 :: rest)
    | _ => none) else none
  | .ladd => if len = 1 then b2L (fun x y => x + y) pc l st else none
  | .lsub => if len = 1 then b2L (fun x y => x - y) pc l st else none
  | .lneg => if len = 1 then (match st with
    | .inr (.inl x) :: rest => some (pc + 1, l, vL (-x) :: rest)
    | _ => none) else none
  | .lcmp => if len = 1 then (match st with
    | .inr (.inl y) :: .inr (.inl x) :: rest => some (pc + 1, l, vI (lg_cmp x y) :: rest)
    | _ => none) else none
  | .dup => if len = 1 then (match st with
    | v :: rest => if qcat v = 1 then some (pc + 1, l, v :: v :: rest) else none
    | _ => none) else none
  | .dup2 => if len = 1 then (match st with
    | v :: w :: rest => if qcat v = 1 ∧ qcat w = 1 then some (pc + 1, l, v :: w :: v :: w :: rest) else none
    | _ => none) else none
  | .pop => if len = 1 then (match st with
    | v :: rest => if qcat v = 1 then some (pc + 1, l, rest) else none
    | _ => none) else none
  | .if_icmp c o => if len = 3 then (match st with
    | .inl y :: .inl x :: rest => (qjmp pc o).map fun t => (if cndB c x y = true then t else pc + 3, l, rest)
    | _ => none) else none
  | .ifCond c o => if len = 3 then (match st with
    | .inl x :: rest => (qjmp pc o).map fun t => (if cndB c x 0 = true then t else pc + 3, l, rest)
    | _ => none) else none
  | .ifnull o => if len = 3 then (match st with
    | .inr (.inr none) :: rest => (qjmp pc o).map fun t => (t, l, rest)
    | .inr (.inr (some r)) :: rest => if 5 ≤ r.1 then some (pc + 3, l, rest) else none
    | _ => none) else none
  | .ifnonnull o => if len = 3 then (match st with
    | .inr (.inr none) :: rest => some (pc + 3, l, rest)
    | .inr (.inr (some r)) :: rest => if 5 ≤ r.1 then (qjmp pc o).map fun t => (t, l, rest) else none
    | _ => none) else none
  | .goto o => if len = 3 then (qjmp pc o).map fun t => (t, l, st) else none
  | .tableswitch df lo hi os => (match st with
    | .inl x :: rest => if x.toInt < lo ∨ hi < x.toInt then (qjmp pc df).map fun t => (t, l, rest) else (match os[(x.toInt - lo).toNat]? with
      | some o => (qjmp pc o).map fun t => (t, l, rest)
      | none => none)
    | _ => none)
  | .lookupswitch df ps => (match st with
    | .inl x :: rest => if (ps.toList.zip (ps.toList.drop 1)).all (fun (a, next) => a.1 < next.1) = true then (qjmp pc (Op.lookupswitch.offset ps.toList df x.toInt)).map fun t => (t, l, rest) else none
    | _ => none)
  | _ => none
/-- a cell that has been made, under its own name -/
def okr (σ : St) (r : Rf) : Bool := decide (5 ≤ r.1) && (decide (qoff r < σ.2.2.1) && decide (qmk (qoff r) = r))
/-- an array that was there before -/
def okx (r : Rf) : Bool := decide (r = (0, 0, 0) ∨ r = (1, 0, 0) ∨ (r.1 = 3 ∧ r.2.1 < 6 ∧ r.2.2 = 0))
/-- a text that was there before -/
def oks (r : Rf) : Bool := decide (r.1 = 2 ∧ r.2.1 < 6 ∧ r.2.2 = 0)
def aI (v : Av) : Int32 := match v with
  | .inl x => x
  | _ => 0
def aR (v : Av) : Option Rf := match v with
  | .inr (.inr (some q)) => if 5 ≤ q.1 then some q else none
  | _ => none
def rdA (ks : List Nat) (len pc : Nat) (st : List Av) (σ : St) : Option (Nat × List Av) := if len = 1 then (match st with
    | .inl x :: .inr (.inr (some r)) :: rest => if kd r.1 ∈ ks ∧ (okr σ r || okx r) = true ∧ 0 ≤ x ∧ x.toNatClampNeg < σ.2.1 r then some (pc + 1, vI (aI (σ.1 r x.toNatClampNeg)) :: rest) else none
    | _ => none) else none
def rdR (len pc : Nat) (st : List Av) (σ : St) : Option (Nat × List Av) := if len = 1 then (match st with
    | .inl x :: .inr (.inr (some r)) :: rest => if 14 ≤ kd r.1 ∧ kd r.1 < 18 ∧ okr σ r = true ∧ 0 ≤ x ∧ x.toNatClampNeg < σ.2.1 r then some (pc + 1, .inr (.inr (aR (σ.1 r x.toNatClampNeg))) :: rest) else none
    | _ => none) else none
/-- reads of cells and constants -/
def sB (own : String) (i : Instr) (len pc : Nat) (st : List Av) (σ : St) : Option (Nat × List Av) := match i with
  | .ldc k => if len = 2 then (match fCst own k with
    | some v => some (pc + 2, vI v :: st)
    | none => match fStr own k with
      | some q => some (pc + 2, vR 2 q 0 :: st)
      | none => none) else none
  | .ldc_w k => if len = 3 then (match fCst own k with
    | some v => some (pc + 3, vI v :: st)
    | none => none) else none
  | .getfield k => if len = 3 then (match st, fld own k with
    | .inr (.inr (some r)) :: rest, some (ci, q) => if kd r.1 = ci ∧ ((ci < 9 ∧ okr σ r = true) ∨ (ci = 20 ∧ oks r = true)) then some (pc + 3, σ.1 r q :: rest) else none
    | _, _ => none) else none
  | .getstatic k => if len = 3 then (match sta own k with
    | some v => some (pc + 3, v :: st)
    | none => none) else none
  | .iaload => rdA [10] len pc st σ
  | .baload => rdA [11, 12] len pc st σ
  | .caload => rdA [13] len pc st σ
  | .aaload => rdR len pc st σ
  | .arraylength => if len = 1 then (match st with
    | .inr (.inr (some r)) :: rest => if 10 ≤ kd r.1 ∧ kd r.1 < 18 ∧ (okr σ r || okx r) = true then some (pc + 1, vI (Int32.ofNat (σ.2.1 r)) :: rest) else none
    | _ => none) else none
  | _ => none
def hput (h : Hp) (r : Rf) (k : Nat) (v : Av) : Hp := fun r' k' => if r' = r ∧ k' = k then v else h r' k'
def hnew (h : Hp) (r : Rf) (f : Nat → Av) : Hp := fun r' => if r' = r then f else h r'
def alc (σ : St) (f : Nat → Av) (ln sl : Nat) : St := (hnew σ.1 (qmk σ.2.2.1) f, fun r => if r = qmk σ.2.2.1 then ln else σ.2.1 r, σ.2.2.1 + 1, σ.2.2.2 + sl)
def wrA (kq : Nat) (g : Int32 → Int32) (len pc : Nat) (st : List Av) (σ : St) : Option (Nat × List Av × St) := if len = 1 then (match st with
    | .inl v :: .inl x :: .inr (.inr (some r)) :: rest => if okr σ r = true ∧ kd r.1 = kq ∧ 0 ≤ x ∧ x.toNatClampNeg < σ.2.1 r then some (pc + 1, rest, (hput σ.1 r x.toNatClampNeg (vI (g v)), σ.2)) else none
    | _ => none) else none
def nwk (t : ArrayType) : Nat := match t with
  | .int => 10
  | .byte => 11
  | .boolean => 12
  | .char => 13
  | _ => 99
/-- writes of cells, new cells -/
def sC (μ : Mu) (d : Nat) (i : Instr) (len pc : Nat) (st : List Av) (σ : St) : Option (Nat × List Av × St) := match i with
  | .putfield k => if len = 3 then (match st, fld μ.2.1.cls k with
    | v :: .inr (.inr (some r)) :: rest, some (ci, q) => if okr σ r = true ∧ kd r.1 = ci ∧ ci < 9 ∧ fok (tyOf ci q) v = true ∧ (qfin ci q = false ∨ (μ.2.1.name = "<init>" ∧ (vwCl[ci]?).map (fun z => (z.2.1 q).1) = some μ.2.1.cls)) then some (pc + 3, rest, (hput σ.1 r q v, σ.2)) else none
    | _, _ => none) else none
  | .iastore => wrA 10 (fun x => x) len pc st σ
  | .bastore => (match wrA 11 (vp_nar .byte) len pc st σ with
    | some z => some z
    | none => wrA 12 (vp_nar .boolean) len pc st σ)
  | .castore => wrA 13 (vp_nar .char) len pc st σ
  | .aastore => if len = 1 then (match st with
    | .inr (.inr q) :: .inl x :: .inr (.inr (some r)) :: rest => if okr σ r = true ∧ 14 ≤ kd r.1 ∧ kd r.1 < 18 ∧ 0 ≤ x ∧ x.toNatClampNeg < σ.2.1 r ∧ (∀ z ∈ q, okr σ z = true ∧ kd z.1 = ecl (kd r.1)) then some (pc + 1, rest, (hput σ.1 r x.toNatClampNeg (.inr (.inr q)), σ.2)) else none
    | _ => none) else none
  | .new k => if len = 3 then (match nwc μ.2.1.cls k with
    | some ci => if kd (qmk σ.2.2.1).1 = ci then some (pc + 3, .inr (.inr (some (qmk σ.2.2.1))) :: st, alc σ (fun q => dfv (tyOf ci q)) 0 (nFl ci)) else none
    | none => none) else none
  | .newarray t => if len = 2 then (match st with
    | .inl x :: rest => if nwk t < 14 ∧ kd (qmk σ.2.2.1).1 = nwk t ∧ 0 ≤ x ∧ x.toNatClampNeg ≤ 100000 ∧ okw (.arrayClass (newarray.typeOf t)) = true then some (pc + 2, .inr (.inr (some (qmk σ.2.2.1))) :: rest, alc σ (fun _ => vI 0) x.toNatClampNeg x.toNatClampNeg) else none
    | _ => none) else none
  | .anewarray k => if len = 3 then (match st, nwa μ.2.1.cls k with
    | .inl x :: rest, some kq => if kd (qmk σ.2.2.1).1 = kq ∧ 0 ≤ x ∧ x.toNatClampNeg ≤ 100000 then some (pc + 3, .inr (.inr (some (qmk σ.2.2.1))) :: rest, alc σ (fun _ => vN) x.toNatClampNeg x.toNatClampNeg) else none
    | _, _ => none) else none
  | .invokespecial k => if len = 3 then (match st, spc μ.2.1.cls k with
    | .inr (.inr (some r)) :: rest, some 0 => if 5 ≤ r.1 ∧ 1 ≤ d ∧ (rest.map qcat).sum ≤ 8 then some (pc + 3, rest, σ) else none
    | _, _ => none) else none
  | .invokestatic k => if len = 3 then (match spc μ.2.1.cls k with
    | some 1 => (match st with
      | .inl n :: .inl dp :: .inr (.inr (some r)) :: .inl sp :: .inr (.inr (some q)) :: rest => if okr σ r = true ∧ okr σ q = true ∧ kd r.1 = 10 ∧ kd q.1 = 10 ∧ 0 ≤ n ∧ 0 ≤ dp ∧ 0 ≤ sp ∧ sp.toNatClampNeg + n.toNatClampNeg ≤ σ.2.1 q ∧ dp.toNatClampNeg + n.toNatClampNeg ≤ σ.2.1 r ∧ 1 ≤ d ∧ (rest.map qcat).sum ≤ 8 then some (pc + 3, rest, (hnew σ.1 r (fun k => vI (va_cpy (fun j => aI (σ.1 q j)) (fun j => aI (σ.1 r j)) sp.toNatClampNeg dp.toNatClampNeg n.toNatClampNeg k)), σ.2)) else none
      | _ => none)
    | some 2 => (match st with
      | .inl y :: .inl x :: rest => if 1 ≤ d ∧ (rest.map qcat).sum ≤ 8 then some (pc + 3, vI (if x < y then y else x) :: rest, σ) else none
      | _ => none)
    | some 3 => (match st with
      | .inl y :: .inl x :: rest => if 1 ≤ d ∧ (rest.map qcat).sum ≤ 8 then some (pc + 3, vI (if y < x then y else x) :: rest, σ) else none
      | _ => none)
    | some 4 => (match st with
      | .inl x :: rest => if 1 ≤ d ∧ (rest.map qcat).sum ≤ 8 then some (pc + 3, vI (if 0 ≤ x then x else 0 - x) :: rest, σ) else none
      | _ => none)
    | _ => none) else none
  | _ => none
/-- the receiver r is of class C -/
def rcv (σ : St) (r : Rf) (C : String) : Bool := match vwCl[kd r.1]? with
  | some q => okr σ r && decide (q.1 = C)
  | none => oks r && decide (C = "java/lang/String")
def rfT (ty : FieldType) : Bool := match ty with
  | .object _ => true
  | .array _ => true
  | _ => false
/-- a call: the method, its arguments (the receiver first), what is left on the stack -/
def sD (own : String) (i : Instr) (len : Nat) (st : List Av) (σ : St) : Option (Mu × List Av × List Av) := if len = 3 then (match i with
  | .invokestatic k => (match rsl 0 own k with
    | some (m, n) => if n ≤ st.length ∧ ((st.drop n).map qcat).sum ≤ 8 then some (m, (st.take n).reverse, st.drop n) else none
    | none => none)
  | .invokevirtual k => (match rsl 1 own k with
    | some (m, n) => (match st.drop n with
      | .inr (.inr (some r)) :: rest => if n ≤ st.length ∧ (rest.map qcat).sum ≤ 8 ∧ rcv σ r m.2.1.cls = true then some (m, .inr (.inr (some r)) :: (st.take n).reverse, rest) else none
      | _ => none)
    | none => none)
  | .invokespecial k => (match rsl 2 own k with
    | some (m, n) => (match st.drop n with
      | .inr (.inr (some r)) :: rest => if n ≤ st.length ∧ (rest.map qcat).sum ≤ 8 ∧ 5 ≤ r.1 then some (m, .inr (.inr (some r)) :: (st.take n).reverse, rest) else none
      | _ => none)
    | none => none)
  | _ => none) else none
/-- a return -/
def sE (rt : Option FieldType) (i : Instr) (len : Nat) (st : List Av) : Option (Option Av) := if len = 1 then (match i, rt, st with
  | .return_, none, [] => some none
  | .ireturn, some ty, [.inl x] => if narrow ty (.int x) = .int x then some (some (vI x)) else none
  | .lreturn, some .long, [.inr (.inl x)] => some (some (vL x))
  | .areturn, some ty, [.inr (.inr r)] => if rfT ty = true then some (some (.inr (.inr r))) else none
  | _, _, _ => none) else none
def qent (as : List Av) (n : Nat) : Lv := as.map some ++ List.replicate (n - as.length) none
/-- n: fuel; d: how many calls may still be open -/
def xc : Nat → Nat → Mu → Nat → Lv → List Av → St → Option (Option Av × St)
  | 0, _, _, _, _, _, _ => none
  | n + 1, d, μ, pc, l, st, σ => match decode μ.1 pc with
    | .error _ => none
    | .ok (i, len) => match sA i len pc l st with
      | some (pc', l', st') => xc n d μ pc' l' st' σ
      | none => match sB μ.2.1.cls i len pc st σ with
        | some (pc', st') => xc n d μ pc' l st' σ
        | none => match sC μ d i len pc st σ with
          | some (pc', st', σ') => xc n d μ pc' l st' σ'
          | none => match sE μ.2.2.2 i len st with
            | some v => some (v, σ)
            | none => match d with
              | 0 => none
              | d' + 1 => match sD μ.2.1.cls i len st σ with
                | none => none
                | some (μ', as, rest) => if as.length ≤ μ'.2.2.1 ∧ (∀ a ∈ as, qcat a = 1) then (match xc n d' μ' 0 (qent as μ'.2.2.1) [] σ with
                  | none => none
                  | some (v, σ') => xc n d μ (pc + 3) l (v.toList ++ rest) σ') else none
end
section
/-! SOUNDNESS, 1: values, locals, and the steps that do not ask the cells -/
def cnc (β : Nat) (ε : Rf → Value) (v : Av) : Value := match v with
  | .inl x => .int x
  | .inr (.inl x) => .long x
  | .inr (.inr none) => .null
  | .inr (.inr (some r)) => if r.1 < 5 then ε r else .ref (β + qoff r)
def eok (ε : Rf → Value) : Prop := ∀ r, ε r = .null ∨ ∃ a, ε r = .ref a
theorem cnc_ref {β : Nat} {ε : Rf → Value} (hε : eok ε) (r : Option Rf) : cnc β ε (.inr (.inr r)) = .null ∨ ∃ a, cnc β ε (.inr (.inr r)) = .ref a := by
  cases r with
  | none => exact Or.inl rfl
  | some r =>
    by_cases h : r.1 < 5
    · simp only [cnc, if_pos h]; exact hε r
    · simp only [cnc, if_neg h]; exact Or.inr ⟨_, rfl⟩
theorem cnc_cat {β : Nat} {ε : Rf → Value} (hε : eok ε) (v : Av) : (cnc β ε v).category = qcat v := by
  match v with
  | .inl x => rfl
  | .inr (.inl x) => rfl
  | .inr (.inr r) =>
    rcases cnc_ref (β := β) hε r with h | ⟨a, h⟩ <;> rw [h] <;> rfl
theorem cnc_sum {β : Nat} {ε : Rf → Value} (hε : eok ε) (st : List Av) : ((st.map (cnc β ε)).map fun v => v.category).sum = (st.map qcat).sum := by
  rw [List.map_map]
  congr 1
  apply List.map_congr_left
  intro v _
  exact cnc_cat hε v
def lvp (β : Nat) (ε : Rf → Value) : Nat → Lv → List (Nat × Value)
  | _, [] => []
  | i, none :: t => lvp β ε (i + 1) t
  | i, some v :: t => (i, cnc β ε v) :: lvp β ε (i + 1) t
theorem lvp_mem {β : Nat} {ε : Rf → Value} : ∀ (l : Lv) (k : Nat) (q : Nat × Value), q ∈ lvp β ε k l ↔ ∃ (j : Nat) (v : Av), l[j]? = some (some v) ∧ q = (k + j, cnc β ε v) := by
  intro l
  induction l with
  | nil => intro k q; simp [lvp]
  | cons a t ih =>
    intro k q
    cases a with
    | none =>
      rw [lvp, ih]
      constructor
      · rintro ⟨j, v, h, rfl⟩
        exact ⟨j + 1, v, by simpa using h, by rw [show k + (j + 1) = k + 1 + j by omega]⟩
      · rintro ⟨j, v, h, rfl⟩
        cases j with
        | zero => simp at h
        | succ j => exact ⟨j, v, by simpa using h, by rw [show k + (j + 1) = k + 1 + j by omega]⟩
    | some a =>
      rw [lvp, List.mem_cons, ih]
      constructor
      · rintro (rfl | ⟨j, v, h, rfl⟩)
        · exact ⟨0, a, by simp, by simp⟩
        · exact ⟨j + 1, v, by simpa using h, by rw [show k + (j + 1) = k + 1 + j by omega]⟩
      · rintro ⟨j, v, h, rfl⟩
        cases j with
        | zero =>
          simp at h
          left; rw [h]; simp
        | succ j => exact Or.inr ⟨j, v, by simpa using h, by rw [show k + (j + 1) = k + 1 + j by omega]⟩
def LvR (β : Nat) (ε : Rf → Value) (ls : Array Slot) (l : Lv) : Prop := lv_has ls l.length (lvp β ε 0 l)
theorem ldv_iff {l : Lv} {k : Nat} {v : Av} : ldv l k = some v ↔ l[k]? = some (some v) := by
  unfold ldv
  cases h : l[k]? with
  | none => simp
  | some a => simp
theorem LvR.at {β : Nat} {ε : Rf → Value} {ls : Array Slot} {l : Lv} {k : Nat} {v : Av} (h : LvR β ε ls l) (hk : ldv l k = some v) : ls[k]? = some (.val (cnc β ε v)) := by
  have := h.2.2 (k, cnc β ε v) ((lvp_mem l 0 _).mpr ⟨k, v, ldv_iff.mp hk, by simp⟩)
  exact this
theorem LvR.in {β : Nat} {ε : Rf → Value} {l : Lv} {k : Nat} {v : Av} (hk : ldv l k = some v) : ∃ j : Nat, (lvp β ε 0 l)[j]? = some (k, cnc β ε v) := List.getElem?_of_mem ((lvp_mem l 0 _).mpr ⟨k, v, ldv_iff.mp hk, by simp⟩)
theorem qsto_some {l l' : Lv} {i : Nat} {v : Av} (h : qsto l i v = some l') : i < l.length ∧ nlx l i = true ∧ l' = l.set i (some v) := by
  unfold qsto at h
  split at h
  · rename_i hc; exact ⟨hc.1, hc.2, (Option.some.inj h).symm⟩
  · cases h
theorem qstoL_some {l l' : Lv} {i : Nat} {v : Av} (h : qstoL l i v = some l') : i + 1 < l.length ∧ nlx l i = true ∧ l' = (l.set i (some v)).set (i + 1) none := by
  unfold qstoL at h
  split at h
  · rename_i hc; exact ⟨hc.1, hc.2, (Option.some.inj h).symm⟩
  · cases h
theorem nlx_cat {β : Nat} {ε : Rf → Value} (hε : eok ε) {l : Lv} {i j : Nat} {w : Av} (h : nlx l i = true) (hj : l[j]? = some (some w)) (e : j + 1 = i) : ¬ (cnc β ε w).category = 2 := by
  subst e
  rw [cnc_cat hε]
  simp only [nlx, ldv_iff.mpr hj] at h
  match w with
  | .inl x => simp [qcat]
  | .inr (.inl x) => simp at h
  | .inr (.inr r) => simp [qcat]
theorem LvR.set {β : Nat} {ε : Rf → Value} (hε : eok ε) {l l' : Lv} {i : Nat} {v : Av} {ls' : Array Slot} (hs : qsto l i v = some l') (h : lv_has ls' l.length ((i, cnc β ε v) :: (lvp β ε 0 l).filter (fun q => !(q.1 == i) && !(q.1 + 1 == i && q.2.category == 2)))) : LvR β ε ls' l' := by
  obtain ⟨hi, hn, rfl⟩ := qsto_some hs
  refine ⟨by rw [List.length_set]; exact h.1, h.2.1, fun q hq => h.2.2 q ?_⟩
  obtain ⟨j, w, hj, rfl⟩ := (lvp_mem _ 0 q).mp hq
  rw [List.getElem?_set] at hj
  rw [Nat.zero_add] at hq ⊢
  by_cases hij : i = j
  · subst hij
    simp [hi] at hj
    subst hj
    exact List.mem_cons_self
  · simp only [hij, if_false] at hj
    refine List.mem_cons_of_mem _ (List.mem_filter.mpr ⟨(lvp_mem l 0 _).mpr ⟨j, w, hj, by simp⟩, ?_⟩)
    have h1 : ¬ j = i := fun z => hij z.symm
    by_cases h2 : j + 1 = i
    · have := nlx_cat (β := β) hε hn hj h2
      simp [h1, this]
    · simp [h1, h2]
theorem LvR.setL {β : Nat} {ε : Rf → Value} (hε : eok ε) {l l' : Lv} {i : Nat} {v : Av} {ls' : Array Slot} (hs : qstoL l i v = some l') (h : lv_has ls' l.length ((i, cnc β ε v) :: (lvp β ε 0 l).filter (fun q => !(q.1 == i) && (!(q.1 == i + 1) && !(q.1 + 1 == i && q.2.category == 2))))) : LvR β ε ls' l' := by
  obtain ⟨hi, hn, rfl⟩ := qstoL_some hs
  refine ⟨by rw [List.length_set, List.length_set]; exact h.1, h.2.1, fun q hq => h.2.2 q ?_⟩
  obtain ⟨j, w, hj, rfl⟩ := (lvp_mem _ 0 q).mp hq
  rw [List.getElem?_set, List.getElem?_set] at hj
  rw [Nat.zero_add] at hq ⊢
  by_cases h0 : i + 1 = j
  · rw [if_pos h0] at hj
    simp at hj
  · rw [if_neg h0] at hj
    by_cases hij : i = j
    · subst hij
      rw [if_pos rfl, if_pos (by omega)] at hj
      simp at hj
      subst hj
      exact List.mem_cons_self
    · rw [if_neg hij] at hj
      refine List.mem_cons_of_mem _ (List.mem_filter.mpr ⟨(lvp_mem l 0 _).mpr ⟨j, w, hj, by simp⟩, ?_⟩)
      have h1 : ¬ j = i := fun z => hij z.symm
      have h3 : ¬ j = i + 1 := fun z => h0 z.symm
      by_cases h2 : j + 1 = i
      · have := nlx_cat (β := β) hε hn hj h2
        simp [h1, h3, this]
      · simp [h1, h3, h2]
theorem is1 {c : Prop} [Decidable c] {α : Type} {a : Option α} {b : α} (h : (if c then a else none) = some b) : c ∧ a = some b := by
  by_cases hc : c
  · rw [if_pos hc] at h; exact ⟨hc, h⟩
  · rw [if_neg hc] at h; cases h
theorem is2 {α γ : Type} {a : Option α} {f : α → γ} {b : γ} (h : a.map f = some b) : ∃ x, a = some x ∧ f x = b := by
  cases a with
  | none => cases h
  | some x => exact ⟨x, rfl, Option.some.inj h⟩
theorem qjmp_some {pc t : Nat} {o : Int} (h : qjmp pc o = some t) : (pc : Int) + o = (t : Int) := by
  unfold qjmp at h
  obtain ⟨h1, h2⟩ := is1 h
  have := Option.some.inj h2
  omega
theorem b2_some {f : Int32 → Int32 → Int32} {pc : Nat} {l : Lv} {st : List Av} {z : Nat × Lv × List Av} (h : b2 f pc l st = some z) : ∃ x y rest, st = vI y :: vI x :: rest ∧ z = (pc + 1, l, vI (f x y) :: rest) := by
  unfold b2 at h
  split at h
  · rename_i y x rest; exact ⟨x, y, rest, rfl, (Option.some.inj h).symm⟩
  · cases h
theorem b2L_some {f : Int64 → Int64 → Int64} {pc : Nat} {l : Lv} {st : List Av} {z : Nat × Lv × List Av} (h : b2L f pc l st = some z) : ∃ x y rest, st = vL y :: vL x :: rest ∧ z = (pc + 1, l, vL (f x y) :: rest) := by
  unfold b2L at h
  split at h
  · rename_i y x rest; exact ⟨x, y, rest, rfl, (Option.some.inj h).symm⟩
  · cases h
theorem u1_some {f : Int32 → Int32} {pc : Nat} {l : Lv} {st : List Av} {z : Nat × Lv × List Av} (h : u1 f pc l st = some z) : ∃ x rest, st = vI x :: rest ∧ z = (pc + 1, l, vI (f x) :: rest) := by
  unfold u1 at h
  split at h
  · rename_i x rest; exact ⟨x, rest, rfl, (Option.some.inj h).symm⟩
  · cases h
theorem liI_some {l : Lv} {k pc : Nat} {st : List Av} {z : Nat × Lv × List Av} (h : liI l k pc st = some z) : ∃ x, ldv l k = some (vI x) ∧ z = (pc, l, vI x :: st) := by
  unfold liI at h
  split at h
  · rename_i x hx; exact ⟨x, hx, (Option.some.inj h).symm⟩
  · cases h
theorem liA_some {l : Lv} {k pc : Nat} {st : List Av} {z : Nat × Lv × List Av} (h : liA l k pc st = some z) : ∃ r, ldv l k = some (.inr (.inr r)) ∧ z = (pc, l, .inr (.inr r) :: st) := by
  unfold liA at h
  split at h
  · rename_i x hx; exact ⟨x, hx, (Option.some.inj h).symm⟩
  · cases h
theorem liL_some {l : Lv} {k pc : Nat} {st : List Av} {z : Nat × Lv × List Av} (h : liL l k pc st = some z) : ∃ x, ldv l k = some (vL x) ∧ z = (pc, l, vL x :: st) := by
  unfold liL at h
  split at h
  · rename_i x hx; exact ⟨x, hx, (Option.some.inj h).symm⟩
  · cases h
theorem siI_some {l : Lv} {k pc : Nat} {st : List Av} {z : Nat × Lv × List Av} (h : siI l k pc st = some z) : ∃ x rest l', st = vI x :: rest ∧ qsto l k (vI x) = some l' ∧ z = (pc, l', rest) := by
  unfold siI at h
  split at h
  · rename_i x rest; obtain ⟨l', h1, h2⟩ := is2 h; exact ⟨x, rest, l', rfl, h1, h2.symm⟩
  · cases h
theorem siA_some {l : Lv} {k pc : Nat} {st : List Av} {z : Nat × Lv × List Av} (h : siA l k pc st = some z) : ∃ r rest l', st = .inr (.inr r) :: rest ∧ qsto l k (.inr (.inr r)) = some l' ∧ z = (pc, l', rest) := by
  unfold siA at h
  split at h
  · rename_i x rest; obtain ⟨l', h1, h2⟩ := is2 h; exact ⟨x, rest, l', rfl, h1, h2.symm⟩
  · cases h
theorem siL_some {l : Lv} {k pc : Nat} {st : List Av} {z : Nat × Lv × List Av} (h : siL l k pc st = some z) : ∃ x rest l', st = vL x :: rest ∧ qstoL l k (vL x) = some l' ∧ z = (pc, l', rest) := by
  unfold siL at h
  split at h
  · rename_i x rest; obtain ⟨l', h1, h2⟩ := is2 h; exact ⟨x, rest, l', rfl, h1, h2.symm⟩
  · cases h
section SA
variable {p : Program} {lc : Launch} {e : Env} {R : Room} {s : State} {m : MethodId} {args : Array Value} {below : List Frame} {meth : Method} {c : Code} {H : Heap} {locs : List Loc} {cells slots : Nat} {Q : State → Prop}
theorem qw_aload {β : Nat} {ε : Rf → Value} (hε : eok ε) {cc : ByteArray} {pc i : Nat} {ls : Array Slot} {rest : List Value} {r : Option Rf} (hx : p.tables.exec = Jvm.exec) (hb : c.code = cc) (hd : decode cc pc = .ok (.aload i, 2)) (hl : ls[i]? = some (.val (cnc β ε (.inr (.inr r)))))
    (k : W p lc e R s m args below meth c H locs cells slots Q (F0 m (pc + 2) ls (cnc β ε (.inr (.inr r)) :: rest))) : W p lc e R s m args below meth c H locs cells slots Q (F0 m pc ls rest) := by
  rcases cnc_ref (β := β) hε r with h | ⟨a, h⟩
  · rw [h] at hl k; exact lv_aloadN hx hb hd hl k
  · rw [h] at hl k; exact lv_aload hx hb hd hl k
theorem qw_aload_n {β : Nat} {ε : Rf → Value} (hε : eok ε) {cc : ByteArray} {pc : Nat} {i : Fin 4} {ls : Array Slot} {rest : List Value} {r : Option Rf} (hx : p.tables.exec = Jvm.exec) (hb : c.code = cc) (hd : decode cc pc = .ok (.aload_n i, 1)) (hl : ls[(i : Nat)]? = some (.val (cnc β ε (.inr (.inr r)))))
    (k : W p lc e R s m args below meth c H locs cells slots Q (F0 m (pc + 1) ls (cnc β ε (.inr (.inr r)) :: rest))) : W p lc e R s m args below meth c H locs cells slots Q (F0 m pc ls rest) := by
  rcases cnc_ref (β := β) hε r with h | ⟨a, h⟩
  · rw [h] at hl k; exact lv_aload_nN hx hb hd rfl hl k
  · rw [h] at hl k; exact lv_aload_n hx hb hd rfl hl k
theorem qw_astore {β : Nat} {ε : Rf → Value} (hε : eok ε) {cc : ByteArray} {pc i : Nat} {ls : Array Slot} {rest : List Value} {r : Option Rf} {nL : Nat} {lv : List (Nat × Value)} (hx : p.tables.exec = Jvm.exec) (hb : c.code = cc) (hd : decode cc pc = .ok (.astore i, 2)) (h : lv_has ls nL lv) (hn : i < nL)
    (k : ∀ ls', lv_has ls' nL ((i, cnc β ε (.inr (.inr r))) :: lv.filter (fun q => !(q.1 == i) && !(q.1 + 1 == i && q.2.category == 2))) → W p lc e R s m args below meth c H locs cells slots Q (F0 m (pc + 2) ls' rest)) : W p lc e R s m args below meth c H locs cells slots Q (F0 m pc ls (cnc β ε (.inr (.inr r)) :: rest)) := by
  rcases cnc_ref (β := β) hε r with h0 | ⟨a, h0⟩
  · rw [h0] at k ⊢; exact lv_astoreN hx hb hd h hn rfl k
  · rw [h0] at k ⊢; exact lv_astore hx hb hd h hn rfl k
theorem qw_astore_n {β : Nat} {ε : Rf → Value} (hε : eok ε) {cc : ByteArray} {pc : Nat} {i : Fin 4} {ls : Array Slot} {rest : List Value} {r : Option Rf} {nL : Nat} {lv : List (Nat × Value)} (hx : p.tables.exec = Jvm.exec) (hb : c.code = cc) (hd : decode cc pc = .ok (.astore_n i, 1)) (h : lv_has ls nL lv) (hn : (i : Nat) < nL)
    (k : ∀ ls', lv_has ls' nL (((i : Nat), cnc β ε (.inr (.inr r))) :: lv.filter (fun q => !(q.1 == (i : Nat)) && !(q.1 + 1 == (i : Nat) && q.2.category == 2))) → W p lc e R s m args below meth c H locs cells slots Q (F0 m (pc + 1) ls' rest)) : W p lc e R s m args below meth c H locs cells slots Q (F0 m pc ls (cnc β ε (.inr (.inr r)) :: rest)) := by
  rcases cnc_ref (β := β) hε r with h0 | ⟨a, h0⟩
  · rw [h0] at k ⊢; exact lv_astore_nN hx hb hd rfl h hn rfl k
  · rw [h0] at k ⊢; exact lv_astore_n hx hb hd rfl h hn rfl k
set_option maxHeartbeats 4000000 in
set_option maxRecDepth 20000 in
theorem sA_ok {β : Nat} {ε : Rf → Value} (hε : eok ε) {cc : ByteArray} {i : Instr} {len pc pc' : Nat} {l l' : Lv} {st st' : List Av} {ls : Array Slot} (hx : p.tables.exec = Jvm.exec) (hb : c.code = cc) (hl : LvR β ε ls l) (hd : decode cc pc = .ok (i, len)) (hs : sA i len pc l st = some (pc', l', st'))
    (kk : ∀ ls', LvR β ε ls' l' → ls'.size = ls.size → W p lc e R s m args below meth c H locs cells slots Q (F0 m pc' ls' (st'.map (cnc β ε)))) : W p lc e R s m args below meth c H locs cells slots Q (F0 m pc ls (st.map (cnc β ε))) := by
  cases i <;> first | (cases hs; done) | skip
  case aconst_null =>
    have h99 := is1 (show (if len = 1 then _ else none) = some _ from hs); clear hs; obtain ⟨rfl, hs⟩ := h99
    cases hs
    exact lv_null hx hb hd (kk _ hl rfl)
  case iconst n =>
    have h99 := is1 (show (if len = 1 then _ else none) = some _ from hs); clear hs; obtain ⟨rfl, hs⟩ := h99
    cases hs
    exact lv_iconst hx hb hd rfl (kk _ hl rfl)
  case bipush n =>
    have h99 := is1 (show (if len = 2 then _ else none) = some _ from hs); clear hs; obtain ⟨rfl, hs⟩ := h99
    cases hs
    exact lv_bipush hx hb hd rfl (kk _ hl rfl)
  case sipush n =>
    have h99 := is1 (show (if len = 3 then _ else none) = some _ from hs); clear hs; obtain ⟨rfl, hs⟩ := h99
    cases hs
    exact lv_sipush hx hb hd rfl (kk _ hl rfl)
  case lconst n =>
    have h99 := is1 (show (if len = 1 then _ else none) = some _ from hs); clear hs; obtain ⟨rfl, hs⟩ := h99
    cases hs
    exact lv_lconst hx hb hd rfl (kk _ hl rfl)
  case iload_n k =>
    have h99 := is1 (show (if len = 1 then _ else none) = some _ from hs); clear hs; obtain ⟨rfl, hs⟩ := h99
    obtain ⟨x, h1, e1⟩ := liI_some hs
    cases e1
    exact lv_iload_n hx hb hd rfl (hl.at h1) (kk _ hl rfl)
  case iload k =>
    have h99 := is1 (show (if len = 2 then _ else none) = some _ from hs); clear hs; obtain ⟨rfl, hs⟩ := h99
    obtain ⟨x, h1, e1⟩ := liI_some hs
    cases e1
    exact lv_iload hx hb hd (hl.at h1) (kk _ hl rfl)
  case lload_n k =>
    have h99 := is1 (show (if len = 1 then _ else none) = some _ from hs); clear hs; obtain ⟨rfl, hs⟩ := h99
    obtain ⟨x, h1, e1⟩ := liL_some hs
    cases e1
    exact lv_lload_n hx hb hd rfl (hl.at h1) (kk _ hl rfl)
  case lload k =>
    have h99 := is1 (show (if len = 2 then _ else none) = some _ from hs); clear hs; obtain ⟨rfl, hs⟩ := h99
    obtain ⟨x, h1, e1⟩ := liL_some hs
    cases e1
    exact lv_lload hx hb hd (hl.at h1) (kk _ hl rfl)
  case aload_n k =>
    have h99 := is1 (show (if len = 1 then _ else none) = some _ from hs); clear hs; obtain ⟨rfl, hs⟩ := h99
    obtain ⟨x, h1, e1⟩ := liA_some hs
    cases e1
    exact qw_aload_n hε hx hb hd (hl.at h1) (kk _ hl rfl)
  case aload k =>
    have h99 := is1 (show (if len = 2 then _ else none) = some _ from hs); clear hs; obtain ⟨rfl, hs⟩ := h99
    obtain ⟨x, h1, e1⟩ := liA_some hs
    cases e1
    exact qw_aload hε hx hb hd (hl.at h1) (kk _ hl rfl)
  case istore_n k =>
    have h99 := is1 (show (if len = 1 then _ else none) = some _ from hs); clear hs; obtain ⟨rfl, hs⟩ := h99
    obtain ⟨x, rest, l1, rfl, h1, e1⟩ := siI_some hs
    cases e1
    exact lv_istore_n hx hb hd rfl hl (qsto_some h1).1 rfl (fun ls1 h2 => kk ls1 (LvR.set hε h1 h2) (h2.1.trans hl.1.symm))
  case istore k =>
    have h99 := is1 (show (if len = 2 then _ else none) = some _ from hs); clear hs; obtain ⟨rfl, hs⟩ := h99
    obtain ⟨x, rest, l1, rfl, h1, e1⟩ := siI_some hs
    cases e1
    exact lv_istore hx hb hd hl (qsto_some h1).1 rfl (fun ls1 h2 => kk ls1 (LvR.set hε h1 h2) (h2.1.trans hl.1.symm))
  case lstore_n k =>
    have h99 := is1 (show (if len = 1 then _ else none) = some _ from hs); clear hs; obtain ⟨rfl, hs⟩ := h99
    obtain ⟨x, rest, l1, rfl, h1, e1⟩ := siL_some hs
    cases e1
    exact lv_lstore_n hx hb hd rfl hl (qstoL_some h1).1 rfl (fun ls1 h2 => kk ls1 (LvR.setL hε h1 h2) (h2.1.trans hl.1.symm))
  case lstore k =>
    have h99 := is1 (show (if len = 2 then _ else none) = some _ from hs); clear hs; obtain ⟨rfl, hs⟩ := h99
    obtain ⟨x, rest, l1, rfl, h1, e1⟩ := siL_some hs
    cases e1
    exact lv_lstore hx hb hd hl (qstoL_some h1).1 rfl (fun ls1 h2 => kk ls1 (LvR.setL hε h1 h2) (h2.1.trans hl.1.symm))
  case astore_n k =>
    have h99 := is1 (show (if len = 1 then _ else none) = some _ from hs); clear hs; obtain ⟨rfl, hs⟩ := h99
    obtain ⟨x, rest, l1, rfl, h1, e1⟩ := siA_some hs
    cases e1
    exact qw_astore_n hε hx hb hd hl (qsto_some h1).1 (fun ls1 h2 => kk ls1 (LvR.set hε h1 h2) (h2.1.trans hl.1.symm))
  case astore k =>
    have h99 := is1 (show (if len = 2 then _ else none) = some _ from hs); clear hs; obtain ⟨rfl, hs⟩ := h99
    obtain ⟨x, rest, l1, rfl, h1, e1⟩ := siA_some hs
    cases e1
    exact qw_astore hε hx hb hd hl (qsto_some h1).1 (fun ls1 h2 => kk ls1 (LvR.set hε h1 h2) (h2.1.trans hl.1.symm))
  case iinc k n =>
    have h99 := is1 (show (if len = 3 then _ else none) = some _ from hs); clear hs; obtain ⟨rfl, hs⟩ := h99
    split at hs
    · rename_i x hx1
      obtain ⟨l1, h1, e1⟩ := is2 hs
      cases e1
      obtain ⟨j, hj⟩ := LvR.in (β := β) (ε := ε) hx1
      exact lv_iinc hx hb hd hl hj rfl (qsto_some h1).1 rfl (fun ls1 h2 => kk ls1 (LvR.set hε h1 h2) (h2.1.trans hl.1.symm))
    · cases hs
  case iadd =>
    have h99 := is1 (show (if len = 1 then _ else none) = some _ from hs); clear hs; obtain ⟨rfl, hs⟩ := h99
    obtain ⟨x, y, rest, rfl, e1⟩ := b2_some hs
    cases e1
    exact lv_iadd hx hb hd (kk _ hl rfl)
  case isub =>
    have h99 := is1 (show (if len = 1 then _ else none) = some _ from hs); clear hs; obtain ⟨rfl, hs⟩ := h99
    obtain ⟨x, y, rest, rfl, e1⟩ := b2_some hs
    cases e1
    exact lv_isub hx hb hd (kk _ hl rfl)
  case imul =>
    have h99 := is1 (show (if len = 1 then _ else none) = some _ from hs); clear hs; obtain ⟨rfl, hs⟩ := h99
    obtain ⟨x, y, rest, rfl, e1⟩ := b2_some hs
    cases e1
    exact lv_imul hx hb hd (kk _ hl rfl)
  case iand =>
    have h99 := is1 (show (if len = 1 then _ else none) = some _ from hs); clear hs; obtain ⟨rfl, hs⟩ := h99
    obtain ⟨x, y, rest, rfl, e1⟩ := b2_some hs
    cases e1
    exact lv_iand hx hb hd (kk _ hl rfl)
  case ior =>
    have h99 := is1 (show (if len = 1 then _ else none) = some _ from hs); clear hs; obtain ⟨rfl, hs⟩ := h99
    obtain ⟨x, y, rest, rfl, e1⟩ := b2_some hs
    cases e1
    exact lv_ior hx hb hd (kk _ hl rfl)
  case ixor =>
    have h99 := is1 (show (if len = 1 then _ else none) = some _ from hs); clear hs; obtain ⟨rfl, hs⟩ := h99
    obtain ⟨x, y, rest, rfl, e1⟩ := b2_some hs
    cases e1
    exact lv_ixor hx hb hd (kk _ hl rfl)
  case ishl =>
    have h99 := is1 (show (if len = 1 then _ else none) = some _ from hs); clear hs; obtain ⟨rfl, hs⟩ := h99
    obtain ⟨x, y, rest, rfl, e1⟩ := b2_some hs
    cases e1
    exact lv_ishl hx hb hd (kk _ hl rfl)
  case ishr =>
    have h99 := is1 (show (if len = 1 then _ else none) = some _ from hs); clear hs; obtain ⟨rfl, hs⟩ := h99
    obtain ⟨x, y, rest, rfl, e1⟩ := b2_some hs
    cases e1
    exact lv_ishr hx hb hd (kk _ hl rfl)
  case iushr =>
    have h99 := is1 (show (if len = 1 then _ else none) = some _ from hs); clear hs; obtain ⟨rfl, hs⟩ := h99
    obtain ⟨x, y, rest, rfl, e1⟩ := b2_some hs
    cases e1
    exact lv_iushr hx hb hd rfl (kk _ hl rfl)
  case idiv =>
    have h99 := is1 (show (if len = 1 then _ else none) = some _ from hs); clear hs; obtain ⟨rfl, hs⟩ := h99
    split at hs
    · rename_i y x rest
      by_cases hy : y = 0
      · rw [if_pos hy] at hs; cases hs
      · rw [if_neg hy] at hs
        cases hs
        exact lv_idiv hx hb hd hy (kk _ hl rfl)
    · cases hs
  case irem =>
    have h99 := is1 (show (if len = 1 then _ else none) = some _ from hs); clear hs; obtain ⟨rfl, hs⟩ := h99
    split at hs
    · rename_i y x rest
      by_cases hy : y = 0
      · rw [if_pos hy] at hs; cases hs
      · rw [if_neg hy] at hs
        cases hs
        exact lv_irem hx hb hd hy (kk _ hl rfl)
    · cases hs
  case ineg =>
    have h99 := is1 (show (if len = 1 then _ else none) = some _ from hs); clear hs; obtain ⟨rfl, hs⟩ := h99
    obtain ⟨x, rest, rfl, e1⟩ := u1_some hs
    cases e1
    exact lv_ineg hx hb hd (kk _ hl rfl)
  case i2b =>
    have h99 := is1 (show (if len = 1 then _ else none) = some _ from hs); clear hs; obtain ⟨rfl, hs⟩ := h99
    obtain ⟨x, rest, rfl, e1⟩ := u1_some hs
    cases e1
    exact lv_i2b hx hb hd rfl (kk _ hl rfl)
  case i2s =>
    have h99 := is1 (show (if len = 1 then _ else none) = some _ from hs); clear hs; obtain ⟨rfl, hs⟩ := h99
    obtain ⟨x, rest, rfl, e1⟩ := u1_some hs
    cases e1
    exact lv_i2s hx hb hd rfl (kk _ hl rfl)
  case i2c =>
    have h99 := is1 (show (if len = 1 then _ else none) = some _ from hs); clear hs; obtain ⟨rfl, hs⟩ := h99
    obtain ⟨x, rest, rfl, e1⟩ := u1_some hs
    cases e1
    exact lv_i2c hx hb hd rfl (kk _ hl rfl)
  case i2l =>
    have h99 := is1 (show (if len = 1 then _ else none) = some _ from hs); clear hs; obtain ⟨rfl, hs⟩ := h99
    split at hs
    · cases hs
      exact lv_i2l hx hb hd rfl (kk _ hl rfl)
    · cases hs
  case l2i =>
    have h99 := is1 (show (if len = 1 then _ else none) = some _ from hs); clear hs; obtain ⟨rfl, hs⟩ := h99
    split at hs
    · cases hs
      exact lv_l2i hx hb hd rfl (kk _ hl rfl)
    · cases hs
  case ladd =>
    have h99 := is1 (show (if len = 1 then _ else none) = some _ from hs); clear hs; obtain ⟨rfl, hs⟩ := h99
    obtain ⟨x, y, rest, rfl, e1⟩ := b2L_some hs
    cases e1
    exact lv_ladd hx hb hd (kk _ hl rfl)
  case lsub =>
    have h99 := is1 (show (if len = 1 then _ else none) = some _ from hs); clear hs; obtain ⟨rfl, hs⟩ := h99
    obtain ⟨x, y, rest, rfl, e1⟩ := b2L_some hs
    cases e1
    exact lv_lsub hx hb hd (kk _ hl rfl)
  case lneg =>
    have h99 := is1 (show (if len = 1 then _ else none) = some _ from hs); clear hs; obtain ⟨rfl, hs⟩ := h99
    split at hs
    · cases hs
      exact lv_lneg hx hb hd (kk _ hl rfl)
    · cases hs
  case lcmp =>
    have h99 := is1 (show (if len = 1 then _ else none) = some _ from hs); clear hs; obtain ⟨rfl, hs⟩ := h99
    split at hs
    · cases hs
      exact W.lcmp hx hb hd (kk _ hl rfl)
    · cases hs
  case dup =>
    have h99 := is1 (show (if len = 1 then _ else none) = some _ from hs); clear hs; obtain ⟨rfl, hs⟩ := h99
    split at hs
    · rename_i v rest
      obtain ⟨h1, h2⟩ := is1 hs
      cases h2
      exact lv_dup hx hb hd (by rw [cnc_cat hε]; exact h1) (kk _ hl rfl)
    · cases hs
  case pop =>
    have h99 := is1 (show (if len = 1 then _ else none) = some _ from hs); clear hs; obtain ⟨rfl, hs⟩ := h99
    split at hs
    · rename_i v rest
      obtain ⟨h1, h2⟩ := is1 hs
      cases h2
      exact lv_pop hx hb hd (by rw [cnc_cat hε]; exact h1) (kk _ hl rfl)
    · cases hs
  case dup2 =>
    have h99 := is1 (show (if len = 1 then _ else none) = some _ from hs); clear hs; obtain ⟨rfl, hs⟩ := h99
    split at hs
    · rename_i v w rest
      obtain ⟨h1, h2⟩ := is1 hs
      cases h2
      exact lv_dup2_11 hx hb hd (by rw [cnc_cat hε]; exact h1.1) (by rw [cnc_cat hε]; exact h1.2) (kk _ hl rfl)
    · cases hs
  case if_icmp cd o =>
    have h99 := is1 (show (if len = 3 then _ else none) = some _ from hs); clear hs; obtain ⟨rfl, hs⟩ := h99
    split at hs
    · rename_i y x rest
      obtain ⟨t, h1, h2⟩ := is2 hs
      have ht := qjmp_some h1
      cases h2
      cases cd <;> simp only [cndB, decide_eq_true_eq] at kk
      · exact lv_icmp_eq hx hb hd ht (fun h => by have k2 := kk _ hl rfl; rwa [if_pos h] at k2) (fun h => by have k2 := kk _ hl rfl; rwa [if_neg h] at k2)
      · exact lv_icmp_ne hx hb hd ht (fun h => by have k2 := kk _ hl rfl; rwa [if_pos h] at k2) (fun h => by have k2 := kk _ hl rfl; rwa [if_neg (fun z => z h)] at k2)
      · exact lv_icmp_lt hx hb hd ht (fun h => by have k2 := kk _ hl rfl; rwa [if_pos h] at k2) (fun h => by have k2 := kk _ hl rfl; rwa [if_neg h] at k2)
      · exact lv_icmp_ge hx hb hd ht (fun h => by have k2 := kk _ hl rfl; rwa [if_pos h] at k2) (fun h => by have k2 := kk _ hl rfl; rwa [if_neg h] at k2)
      · exact lv_icmp_gt hx hb hd ht (fun h => by have k2 := kk _ hl rfl; rwa [if_pos h] at k2) (fun h => by have k2 := kk _ hl rfl; rwa [if_neg h] at k2)
      · exact lv_icmp_le hx hb hd ht (fun h => by have k2 := kk _ hl rfl; rwa [if_pos h] at k2) (fun h => by have k2 := kk _ hl rfl; rwa [if_neg h] at k2)
    · cases hs
  case ifCond cd o =>
    have h99 := is1 (show (if len = 3 then _ else none) = some _ from hs); clear hs; obtain ⟨rfl, hs⟩ := h99
    split at hs
    · rename_i x rest
      obtain ⟨t, h1, h2⟩ := is2 hs
      have ht := qjmp_some h1
      cases h2
      cases cd <;> simp only [cndB, decide_eq_true_eq] at kk
      · exact lv_if_eq hx hb hd ht (fun h => by have k2 := kk _ hl rfl; rwa [if_pos h] at k2) (fun h => by have k2 := kk _ hl rfl; rwa [if_neg h] at k2)
      · exact lv_if_ne hx hb hd ht (fun h => by have k2 := kk _ hl rfl; rwa [if_pos h] at k2) (fun h => by have k2 := kk _ hl rfl; rwa [if_neg (fun z => z h)] at k2)
      · exact lv_if_lt hx hb hd ht (fun h => by have k2 := kk _ hl rfl; rwa [if_pos h] at k2) (fun h => by have k2 := kk _ hl rfl; rwa [if_neg h] at k2)
      · exact lv_if_ge hx hb hd ht (fun h => by have k2 := kk _ hl rfl; rwa [if_pos h] at k2) (fun h => by have k2 := kk _ hl rfl; rwa [if_neg h] at k2)
      · exact lv_if_gt hx hb hd ht (fun h => by have k2 := kk _ hl rfl; rwa [if_pos h] at k2) (fun h => by have k2 := kk _ hl rfl; rwa [if_neg h] at k2)
      · exact lv_if_le hx hb hd ht (fun h => by have k2 := kk _ hl rfl; rwa [if_pos h] at k2) (fun h => by have k2 := kk _ hl rfl; rwa [if_neg h] at k2)
    · cases hs
  case ifnull o =>
    have h99 := is1 (show (if len = 3 then _ else none) = some _ from hs); clear hs; obtain ⟨rfl, hs⟩ := h99
    split at hs
    · obtain ⟨t, h1, h2⟩ := is2 hs
      cases h2
      exact lv_ifnullN hx hb hd (qjmp_some h1) (kk _ hl rfl)
    · rename_i r rest
      obtain ⟨h1, h2⟩ := is1 hs
      cases h2
      have e9 : cnc β ε (.inr (.inr (some r))) = .ref (β + qoff r) := by simp only [cnc]; rw [if_neg (by omega)]
      rw [List.map_cons, e9]
      exact lv_ifnull hx hb hd (kk _ hl rfl)
    · cases hs
  case ifnonnull o =>
    have h99 := is1 (show (if len = 3 then _ else none) = some _ from hs); clear hs; obtain ⟨rfl, hs⟩ := h99
    split at hs
    · cases hs
      exact lv_ifnonnullN hx hb hd (kk _ hl rfl)
    · rename_i r rest
      obtain ⟨h1, h2⟩ := is1 hs
      obtain ⟨t, h3, h4⟩ := is2 h2
      cases h4
      have e9 : cnc β ε (.inr (.inr (some r))) = .ref (β + qoff r) := by simp only [cnc]; rw [if_neg (by omega)]
      rw [List.map_cons, e9]
      exact lv_ifnonnull hx hb hd (qjmp_some h3) (kk _ hl rfl)
    · cases hs
  case goto o =>
    have h99 := is1 (show (if len = 3 then _ else none) = some _ from hs); clear hs; obtain ⟨rfl, hs⟩ := h99
    obtain ⟨t, h1, h2⟩ := is2 hs
    cases h2
    exact lv_goto hx hb hd (qjmp_some h1) (kk _ hl rfl)
  case tableswitch df lo hi os =>
    simp only [sA] at hs
    split at hs
    · rename_i x rest
      split at hs
      · rename_i h0
        obtain ⟨t, h1, h2⟩ := is2 hs
        cases h2
        exact lv_tableOut hx hb hd h0 (qjmp_some h1) (kk _ hl rfl)
      · rename_i h0
        split at hs
        · rename_i o ho
          obtain ⟨t, h1, h2⟩ := is2 hs
          cases h2
          exact lv_tableIn hx hb hd (fun z => h0 (Or.inl z)) (fun z => h0 (Or.inr z)) ho (qjmp_some h1) (kk _ hl rfl)
        · cases hs
    · cases hs
  case lookupswitch df ps =>
    simp only [sA] at hs
    split at hs
    · rename_i x rest
      obtain ⟨h0, hs⟩ := is1 hs
      obtain ⟨t, h1, h2⟩ := is2 hs
      cases h2
      exact lv_lookup hx hb hd h0 rfl (qjmp_some h1) (kk _ hl rfl)
    · cases hs
end SA
end
section
/-! SOUNDNESS, 2: the world: how the named cells lie in the heap, what was there before -/
def tysO (cs : Nat → ClassId) : List (ClassId × FieldType) := (List.range 8).map fun j => (cs (10 + j), aty (10 + j))
theorem tysO_at {cs : Nat → ClassId} {k : Nat} (h1 : 10 ≤ k) (h2 : k < 18) : (tysO cs)[k - 10]? = some (cs k, aty k) := by
  unfold tysO
  rw [List.getElem?_map, List.getElem?_range (by omega)]
  show some (cs (10 + (k - 10)), aty (10 + (k - 10))) = _
  rw [show 10 + (k - 10) = k by omega]
def ent (β : Nat) (cs : Nat → ClassId) (ε : Rf → Value) (σ : St) (r : Rf) : va_E :=
  if kd r.1 < 9 then .inr (kd r.1, (List.range (nFl (kd r.1))).map fun q => cnc β ε (σ.1 r q))
  else if kd r.1 < 14 then .inl (cs (kd r.1), σ.2.1 r, .inl fun j => aI (σ.1 r j))
  else .inl (cs (kd r.1), σ.2.1 r, .inr (.inr (.inr (.inr fun j => (aR (σ.1 r j)).map fun q => β + qoff q))))
theorem ent_obj {β : Nat} {cs : Nat → ClassId} {ε : Rf → Value} {σ : St} {r : Rf} {ci : Nat} (h : kd r.1 = ci) (h9 : ci < 9) : ent β cs ε σ r = .inr (ci, (List.range (nFl ci)).map fun q => cnc β ε (σ.1 r q)) := by
  subst h; unfold ent; rw [if_pos h9]
theorem ent_int {β : Nat} {cs : Nat → ClassId} {ε : Rf → Value} {σ : St} {r : Rf} {k : Nat} (h : kd r.1 = k) (h9 : 9 ≤ k) (h14 : k < 14) : ent β cs ε σ r = .inl (cs k, σ.2.1 r, .inl fun j => aI (σ.1 r j)) := by
  subst h; unfold ent; rw [if_neg (by omega), if_pos h14]
theorem ent_ref {β : Nat} {cs : Nat → ClassId} {ε : Rf → Value} {σ : St} {r : Rf} {k : Nat} (h : kd r.1 = k) (h14 : 14 ≤ k) : ent β cs ε σ r = .inl (cs k, σ.2.1 r, .inr (.inr (.inr (.inr fun j => (aR (σ.1 r j)).map fun q => β + qoff q)))) := by
  subst h; unfold ent; rw [if_neg (by omega), if_neg (by omega)]
theorem ent_cong {β : Nat} {cs : Nat → ClassId} {ε : Rf → Value} {σ τ : St} {r : Rf} (h1 : τ.1 r = σ.1 r) (h2 : τ.2.1 r = σ.2.1 r) : ent β cs ε τ r = ent β cs ε σ r := by
  unfold ent; rw [h1, h2]
def wsO (β : Nat) (cs : Nat → ClassId) (ε : Rf → Value) (σ : St) : va_W := (List.range σ.2.2.1).map fun n => (β + n, ent β cs ε σ (qmk n))
theorem okr_spec {σ : St} {r : Rf} (h : okr σ r = true) : 5 ≤ r.1 ∧ qoff r < σ.2.2.1 ∧ qmk (qoff r) = r := by
  unfold okr at h
  simp only [Bool.and_eq_true, decide_eq_true_eq] at h
  exact h
theorem wsO_at {β : Nat} {cs : Nat → ClassId} {ε : Rf → Value} {σ : St} {r : Rf} (h : okr σ r = true) : (wsO β cs ε σ)[qoff r]? = some (β + qoff r, ent β cs ε σ r) := by
  obtain ⟨h1, h2, h3⟩ := okr_spec h
  unfold wsO
  rw [List.getElem?_map, List.getElem?_range h2]
  show some (β + qoff r, ent β cs ε σ (qmk (qoff r))) = _
  rw [h3]
theorem wsO_ix {β : Nat} {cs : Nat → ClassId} {ε : Rf → Value} {σ : St} {k : Nat} {q : Nat × va_E} (h : (wsO β cs ε σ)[k]? = some q) : k < σ.2.2.1 ∧ q = (β + k, ent β cs ε σ (qmk k)) := by
  unfold wsO at h
  rw [List.getElem?_map] at h
  by_cases hk : k < σ.2.2.1
  · rw [List.getElem?_range hk] at h
    exact ⟨hk, (Option.some.inj h).symm⟩
  · rw [List.getElem?_eq_none (by simpa using hk)] at h
    cases h
def Ax (β : Nat) : Nat → Prop := fun q => β ≤ q
theorem wsO_D {β : Nat} {cs : Nat → ClassId} {ε : Rf → Value} {σ : St} : va_D (Ax β) (wsO β cs ε σ) := by
  refine ⟨fun i j p q hi hj e => ?_, fun k q hq => ?_⟩
  · have h1 := (wsO_ix hi).2
    have h2 := (wsO_ix hj).2
    subst h1; subst h2
    have : β + i = β + j := e
    omega
  · have h1 := (wsO_ix hq).2
    subst h1
    exact Nat.le_add_right β k
theorem wsO_set {β : Nat} {cs : Nat → ClassId} {ε : Rf → Value} {σ τ : St} {r : Rf} (h : okr σ r = true) (hc : τ.2.2.1 = σ.2.2.1) (h1 : ∀ z, z ≠ r → τ.1 z = σ.1 z ∧ τ.2.1 z = σ.2.1 z) : (wsO β cs ε σ).set (qoff r) (β + qoff r, ent β cs ε τ r) = wsO β cs ε τ := by
  obtain ⟨g1, g2, g3⟩ := okr_spec h
  apply List.ext_getElem?
  intro n
  rw [List.getElem?_set]
  unfold wsO
  rw [hc, List.getElem?_map, List.getElem?_map, List.length_map, List.length_range]
  by_cases hn : qoff r = n
  · subst hn
    rw [if_pos rfl, if_pos g2, List.getElem?_range g2]
    show _ = some (β + qoff r, ent β cs ε τ (qmk (qoff r)))
    rw [g3]
  · rw [if_neg hn]
    by_cases hl : n < σ.2.2.1
    · rw [List.getElem?_range hl]
      show some (β + n, ent β cs ε σ (qmk n)) = some (β + n, ent β cs ε τ (qmk n))
      have hz : qmk n ≠ r := fun e => hn (by rw [← e, qoff_mk])
      rw [ent_cong (h1 _ hz).1 (h1 _ hz).2]
    · rw [List.getElem?_eq_none (by simpa using hl)]
      rfl
theorem wsO_alc {β : Nat} {cs : Nat → ClassId} {ε : Rf → Value} {σ : St} {f : Nat → Av} {ln sl : Nat} : wsO β cs ε σ ++ [(β + σ.2.2.1, ent β cs ε (alc σ f ln sl) (qmk σ.2.2.1))] = wsO β cs ε (alc σ f ln sl) := by
  unfold wsO
  show _ = (List.range (σ.2.2.1 + 1)).map _
  rw [List.range_succ, List.map_append]
  congr 1
  apply List.map_congr_left
  intro n hn
  have hn : n < σ.2.2.1 := List.mem_range.mp hn
  have hz : qmk n ≠ qmk σ.2.2.1 := fun e => by
    have := congrArg qoff e
    rw [qoff_mk, qoff_mk] at this
    omega
  rw [ent_cong]
  · show σ.1 (qmk n) = (if qmk n = qmk σ.2.2.1 then f else σ.1 (qmk n))
    rw [if_neg hz]
  · show σ.2.1 (qmk n) = (if qmk n = qmk σ.2.2.1 then ln else σ.2.1 (qmk n))
    rw [if_neg hz]
/-- what was there before: the script (where, how long, what), ABOVE, the texts and their bytes, the formatter -/
abbrev Xp : Type := (Nat × Nat × (Nat → Int32)) × Nat × (Nat → Nat) × (Nat → Nat) × Value
def xE (X : Xp) : Rf → Value := fun r => if r = (0, 0, 0) then .ref X.1.1 else if r = (1, 0, 0) then .ref X.2.1 else if r.1 = 2 ∧ r.2.1 < 6 ∧ r.2.2 = 0 then .ref (X.2.2.1 r.2.1) else if r.1 = 3 ∧ r.2.1 < 6 ∧ r.2.2 = 0 then .ref (X.2.2.2.1 r.2.1) else if r = (4, 0, 0) then X.2.2.2.2 else .null
def slen : List Nat := [5, 3, 4, 3, 2, 2]
def sbyt : List (List Int32) := [[100, 114, 105, 102, 116], [102, 101, 101], [102, 105, 110, 101], [102, 109, 114], [115, 119], [108, 109]]
def sabv : List Int32 := [-1, 0, 0, 1, 2, 0]
def xH (xs : Nat → Int32) : Hp := fun r k => if r.1 = 0 then vI (xs k) else if r.1 = 1 then vI (sabv.getD k 0) else if r.1 = 2 then (if k = 0 then vI 0 else vR 3 r.2.1 0) else if r.1 = 3 then vI ((sbyt.getD r.2.1 []).getD k 0) else vN
def xL (L : Nat) : Rf → Nat := fun r => if r.1 = 0 then L else if r.1 = 1 then 6 else if r.1 = 3 then slen.getD r.2.1 0 else 0
def exO (X : Xp) (σ : St) : Prop := ∀ r : Rf, r.1 < 5 → σ.1 r = xH X.1.2.2 r ∧ σ.2.1 r = xL X.1.2.1 r
def gTb : List Jvm.Cond := lw_tbl.filter goodWord
theorem okw_in {w : Jvm.Cond} (h : okw w = true) : w ∈ gTb := by
  unfold okw at h
  simp only [Bool.and_eq_true, decide_eq_true_eq] at h
  exact List.mem_filter.mpr h
theorem gTb_good {w : Jvm.Cond} (h : w ∈ gTb) : (w.onTables && w.keeps) = true ∨ ∃ ty, w = .arrayClass ty := good_of_word (List.mem_filter.mp h).2
def Cx (β : Nat) (D : va_G) (cs : Nat → ClassId) (X : Xp) (s : State) : Prop :=
  va_K D vwCl (tysO cs) s ∧ va_X X.1.1 X.1.2.1 X.1.2.2 s s.heap ∧ X.1.1 < β ∧ β ≤ s.heap.size ∧
  va_Z "LogLetters" "ABOVE" "[I" (.ref X.2.1) (Ax β) s s.heap ∧ va_T .int X.2.1 6 (fun j => .int (sabv.getD j 0)) (Ax β) s s.heap ∧
  va_Z "java/lang/String" "COMPACT_STRINGS" "Z" (.int 1) (Ax β) s s.heap ∧ va_Z "jdk/internal/util/Preconditions" "SIOOBE_FORMATTER" "Ljava/util/function/BiFunction;" X.2.2.2.2 (Ax β) s s.heap ∧
  vk_S 6 slen sbyt X.2.2.1 X.2.2.2.1 (Ax β) s s.heap ∧ (∀ i, i < 6 → vk_R RX2 (strs.getD i (0, "")).1 (strs.getD i (0, "")).2 (X.2.2.1 i) s) ∧
  (∀ a i x h, Jvm.Cond.methodLinkNest a i x h ∈ lw_tbl → va_Nw (.methodLinkNest a i x h) s) ∧ (∀ a i b n d h, Jvm.Cond.fieldLinkNest a i b n d h ∈ lw_tbl → va_Nw (.fieldLinkNest a i b n d h) s) ∧
  (∀ C, Jvm.Cond.arrayOver (.object C) ∈ lw_tbl → va_AO C s) ∧ (X.2.2.2.2 = .null ∨ ∃ a, X.2.2.2.2 = .ref a)
theorem Cx.next {β : Nat} {D : va_G} {cs : Nat → ClassId} {X : Xp} {s U : State} {H : Heap} {locs : List Loc} (h : Cx β D cs X s) (hS : va_S (Ax β) s.heap H locs) (hU : U.heap = H) (hW : s.WarmedH U.vm) : Cx β D cs X U := by
  obtain ⟨h1, h2, h3, h4, h5, h6, h7, h8, h9, h10, h11, h12, h13, h14⟩ := h
  subst hU
  have hv := hW.alike
  exact ⟨h1.moved hv, (h2.moved hv).kept (hS.2.1 _ (Nat.lt_of_lt_of_le h3 h4) (fun z => Nat.not_le.mpr h3 z)), h3, Nat.le_trans h4 hS.1, (h5.moved hv).kept hS.2.1, (h6.moved hv).kept hS.2.1, (h7.moved hv).kept hS.2.1, (h8.moved hv).kept hS.2.1, (h9.moved hv).kept hS.2.1, fun i hi => (h10 i hi).warm hW, fun a i x h hh => (h11 a i x h hh).warmM hW, fun a i b n d h hh => (h12 a i b n d h hh).warmF hW, fun C hh => (h13 C hh).moved hv, h14⟩
theorem Cx.blind {β : Nat} {D : va_G} {cs : Nat → ClassId} {X : Xp} {U : State} {g : JFrame} {mk : MethodId} {a : Array Value} (h : Cx β D cs X U) : Cx β D cs X (U.calling g mk a) := by
  obtain ⟨h1, h2, h3, h4, h5, h6, h7, h8, h9, h10, h11, h12, h13, h14⟩ := h
  have hv : U.vm.Alike (U.calling g mk a).vm := Vm.Alike.refl U.vm
  exact ⟨h1.moved hv, h2.moved hv, h3, h4, h5.moved hv, h6.moved hv, h7.moved hv, h8.moved hv, h9.moved hv, fun i hi => (h10 i hi).same rfl, fun a i x h hh => (h11 a i x h hh).same rfl rfl, fun a i b n d h hh => (h12 a i b n d h hh).same rfl rfl, fun C hh => (h13 C hh).moved hv, h14⟩
theorem xE_ok {X : Xp} (h : X.2.2.2.2 = .null ∨ ∃ a, X.2.2.2.2 = .ref a) : eok (xE X) := by
  intro r
  unfold xE
  split
  · exact Or.inr ⟨_, rfl⟩
  · split
    · exact Or.inr ⟨_, rfl⟩
    · split
      · exact Or.inr ⟨_, rfl⟩
      · split
        · exact Or.inr ⟨_, rfl⟩
        · split
          · exact h
          · exact Or.inl rfl
theorem cl_ok : (List.range 9).all (fun ci => match vwCl[ci]? with
  | some q => decide (q.2.2 = nFl ci) && (u_ws q.1 q.2.1 q.2.2).all (fun w => decide (w ∈ lw_tbl) && goodWord w)
  | none => false) = true := by decide +kernel
theorem cl_spec {ci : Nat} {C : String} {T : u_T} {N : Nat} (h : vwCl[ci]? = some (C, T, N)) (h9 : ci < 9) : N = nFl ci ∧ ∀ w ∈ u_ws C T N, w ∈ gTb := by
  have h1 := List.all_eq_true.mp cl_ok ci (List.mem_range.mpr h9)
  simp only [h] at h1
  simp only [Bool.and_eq_true, decide_eq_true_eq] at h1
  refine ⟨h1.1, fun w hw => ?_⟩
  have h2 := List.all_eq_true.mp h1.2 w hw
  simp only [Bool.and_eq_true, decide_eq_true_eq] at h2
  exact List.mem_filter.mpr h2
theorem findSome_mem {α γ : Type} {f : α → Option γ} {l : List α} {b : γ} (h : l.findSome? f = some b) : ∃ a, a ∈ l ∧ f a = some b := List.exists_of_findSome?_eq_some h
theorem fld_spec {own : String} {i ci q : Nat} (h : fld own i = some (ci, q)) : ∃ ref n d, okw (.fieldLink own i ref n d) = true ∧ ((ci = 20 ∧ q = 0 ∧ ref = "java/lang/String" ∧ n = "coder" ∧ d = "B") ∨ (ci = 20 ∧ q = 1 ∧ ref = "java/lang/String" ∧ n = "value" ∧ d = "[B") ∨ (ci < 9 ∧ ∃ (T : u_T) (N : Nat), vwCl[ci]? = some (ref, T, N) ∧ q < N ∧ (T q).1 = ref ∧ (T q).2.1 = n ∧ (T q).2.2.1 = d)) := by
  unfold fld at h
  split at h
  · rename_i ref n d ci' f' p hf
    replace h := is1 h
    obtain ⟨⟨h1, h2⟩, h⟩ := h
    cases h
    refine ⟨ref, n, d, tat_okw h1, ?_⟩
    rcases h2 with h2 | h2 | ⟨h9, h2⟩
    · exact Or.inl h2
    · exact Or.inr (Or.inl h2)
    · refine Or.inr (Or.inr ⟨h9, ?_⟩)
      cases hv : vwCl[ci]? with
      | none => rw [hv] at h2; cases h2
      | some z =>
        rw [hv] at h2
        obtain ⟨z1, z2, z3⟩ := z
        have h3 := of_decide_eq_true (Option.some.inj h2)
        obtain ⟨e1, e2, e3⟩ := h3
        simp only at e1
        subst e1
        exact ⟨z2, z3, rfl, e2, e3⟩
  · cases h
theorem nFl_pos : ∀ ci, ci < 9 → (vwCl[ci]?).isSome = true := by decide +kernel
theorem ty_ok : ∀ ci, ci < 9 → ∀ q, vwCl[ci]? = some q → (∀ k, k < q.2.2 → parseFieldDescriptor (q.2.1 k).2.2.1 = some (tyOf ci k)) ∧ ∀ a, a < q.2.2 → ∀ b, b < q.2.2 → a ≠ b → (q.2.1 a).2.1 ≠ (q.2.1 b).2.1 := by
  intro ci h q hq
  match ci, h with
  | 0, _ => cases hq; exact ⟨tyX0_ok, nmX0⟩
  | 1, _ => cases hq; exact ⟨tyX1_ok, nmX1⟩
  | 2, _ => cases hq; exact ⟨tyX2_ok, nmX2⟩
  | 3, _ => cases hq; exact ⟨tyX3_ok, nmX3⟩
  | 4, _ => cases hq; exact ⟨tyX4_ok, nmX4⟩
  | 5, _ => cases hq; exact ⟨tyX5_ok, nmX5⟩
  | 6, _ => cases hq; exact ⟨tyX6_ok, nmX6⟩
  | 7, _ => cases hq; exact ⟨tyX7_ok, nmX7⟩
  | 8, _ => cases hq; exact ⟨tyX8_ok, nmX8⟩
end
section
/-! SOUNDNESS, 3: the steps that read cells -/
theorem cnc_own {β : Nat} {ε : Rf → Value} {r : Rf} (h : 5 ≤ r.1) : cnc β ε (.inr (.inr (some r))) = .ref (β + qoff r) := by
  simp only [cnc]; rw [if_neg (by omega)]
theorem cnc_x0 {β : Nat} {X : Xp} : cnc β (xE X) (vR 0 0 0) = .ref X.1.1 := by simp [cnc, xE]
theorem cnc_x1 {β : Nat} {X : Xp} : cnc β (xE X) (vR 1 0 0) = .ref X.2.1 := by simp [cnc, xE]
theorem cnc_x2 {β : Nat} {X : Xp} {i : Nat} (h : i < 6) : cnc β (xE X) (vR 2 i 0) = .ref (X.2.2.1 i) := by simp [cnc, xE, h]
theorem cnc_x3 {β : Nat} {X : Xp} {i : Nat} (h : i < 6) : cnc β (xE X) (vR 3 i 0) = .ref (X.2.2.2.1 i) := by simp [cnc, xE, h]
theorem cnc_x4 {β : Nat} {X : Xp} : cnc β (xE X) (vR 4 0 0) = X.2.2.2.2 := by simp [cnc, xE]
theorem cnc_aR {β : Nat} {ε : Rf → Value} {v : Av} : cnc β ε (.inr (.inr (aR v))) = va_rf ((aR v).map fun q => β + qoff q) := by
  unfold aR
  split
  · rename_i q
    by_cases h : 5 ≤ q.1
    · rw [if_pos h, cnc_own h]; rfl
    · rw [if_neg h]; rfl
  · rfl
theorem vin {x : Int32} {n : Nat} (h1 : 0 ≤ x) (h2 : x.toNatClampNeg < n) : vp_in x n := by
  intro h
  rcases h with h | h
  · exact absurd h (Int32.not_lt.mpr h1)
  · omega
theorem fStr_spec {own : String} {k q : Nat} (h : fStr own k = some q) : own = RX2 ∧ q < 6 ∧ (strs.getD q (0, "")).1 = k := by
  unfold fStr at h
  obtain ⟨h1, h2⟩ := is1 h
  rw [List.findIdx?_eq_some_iff_getElem] at h2
  obtain ⟨hl, hp, -⟩ := h2
  have hl6 : q < 6 := hl
  refine ⟨h1, hl6, ?_⟩
  rw [List.getD_eq_getElem?_getD, List.getElem?_eq_getElem hl]
  simpa using hp
theorem fCst_spec {own : String} {i : Nat} {v : Int32} (h : fCst own i = some v) : okw (.constant own i v) = true := by
  unfold fCst at h
  split at h
  · replace h := is1 h
    obtain ⟨h1, h⟩ := h
    cases h
    exact tat_okw h1
  · cases h
theorem sta_spec {own : String} {i : Nat} {v : Av} (h : sta own i = some v) : (v = vI 1 ∧ okw (.fieldLink own i "java/lang/String" "COMPACT_STRINGS" "Z") = true) ∨ (v = vR 4 0 0 ∧ okw (.fieldLink own i "jdk/internal/util/Preconditions" "SIOOBE_FORMATTER" "Ljava/util/function/BiFunction;") = true) ∨ (v = vR 1 0 0 ∧ ∃ hst, Jvm.Cond.fieldLinkNest own i "LogLetters" "ABOVE" "[I" hst ∈ lw_tbl) := by
  unfold sta at h
  split at h
  · split at h
    · rename_i hc
      cases h
      exact Or.inl ⟨rfl, tat_okw hc.2⟩
    · split at h
      · rename_i hc
        cases h
        exact Or.inr (Or.inl ⟨rfl, tat_okw hc.2⟩)
      · replace h := is1 h
        obtain ⟨hc, h⟩ := h
        cases h
        exact Or.inr (Or.inr ⟨rfl, _, List.mem_of_getElem? hc.2⟩)
  · cases h
theorem okx_spec {r : Rf} (h : okx r = true) : r = (0, 0, 0) ∨ r = (1, 0, 0) ∨ ∃ i, i < 6 ∧ r = (3, i, 0) := by
  unfold okx at h
  rcases of_decide_eq_true h with h | h | ⟨h1, h2, h3⟩
  · exact Or.inl h
  · exact Or.inr (Or.inl h)
  · refine Or.inr (Or.inr ⟨r.2.1, h2, ?_⟩)
    obtain ⟨a, b, c⟩ := r
    simp only at h1 h3
    subst h1; subst h3; rfl
theorem oks_spec {r : Rf} (h : oks r = true) : ∃ i, i < 6 ∧ r = (2, i, 0) := by
  unfold oks at h
  obtain ⟨h1, h2, h3⟩ := of_decide_eq_true h
  refine ⟨r.2.1, h2, ?_⟩
  obtain ⟨a, b, c⟩ := r
  simp only at h1 h3
  subst h1; subst h3; rfl
theorem rdA_some {ks : List Nat} {len pc pc' : Nat} {st st' : List Av} {σ : St} (h : rdA ks len pc st σ = some (pc', st')) : len = 1 ∧ ∃ x r rest, st = vI x :: .inr (.inr (some r)) :: rest ∧ kd r.1 ∈ ks ∧ (okr σ r = true ∨ okx r = true) ∧ 0 ≤ x ∧ x.toNatClampNeg < σ.2.1 r ∧ pc' = pc + 1 ∧ st' = vI (aI (σ.1 r x.toNatClampNeg)) :: rest := by
  unfold rdA at h
  replace h := is1 h
  obtain ⟨h0, h⟩ := h
  split at h
  · rename_i x r rest
    replace h := is1 h
    obtain ⟨⟨h1, h2, h3, h4⟩, h⟩ := h
    cases h
    exact ⟨h0, x, r, rest, rfl, h1, Bool.or_eq_true_iff.mp h2, h3, h4, rfl, rfl⟩
  · cases h
theorem rdR_some {len pc pc' : Nat} {st st' : List Av} {σ : St} (h : rdR len pc st σ = some (pc', st')) : len = 1 ∧ ∃ x r rest, st = vI x :: .inr (.inr (some r)) :: rest ∧ 14 ≤ kd r.1 ∧ kd r.1 < 18 ∧ okr σ r = true ∧ 0 ≤ x ∧ x.toNatClampNeg < σ.2.1 r ∧ pc' = pc + 1 ∧ st' = .inr (.inr (aR (σ.1 r x.toNatClampNeg))) :: rest := by
  unfold rdR at h
  replace h := is1 h
  obtain ⟨h0, h⟩ := h
  split at h
  · rename_i x r rest
    replace h := is1 h
    obtain ⟨⟨h1, h2, h3, h4, h5⟩, h⟩ := h
    cases h
    exact ⟨h0, x, r, rest, rfl, h1, h2, h3, h4, h5, rfl, rfl⟩
  · cases h
theorem aty_obj {k : Nat} (h1 : 14 ≤ k) (h2 : k < 18) : ∃ r : vw_C, vwCl[ecl k]? = some r ∧ aty k = .object r.1 ∧ ecl k < 9 := by
  have h : k = 14 ∨ k = 15 ∨ k = 16 ∨ k = 17 := by omega
  rcases h with rfl | rfl | rfl | rfl
  · exact ⟨_, rfl, rfl, by decide⟩
  · exact ⟨_, rfl, rfl, by decide⟩
  · exact ⟨_, rfl, rfl, by decide⟩
  · exact ⟨_, rfl, rfl, by decide⟩
section SB
variable {p : Program} {lc : Launch} {e : Env} {R : Room} {s : State} {m : MethodId} {args : Array Value} {below : List Frame} {meth : Method} {c : Code} {H : Heap} {locs : List Loc} {cells slots : Nat} {Q : State → Prop}
variable {β : Nat} {D : va_G} {cs : Nat → ClassId} {X : Xp}
set_option maxHeartbeats 4000000 in
set_option maxRecDepth 20000 in
theorem sB_ok {own : String} {cc : ByteArray} {i : Instr} {len pc pc' : Nat} {st st' : List Av} {σ : St} {ls : Array Slot} (hx : p.tables.exec = Jvm.exec) (hb : c.code = cc) (hts : ∀ w ∈ gTb, w.before args s = true) (hown : s.vm.findClass own = some m.cls) (hC : Cx β D cs X s) (hP : va_P D vwCl (wsO β cs (xE X) σ) H) (hS : va_S (Ax β) s.heap H locs) (hE : exO X σ)
    (hd : decode cc pc = .ok (i, len)) (hs : sB own i len pc st σ = some (pc', st'))
    (kk : W p lc e R s m args below meth c H locs cells slots Q (F0 m pc' ls (st'.map (cnc β (xE X))))) : W p lc e R s m args below meth c H locs cells slots Q (F0 m pc ls (st.map (cnc β (xE X)))) := by
  obtain ⟨hK, hX, hb3, hb4, hZa, hTa, hZc, hZs, hST, hR, hNm, hNf, hAO, hfm⟩ := hC
  have hbA : ¬ Ax β X.1.1 := fun z => Nat.not_le.mpr hb3 z
  have hbl : X.1.1 < s.heap.size := Nat.lt_of_lt_of_le hb3 hb4
  cases i <;> first | (cases hs; done) | skip
  case ldc k =>
    have h99 := is1 (show (if len = 2 then _ else none) = some _ from hs); clear hs; obtain ⟨rfl, hs⟩ := h99
    split at hs
    · rename_i v hv
      cases hs
      exact lv_ldc hx hb hown (hts _ (okw_in (fCst_spec hv))) hd kk
    · split at hs
      · rename_i q hq
        cases hs
        obtain ⟨h1, h2, h3⟩ := fStr_spec hq
        subst h1
        rw [List.map_cons, cnc_x2 h2] at kk
        have h4 := hR q h2
        rw [h3] at h4
        exact va_ldcS hx hb hown h4 hd kk
      · cases hs
  case ldc_w k =>
    have h99 := is1 (show (if len = 3 then _ else none) = some _ from hs); clear hs; obtain ⟨rfl, hs⟩ := h99
    split at hs
    · rename_i v hv
      cases hs
      exact lv_ldcw hx hb hown (hts _ (okw_in (fCst_spec hv))) hd kk
    · cases hs
  case getfield k =>
    have h99 := is1 (show (if len = 3 then _ else none) = some _ from hs); clear hs; obtain ⟨rfl, hs⟩ := h99
    split at hs
    · rename_i r rest ci q hf
      obtain ⟨⟨hk, hor⟩, h⟩ := is1 hs
      cases h
      obtain ⟨ref, n, d, hlk, hcase⟩ := fld_spec hf
      rcases hor with ⟨h9, hok⟩ | ⟨h20, hok⟩
      · rcases hcase with ⟨z, -⟩ | ⟨z, -⟩ | ⟨-, T, N, hcl, hq, e1, e2, e3⟩
        · omega
        · omega
        · obtain ⟨hN, hin⟩ := cl_spec hcl h9
          subst e2; subst e3
          rw [List.map_cons, cnc_own (okr_spec hok).1]
          rw [List.map_cons] at kk
          have he := wsO_at (β := β) (cs := cs) (ε := xE X) hok
          rw [ent_obj hk h9] at he
          exact va_get hx hb hts hin hown hK hP _ he hcl q hq (hts _ (okw_in hlk)) (fun x hx => by rw [← e1]; exact hx) (by rw [List.getElem?_map, List.getElem?_range (by omega)]; rfl) hd kk
      · obtain ⟨j, hj, rfl⟩ := oks_spec hok
        rw [List.map_cons, cnc_x2 hj]
        rw [List.map_cons, (hE (2, j, 0) (show (2 : Nat) < 5 by omega)).1] at kk
        obtain ⟨-, hco, hva, -⟩ := hST.1 j hj
        rcases hcase with ⟨-, rfl, rfl, rfl, rfl⟩ | ⟨-, rfl, rfl, rfl, rfl⟩ | ⟨z, -⟩
        · exact vk_getf hx hb hco hS hown (hts _ (okw_in hlk)) (fun _ h => h) hd kk
        · rw [show xH X.1.2.2 (2, j, 0) 1 = vR 3 j 0 from rfl, cnc_x3 hj] at kk
          exact vk_getf hx hb hva hS hown (hts _ (okw_in hlk)) (fun _ h => h) hd kk
        · omega
    · cases hs
  case getstatic k =>
    have h99 := is1 (show (if len = 3 then _ else none) = some _ from hs); clear hs; obtain ⟨rfl, hs⟩ := h99
    split at hs
    · rename_i v hv
      cases hs
      rw [List.map_cons] at kk
      rcases sta_spec hv with ⟨rfl, hk⟩ | ⟨rfl, hk⟩ | ⟨rfl, hst, hk⟩
      · exact va_gets hx hb hZc hS hown (hts _ (okw_in hk)) (fun _ h => h) hd kk
      · rw [cnc_x4] at kk
        exact va_gets hx hb hZs hS hown (hts _ (okw_in hk)) (fun _ h => h) hd kk
      · rw [cnc_x1] at kk
        exact va_getsN hx hb hZa hS hown ((hNf _ _ _ _ _ _ hk).use rfl) (fun _ h => h) hd kk
    · cases hs
  case iaload =>
    obtain ⟨rfl, x, r, rest, rfl, hk, hor, h0, h1, rfl, rfl⟩ := rdA_some hs
    have hk : kd r.1 = 10 := by simpa using hk
    rw [List.map_cons, List.map_cons]
    rw [List.map_cons] at kk
    rcases hor with hok | hok
    · rw [cnc_own (okr_spec hok).1]
      have he := wsO_at (β := β) (cs := cs) (ε := xE X) hok
      rw [ent_int hk (by omega) (by omega)] at he
      exact va_iald hx hb hK hP _ (10 - 10) he (tysO_at (by omega) (by omega)) (vin h0 h1) hd kk
    · rcases okx_spec hok with rfl | rfl | ⟨j, hj, rfl⟩
      · obtain ⟨q1, q2⟩ := hE (0, 0, 0) (by decide)
        rw [cnc_x0]
        rw [q1] at kk
        rw [q2] at h1
        exact va_sld hx hb hX hbl hbA hS (vin h0 h1) hd kk
      · obtain ⟨q1, q2⟩ := hE (1, 0, 0) (by decide)
        rw [cnc_x1]
        rw [q1] at kk
        rw [q2] at h1
        exact va_ti hx hb hTa hS (vin h0 h1) rfl hd kk
      · exact absurd hk (by show ¬ kd 3 = 10; decide)
  case baload =>
    obtain ⟨rfl, x, r, rest, rfl, hk, hor, h0, h1, rfl, rfl⟩ := rdA_some hs
    have hk : kd r.1 = 11 ∨ kd r.1 = 12 := by simpa using hk
    rw [List.map_cons, List.map_cons]
    rw [List.map_cons] at kk
    rcases hor with hok | hok
    · rw [cnc_own (okr_spec hok).1]
      have he := wsO_at (β := β) (cs := cs) (ε := xE X) hok
      rcases hk with hk | hk
      · rw [ent_int hk (by omega) (by omega)] at he
        exact va_bald hx hb hK hP _ (11 - 10) he (tysO_at (by omega) (by omega)) (vin h0 h1) hd kk
      · rw [ent_int hk (by omega) (by omega)] at he
        exact va_zald hx hb hK hP _ (12 - 10) he (tysO_at (by omega) (by omega)) (vin h0 h1) hd kk
    · rcases okx_spec hok with rfl | rfl | ⟨j, hj, rfl⟩
      · exact absurd hk (by decide)
      · exact absurd hk (by decide)
      · obtain ⟨q1, q2⟩ := hE (3, j, 0) (show (3 : Nat) < 5 by omega)
        rw [cnc_x3 hj]
        rw [q1] at kk
        rw [q2] at h1
        exact va_tb hx hb (hST.1 j hj).2.2.2 hS (vin h0 h1) rfl hd kk
  case caload =>
    obtain ⟨rfl, x, r, rest, rfl, hk, hor, h0, h1, rfl, rfl⟩ := rdA_some hs
    have hk : kd r.1 = 13 := by simpa using hk
    rw [List.map_cons, List.map_cons]
    rw [List.map_cons] at kk
    rcases hor with hok | hok
    · rw [cnc_own (okr_spec hok).1]
      have he := wsO_at (β := β) (cs := cs) (ε := xE X) hok
      rw [ent_int hk (by omega) (by omega)] at he
      exact va_cald hx hb hK hP _ (13 - 10) he (tysO_at (by omega) (by omega)) (vin h0 h1) hd kk
    · rcases okx_spec hok with rfl | rfl | ⟨j, hj, rfl⟩
      · exact absurd hk (by decide)
      · exact absurd hk (by decide)
      · exact absurd hk (by show ¬ kd 3 = 13; decide)
  case aaload =>
    obtain ⟨rfl, x, r, rest, rfl, hk1, hk2, hok, h0, h1, rfl, rfl⟩ := rdR_some hs
    rw [List.map_cons, List.map_cons, cnc_own (okr_spec hok).1]
    rw [List.map_cons, cnc_aR] at kk
    have he := wsO_at (β := β) (cs := cs) (ε := xE X) hok
    rw [ent_ref rfl hk1] at he
    obtain ⟨rr, -, hty, -⟩ := aty_obj hk1 hk2
    have ht := tysO_at (cs := cs) (k := kd r.1) (by omega) hk2
    rw [hty] at ht
    exact va_aldq hx hb hK hP _ _ he ht (vin h0 h1) hd kk
  case arraylength =>
    have h99 := is1 (show (if len = 1 then _ else none) = some _ from hs); clear hs; obtain ⟨rfl, hs⟩ := h99
    split at hs
    · rename_i r rest
      obtain ⟨⟨hk1, hk2, hor⟩, h⟩ := is1 hs
      cases h
      rw [List.map_cons]
      rw [List.map_cons] at kk
      rcases Bool.or_eq_true_iff.mp hor with hok | hok
      · rw [cnc_own (okr_spec hok).1]
        have he := wsO_at (β := β) (cs := cs) (ε := xE X) hok
        by_cases h14 : kd r.1 < 14
        · rw [ent_int rfl (by omega) h14] at he
          exact va_alen hx hb hK hP _ _ he (tysO_at hk1 hk2) rfl hd kk
        · rw [ent_ref rfl (by omega)] at he
          exact va_alen hx hb hK hP _ _ he (tysO_at hk1 hk2) rfl hd kk
      · rcases okx_spec hok with rfl | rfl | ⟨j, hj, rfl⟩
        · rw [(hE (0, 0, 0) (by decide)).2] at kk
          rw [cnc_x0]
          exact va_slen hx hb hX hbl hbA hS hd kk
        · rw [(hE (1, 0, 0) (by decide)).2] at kk
          rw [cnc_x1]
          exact va_tlen hx hb hTa hS rfl hd kk
        · rw [(hE (3, j, 0) (show (3 : Nat) < 5 by omega)).2] at kk
          rw [cnc_x3 hj]
          exact va_tlen hx hb (hST.1 j hj).2.2.2 hS rfl hd kk
    · cases hs
end SB
end
section
/-! SOUNDNESS, 4: the steps that write cells or make them -/
theorem fok_ok {β : Nat} {ε : Rf → Value} (hε : eok ε) {ty : FieldType} {v : Av} (h : fok ty v = true) : narrow ty (cnc β ε v) = cnc β ε v ∧ fits ty (cnc β ε v) = true := by
  unfold fok at h
  split at h
  · exact ⟨rfl, rfl⟩
  · rcases of_decide_eq_true h with rfl | rfl <;> exact ⟨rfl, rfl⟩
  · rename_i r
    rcases cnc_ref (β := β) hε r with e | ⟨a, e⟩ <;> rw [e] <;> exact ⟨rfl, rfl⟩
  · rename_i r
    rcases cnc_ref (β := β) hε r with e | ⟨a, e⟩ <;> rw [e] <;> exact ⟨rfl, rfl⟩
  · cases h
theorem map_range_set {α : Type} {N k : Nat} (f g : Nat → α) {v : α} (hg : g k = v) (h : ∀ j, j ≠ k → g j = f j) : ((List.range N).map f).set k v = (List.range N).map g := by
  apply List.ext_getElem?
  intro n
  rw [List.getElem?_set, List.getElem?_map, List.getElem?_map, List.length_map, List.length_range]
  by_cases hn : k = n
  · subst hn
    rw [if_pos rfl]
    by_cases hl : k < N
    · rw [if_pos hl, List.getElem?_range hl, ← hg]; rfl
    · rw [if_neg hl, List.getElem?_eq_none (by simpa using hl)]; rfl
  · rw [if_neg hn]
    by_cases hl : n < N
    · rw [List.getElem?_range hl]
      show some (f n) = some (g n)
      rw [h n (fun e => hn e.symm)]
    · rw [List.getElem?_eq_none (by simpa using hl)]; rfl
def dfg (ty : FieldType) : Bool := match ty with
  | .int => true
  | .boolean => true
  | .object _ => true
  | .array _ => true
  | _ => false
theorem df_ok : (List.range 9).all (fun ci => (List.range (nFl ci)).all (fun j => dfg (tyOf ci j))) = true := by decide +kernel
theorem df_spec {β : Nat} {ε : Rf → Value} {ci j : Nat} (h9 : ci < 9) (hj : j < nFl ci) : defaultValue (tyOf ci j) = cnc β ε (dfv (tyOf ci j)) := by
  have h1 := List.all_eq_true.mp (List.all_eq_true.mp df_ok ci (List.mem_range.mpr h9)) j (List.mem_range.mpr hj)
  generalize tyOf ci j = ty at h1 ⊢
  cases ty <;> first | rfl | cases h1
theorem wrA_some {kq : Nat} {g : Int32 → Int32} {len pc : Nat} {st : List Av} {σ : St} {z : Nat × List Av × St} (h : wrA kq g len pc st σ = some z) : len = 1 ∧ ∃ v x r rest, st = vI v :: vI x :: .inr (.inr (some r)) :: rest ∧ okr σ r = true ∧ kd r.1 = kq ∧ 0 ≤ x ∧ x.toNatClampNeg < σ.2.1 r ∧ z = (pc + 1, rest, (hput σ.1 r x.toNatClampNeg (vI (g v)), σ.2)) := by
  unfold wrA at h
  replace h := is1 h
  obtain ⟨h0, h⟩ := h
  split at h
  · rename_i v x r rest
    replace h := is1 h
    obtain ⟨⟨h1, h2, h3, h4⟩, h⟩ := h
    cases h
    exact ⟨h0, v, x, r, rest, rfl, h1, h2, h3, h4, rfl⟩
  · cases h
theorem hput_ne {h : Hp} {r z : Rf} {k : Nat} {v : Av} (hz : z ≠ r) : hput h r k v z = h z := by
  funext j
  unfold hput
  rw [if_neg (fun e => hz e.1)]
theorem hnew_ne {h : Hp} {r z : Rf} {f : Nat → Av} (hz : z ≠ r) : hnew h r f z = h z := by
  unfold hnew
  rw [if_neg hz]
theorem hput_aI {h : Hp} {r : Rf} {k : Nat} {v : Int32} : (fun j => aI (hput h r k (vI v) r j)) = upd (fun j => aI (h r j)) k v := by
  funext j
  unfold hput upd
  by_cases hj : j = k
  · rw [if_pos ⟨rfl, hj⟩, if_pos hj]; rfl
  · rw [if_neg (fun e => hj e.2), if_neg hj]
theorem nwc_spec {own : String} {i ci : Nat} (h : nwc own i = some ci) : ci < 9 ∧ ∃ (C : String) (T : u_T) (N : Nat), vwCl[ci]? = some (C, T, N) ∧ okw (.classLink own i C) = true ∧ okw (.initialized C) = true ∧ okw (.instantiable C N) = true := by
  unfold nwc at h
  split at h
  · split at h
    · rename_i q hq
      replace h := is1 h
      obtain ⟨⟨h1, h2, h3⟩, h⟩ := h
      cases h
      obtain ⟨q1, q2, q3⟩ := q
      exact ⟨(List.getElem?_eq_some_iff.mp hq).1, q1, q2, q3, hq, tat_okw h1, tat_okw h2, tat_okw h3⟩
    · cases h
  · cases h
theorem nwa_spec {own : String} {i kq : Nat} (h : nwa own i = some kq) : ∃ C, 14 ≤ kq ∧ kq < 18 ∧ aty kq = .object C ∧ okw (.classLink own i C) = true ∧ Jvm.Cond.arrayOver (.object C) ∈ lw_tbl := by
  unfold nwa at h
  split at h
  · replace h := is1 h
    obtain ⟨⟨h1, h2, h3, h4, h5⟩, h⟩ := h
    cases h
    exact ⟨_, h1, h2, h3, tat_okw h4, List.mem_of_getElem? h5⟩
  · cases h
theorem spc_0 {own : String} {i : Nat} (h : spc own i = some 0) : okw (.methodLink own i Lib.objectInit) = true ∧ okw (.instanceMethod Lib.objectInit) = true ∧ okw (.code Lib.objectInit ⟨#[0xb1]⟩ 1 none) = true := by
  unfold spc at h
  split at h
  · split at h
    · replace h := is1 h
      exact ⟨tat_okw h.1.1, tat_okw h.1.2.1, tat_okw h.1.2.2⟩
    · split at h
      · replace h := is1 h
        cases h.2
      · split at h
        · rename_i k0 k1 k5
          replace h := is1 h
          cases h.2
          exact absurd rfl k0
        · cases h
  · cases h
theorem spc_1 {own : String} {i : Nat} (h : spc own i = some 1) : okw (.methodLink own i arraycopyName) = true ∧ okw (.native arraycopyName) = true ∧ okw (.static arraycopyName) = true ∧ okw (.initialized "java/lang/System") = true := by
  unfold spc at h
  split at h
  · split at h
    · replace h := is1 h
      cases h.2
    · split at h
      · replace h := is1 h
        exact ⟨tat_okw h.1.1, tat_okw h.1.2.1, tat_okw h.1.2.2.1, tat_okw h.1.2.2.2⟩
      · split at h
        · rename_i k0 k1 k5
          replace h := is1 h
          cases h.2
          exact absurd rfl k1
        · cases h
  · cases h
theorem spc_m {own : String} {i k : Nat} (hk : 2 ≤ k) (h : spc own i = some k) : okw (.methodLink own i (mthN k)) = true ∧ okw (.static (mthN k)) = true ∧ okw (.initialized "java/lang/Math") = true ∧ okw (.code (mthN k) (mthC k) (if k = 4 then 1 else 2) (some .int)) = true := by
  unfold spc at h
  split at h
  · split at h
    · replace h := is1 h
      cases h.2
      omega
    · split at h
      · replace h := is1 h
        cases h.2
        omega
      · split at h
        · replace h := is1 h
          obtain ⟨h1, h2⟩ := h
          cases h2
          exact ⟨tat_okw h1.1, tat_okw h1.2.1, tat_okw h1.2.2.1, tat_okw h1.2.2.2⟩
        · cases h
  · cases h
section SC
variable {p : Program} {lc : Launch} {e : Env} {R : Room} {s : State} {m : MethodId} {args : Array Value} {below : List Frame} {meth : Method} {c : Code} {H : Heap} {locs : List Loc} {cells slots : Nat} {Q : State → Prop}
variable {β : Nat} {D : va_G} {cs : Nat → ClassId} {X : Xp}
theorem W.sized {g : JFrame} (h : H.size ≤ s.heap.size + cells → W p lc e R s m args below meth c H locs cells slots Q g) : W p lc e R s m args below meth c H locs cells slots Q g := by
  intro T hT Y
  have h1 : (T.setVm s.vm).heap.size ≤ s.heap.size + cells := Y.same.2.2.1
  exact h (by rw [← hT]; exact h1) T hT Y
theorem size_ge {σ : St} (hP : va_P D vwCl (wsO β cs (xE X) σ) H) (h0 : β ≤ H.size) : β + σ.2.2.1 ≤ H.size := by
  by_cases hz : σ.2.2.1 = 0
  · omega
  · have h1 : (wsO β cs (xE X) σ)[σ.2.2.1 - 1]? = some (β + (σ.2.2.1 - 1), ent β cs (xE X) σ (qmk (σ.2.2.1 - 1))) := by
      unfold wsO
      rw [List.getElem?_map, List.getElem?_range (by omega)]
      rfl
    have h2 : β + (σ.2.2.1 - 1) < H.size := (hP _ _ h1).lt
    omega
/-- behind a new cell -/
theorem born {σ : St} {H1 : Heap} {f : Nat → Av} {ln sl : Nat} (hP : va_P D vwCl (wsO β cs (xE X) σ) H) (hH : H.size = β + σ.2.2.1) (o1 : ∀ q, q < H.size → H1[q]? = H[q]?) (he : va_at D vwCl (β + σ.2.2.1, ent β cs (xE X) (alc σ f ln sl) (qmk σ.2.2.1)) H1) : va_P D vwCl (wsO β cs (xE X) (alc σ f ln sl)) H1 := by
  rw [← wsO_alc]
  refine (hP.kept (fun k x hx => o1 x.1 ((hP k x hx).lt))).app (fun k x hx => ?_)
  have hz : k < 1 := (List.getElem?_eq_some_iff.mp hx).1
  rw [show k = 0 by omega] at hx
  cases hx
  exact he
theorem ent_alc {σ : St} {f : Nat → Av} {ln sl : Nat} : (alc σ f ln sl).1 (qmk σ.2.2.1) = f ∧ (alc σ f ln sl).2.1 (qmk σ.2.2.1) = ln := by
  constructor
  · show (if qmk σ.2.2.1 = qmk σ.2.2.1 then f else _) = f
    rw [if_pos rfl]
  · show (if qmk σ.2.2.1 = qmk σ.2.2.1 then ln else _) = ln
    rw [if_pos rfl]
end SC
end
section
/-! SOUNDNESS, 5: the steps that write cells or make them, walked -/
section SC
variable {p : Program} {lc : Launch} {e : Env} {R : Room} {s : State} {m : MethodId} {args : Array Value} {below : List Frame} {meth : Method} {c : Code} {H : Heap} {locs : List Loc} {cells slots : Nat} {Q : State → Prop}
variable {β : Nat} {D : va_G} {cs : Nat → ClassId} {X : Xp}
theorem hH_of {σ : St} (hC : Cx β D cs X s) (hP : va_P D vwCl (wsO β cs (xE X) σ) H) (hS : va_S (Ax β) s.heap H locs) (hI : s.heap.size + cells = β + σ.2.2.1) (h1 : H.size ≤ s.heap.size + cells) : H.size = β + σ.2.2.1 := by
  have h2 := size_ge hP (Nat.le_trans hC.2.2.2.1 hS.1)
  omega
theorem S_new {H1 : Heap} (hS : va_S (Ax β) s.heap H locs) (z : H1.size = H.size + 1) (o1 : ∀ q, q < H.size → H1[q]? = H[q]?) : va_S (Ax β) s.heap H1 locs :=
  ⟨Nat.le_trans hS.1 (by omega), fun x h1 h2 => (o1 x (Nat.lt_of_lt_of_le h1 hS.1)).trans (hS.2.1 x h1 h2), hS.2.2⟩
theorem cs_arr {k : Nat} {cA : ClassId} (hK : va_K D vwCl (tysO cs) s) (h1 : 10 ≤ k) (h2 : k < 14) (hc : s.vm.findClass ("[" ++ (aty k).toString) = some cA) : cA = cs k := by
  have h3 := (hK.2 _ _ (tysO_at (cs := cs) h1 (by omega))).2
  have h : k = 10 ∨ k = 11 ∨ k = 12 ∨ k = 13 := by omega
  rcases h with rfl | rfl | rfl | rfl <;> exact Option.some.inj (hc.symm.trans h3)
set_option maxHeartbeats 8000000 in
set_option maxRecDepth 20000 in
theorem sC_ok {μ : Mu} {d : Nat} {cc : ByteArray} {i : Instr} {len pc pc' : Nat} {st st' : List Av} {σ σ' : St} {ls : Array Slot} (hx : p.tables.exec = Jvm.exec) (hb : c.code = cc) (hml : c.maxLocals = ls.size) (hmn : μ.2.1.name = "<init>" → meth.name = "<init>") (hts : ∀ w ∈ gTb, w.before args s = true) (hown : s.vm.findClass μ.2.1.cls = some m.cls) (hC : Cx β D cs X s) (hP : va_P D vwCl (wsO β cs (xE X) σ) H) (hS : va_S (Ax β) s.heap H locs) (hI : s.heap.size + cells = β + σ.2.2.1)
    (hd : decode cc pc = .ok (i, len)) (hs : sC μ d i len pc st σ = some (pc', st', σ')) (hRf : d ≤ R.frames) (hRl : 38 * d ≤ R.locals) (hRc : cells + σ'.2.2.1 ≤ R.cells + σ.2.2.1) (hRs : slots + σ'.2.2.2 ≤ R.slots + σ.2.2.2)
    (kk : ∀ (k n : Nat) (H1 : Heap) (locs1 : List Loc), σ'.2.2.1 = σ.2.2.1 + k → σ'.2.2.2 = σ.2.2.2 + n → va_P D vwCl (wsO β cs (xE X) σ') H1 → va_S (Ax β) s.heap H1 locs1 → W p lc e R s m args below meth c H1 locs1 (cells + k) (slots + n) Q (F0 m pc' ls (st'.map (cnc β (xE X))))) : W p lc e R s m args below meth c H locs cells slots Q (F0 m pc ls (st.map (cnc β (xE X)))) := by
  refine W.sized fun hsz => ?_
  have hH := hH_of hC hP hS hI hsz
  clear hsz
  have hCC := hC
  obtain ⟨hK, -, -, -, -, -, -, -, -, -, -, -, hAO, hfm⟩ := hCC
  have hε := xE_ok hfm
  have hD : va_D (Ax β) (wsO β cs (xE X) σ) := wsO_D
  cases i <;> first | (cases hs; done) | skip
  case putfield k =>
    have h99 := is1 (show (if len = 3 then _ else none) = some _ from hs); clear hs; obtain ⟨rfl, hs⟩ := h99
    split at hs
    · rename_i v r rest ci q hf
      have h99 := is1 hs
      clear hs
      obtain ⟨⟨hok, hk, h9, hfk, hfin⟩, h⟩ := h99
      cases h
      obtain ⟨ref, n, dd, hlk, hcase⟩ := fld_spec hf
      rcases hcase with ⟨z, -⟩ | ⟨z, -⟩ | ⟨-, T, N, hcl, hq, e1, e2, e3⟩
      · omega
      · omega
      · obtain ⟨hN, hin⟩ := cl_spec hcl h9
        obtain ⟨hty, hnm⟩ := ty_ok ci h9 _ hcl
        subst e2; subst e3
        rw [List.map_cons, List.map_cons, cnc_own (okr_spec hok).1]
        have he := wsO_at (β := β) (cs := cs) (ε := xE X) hok
        rw [ent_obj hk h9] at he
        obtain ⟨f1, f2⟩ := fok_ok (β := β) hε hfk
        have hset : (wsO β cs (xE X) σ).set (qoff r) (β + qoff r, .inr (ci, ((List.range (nFl ci)).map fun j => cnc β (xE X) (σ.1 r j)).set q (cnc β (xE X) v))) = wsO β cs (xE X) (hput σ.1 r q v, σ.2) := by
          rw [← wsO_set hok (τ := (hput σ.1 r q v, σ.2)) rfl (fun z hz => ⟨hput_ne hz, rfl⟩), ent_obj hk h9]
          congr 4
          refine map_range_set _ _ ?_ ?_
          · show cnc β (xE X) (hput σ.1 r q v r q) = _
            unfold hput; rw [if_pos ⟨rfl, rfl⟩]
          · intro j hj
            show cnc β (xE X) (hput σ.1 r q v r j) = _
            unfold hput; rw [if_neg (fun e => hj e.2)]
        rcases hfin with hfin | ⟨hi1, hi2⟩
        · have hfin : (T q).2.2.2 = false := by unfold qfin at hfin; rw [hcl] at hfin; exact hfin
          refine va_put hx hb hts hin (tyOf ci) hty hnm hown hK hP hD hS _ he hcl q hq (hts _ (okw_in hlk)) (fun x hx => by rw [← e1]; exact hx) hfin (hty q hq) f1 f2 (by rw [List.length_map, List.length_range]; omega) hd (fun H1 locs1 hP1 hD1 hS1 => ?_)
          rw [hset] at hP1
          exact kk 0 0 H1 locs1 rfl rfl hP1 hS1
        · have hdecl : (T q).1 = μ.2.1.cls := by rw [hcl] at hi2; exact Option.some.inj hi2
          cases hfin : (T q).2.2.2 with
          | false =>
            refine va_put hx hb hts hin (tyOf ci) hty hnm hown hK hP hD hS _ he hcl q hq (hts _ (okw_in hlk)) (fun x hx => by rw [← e1]; exact hx) hfin (hty q hq) f1 f2 (by rw [List.length_map, List.length_range]; omega) hd (fun H1 locs1 hP1 hD1 hS1 => ?_)
            rw [hset] at hP1
            exact kk 0 0 H1 locs1 rfl rfl hP1 hS1
          | true =>
            refine va_putF hx hb hts hin (tyOf ci) hty hnm hown hK hP hD hS _ he hcl q hq (hts _ (okw_in hlk)) (fun x hx => by rw [← e1]; exact hx) hfin (hmn hi1) hdecl (hty q hq) f1 f2 (by rw [List.length_map, List.length_range]; omega) hd (fun H1 locs1 hP1 hD1 hS1 => ?_)
            rw [hset] at hP1
            exact kk 0 0 H1 locs1 rfl rfl hP1 hS1
    · cases hs
  case iastore =>
    obtain ⟨rfl, v, x, r, rest, rfl, hok, hk, h0, h1, hz⟩ := wrA_some hs
    cases hz
    rw [List.map_cons, List.map_cons, List.map_cons, cnc_own (okr_spec hok).1]
    have he := wsO_at (β := β) (cs := cs) (ε := xE X) hok
    rw [ent_int hk (by omega) (by omega)] at he
    refine va_iast hx hb hK hP hD hS _ (10 - 10) he (tysO_at (by omega) (by omega)) (vin h0 h1) hd (fun H1 locs1 hP1 hD1 hS1 => ?_)
    rw [← hput_aI, ← ent_int (σ := (hput σ.1 r x.toNatClampNeg (vI v), σ.2)) hk (by omega) (by omega), wsO_set hok (τ := (hput σ.1 r x.toNatClampNeg (vI v), σ.2)) rfl (fun z hz => ⟨hput_ne hz, rfl⟩)] at hP1
    exact kk 0 0 H1 locs1 rfl rfl hP1 hS1
  case bastore =>
    have hs2 : (match wrA 11 (vp_nar .byte) len pc st σ with
      | some z => some z
      | none => wrA 12 (vp_nar .boolean) len pc st σ) = some (pc', st', σ') := hs
    clear hs
    split at hs2
    · rename_i z hz1
      obtain ⟨rfl, v, x, r, rest, rfl, hok, hk, h0, h1, hz⟩ := wrA_some hz1
      subst hz
      cases hs2
      rw [List.map_cons, List.map_cons, List.map_cons, cnc_own (okr_spec hok).1]
      have he := wsO_at (β := β) (cs := cs) (ε := xE X) hok
      rw [ent_int hk (by omega) (by omega)] at he
      refine va_bast hx hb hK hP hD hS _ (11 - 10) he (tysO_at (by omega) (by omega)) (vin h0 h1) hd (fun H1 locs1 hP1 hD1 hS1 => ?_)
      rw [← hput_aI, ← ent_int (σ := (hput σ.1 r x.toNatClampNeg (vI (vp_nar .byte v)), σ.2)) hk (by omega) (by omega), wsO_set hok (τ := (hput σ.1 r x.toNatClampNeg (vI (vp_nar .byte v)), σ.2)) rfl (fun z hz => ⟨hput_ne hz, rfl⟩)] at hP1
      exact kk 0 0 H1 locs1 rfl rfl hP1 hS1
    · obtain ⟨rfl, v, x, r, rest, rfl, hok, hk, h0, h1, hz⟩ := wrA_some hs2
      cases hz
      rw [List.map_cons, List.map_cons, List.map_cons, cnc_own (okr_spec hok).1]
      have he := wsO_at (β := β) (cs := cs) (ε := xE X) hok
      rw [ent_int hk (by omega) (by omega)] at he
      refine va_zast hx hb hK hP hD hS _ (12 - 10) he (tysO_at (by omega) (by omega)) (vin h0 h1) hd (fun H1 locs1 hP1 hD1 hS1 => ?_)
      rw [← hput_aI, ← ent_int (σ := (hput σ.1 r x.toNatClampNeg (vI (vp_nar .boolean v)), σ.2)) hk (by omega) (by omega), wsO_set hok (τ := (hput σ.1 r x.toNatClampNeg (vI (vp_nar .boolean v)), σ.2)) rfl (fun z hz => ⟨hput_ne hz, rfl⟩)] at hP1
      exact kk 0 0 H1 locs1 rfl rfl hP1 hS1
  case castore =>
    obtain ⟨rfl, v, x, r, rest, rfl, hok, hk, h0, h1, hz⟩ := wrA_some hs
    cases hz
    rw [List.map_cons, List.map_cons, List.map_cons, cnc_own (okr_spec hok).1]
    have he := wsO_at (β := β) (cs := cs) (ε := xE X) hok
    rw [ent_int hk (by omega) (by omega)] at he
    refine va_cast hx hb hK hP hD hS _ (13 - 10) he (tysO_at (by omega) (by omega)) (vin h0 h1) hd (fun H1 locs1 hP1 hD1 hS1 => ?_)
    rw [← hput_aI, ← ent_int (σ := (hput σ.1 r x.toNatClampNeg (vI (vp_nar .char v)), σ.2)) hk (by omega) (by omega), wsO_set hok (τ := (hput σ.1 r x.toNatClampNeg (vI (vp_nar .char v)), σ.2)) rfl (fun z hz => ⟨hput_ne hz, rfl⟩)] at hP1
    exact kk 0 0 H1 locs1 rfl rfl hP1 hS1
  case aastore =>
    have h99 := is1 (show (if len = 1 then _ else none) = some _ from hs); clear hs; obtain ⟨rfl, hs⟩ := h99
    split at hs
    · rename_i q x r rest
      have h99 := is1 hs
      clear hs
      obtain ⟨⟨hok, hk1, hk2, h0, h1, hq⟩, h⟩ := h99
      cases h
      rw [List.map_cons, List.map_cons, List.map_cons, cnc_own (okr_spec hok).1]
      have he := wsO_at (β := β) (cs := cs) (ε := xE X) hok
      rw [ent_ref rfl hk1] at he
      obtain ⟨rr, hrr, hty, hec⟩ := aty_obj hk1 hk2
      have ht := tysO_at (cs := cs) (k := kd r.1) (by omega) hk2
      rw [hty] at ht
      cases q with
      | none =>
        refine va_astqN hx hb hK hP hD hS _ _ he ht (vin h0 h1) hd (fun H1 locs1 hP1 hD1 hS1 => ?_)
        have e4 : (fun j => (aR (hput σ.1 r x.toNatClampNeg (.inr (.inr none)) r j)).map fun q => β + qoff q) = va_up (fun j => (aR (σ.1 r j)).map fun q => β + qoff q) x.toNatClampNeg none := by
          funext j
          unfold hput va_up
          by_cases hj : j = x.toNatClampNeg
          · rw [if_pos ⟨rfl, hj⟩, if_pos hj]; rfl
          · rw [if_neg (fun e => hj e.2), if_neg hj]
        rw [← e4, ← ent_ref (σ := (hput σ.1 r x.toNatClampNeg (.inr (.inr none)), σ.2)) rfl hk1, wsO_set hok (τ := (hput σ.1 r x.toNatClampNeg (.inr (.inr none)), σ.2)) rfl (fun z hz => ⟨hput_ne hz, rfl⟩)] at hP1
        exact kk 0 0 H1 locs1 rfl rfl hP1 hS1
      | some z =>
        obtain ⟨hz1, hz2⟩ := hq z rfl
        rw [cnc_own (okr_spec hz1).1]
        have hv := wsO_at (β := β) (cs := cs) (ε := xE X) hz1
        rw [ent_obj hz2 hec] at hv
        refine va_astq hx hb hK hP hD hS _ _ _ _ he ht hv hrr (vin h0 h1) hd (fun H1 locs1 hP1 hD1 hS1 => ?_)
        have e4 : (fun j => (aR (hput σ.1 r x.toNatClampNeg (.inr (.inr (some z))) r j)).map fun q => β + qoff q) = va_up (fun j => (aR (σ.1 r j)).map fun q => β + qoff q) x.toNatClampNeg (some (β + qoff z)) := by
          funext j
          unfold hput va_up
          by_cases hj : j = x.toNatClampNeg
          · rw [if_pos ⟨rfl, hj⟩, if_pos hj]
            show (if 5 ≤ z.1 then some z else none).map _ = _
            rw [if_pos (okr_spec hz1).1]; rfl
          · rw [if_neg (fun e => hj e.2), if_neg hj]
        rw [← e4, ← ent_ref (σ := (hput σ.1 r x.toNatClampNeg (.inr (.inr (some z))), σ.2)) rfl hk1, wsO_set hok (τ := (hput σ.1 r x.toNatClampNeg (.inr (.inr (some z))), σ.2)) rfl (fun z hz => ⟨hput_ne hz, rfl⟩)] at hP1
        exact kk 0 0 H1 locs1 rfl rfl hP1 hS1
    · cases hs
  case new k =>
    have h99 := is1 (show (if len = 3 then _ else none) = some _ from hs); clear hs; obtain ⟨rfl, hs⟩ := h99
    split at hs
    · rename_i ci hci
      have h99 := is1 hs
      clear hs
      obtain ⟨hkd, h⟩ := h99
      cases h
      obtain ⟨h9, C, T, N, hcl, hl1, hl2, hl3⟩ := nwc_spec hci
      obtain ⟨hN, hin⟩ := cl_spec hcl h9
      obtain ⟨hty, -⟩ := ty_ok ci h9 _ hcl
      have hKn := hK.1 ci _ hcl
      have hRc : cells + (σ.2.2.1 + 1) ≤ R.cells + σ.2.2.1 := hRc
      have hRs : slots + (σ.2.2.2 + nFl ci) ≤ R.slots + σ.2.2.2 := hRs
      refine W.newcK hx hb hown (hts _ (okw_in hl1)) (hts _ (okw_in hl3)) (hts _ (okw_in hl2)) rfl hd (by omega) (by omega) hKn.2.1 hH fun H1 kC hkC e1 z1 o1 => ?_
      rw [← hH] at z1 o1
      have hkk := kk 1 (nFl ci) H1 locs rfl rfl (born hP hH o1 ?_) (S_new hS z1 o1)
      · rw [List.map_cons, cnc_own (Nat.le_trans (by omega) (mk_tag _)), qoff_mk] at hkk
        subst hN
        exact hkk
      · rw [ent_obj hkd h9, ent_alc.1]
        refine ⟨_, hcl, (u_born (tyOf ci) hts hin hKn hkC e1 hty).to (fun j hj => ?_)⟩
        subst hN
        unfold vp_V
        rw [List.getD_eq_getElem?_getD, List.getElem?_map, List.getElem?_range hj]
        exact df_spec h9 hj
    · cases hs
  case newarray t =>
    have h99 := is1 (show (if len = 2 then _ else none) = some _ from hs); clear hs; obtain ⟨rfl, hs⟩ := h99
    split at hs
    · rename_i x rest
      have h99 := is1 hs
      clear hs
      obtain ⟨⟨h14, hkd, h0, hle, hwd⟩, h⟩ := h99
      cases h
      have hRc : cells + (σ.2.2.1 + 1) ≤ R.cells + σ.2.2.1 := hRc
      have hRs : slots + (σ.2.2.2 + x.toNatClampNeg) ≤ R.slots + σ.2.2.2 := hRs
      have h10 : 10 ≤ nwk t := by cases t <;> first | decide | exact absurd h14 (by decide)
      have hty : newarray.typeOf t = aty (nwk t) := by cases t <;> first | rfl | exact absurd h14 (by decide)
      have hbt : componentBytes (newarray.typeOf t) ≤ 8 := by cases t <;> decide
      have hdf : defaultValue (newarray.typeOf t) = .int 0 := by cases t <;> first | rfl | exact absurd h14 (by decide)
      rw [List.map_cons]
      refine va_newaK hx hb (hts _ (okw_in hwd)) rfl hd rfl (Int32.not_lt.mpr h0) rfl (Nat.le_trans (Nat.mul_le_mul hle hbt) (by decide)) (by omega) (by omega) hH fun H1 cA e1 z1 o1 hAr hNm => ?_
      rw [← hH] at z1 o1
      have hcA : cA = cs (nwk t) := cs_arr hK h10 h14 (by rw [← hty]; exact hNm)
      subst hcA
      have hkk := kk 1 x.toNatClampNeg H1 locs rfl rfl (born hP hH o1 ?_) (S_new hS z1 o1)
      · rw [List.map_cons, cnc_own (Nat.le_trans (by omega) (mk_tag _)), qoff_mk] at hkk
        exact hkk
      · rw [ent_int hkd (by omega) h14, ent_alc.1, ent_alc.2]
        show H1[β + σ.2.2.1]? = some (vp_cell _ _)
        rw [e1, hdf]
        rfl
    · cases hs
  case anewarray k =>
    have h99 := is1 (show (if len = 3 then _ else none) = some _ from hs); clear hs; obtain ⟨rfl, hs⟩ := h99
    split at hs
    · rename_i x rest kq hkq
      have h99 := is1 hs
      clear hs
      obtain ⟨⟨hkd, h0, hle⟩, h⟩ := h99
      cases h
      obtain ⟨C, h14, h18, hty, hl1, hl2⟩ := nwa_spec hkq
      have hRc : cells + (σ.2.2.1 + 1) ≤ R.cells + σ.2.2.1 := hRc
      have hRs : slots + (σ.2.2.2 + x.toNatClampNeg) ≤ R.slots + σ.2.2.2 := hRs
      rw [List.map_cons]
      refine W.anew hx hb hown (hts _ (okw_in hl1)) (va_AO.use (hAO _ hl2)) rfl hd rfl (Int32.not_lt.mpr h0) (by omega) (by omega) (by omega) fun cA kA comp f1 f2 f3 f4 => ?_
      generalize hH1 : H.push ({ cls := cA, slots := Array.replicate x.toNatClampNeg .null, vm := .none } : Cell) = H1
      have z1 : H1.size = H.size + 1 := by rw [← hH1, Array.size_push]
      have e1 : H1[H.size]? = some (arrV cA x.toNatClampNeg (fun _ => .null)) := by rw [← hH1, Array.getElem?_push_size, ← arrV_new]
      have o1 : ∀ q : Nat, q < H.size → H1[q]? = H[q]? := fun q hq => by rw [← hH1, Array.getElem?_push, if_neg (Nat.ne_of_lt hq)]
      have hcA : cA = cs kq := by
        have h3 := (hK.2 _ _ (tysO_at (cs := cs) (k := kq) (by omega) h18)).2
        rw [hty] at h3
        obtain ⟨kA', comp', -, -, -, g4⟩ := h3
        exact Option.some.inj (f1.symm.trans g4)
      subst hcA
      have hkk := kk 1 x.toNatClampNeg H1 locs rfl rfl (born hP hH o1 ?_) (S_new hS z1 o1)
      · rw [List.map_cons, cnc_own (Nat.le_trans (by omega) (mk_tag _)), qoff_mk, ← hH] at hkk
        exact hkk
      · rw [ent_ref hkd h14, ent_alc.1, ent_alc.2]
        show H1[β + σ.2.2.1]? = some (vp_cell _ _)
        rw [← hH, e1]
        rfl
    · cases hs
  case invokespecial k =>
    have h99 := is1 (show (if len = 3 then _ else none) = some _ from hs); clear hs; obtain ⟨rfl, hs⟩ := h99
    split at hs
    · rename_i r rest hy
      have h99 := is1 hs
      clear hs
      obtain ⟨⟨h5, h1d, hcat⟩, h⟩ := h99
      obtain ⟨w1, w2, w3⟩ := spc_0 hy
      cases h
      rw [List.map_cons, cnc_own h5]
      refine W.objInit hx hb hown (hts _ (okw_in w1)) (hts _ (okw_in w2)) (hts _ (okw_in w3)) rfl hml.symm rfl hd (by omega) ?_ (kk 0 0 H locs rfl rfl hP hS)
      have h1 := lv_room (m := m) (pc := pc) (ls := ls) (rest := st'.map (cnc β (xE X))) (st := st'.map (cnc β (xE X))) (by rw [cnc_sum hε]; exact hcat)
      have h2 : 2 * (F0 m pc ls (.ref (β + qoff r) :: st'.map (cnc β (xE X)))).monitorRoom + ((st'.map (cnc β (xE X))).map fun v => v.category).sum ≤ 8 := h1
      omega
    · cases hs
  case invokestatic k =>
    have h99 := is1 (show (if len = 3 then _ else none) = some _ from hs); clear hs; obtain ⟨rfl, hs⟩ := h99
    split at hs
    · rename_i hy
      split at hs
      · rename_i n dp r sp q rest
        have h99 := is1 hs
        clear hs
        obtain ⟨⟨hok, hoq, hk, hkq, hn0, hd0, hs0, hb1, hb2, h1d, hcat⟩, h⟩ := h99
        obtain ⟨w1, w2, w3, w4⟩ := spc_1 hy
        cases h
        rw [List.map_cons, List.map_cons, List.map_cons, List.map_cons, List.map_cons, cnc_own (okr_spec hok).1, cnc_own (okr_spec hoq).1]
        have he := wsO_at (β := β) (cs := cs) (ε := xE X) hok
        rw [ent_int hk (by omega) (by omega)] at he
        have hq := wsO_at (β := β) (cs := cs) (ε := xE X) hoq
        rw [ent_int hkq (by omega) (by omega)] at hq
        have hcat := cnc_sum (β := β) hε st' ▸ hcat
        have hnw : nativeFrameWords "java/lang/System" "arraycopy" 5 + 11 ≤ 30 := by decide
        refine va_copyi hx hb hml hown (hts _ (okw_in w1)) (hts _ (okw_in w2)) (hts _ (okw_in w3)) (hts _ (okw_in w4)) hK hP hD hS _ _ (10 - 10) (10 - 10) hq he (tysO_at (by omega) (by omega)) (tysO_at (by omega) (by omega)) rfl (Int32.not_lt.mpr hs0) (Int32.not_lt.mpr hd0) (Int32.not_lt.mpr hn0) hb1 hb2 (fun _ _ => rfl) (by omega) (by omega) hd (fun H1 locs1 hP1 hD1 hS1 => ?_)
        have e4 := ent_int (β := β) (cs := cs) (ε := xE X) (r := r) (σ := (hnew σ.1 r (fun k => vI (va_cpy (fun j => aI (σ.1 q j)) (fun j => aI (σ.1 r j)) sp.toNatClampNeg dp.toNatClampNeg n.toNatClampNeg k)), σ.2)) hk (by omega) (by omega)
        have e5 : (fun j => aI (hnew σ.1 r (fun k => vI (va_cpy (fun j => aI (σ.1 q j)) (fun j => aI (σ.1 r j)) sp.toNatClampNeg dp.toNatClampNeg n.toNatClampNeg k)) r j)) = va_cpy (fun j => aI (σ.1 q j)) (fun j => aI (σ.1 r j)) sp.toNatClampNeg dp.toNatClampNeg n.toNatClampNeg := by
          funext j
          unfold hnew
          rw [if_pos rfl]
          rfl
        rw [← e5, ← e4, wsO_set hok (τ := (hnew σ.1 r (fun k => vI (va_cpy (fun j => aI (σ.1 q j)) (fun j => aI (σ.1 r j)) sp.toNatClampNeg dp.toNatClampNeg n.toNatClampNeg k)), σ.2)) rfl (fun z hz => ⟨hnew_ne hz, rfl⟩)] at hP1
        exact kk 0 0 H1 locs1 rfl rfl hP1 hS1
      · cases hs
    · rename_i hy
      split at hs
      · have h99 := is1 hs
        clear hs
        obtain ⟨⟨h1d, hcat⟩, h⟩ := h99
        obtain ⟨w1, w2, w3, w4⟩ := spc_m (by omega) hy
        cases h
        have hcat := cnc_sum (β := β) hε _ ▸ hcat
        exact va_mmax hx hb hml hown (hts _ (okw_in w1)) (hts _ (okw_in w2)) (hts _ (okw_in w3)) (hts _ (okw_in w4)) (by omega) (by omega) (by omega) (by omega) hd (kk 0 0 H locs rfl rfl hP hS)
      · cases hs
    · rename_i hy
      split at hs
      · have h99 := is1 hs
        clear hs
        obtain ⟨⟨h1d, hcat⟩, h⟩ := h99
        obtain ⟨w1, w2, w3, w4⟩ := spc_m (by omega) hy
        cases h
        have hcat := cnc_sum (β := β) hε _ ▸ hcat
        exact va_mmin hx hb hml hown (hts _ (okw_in w1)) (hts _ (okw_in w2)) (hts _ (okw_in w3)) (hts _ (okw_in w4)) (by omega) (by omega) (by omega) (by omega) hd (kk 0 0 H locs rfl rfl hP hS)
      · cases hs
    · rename_i hy
      split at hs
      · have h99 := is1 hs
        clear hs
        obtain ⟨⟨h1d, hcat⟩, h⟩ := h99
        obtain ⟨w1, w2, w3, w4⟩ := spc_m (by omega) hy
        cases h
        have hcat := cnc_sum (β := β) hε _ ▸ hcat
        exact va_mabs hx hb hml hown (hts _ (okw_in w1)) (hts _ (okw_in w2)) (hts _ (okw_in w3)) (hts _ (okw_in w4)) (by omega) (by omega) (by omega) (by omega) hd (kk 0 0 H locs rfl rfl hP hS)
      · cases hs
    · cases hs
end SC
end
section
/-! SOUNDNESS, 6: calls, returns, the whole -/
theorem exO_put {X : Xp} {σ : St} {r : Rf} {k : Nat} {v : Av} (h5 : 5 ≤ r.1) (h : exO X σ) : exO X (hput σ.1 r k v, σ.2) := by
  intro z hz
  have e : z ≠ r := fun e => by subst e; omega
  exact ⟨(hput_ne e).trans (h z hz).1, (h z hz).2⟩
theorem exO_new {X : Xp} {σ : St} {r : Rf} {f : Nat → Av} (h5 : 5 ≤ r.1) (h : exO X σ) : exO X (hnew σ.1 r f, σ.2) := by
  intro z hz
  have e : z ≠ r := fun e => by subst e; omega
  exact ⟨(hnew_ne e).trans (h z hz).1, (h z hz).2⟩
theorem exO_alc {X : Xp} {σ : St} {f : Nat → Av} {ln sl : Nat} (h : exO X σ) : exO X (alc σ f ln sl) := by
  intro z hz
  have e : z ≠ qmk σ.2.2.1 := fun e => by have := mk_tag σ.2.2.1; rw [← e] at this; omega
  refine ⟨(hnew_ne e).trans (h z hz).1, ?_⟩
  show (if z = qmk σ.2.2.1 then ln else σ.2.1 z) = _
  rw [if_neg e]
  exact (h z hz).2
def Gr (σ σ' : St) : Prop := σ.2.2.1 ≤ σ'.2.2.1 ∧ σ.2.2.2 ≤ σ'.2.2.2 ∧ ∀ X, exO X σ → exO X σ'
theorem Gr.rf {σ : St} : Gr σ σ := ⟨Nat.le_refl _, Nat.le_refl _, fun _ h => h⟩
theorem Gr.tr {a b c : St} (h1 : Gr a b) (h2 : Gr b c) : Gr a c := ⟨Nat.le_trans h1.1 h2.1, Nat.le_trans h1.2.1 h2.2.1, fun X h => h2.2.2 X (h1.2.2 X h)⟩
theorem Gr.put {σ : St} {r : Rf} {k : Nat} {v : Av} (h : okr σ r = true) : Gr σ (hput σ.1 r k v, σ.2) := ⟨Nat.le_refl _, Nat.le_refl _, fun _ hX => exO_put (okr_spec h).1 hX⟩
theorem Gr.new {σ : St} {r : Rf} {f : Nat → Av} (h : okr σ r = true) : Gr σ (hnew σ.1 r f, σ.2) := ⟨Nat.le_refl _, Nat.le_refl _, fun _ hX => exO_new (okr_spec h).1 hX⟩
theorem Gr.alc {σ : St} {f : Nat → Av} {ln sl : Nat} : Gr σ (alc σ f ln sl) := ⟨Nat.le_succ _, Nat.le_add_right _ _, fun _ hX => exO_alc hX⟩
theorem sC_gr {μ : Mu} {d : Nat} {i : Instr} {len pc pc' : Nat} {st st' : List Av} {σ σ' : St} (hs : sC μ d i len pc st σ = some (pc', st', σ')) : Gr σ σ' := by
  cases i <;> first | (cases hs; done) | skip
  case putfield k =>
    have h99 := is1 (show (if len = 3 then _ else none) = some _ from hs); clear hs; obtain ⟨rfl, hs⟩ := h99
    split at hs
    · have h99 := is1 hs
      clear hs
      obtain ⟨hc, h⟩ := h99
      cases h
      exact Gr.put hc.1
    · cases hs
  case iastore =>
    obtain ⟨rfl, v, x, r, rest, rfl, hok, hk, h0, h1, hz⟩ := wrA_some hs
    cases hz
    exact Gr.put hok
  case bastore =>
    have hs2 : (match wrA 11 (vp_nar .byte) len pc st σ with
      | some z => some z
      | none => wrA 12 (vp_nar .boolean) len pc st σ) = some (pc', st', σ') := hs
    clear hs
    split at hs2
    · rename_i z hz1
      obtain ⟨rfl, v, x, r, rest, rfl, hok, hk, h0, h1, hz⟩ := wrA_some hz1
      subst hz
      cases hs2
      exact Gr.put hok
    · obtain ⟨rfl, v, x, r, rest, rfl, hok, hk, h0, h1, hz⟩ := wrA_some hs2
      cases hz
      exact Gr.put hok
  case castore =>
    obtain ⟨rfl, v, x, r, rest, rfl, hok, hk, h0, h1, hz⟩ := wrA_some hs
    cases hz
    exact Gr.put hok
  case aastore =>
    have h99 := is1 (show (if len = 1 then _ else none) = some _ from hs); clear hs; obtain ⟨rfl, hs⟩ := h99
    split at hs
    · have h99 := is1 hs
      clear hs
      obtain ⟨hc, h⟩ := h99
      cases h
      exact Gr.put hc.1
    · cases hs
  case new k =>
    have h99 := is1 (show (if len = 3 then _ else none) = some _ from hs); clear hs; obtain ⟨rfl, hs⟩ := h99
    split at hs
    · have h99 := is1 hs
      clear hs
      obtain ⟨hc, h⟩ := h99
      cases h
      exact Gr.alc
    · cases hs
  case newarray t =>
    have h99 := is1 (show (if len = 2 then _ else none) = some _ from hs); clear hs; obtain ⟨rfl, hs⟩ := h99
    split at hs
    · have h99 := is1 hs
      clear hs
      obtain ⟨hc, h⟩ := h99
      cases h
      exact Gr.alc
    · cases hs
  case anewarray k =>
    have h99 := is1 (show (if len = 3 then _ else none) = some _ from hs); clear hs; obtain ⟨rfl, hs⟩ := h99
    split at hs
    · have h99 := is1 hs
      clear hs
      obtain ⟨hc, h⟩ := h99
      cases h
      exact Gr.alc
    · cases hs
  case invokespecial k =>
    have h99 := is1 (show (if len = 3 then _ else none) = some _ from hs); clear hs; obtain ⟨rfl, hs⟩ := h99
    split at hs
    · have h99 := is1 hs
      clear hs
      obtain ⟨hc, h⟩ := h99
      cases h
      exact Gr.rf
    · cases hs
  case invokestatic k =>
    have h99 := is1 (show (if len = 3 then _ else none) = some _ from hs); clear hs; obtain ⟨rfl, hs⟩ := h99
    split at hs
    · split at hs
      · have h99 := is1 hs
        clear hs
        obtain ⟨hc, h⟩ := h99
        cases h
        exact Gr.new hc.1
      · cases hs
    · split at hs
      · have h99 := is1 hs
        clear hs
        obtain ⟨hc, h⟩ := h99
        cases h
        exact Gr.rf
      · cases hs
    · split at hs
      · have h99 := is1 hs
        clear hs
        obtain ⟨hc, h⟩ := h99
        cases h
        exact Gr.rf
      · cases hs
    · split at hs
      · have h99 := is1 hs
        clear hs
        obtain ⟨hc, h⟩ := h99
        cases h
        exact Gr.rf
      · cases hs
    · cases hs
/-- one step of the interpreter, by cases -/
theorem xc_cases {n d : Nat} {μ : Mu} {pc : Nat} {l : Lv} {st : List Av} {σ : St} {res : Option Av × St} (h : xc (n + 1) d μ pc l st σ = some res) :
    ∃ i len, decode μ.1 pc = .ok (i, len) ∧ ((∃ pc' l' st', sA i len pc l st = some (pc', l', st') ∧ xc n d μ pc' l' st' σ = some res) ∨ (∃ pc' st', sB μ.2.1.cls i len pc st σ = some (pc', st') ∧ xc n d μ pc' l st' σ = some res) ∨ (∃ pc' st' σ', sC μ d i len pc st σ = some (pc', st', σ') ∧ xc n d μ pc' l st' σ' = some res) ∨ (∃ v, sE μ.2.2.2 i len st = some v ∧ res = (v, σ)) ∨
      (∃ d' μ' as rest v σ', d = d' + 1 ∧ sD μ.2.1.cls i len st σ = some (μ', as, rest) ∧ as.length ≤ μ'.2.2.1 ∧ (∀ a ∈ as, qcat a = 1) ∧ xc n d' μ' 0 (qent as μ'.2.2.1) [] σ = some (v, σ') ∧ xc n d μ (pc + 3) l (v.toList ++ rest) σ' = some res)) := by
  rw [xc] at h
  split at h
  · cases h
  · rename_i i len hd
    refine ⟨i, len, hd, ?_⟩
    split at h
    · rename_i pc' l' st' hA
      exact Or.inl ⟨pc', l', st', hA, h⟩
    · split at h
      · rename_i pc' st' hB
        exact Or.inr (Or.inl ⟨pc', st', hB, h⟩)
      · split at h
        · rename_i pc' st' σ' hC
          exact Or.inr (Or.inr (Or.inl ⟨pc', st', σ', hC, h⟩))
        · split at h
          · rename_i v hE
            exact Or.inr (Or.inr (Or.inr (Or.inl ⟨v, hE, (Option.some.inj h).symm⟩)))
          · cases d with
            | zero => cases h
            | succ d' =>
              dsimp only at h
              split at h
              · cases h
              · rename_i μ' as rest hD
                replace h := is1 h
                obtain ⟨⟨h1, h2⟩, h⟩ := h
                split at h
                · cases h
                · rename_i v σ' hc
                  exact Or.inr (Or.inr (Or.inr (Or.inr ⟨d', μ', as, rest, v, σ', rfl, hD, h1, h2, hc, h⟩)))
theorem xc_gr : ∀ (n d : Nat) (μ : Mu) (pc : Nat) (l : Lv) (st : List Av) (σ : St) (v : Option Av) (σ' : St), xc n d μ pc l st σ = some (v, σ') → Gr σ σ' := by
  intro n
  induction n with
  | zero => intro d μ pc l st σ v σ' h; cases h
  | succ n ih =>
    intro d μ pc l st σ v σ' h
    obtain ⟨i, len, hd, h⟩ := xc_cases h
    rcases h with ⟨pc', l', st', -, h⟩ | ⟨pc', st', -, h⟩ | ⟨pc', st', σ1, h1, h⟩ | ⟨v', -, h⟩ | ⟨d', μ', as, rest, v1, σ1, -, -, -, -, h1, h⟩
    · exact ih _ _ _ _ _ _ _ _ h
    · exact ih _ _ _ _ _ _ _ _ h
    · exact (sC_gr h1).tr (ih _ _ _ _ _ _ _ _ h)
    · cases h; exact Gr.rf
    · exact (ih _ _ _ _ _ _ _ _ h1).tr (ih _ _ _ _ _ _ _ _ h)
theorem sE_spec {rt : Option FieldType} {i : Instr} {len : Nat} {st : List Av} {v : Option Av} (h : sE rt i len st = some v) : len = 1 ∧ ((i = .return_ ∧ rt = none ∧ st = [] ∧ v = none) ∨ (∃ ty x, i = .ireturn ∧ rt = some ty ∧ st = [vI x] ∧ narrow ty (.int x) = .int x ∧ v = some (vI x)) ∨ (∃ x, i = .lreturn ∧ rt = some .long ∧ st = [vL x] ∧ v = some (vL x)) ∨ (∃ ty r, i = .areturn ∧ rt = some ty ∧ rfT ty = true ∧ st = [.inr (.inr r)] ∧ v = some (.inr (.inr r)))) := by
  unfold sE at h
  replace h := is1 h
  obtain ⟨h0, h⟩ := h
  refine ⟨h0, ?_⟩
  split at h
  · cases h; exact Or.inl ⟨rfl, rfl, rfl, rfl⟩
  · rename_i ty x
    replace h := is1 h
    obtain ⟨h1, h⟩ := h
    cases h
    exact Or.inr (Or.inl ⟨ty, x, rfl, rfl, rfl, h1, rfl⟩)
  · rename_i x
    cases h
    exact Or.inr (Or.inr (Or.inl ⟨x, rfl, rfl, rfl, rfl⟩))
  · rename_i ty r
    replace h := is1 h
    obtain ⟨h1, h⟩ := h
    cases h
    exact Or.inr (Or.inr (Or.inr ⟨ty, r, rfl, rfl, h1, rfl, rfl⟩))
  · cases h
theorem rsl_spec {k : Nat} {own : String} {i np : Nat} {μ : Mu} (h : rsl k own i = some (μ, np)) : ∃ nst : Option String, (∀ hst, nst = some hst → Jvm.Cond.methodLinkNest own i μ.2.1 hst ∈ lw_tbl) ∧ (parseMethodDescriptor μ.2.1.desc).map (fun d => d.parameters.length) = some np ∧ okw (.code μ.2.1 μ.1 μ.2.2.1 μ.2.2.2) = true ∧ okw (.initialized μ.2.1.cls) = true ∧ plainName μ.2.1.cls = true ∧ (μ.2.1.cls ≠ "java/lang/invoke/MethodHandle" ∧ μ.2.1.cls ≠ "java/lang/invoke/VarHandle") ∧ μ.2.2.1 ≤ 19 ∧ (nst = none → okw (.methodLink own i μ.2.1) = true) ∧
    (k = 0 → okw (.static μ.2.1) = true) ∧ (k = 1 → okw (.instanceMethod μ.2.1) = true ∧ okw (.selects μ.2.1.cls μ.2.1 μ.2.1) = true ∧ nst = none) ∧ (k = 2 → okw (.instanceMethod μ.2.1) = true ∧ μ.2.1.name = "<init>" ∧ μ.2.2.2 = none) := by
  unfold rsl at h
  split at h
  · rename_i μ' np' nst ps hf
    replace h := is1 h
    obtain ⟨⟨h1, h2, h3, h4, h5, h6, h7, h8, h9, h10⟩, h⟩ := h
    cases h
    refine ⟨nst, ?_, h6, tat_okw h1, tat_okw h2, h3, h4, h5, ?_, fun e => tat_okw (h8 e), fun e => ⟨tat_okw (h9 e).1, tat_okw (h9 e).2.1, (h9 e).2.2⟩, fun e => ⟨tat_okw (h10 e).1, (h10 e).2⟩⟩
    · intro hst e
      subst e
      exact List.mem_of_getElem? (of_decide_eq_true h7)
    · intro e
      subst e
      exact tat_okw h7
  · cases h
theorem lv_args_mem : ∀ (vs : List Value) (k : Nat) (j : Nat) (v : Value), (∀ a ∈ vs, ¬ a.category = 2) → vs[j]? = some v → (k + j, v) ∈ lv_args k vs := by
  intro vs
  induction vs with
  | nil => intro k j v _ h; simp at h
  | cons a t ih =>
    intro k j v hc h
    rw [lv_args, if_neg (hc a List.mem_cons_self)]
    cases j with
    | zero => simp at h; subst h; exact List.mem_cons_self
    | succ j =>
      have h1 : t[j]? = some v := by simpa using h
      have h2 := ih (k + 1) j v (fun a ha => hc a (List.mem_cons_of_mem _ ha)) h1
      rw [show k + 1 + j = k + (j + 1) by omega] at h2
      exact List.mem_cons_of_mem _ h2
theorem lg_sl_len : ∀ (vs : List Value), (∀ a ∈ vs, ¬ a.category = 2) → (lg_sl vs).length = vs.length := by
  intro vs
  induction vs with
  | nil => intro _; rfl
  | cons a t ih =>
    intro hc
    have h1 := ih (fun a ha => hc a (List.mem_cons_of_mem _ ha))
    have h2 : lg_sl (a :: t) = [.val a] ++ lg_sl t := by
      unfold lg_sl
      rw [List.flatMap_cons, if_neg (hc a List.mem_cons_self)]
    rw [h2, List.length_append, h1, List.length_cons]
    show 1 + t.length = t.length + 1
    omega
theorem LvR_entry {β : Nat} {ε : Rf → Value} (hε : eok ε) {as : List Av} {n : Nat} (h : as.length ≤ n) (hc : ∀ a ∈ as, qcat a = 1) : LvR β ε ((lg_sl (as.map (cnc β ε)) ++ List.replicate (n - (lg_sl (as.map (cnc β ε))).length) Slot.unset).toArray) (qent as n) := by
  have hcat : ∀ a ∈ as.map (cnc β ε), ¬ a.category = 2 := by
    intro a ha
    obtain ⟨b, hb, rfl⟩ := List.mem_map.mp ha
    rw [cnc_cat hε, hc b hb]
    decide
  have hlen := lg_sl_len _ hcat
  rw [List.length_map] at hlen
  have h1 := lv_entry (as.map (cnc β ε)) (n := n) (by rw [hlen]; exact h)
  have hql : (qent as n).length = n := by
    unfold qent
    rw [List.length_append, List.length_map, List.length_replicate]
    omega
  refine ⟨by rw [hql]; exact h1.1, h1.2.1, fun q hq => h1.2.2 q ?_⟩
  obtain ⟨j, v, hj, rfl⟩ := (lvp_mem _ 0 q).mp hq
  unfold qent at hj
  by_cases hl : j < as.length
  · rw [List.getElem?_append_left (by rw [List.length_map]; exact hl), List.getElem?_map] at hj
    have h2 : as[j]? = some v := by
      cases hx : as[j]? with
      | none => rw [hx] at hj; cases hj
      | some w => rw [hx] at hj; cases hj; rfl
    exact lv_args_mem _ 0 j _ hcat (by rw [List.getElem?_map, h2]; rfl)
  · rw [List.getElem?_append_right (by rw [List.length_map]; omega)] at hj
    have := List.mem_of_getElem? hj
    rw [List.mem_replicate] at this
    cases this.2
end
section
/-! SOUNDNESS, 7: what the interpreter answers, the machine does -/
def wsM (μ : Mu) : List Jvm.Cond := Jvm.Cond.code μ.2.1 μ.1 μ.2.2.1 μ.2.2.2 :: gTb
theorem wsM_good {μ : Mu} (h : okw (.code μ.2.1 μ.1 μ.2.2.1 μ.2.2.2) = true) : GoodIn gTb (wsM μ) := by
  intro w hw
  have hg : w ∈ gTb := by
    rcases List.mem_cons.mp hw with rfl | h1
    · exact okw_in h
    · exact h1
  exact ⟨hg, gTb_good hg⟩
def PcM (β : Nat) (D : va_G) (cs : Nat → ClassId) (X : Xp) (σ : St) (as : List Av) : Array Value → State → Prop := fun a U => a = (as.map (cnc β (xE X))).toArray ∧ Cx β D cs X U ∧ va_P D vwCl (wsO β cs (xE X) σ) U.heap ∧ U.heap.size = β + σ.2.2.1
def QcM (β : Nat) (D : va_G) (cs : Nat → ClassId) (X : Xp) (σ : St) (v : Option Av) : Array Value → State → Outcome → State → Prop := fun _ st oc t => oc = .returned (v.map (cnc β (xE X))) ∧ va_P D vwCl (wsO β cs (xE X) σ) t.heap ∧ va_F (Ax β) st t
theorem PcM_blind {β : Nat} {D : va_G} {cs : Nat → ClassId} {X : Xp} {σ : St} {as : List Av} : FrameBlind (PcM β D cs X σ as) := fun _ _ _ _ h => ⟨h.1, h.2.1.blind, h.2.2.1, h.2.2.2⟩
def Snd (lc : Launch) (β : Nat) (D : va_G) (cs : Nat → ClassId) (X : Xp) (n : Nat) : Prop :=
  ∀ (d : Nat) (μ : Mu) (pc : Nat) (l : Lv) (st : List Av) (σ : St) (v : Option Av) (σ' : St), xc n d μ pc l st σ = some (v, σ') →
  ∀ (p : Program) (e : Env) (R : Room) (s : State) (m : MethodId) (args : Array Value) (below : List Frame) (meth : Method) (c : Code) (H : Heap) (locs : List Loc) (cells slots : Nat) (Q : State → Prop) (ls : Array Slot),
  p.tables.exec = Jvm.exec → c.code = μ.1 → c.maxLocals = ls.size → (μ.2.1.name = "<init>" → meth.name = "<init>") → (∀ w ∈ gTb, w.before args s = true) → s.vm.findClass μ.2.1.cls = some m.cls → Cx β D cs X s → LvR β (xE X) ls l → va_P D vwCl (wsO β cs (xE X) σ) H → va_S (Ax β) s.heap H locs → exO X σ → s.heap.size + cells = β + σ.2.2.1 →
  d ≤ R.frames → 38 * d ≤ R.locals → cells + σ'.2.2.1 ≤ R.cells + σ.2.2.1 → slots + σ'.2.2.2 ≤ R.slots + σ.2.2.2 →
  (∀ (k n : Nat) (i : Instr) (pc' : Nat) (ls' : Array Slot) (st' : List Av) (H' : Heap) (locs' : List Loc), σ'.2.2.1 = σ.2.2.1 + k → σ'.2.2.2 = σ.2.2.2 + n → decode μ.1 pc' = .ok (i, 1) → sE μ.2.2.2 i 1 st' = some v → va_P D vwCl (wsO β cs (xE X) σ') H' → va_S (Ax β) s.heap H' locs' → W p lc e R s m args below meth c H' locs' (cells + k) (slots + n) Q (F0 m pc' ls' (st'.map (cnc β (xE X))))) →
  W p lc e R s m args below meth c H locs cells slots Q (F0 m pc ls (st.map (cnc β (xE X))))
section MN
variable {lc : Launch} {β : Nat} {D : va_G} {cs : Nat → ClassId} {X : Xp}
theorem met_of {n d : Nat} (IH : Snd lc β D cs X n) {μ : Mu} {as : List Av} {σ σ' : St} {v : Option Av} (hpl : plainName μ.2.1.cls = true) (hlen : as.length ≤ μ.2.2.1) (hcat : ∀ a ∈ as, qcat a = 1) (hE : exO X σ) (h : xc n d μ 0 (qent as μ.2.2.1) [] σ = some (v, σ')) :
    Met lc μ.2.1 (wsM μ) ({ frames := d, cells := σ'.2.2.1 - σ.2.2.1, slots := σ'.2.2.2 - σ.2.2.2, locals := 38 * d }) (PcM β D cs X σ as) (QcM β D cs X σ' v) (σ'.2.2.1 - σ.2.2.1) (σ'.2.2.2 - σ.2.2.2) (Ax β) := by
  have hgr := xc_gr _ _ _ _ _ _ _ _ _ h
  refine Met.ofW (cc := μ.1) (maxL := μ.2.2.1) (ret := μ.2.2.2) (ws' := gTb) hpl rfl ?_
  intro p e s m args below meth c s₁ B hml hv
  obtain ⟨rfl, hC, hP, hsz⟩ := hv
  have hfm := hC.2.2.2.2.2.2.2.2.2.2.2.2.2
  have hε := xE_ok hfm
  rw [lg_entry_eq]
  have hl := LvR_entry (β := β) hε hlen hcat
  generalize ((lg_sl (as.map (cnc β (xE X))) ++ List.replicate (μ.2.2.1 - (lg_sl (as.map (cnc β (xE X)))).length) Slot.unset).toArray) = ls at hl ⊢
  have hql : (qent as μ.2.2.1).length = μ.2.2.1 := by
    unfold qent
    rw [List.length_append, List.length_map, List.length_replicate]
    omega
  have hr := B.returns
  have hlocks := B.notSynchronized
  have hnm : meth.name = μ.2.1.name := (name_of_methodNamed B.named B.method).1
  refine IH d μ 0 (qent as μ.2.2.1) [] σ v σ' h p e _ s m _ below meth c s.heap [] 0 0 _ ls B.exec B.bytes (hml.trans (by rw [hl.1, hql])) (fun h => hnm.trans h) (fun w hw => atoms_spec (ws := wsM μ) B.pre w (List.mem_cons_of_mem _ hw)) (findClass_of_methodNamed B.named) hC hl hP va_S.rf hE (by rw [hsz]; rfl) (Nat.le_refl d) (Nat.le_refl (38 * d)) (show 0 + σ'.2.2.1 ≤ (σ'.2.2.1 - σ.2.2.1) + σ.2.2.1 by have := hgr.1; omega) (show 0 + σ'.2.2.2 ≤ (σ'.2.2.2 - σ.2.2.2) + σ.2.2.2 by have := hgr.2.1; omega) ?_
  intro k q i pc' ls' st' H' locs' hk hq hd hsE hP' hS'
  have e1 : σ'.2.2.1 - σ.2.2.1 = 0 + k := by omega
  have e2 : σ'.2.2.2 - σ.2.2.2 = 0 + q := by omega
  rw [e1, e2]
  obtain ⟨-, hsE⟩ := sE_spec hsE
  rcases hsE with ⟨rfl, h2, rfl, rfl⟩ | ⟨ty, x, rfl, h2, rfl, h4, rfl⟩ | ⟨x, rfl, h2, rfl, rfl⟩ | ⟨ty, r, rfl, h2, h3, rfl, rfl⟩
  · exact W.vret B.exec B.bytes (hr.trans h2) (fun t ht hW => ⟨rfl, by rw [ht]; exact hP', hS'.F ht⟩) hS'.2.2 hd hlocks
  · exact W.zret B.exec B.bytes (hr.trans h2) h4 (fun t ht hW => ⟨rfl, by rw [ht]; exact hP', hS'.F ht⟩) hS'.2.2 hd hlocks
  · exact W.lret B.exec B.bytes (hr.trans h2) (fun t ht hW => ⟨rfl, by rw [ht]; exact hP', hS'.F ht⟩) hS'.2.2 hd hlocks
  · refine W.aret B.exec B.bytes (hr.trans h2) ?_ (cnc_ref hε r) (fun t ht hW => ⟨rfl, by rw [ht]; exact hP', hS'.F ht⟩) hS'.2.2 hd hlocks
    unfold rfT at h3
    split at h3
    · exact Or.inl ⟨_, rfl⟩
    · exact Or.inr ⟨_, rfl⟩
    · cases h3
section QC
variable {p : Program} {e : Env} {R : Room} {s : State} {m : MethodId} {args : Array Value} {below : List Frame} {meth : Method} {c : Code} {H : Heap} {locs : List Loc} {cells slots mc ms : Nat} {Q : State → Prop} {pc : Nat} {ls : Array Slot} {st0 rest : List Value}
theorem q_call {a : Array Value} {σ' : St} {v : Option Av} (hr : va_Run p lc e R s m args below meth c H locs cells slots mc ms (F0 m pc ls st0) rest (QcM β D cs X σ' v a) (Ax β)) (hS : va_S (Ax β) s.heap H locs)
    (kk : ∀ (H1 : Heap) (locs1 : List Loc), va_P D vwCl (wsO β cs (xE X) σ') H1 → va_S (Ax β) s.heap H1 locs1 → W p lc e R s m args below meth c H1 locs1 (cells + mc) (slots + ms) Q (F0 m (pc + 3) ls ((v.map (cnc β (xE X))).toList ++ rest))) : W p lc e R s m args below meth c H locs cells slots Q (F0 m pc ls st0) := by
  intro T hT Y
  obtain ⟨v', st₀, t, T', L, h0, Y', hL, e1, e2, ⟨hv, hp, hz, hk⟩, stp⟩ := hr T hT Y
  have hv : v' = v.map (cnc β (xE X)) := by cases hv; rfl
  subst hv
  rw [h0] at hz hk
  obtain ⟨t2, a1, b1⟩ := kk T'.heap (locs ++ L) (by rw [e1]; exact hp) ⟨Nat.le_trans hS.1 (by rw [e1]; exact hz), fun q h1 h2 => by rw [e1, hk q (Nat.lt_of_lt_of_le h1 hS.1) h2]; exact hS.2.1 q h1 h2, fun q hq => by
      rcases List.mem_append.mp hq with h | h
      · exact hS.2.2 q h
      · exact hL q h⟩ T' rfl Y'
  exact ⟨t2, stp t2 a1, b1⟩
end QC
theorem map_take_drop {α γ : Type} (f : α → γ) (l : List α) (n : Nat) : l.map f = ((l.take n).reverse.map f).reverse ++ (l.drop n).map f := by
  rw [List.map_reverse, List.reverse_reverse, ← List.map_append, List.take_append_drop]
set_option maxHeartbeats 4000000 in
theorem snd_all : ∀ n, Snd lc β D cs X n := by
  intro n
  induction n with
  | zero => intro d μ pc l st σ v σ' h; cases h
  | succ n IH =>
    intro d μ pc l st σ v σ' h p e R s m args below meth c H locs cells slots Q ls hx hb hml hmn hts hown hC hl hP hS hE hI hRf hRl hRc hRs ret
    have hfm := hC.2.2.2.2.2.2.2.2.2.2.2.2.2
    have hε := xE_ok hfm
    obtain ⟨i, len, hd, h⟩ := xc_cases h
    rcases h with ⟨pc', l', st', hs, h⟩ | ⟨pc', st', hs, h⟩ | ⟨pc', st', σ1, hs, h⟩ | ⟨v', hs, h⟩ | ⟨d', μ', as, rest, v1, σ1, rfl, hs, hlen, hcat, h1, h⟩
    · exact sA_ok hε hx hb hl hd hs fun ls' hl' hz => IH d μ pc' l' st' σ v σ' h p e R s m args below meth c H locs cells slots Q ls' hx hb (hml.trans hz.symm) hmn hts hown hC hl' hP hS hE hI hRf hRl hRc hRs ret
    · exact sB_ok hx hb hts hown hC hP hS hE hd hs (IH d μ pc' l st' σ v σ' h p e R s m args below meth c H locs cells slots Q ls hx hb hml hmn hts hown hC hl hP hS hE hI hRf hRl hRc hRs ret)
    · have g1 := sC_gr hs
      have g2 := xc_gr _ _ _ _ _ _ _ _ _ h
      refine sC_ok hx hb hml hmn hts hown hC hP hS hI hd hs hRf hRl (by have := g2.1; omega) (by have := g2.2.1; omega) fun k q H1 locs1 hk hq hP1 hS1 => ?_
      refine IH d μ pc' l st' σ1 v σ' h p e R s m args below meth c H1 locs1 (cells + k) (slots + q) Q ls hx hb hml hmn hts hown hC hl hP1 hS1 (g1.2.2 _ hE) (by omega) hRf hRl (by omega) (by omega) ?_
      intro k2 q2 i2 pc2 ls2 st2 H2 locs2 hk2 hq2 hd2 hE2 hP2 hS2
      rw [Nat.add_assoc, Nat.add_assoc]
      exact ret (k + k2) (q + q2) i2 pc2 ls2 st2 H2 locs2 (by omega) (by omega) hd2 hE2 hP2 hS2
    · cases h
      obtain ⟨rfl, -⟩ := sE_spec hs
      exact ret 0 0 i pc ls st H locs rfl rfl hd hs hP hS
    · have g1 := xc_gr _ _ _ _ _ _ _ _ _ h1
      have g2 := xc_gr _ _ _ _ _ _ _ _ _ h
      refine W.sized fun hsz => ?_
      have hH := hH_of hC hP hS hI hsz
      clear hsz
      have hgo : ∀ (H1 : Heap) (locs1 : List Loc), va_P D vwCl (wsO β cs (xE X) σ1) H1 → va_S (Ax β) s.heap H1 locs1 → W p lc e R s m args below meth c H1 locs1 (cells + (σ1.2.2.1 - σ.2.2.1)) (slots + (σ1.2.2.2 - σ.2.2.2)) Q (F0 m (pc + 3) ls ((v1.map (cnc β (xE X))).toList ++ rest.map (cnc β (xE X)))) := by
        intro H1 locs1 hP1 hS1
        have e9 : (v1.map (cnc β (xE X))).toList ++ rest.map (cnc β (xE X)) = (v1.toList ++ rest).map (cnc β (xE X)) := by
          cases v1 <;> simp
        rw [e9]
        have q1 := g1.1
        have q2 := g1.2.1
        have q3 := g2.1
        have q4 := g2.2.1
        refine IH (d' + 1) μ (pc + 3) l (v1.toList ++ rest) σ1 v σ' h p e R s m args below meth c H1 locs1 (cells + (σ1.2.2.1 - σ.2.2.1)) (slots + (σ1.2.2.2 - σ.2.2.2)) Q ls hx hb hml hmn hts hown hC hl hP1 hS1 (g1.2.2 _ hE) (by omega) hRf hRl (by omega) (by omega) ?_
        intro k2 n2 i2 pc2 ls2 st2 H2 locs2 hk2 hn2 hd2 hE2 hP2 hS2
        rw [Nat.add_assoc, Nat.add_assoc]
        exact ret _ _ i2 pc2 ls2 st2 H2 locs2 (by omega) (by omega) hd2 hE2 hP2 hS2
      have hfit : cells + (σ1.2.2.1 - σ.2.2.1) ≤ R.cells ∧ slots + (σ1.2.2.2 - σ.2.2.2) ≤ R.slots := by
        have q1 := g1.1
        have q2 := g1.2.1
        have q3 := g2.1
        have q4 := g2.2.1
        omega
      have hpre : ∀ U : State, U.heap = H → s.WarmedH U.vm → PcM β D cs X σ as (as.map (cnc β (xE X))).toArray U := fun U hU hW => ⟨rfl, hC.next hS hU hW, by rw [hU]; exact hP, by rw [hU]; exact hH⟩
      unfold sD at hs
      replace hs := is1 hs
      obtain ⟨rfl, hs⟩ := hs
      split at hs
      · rename_i k
        split at hs
        · rename_i μ2 np hrs
          replace hs := is1 hs
          obtain ⟨⟨hnp, hc8⟩, hs⟩ := hs
          cases hs
          obtain ⟨nst, hlk, hpar, w1, w2, hpl, hnh, h19, w3, w4, -, -⟩ := rsl_spec hrs
          have hM := met_of IH hpl hlen hcat hE h1
          have hlen2 : ((st.take np).reverse.map (cnc β (xE X))).length = np := by
            rw [List.length_map, List.length_reverse, List.length_take]; omega
          have hst := map_take_drop (cnc β (xE X)) st np
          have hW := lv_room (m := m) (pc := pc) (ls := ls) (rest := st.map (cnc β (xE X))) (st := (st.drop np).map (cnc β (xE X))) (by rw [cnc_sum hε]; exact hc8)
          cases nst with
          | none => exact q_call (va_runS (rest := (st.drop np).map (cnc β (xE X))) ⟨hx, hb, hml, hown, hts⟩ hM ⟨callB_of np hts (wsM_good w1) rfl rfl rfl (hts _ (okw_in w2)) (hts _ (okw_in (w3 rfl))) ⟨hnh.1, hnh.2, hpar⟩ ⟨hRf, by show 8 + (_ + 11) + 38 * d' ≤ _; omega⟩, hts _ (okw_in (w4 rfl))⟩ ⟨PcM_blind, hpre⟩ rfl hlen2 rfl hst hW hd hfit) hS hgo
          | some hst0 => exact q_call (va_runSN (rest := (st.drop np).map (cnc β (xE X))) ⟨hx, hb, hml, hown, hts⟩ hM ⟨va_cnB np hts (wsM_good w1) rfl rfl rfl (hC.2.2.2.2.2.2.2.2.2.2.1 _ _ _ _ (hlk _ rfl)) (hts _ (okw_in w2)) ⟨hnh.1, hnh.2, hpar⟩ ⟨hRf, by show 8 + (_ + 11) + 38 * d' ≤ _; omega⟩, hts _ (okw_in (w4 rfl)), trivial⟩ ⟨PcM_blind, hpre⟩ rfl hlen2 rfl hst hW hd hfit) hS hgo
        · cases hs
      · rename_i k
        split at hs
        · rename_i μ2 np hrs
          split at hs
          · rename_i r rest2 hdr
            replace hs := is1 hs
            obtain ⟨⟨hnp, hc8, hrc⟩, hs⟩ := hs
            cases hs
            obtain ⟨nst, hlk, hpar, w1, w2, hpl, hnh, h19, w3, -, w5, -⟩ := rsl_spec hrs
            obtain ⟨w8, w6, rfl⟩ := w5 rfl
            have hM := met_of IH hpl hlen hcat hE h1
            have hlen2 : ((st.take np).reverse.map (cnc β (xE X))).length = np := by
              rw [List.length_map, List.length_reverse, List.length_take]; omega
            have hW := lv_room (m := m) (pc := pc) (ls := ls) (rest := st.map (cnc β (xE X))) (st := rest.map (cnc β (xE X))) (by rw [cnc_sum hε]; exact hc8)
            have hst := map_take_drop (cnc β (xE X)) st np
            rw [hdr, List.map_cons] at hst
            have hrv : ∃ a, cnc β (xE X) (.inr (.inr (some r))) = .ref a ∧ ∃ cellB : Cell, H[a]? = some cellB ∧ cellB.vm.isStatics = false ∧ s.vm.findClass μ'.2.1.cls = some cellB.cls := by
              unfold rcv at hrc
              split at hrc
              · rename_i q hq
                simp only [Bool.and_eq_true, decide_eq_true_eq] at hrc
                refine ⟨_, cnc_own (okr_spec hrc.1).1, ?_⟩
                have h9 : kd r.1 < 9 := (List.getElem?_eq_some_iff.mp hq).1
                have he := wsO_at (β := β) (cs := cs) (ε := xE X) hrc.1
                rw [ent_obj rfl h9] at he
                rw [← hrc.2]
                exact va_recv hC.1 hP hq he
              · simp only [Bool.and_eq_true, decide_eq_true_eq] at hrc
                obtain ⟨j, hj, rfl⟩ := oks_spec hrc.1
                refine ⟨_, cnc_x2 hj, ?_⟩
                rw [hrc.2]
                exact vk_recv hC.2.2.2.2.2.2.2.2.1 hj hS
            obtain ⟨a, ea, hcell⟩ := hrv
            rw [List.map_cons, ea] at hpre
            rw [ea] at hst
            exact q_call (va_runV (rest := rest.map (cnc β (xE X))) ⟨hx, hb, hml, hown, hts⟩ hM ⟨callB_of np hts (wsM_good w1) rfl rfl rfl (hts _ (okw_in w2)) (hts _ (okw_in (w3 rfl))) ⟨hnh.1, hnh.2, hpar⟩ ⟨hRf, by show 8 + (_ + 11) + 38 * d' ≤ _; omega⟩, hts _ (okw_in w8), hts _ (okw_in w6)⟩ ⟨PcM_blind, hcell, hpre⟩ rfl hlen2 rfl hst hW hd hfit) hS hgo
          · cases hs
        · cases hs
      · rename_i k
        split at hs
        · rename_i μ2 np hrs
          split at hs
          · rename_i r rest2 hdr
            replace hs := is1 hs
            obtain ⟨⟨hnp, hc8, h5⟩, hs⟩ := hs
            cases hs
            obtain ⟨nst, hlk, hpar, w1, w2, hpl, hnh, h19, w3, -, -, w5⟩ := rsl_spec hrs
            obtain ⟨w5, w6, w7⟩ := w5 rfl
            have hM := met_of IH hpl hlen hcat hE h1
            have hlen2 : ((st.take np).reverse.map (cnc β (xE X))).length = np := by
              rw [List.length_map, List.length_reverse, List.length_take]; omega
            have hW := lv_room (m := m) (pc := pc) (ls := ls) (rest := st.map (cnc β (xE X))) (st := rest.map (cnc β (xE X))) (by rw [cnc_sum hε]; exact hc8)
            have hst := map_take_drop (cnc β (xE X)) st np
            rw [hdr, List.map_cons] at hst
            rw [List.map_cons, cnc_own h5] at hpre
            rw [cnc_own h5] at hst
            cases nst with
            | none => exact q_call (va_runI (bytes := μ'.1) (maxL := μ'.2.2.1) (rest := rest.map (cnc β (xE X))) ⟨hx, hb, hml, hown, hts⟩ hM ⟨callB_of np hts (wsM_good w1) (by rw [wsM, w7]) rfl rfl (hts _ (okw_in w2)) (hts _ (okw_in (w3 rfl))) ⟨hnh.1, hnh.2, hpar⟩ ⟨hRf, by show 8 + (_ + 11) + 38 * d' ≤ _; omega⟩, w6, hts _ (okw_in w5)⟩ ⟨PcM_blind, hpre⟩ rfl hlen2 rfl hst hW hd hfit) hS hgo
            | some hst0 => exact q_call (va_runIN (bytes := μ'.1) (maxL := μ'.2.2.1) (rest := rest.map (cnc β (xE X))) ⟨hx, hb, hml, hown, hts⟩ hM ⟨va_cnB np hts (wsM_good w1) (by rw [wsM, w7]) rfl rfl (hC.2.2.2.2.2.2.2.2.2.2.1 _ _ _ _ (hlk _ rfl)) (hts _ (okw_in w2)) ⟨hnh.1, hnh.2, hpar⟩ ⟨hRf, by show 8 + (_ + 11) + 38 * d' ≤ _; omega⟩, w6, hts _ (okw_in w5)⟩ ⟨PcM_blind, hpre⟩ rfl hlen2 rfl hst hW hd hfit) hS hgo
          · cases hs
        · cases hs
      · cases hs
end MN
end
section
/-! THE PURE PART, 1: what the interpreter comes to, rule by rule -/
def Wp (d : Nat) (μ : Mu) (pc : Nat) (l : Lv) (st : List Av) (σ : St) (P : Option Av → St → Prop) : Prop := ∃ n v σ', xc n d μ pc l st σ = some (v, σ') ∧ P v σ'
/-- a whole call -/
def Ca (d : Nat) (μ : Mu) (as : List Av) (σ : St) (P : Option Av → St → Prop) : Prop := Wp d μ 0 (qent as μ.2.2.1) [] σ P
theorem xc_mono : ∀ (n d : Nat) (μ : Mu) (pc : Nat) (l : Lv) (st : List Av) (σ : St) (r : Option Av × St), xc n d μ pc l st σ = some r → xc (n + 1) d μ pc l st σ = some r := by
  intro n
  induction n with
  | zero => intro d μ pc l st σ r h; cases h
  | succ n ih =>
    intro d μ pc l st σ r h
    rw [xc] at h
    rw [xc]
    cases hd : decode μ.1 pc with
    | error e => simp only [hd] at h; cases h
    | ok il =>
      obtain ⟨i, len⟩ := il
      simp only [hd] at h ⊢
      cases hA : sA i len pc l st with
      | some z => simp only [hA] at h ⊢; exact ih _ _ _ _ _ _ _ h
      | none =>
        simp only [hA] at h ⊢
        cases hB : sB μ.2.1.cls i len pc st σ with
        | some z => simp only [hB] at h ⊢; exact ih _ _ _ _ _ _ _ h
        | none =>
          simp only [hB] at h ⊢
          cases hC : sC μ d i len pc st σ with
          | some z => simp only [hC] at h ⊢; exact ih _ _ _ _ _ _ _ h
          | none =>
            simp only [hC] at h ⊢
            cases hE : sE μ.2.2.2 i len st with
            | some v => simp only [hE] at h ⊢; exact h
            | none =>
              simp only [hE] at h ⊢
              cases d with
              | zero => cases h
              | succ d' =>
                dsimp only at h ⊢
                cases hD : sD μ.2.1.cls i len st σ with
                | none => simp only [hD] at h; cases h
                | some z =>
                  obtain ⟨μ', as, rest⟩ := z
                  simp only [hD] at h ⊢
                  by_cases hc : as.length ≤ μ'.2.2.1 ∧ (∀ a ∈ as, qcat a = 1)
                  · rw [if_pos hc] at h ⊢
                    cases hx : xc n d' μ' 0 (qent as μ'.2.2.1) [] σ with
                    | none => simp only [hx] at h; cases h
                    | some w =>
                      rw [ih _ _ _ _ _ _ _ hx]
                      simp only [hx] at h
                      exact ih _ _ _ _ _ _ _ h
                  · rw [if_neg hc] at h; cases h
theorem xc_more {n m d : Nat} {μ : Mu} {pc : Nat} {l : Lv} {st : List Av} {σ : St} {r : Option Av × St} (h : xc n d μ pc l st σ = some r) : xc (n + m) d μ pc l st σ = some r := by
  induction m with
  | zero => exact h
  | succ m ih => exact xc_mono _ _ _ _ _ _ _ _ ih
section RU
variable {d : Nat} {μ : Mu} {pc q t : Nat} {l : Lv} {st : List Av} {σ : St} {P : Option Av → St → Prop}
theorem Wp.conseq {P' : Option Av → St → Prop} (h : Wp d μ pc l st σ P) (hP : ∀ v σ', P v σ' → P' v σ') : Wp d μ pc l st σ P' := by
  obtain ⟨n, v, σ', h, h2⟩ := h
  exact ⟨n, v, σ', h, hP v σ' h2⟩
theorem wp_sA {i : Instr} {len pc' : Nat} {l' : Lv} {st' : List Av} (hd : decode μ.1 pc = .ok (i, len)) (hs : sA i len pc l st = some (pc', l', st')) (k : Wp d μ pc' l' st' σ P) : Wp d μ pc l st σ P := by
  obtain ⟨n, v, σ', h, hP⟩ := k
  exact ⟨n + 1, v, σ', by rw [xc]; simp only [hd, hs]; exact h, hP⟩
theorem wp_sB {i : Instr} {len pc' : Nat} {st' : List Av} (hd : decode μ.1 pc = .ok (i, len)) (hA : sA i len pc l st = none) (hs : sB μ.2.1.cls i len pc st σ = some (pc', st')) (k : Wp d μ pc' l st' σ P) : Wp d μ pc l st σ P := by
  obtain ⟨n, v, σ', h, hP⟩ := k
  exact ⟨n + 1, v, σ', by rw [xc]; simp only [hd, hA, hs]; exact h, hP⟩
theorem wp_sC {i : Instr} {len pc' : Nat} {st' : List Av} {σ1 : St} (hd : decode μ.1 pc = .ok (i, len)) (hA : sA i len pc l st = none) (hB : sB μ.2.1.cls i len pc st σ = none) (hs : sC μ d i len pc st σ = some (pc', st', σ1)) (k : Wp d μ pc' l st' σ1 P) : Wp d μ pc l st σ P := by
  obtain ⟨n, v, σ', h, hP⟩ := k
  exact ⟨n + 1, v, σ', by rw [xc]; simp only [hd, hA, hB, hs]; exact h, hP⟩
theorem wp_sE {i : Instr} {len : Nat} {v : Option Av} (hd : decode μ.1 pc = .ok (i, len)) (hA : sA i len pc l st = none) (hB : sB μ.2.1.cls i len pc st σ = none) (hC : sC μ d i len pc st σ = none) (hs : sE μ.2.2.2 i len st = some v) (k : P v σ) : Wp d μ pc l st σ P :=
  ⟨1, v, σ, by rw [xc]; simp only [hd, hA, hB, hC, hs], k⟩
theorem wp_sD {i : Instr} {len : Nat} {μ' : Mu} {as rest : List Av} {P1 : Option Av → St → Prop} (hd : decode μ.1 pc = .ok (i, len)) (hA : sA i len pc l st = none) (hB : sB μ.2.1.cls i len pc st σ = none) (hC : sC μ (d + 1) i len pc st σ = none) (hE : sE μ.2.2.2 i len st = none) (hs : sD μ.2.1.cls i len st σ = some (μ', as, rest)) (hl : as.length ≤ μ'.2.2.1) (hq : ∀ a ∈ as, qcat a = 1)
    (hc : Ca d μ' as σ P1) (e : pc + 3 = q) (k : ∀ v σ1, P1 v σ1 → Wp (d + 1) μ q l (v.toList ++ rest) σ1 P) : Wp (d + 1) μ pc l st σ P := by
  subst e
  obtain ⟨n1, v1, σ1, h1, hP1⟩ := hc
  obtain ⟨n2, v, σ', h2, hP⟩ := k v1 σ1 hP1
  refine ⟨n1 + n2 + 1, v, σ', ?_, hP⟩
  rw [xc]
  simp only [hd, hA, hB, hC, hE, hs]
  rw [if_pos ⟨hl, hq⟩, xc_more h1]
  dsimp only
  rw [Nat.add_comm n1 n2]
  exact xc_more h2
/-! stack, locals, numbers -/
theorem wp_null (hd : decode μ.1 pc = .ok (.aconst_null, 1)) (e : pc + 1 = q) (k : Wp d μ q l (vN :: st) σ P) : Wp d μ pc l st σ P := wp_sA hd rfl (by rw [e]; exact k)
theorem wp_iconst {z : Int} {v : Int32} (hd : decode μ.1 pc = .ok (.iconst z, 1)) (hv : Int32.ofInt z = v) (e : pc + 1 = q) (k : Wp d μ q l (vI v :: st) σ P) : Wp d μ pc l st σ P := wp_sA hd rfl (by rw [e, hv]; exact k)
theorem wp_bipush {z : Int} {v : Int32} (hd : decode μ.1 pc = .ok (.bipush z, 2)) (hv : (Int8.ofInt z).toInt32 = v) (e : pc + 2 = q) (k : Wp d μ q l (vI v :: st) σ P) : Wp d μ pc l st σ P := wp_sA hd rfl (by rw [e, hv]; exact k)
theorem wp_sipush {z : Int} {v : Int32} (hd : decode μ.1 pc = .ok (.sipush z, 3)) (hv : (Int16.ofInt z).toInt32 = v) (e : pc + 3 = q) (k : Wp d μ q l (vI v :: st) σ P) : Wp d μ pc l st σ P := wp_sA hd rfl (by rw [e, hv]; exact k)
theorem wp_lconst {z : Fin 2} (hd : decode μ.1 pc = .ok (.lconst z, 1)) (e : pc + 1 = q) (k : Wp d μ q l (vL (Int64.ofNat (z : Nat)) :: st) σ P) : Wp d μ pc l st σ P := wp_sA hd rfl (by rw [e]; exact k)
theorem wp_iload_n {i : Fin 4} {x : Int32} (hd : decode μ.1 pc = .ok (.iload_n i, 1)) (hl : ldv l i = some (vI x)) (e : pc + 1 = q) (k : Wp d μ q l (vI x :: st) σ P) : Wp d μ pc l st σ P :=
  wp_sA (pc' := q) (l' := l) (st' := vI x :: st) hd (by show (if 1 = 1 then liI l i (pc + 1) st else none) = _; rw [if_pos rfl, liI, hl, e]) k
theorem wp_iload {i : Nat} {x : Int32} (hd : decode μ.1 pc = .ok (.iload i, 2)) (hl : ldv l i = some (vI x)) (e : pc + 2 = q) (k : Wp d μ q l (vI x :: st) σ P) : Wp d μ pc l st σ P :=
  wp_sA (pc' := q) (l' := l) (st' := vI x :: st) hd (by show (if 2 = 2 then liI l i (pc + 2) st else none) = _; rw [if_pos rfl, liI, hl, e]) k
theorem wp_aload_n {i : Fin 4} {r : Option Rf} (hd : decode μ.1 pc = .ok (.aload_n i, 1)) (hl : ldv l i = some (.inr (.inr r))) (e : pc + 1 = q) (k : Wp d μ q l (.inr (.inr r) :: st) σ P) : Wp d μ pc l st σ P :=
  wp_sA (pc' := q) (l' := l) (st' := .inr (.inr r) :: st) hd (by show (if 1 = 1 then liA l i (pc + 1) st else none) = _; rw [if_pos rfl, liA, hl, e]) k
theorem wp_aload {i : Nat} {r : Option Rf} (hd : decode μ.1 pc = .ok (.aload i, 2)) (hl : ldv l i = some (.inr (.inr r))) (e : pc + 2 = q) (k : Wp d μ q l (.inr (.inr r) :: st) σ P) : Wp d μ pc l st σ P :=
  wp_sA (pc' := q) (l' := l) (st' := .inr (.inr r) :: st) hd (by show (if 2 = 2 then liA l i (pc + 2) st else none) = _; rw [if_pos rfl, liA, hl, e]) k
theorem wp_lload_n {i : Fin 4} {x : Int64} (hd : decode μ.1 pc = .ok (.lload_n i, 1)) (hl : ldv l i = some (vL x)) (e : pc + 1 = q) (k : Wp d μ q l (vL x :: st) σ P) : Wp d μ pc l st σ P :=
  wp_sA (pc' := q) (l' := l) (st' := vL x :: st) hd (by show (if 1 = 1 then liL l i (pc + 1) st else none) = _; rw [if_pos rfl, liL, hl, e]) k
theorem wp_lload {i : Nat} {x : Int64} (hd : decode μ.1 pc = .ok (.lload i, 2)) (hl : ldv l i = some (vL x)) (e : pc + 2 = q) (k : Wp d μ q l (vL x :: st) σ P) : Wp d μ pc l st σ P :=
  wp_sA (pc' := q) (l' := l) (st' := vL x :: st) hd (by show (if 2 = 2 then liL l i (pc + 2) st else none) = _; rw [if_pos rfl, liL, hl, e]) k
theorem wp_istore_n {i : Fin 4} {x : Int32} {l' : Lv} (hd : decode μ.1 pc = .ok (.istore_n i, 1)) (hl : qsto l i (vI x) = some l') (e : pc + 1 = q) (k : Wp d μ q l' st σ P) : Wp d μ pc l (vI x :: st) σ P :=
  wp_sA (pc' := q) (l' := l') (st' := st) hd (by show (if 1 = 1 then siI l i (pc + 1) (vI x :: st) else none) = _; rw [if_pos rfl, siI, hl, e]; rfl) k
theorem wp_istore {i : Nat} {x : Int32} {l' : Lv} (hd : decode μ.1 pc = .ok (.istore i, 2)) (hl : qsto l i (vI x) = some l') (e : pc + 2 = q) (k : Wp d μ q l' st σ P) : Wp d μ pc l (vI x :: st) σ P :=
  wp_sA (pc' := q) (l' := l') (st' := st) hd (by show (if 2 = 2 then siI l i (pc + 2) (vI x :: st) else none) = _; rw [if_pos rfl, siI, hl, e]; rfl) k
theorem wp_astore_n {i : Fin 4} {r : Option Rf} {l' : Lv} (hd : decode μ.1 pc = .ok (.astore_n i, 1)) (hl : qsto l i (.inr (.inr r)) = some l') (e : pc + 1 = q) (k : Wp d μ q l' st σ P) : Wp d μ pc l (.inr (.inr r) :: st) σ P :=
  wp_sA (pc' := q) (l' := l') (st' := st) hd (by show (if 1 = 1 then siA l i (pc + 1) (.inr (.inr r) :: st) else none) = _; rw [if_pos rfl, siA, hl, e]; rfl) k
theorem wp_astore {i : Nat} {r : Option Rf} {l' : Lv} (hd : decode μ.1 pc = .ok (.astore i, 2)) (hl : qsto l i (.inr (.inr r)) = some l') (e : pc + 2 = q) (k : Wp d μ q l' st σ P) : Wp d μ pc l (.inr (.inr r) :: st) σ P :=
  wp_sA (pc' := q) (l' := l') (st' := st) hd (by show (if 2 = 2 then siA l i (pc + 2) (.inr (.inr r) :: st) else none) = _; rw [if_pos rfl, siA, hl, e]; rfl) k
theorem wp_lstore_n {i : Fin 4} {x : Int64} {l' : Lv} (hd : decode μ.1 pc = .ok (.lstore_n i, 1)) (hl : qstoL l i (vL x) = some l') (e : pc + 1 = q) (k : Wp d μ q l' st σ P) : Wp d μ pc l (vL x :: st) σ P :=
  wp_sA (pc' := q) (l' := l') (st' := st) hd (by show (if 1 = 1 then siL l i (pc + 1) (vL x :: st) else none) = _; rw [if_pos rfl, siL, hl, e]; rfl) k
theorem wp_lstore {i : Nat} {x : Int64} {l' : Lv} (hd : decode μ.1 pc = .ok (.lstore i, 2)) (hl : qstoL l i (vL x) = some l') (e : pc + 2 = q) (k : Wp d μ q l' st σ P) : Wp d μ pc l (vL x :: st) σ P :=
  wp_sA (pc' := q) (l' := l') (st' := st) hd (by show (if 2 = 2 then siL l i (pc + 2) (vL x :: st) else none) = _; rw [if_pos rfl, siL, hl, e]; rfl) k
theorem wp_iinc {i : Nat} {z : Int} {x v : Int32} {l' : Lv} (hd : decode μ.1 pc = .ok (.iinc i z, 3)) (hx : ldv l i = some (vI x)) (hv : Int32.ofInt z = v) (hl : qsto l i (vI (x + v)) = some l') (e : pc + 3 = q) (k : Wp d μ q l' st σ P) : Wp d μ pc l st σ P := by
  subst hv
  exact wp_sA (pc' := q) (l' := l') (st' := st) hd (by simp only [sA]; rw [if_pos trivial, hx]; dsimp only; rw [hl, e]; rfl) k
theorem wp_iadd {x y : Int32} (hd : decode μ.1 pc = .ok (.iadd, 1)) (e : pc + 1 = q) (k : Wp d μ q l (vI (x + y) :: st) σ P) : Wp d μ pc l (vI y :: vI x :: st) σ P := wp_sA hd rfl (by rw [e]; exact k)
theorem wp_isub {x y : Int32} (hd : decode μ.1 pc = .ok (.isub, 1)) (e : pc + 1 = q) (k : Wp d μ q l (vI (x - y) :: st) σ P) : Wp d μ pc l (vI y :: vI x :: st) σ P := wp_sA hd rfl (by rw [e]; exact k)
theorem wp_imul {x y : Int32} (hd : decode μ.1 pc = .ok (.imul, 1)) (e : pc + 1 = q) (k : Wp d μ q l (vI (x * y) :: st) σ P) : Wp d μ pc l (vI y :: vI x :: st) σ P := wp_sA hd rfl (by rw [e]; exact k)
theorem wp_iand {x y : Int32} (hd : decode μ.1 pc = .ok (.iand, 1)) (e : pc + 1 = q) (k : Wp d μ q l (vI (x &&& y) :: st) σ P) : Wp d μ pc l (vI y :: vI x :: st) σ P := wp_sA hd rfl (by rw [e]; exact k)
theorem wp_ior {x y : Int32} (hd : decode μ.1 pc = .ok (.ior, 1)) (e : pc + 1 = q) (k : Wp d μ q l (vI (x ||| y) :: st) σ P) : Wp d μ pc l (vI y :: vI x :: st) σ P := wp_sA hd rfl (by rw [e]; exact k)
theorem wp_ixor {x y : Int32} (hd : decode μ.1 pc = .ok (.ixor, 1)) (e : pc + 1 = q) (k : Wp d μ q l (vI (x ^^^ y) :: st) σ P) : Wp d μ pc l (vI y :: vI x :: st) σ P := wp_sA hd rfl (by rw [e]; exact k)
theorem wp_ishl {x y : Int32} (hd : decode μ.1 pc = .ok (.ishl, 1)) (e : pc + 1 = q) (k : Wp d μ q l (vI (x <<< (y &&& 31)) :: st) σ P) : Wp d μ pc l (vI y :: vI x :: st) σ P := wp_sA hd rfl (by rw [e]; exact k)
theorem wp_ishr {x y : Int32} (hd : decode μ.1 pc = .ok (.ishr, 1)) (e : pc + 1 = q) (k : Wp d μ q l (vI (x >>> (y &&& 31)) :: st) σ P) : Wp d μ pc l (vI y :: vI x :: st) σ P := wp_sA hd rfl (by rw [e]; exact k)
theorem wp_iushr {x y : Int32} (hd : decode μ.1 pc = .ok (.iushr, 1)) (e : pc + 1 = q) (k : Wp d μ q l (vI (x.toUInt32 >>> (y.toUInt32 &&& Int32.toUInt32 31)).toInt32 :: st) σ P) : Wp d μ pc l (vI y :: vI x :: st) σ P := wp_sA hd rfl (by rw [e]; exact k)
theorem wp_idiv {x y : Int32} (hd : decode μ.1 pc = .ok (.idiv, 1)) (hy : ¬ y = 0) (e : pc + 1 = q) (k : Wp d μ q l (vI (x / y) :: st) σ P) : Wp d μ pc l (vI y :: vI x :: st) σ P := wp_sA (pc' := q) (l' := l) (st' := vI (x / y) :: st) hd (by simp only [sA]; rw [if_pos trivial, if_neg hy, e]) k
theorem wp_irem {x y : Int32} (hd : decode μ.1 pc = .ok (.irem, 1)) (hy : ¬ y = 0) (e : pc + 1 = q) (k : Wp d μ q l (vI (x - x / y * y) :: st) σ P) : Wp d μ pc l (vI y :: vI x :: st) σ P := wp_sA (pc' := q) (l' := l) (st' := vI (x - x / y * y) :: st) hd (by simp only [sA]; rw [if_pos trivial, if_neg hy, e]) k
theorem wp_ineg {x : Int32} (hd : decode μ.1 pc = .ok (.ineg, 1)) (e : pc + 1 = q) (k : Wp d μ q l (vI (-x) :: st) σ P) : Wp d μ pc l (vI x :: st) σ P := wp_sA hd rfl (by rw [e]; exact k)
theorem wp_i2b {x : Int32} (hd : decode μ.1 pc = .ok (.i2b, 1)) (e : pc + 1 = q) (k : Wp d μ q l (vI x.toInt8.toInt32 :: st) σ P) : Wp d μ pc l (vI x :: st) σ P := wp_sA hd rfl (by rw [e]; exact k)
theorem wp_i2s {x : Int32} (hd : decode μ.1 pc = .ok (.i2s, 1)) (e : pc + 1 = q) (k : Wp d μ q l (vI x.toInt16.toInt32 :: st) σ P) : Wp d μ pc l (vI x :: st) σ P := wp_sA hd rfl (by rw [e]; exact k)
theorem wp_i2c {x : Int32} (hd : decode μ.1 pc = .ok (.i2c, 1)) (e : pc + 1 = q) (k : Wp d μ q l (vI (x.toUInt32 % 65536).toInt32 :: st) σ P) : Wp d μ pc l (vI x :: st) σ P := wp_sA hd rfl (by rw [e]; exact k)
theorem wp_i2l {x : Int32} (hd : decode μ.1 pc = .ok (.i2l, 1)) (e : pc + 1 = q) (k : Wp d μ q l (vL x.toInt64 :: st) σ P) : Wp d μ pc l (vI x :: st) σ P := wp_sA hd rfl (by rw [e]; exact k)
theorem wp_l2i {x : Int64} (hd : decode μ.1 pc = .ok (.l2i, 1)) (e : pc + 1 = q) (k : Wp d μ q l (vI x.toInt32 :: st) σ P) : Wp d μ pc l (vL x :: st) σ P := wp_sA hd rfl (by rw [e]; exact k)
theorem wp_ladd {x y : Int64} (hd : decode μ.1 pc = .ok (.ladd, 1)) (e : pc + 1 = q) (k : Wp d μ q l (vL (x + y) :: st) σ P) : Wp d μ pc l (vL y :: vL x :: st) σ P := wp_sA hd rfl (by rw [e]; exact k)
theorem wp_lsub {x y : Int64} (hd : decode μ.1 pc = .ok (.lsub, 1)) (e : pc + 1 = q) (k : Wp d μ q l (vL (x - y) :: st) σ P) : Wp d μ pc l (vL y :: vL x :: st) σ P := wp_sA hd rfl (by rw [e]; exact k)
theorem wp_lneg {x : Int64} (hd : decode μ.1 pc = .ok (.lneg, 1)) (e : pc + 1 = q) (k : Wp d μ q l (vL (-x) :: st) σ P) : Wp d μ pc l (vL x :: st) σ P := wp_sA hd rfl (by rw [e]; exact k)
theorem wp_lcmp {x y : Int64} (hd : decode μ.1 pc = .ok (.lcmp, 1)) (e : pc + 1 = q) (k : Wp d μ q l (vI (lg_cmp x y) :: st) σ P) : Wp d μ pc l (vL y :: vL x :: st) σ P := wp_sA hd rfl (by rw [e]; exact k)
theorem wp_dup {v : Av} (hd : decode μ.1 pc = .ok (.dup, 1)) (hv : qcat v = 1) (e : pc + 1 = q) (k : Wp d μ q l (v :: v :: st) σ P) : Wp d μ pc l (v :: st) σ P := wp_sA (pc' := q) (l' := l) (st' := v :: v :: st) hd (by simp only [sA]; rw [if_pos trivial, if_pos hv, e]) k
theorem wp_dup2 {v w : Av} (hd : decode μ.1 pc = .ok (.dup2, 1)) (hv : qcat v = 1) (hw : qcat w = 1) (e : pc + 1 = q) (k : Wp d μ q l (v :: w :: v :: w :: st) σ P) : Wp d μ pc l (v :: w :: st) σ P := wp_sA (pc' := q) (l' := l) (st' := v :: w :: v :: w :: st) hd (by simp only [sA]; rw [if_pos trivial, if_pos ⟨hv, hw⟩, e]) k
theorem wp_pop {v : Av} (hd : decode μ.1 pc = .ok (.pop, 1)) (hv : qcat v = 1) (e : pc + 1 = q) (k : Wp d μ q l st σ P) : Wp d μ pc l (v :: st) σ P := wp_sA (pc' := q) (l' := l) (st' := st) hd (by simp only [sA]; rw [if_pos trivial, if_pos hv, e]) k
theorem wp_goto {o : Int} (hd : decode μ.1 pc = .ok (.goto o, 3)) (ht : qjmp pc o = some t) (k : Wp d μ t l st σ P) : Wp d μ pc l st σ P := wp_sA (pc' := t) (l' := l) (st' := st) hd (by simp only [sA]; rw [if_pos trivial, ht]; rfl) k
theorem wp_cmp {c : ClassFile.Cond} {o : Int} {x y : Int32} (hd : decode μ.1 pc = .ok (.if_icmp c o, 3)) (ht : qjmp pc o = some t) (e : pc + 3 = q) (k1 : cndB c x y = true → Wp d μ t l st σ P) (k2 : ¬ cndB c x y = true → Wp d μ q l st σ P) : Wp d μ pc l (vI y :: vI x :: st) σ P := by
  refine wp_sA (pc' := if cndB c x y = true then t else q) (l' := l) (st' := st) hd (by simp only [sA]; rw [if_pos trivial, ht, e]; rfl) ?_
  by_cases h : cndB c x y = true
  · rw [if_pos h]; exact k1 h
  · rw [if_neg h]; exact k2 h
theorem wp_cmp0 {c : ClassFile.Cond} {o : Int} {x : Int32} (hd : decode μ.1 pc = .ok (.ifCond c o, 3)) (ht : qjmp pc o = some t) (e : pc + 3 = q) (k1 : cndB c x 0 = true → Wp d μ t l st σ P) (k2 : ¬ cndB c x 0 = true → Wp d μ q l st σ P) : Wp d μ pc l (vI x :: st) σ P := by
  refine wp_sA (pc' := if cndB c x 0 = true then t else q) (l' := l) (st' := st) hd (by simp only [sA]; rw [if_pos trivial, ht, e]; rfl) ?_
  by_cases h : cndB c x 0 = true
  · rw [if_pos h]; exact k1 h
  · rw [if_neg h]; exact k2 h
def bI (p : Prop) [Decidable p] : Int32 := if p then 1 else 0
theorem bI_0 {p : Prop} [Decidable p] : bI p = 0 ↔ ¬ p := by
  unfold bI
  by_cases h : p
  · rw [if_pos h]; exact ⟨fun z => absurd z (by decide), fun z => absurd h z⟩
  · rw [if_neg h]; exact ⟨fun _ => h, fun _ => rfl⟩
end RU
section RU2
variable {d : Nat} {μ : Mu} {pc q t : Nat} {l : Lv} {st : List Av} {σ : St} {P : Option Av → St → Prop} {o : Int} {x y : Int32}
theorem wp_icmp_eq (hd : decode μ.1 pc = .ok (.if_icmp .eq o, 3)) (ht : qjmp pc o = some t) (e : pc + 3 = q) (k1 : x = y → Wp d μ t l st σ P) (k2 : ¬ x = y → Wp d μ q l st σ P) : Wp d μ pc l (vI y :: vI x :: st) σ P := wp_cmp hd ht e (fun h => k1 (of_decide_eq_true h)) (fun h => k2 (fun z => h (decide_eq_true z)))
theorem wp_if_eq (hd : decode μ.1 pc = .ok (.ifCond .eq o, 3)) (ht : qjmp pc o = some t) (e : pc + 3 = q) (k1 : x = 0 → Wp d μ t l st σ P) (k2 : ¬ x = 0 → Wp d μ q l st σ P) : Wp d μ pc l (vI x :: st) σ P := wp_cmp0 hd ht e (fun h => k1 (of_decide_eq_true h)) (fun h => k2 (fun z => h (decide_eq_true z)))
theorem wp_icmp_ne (hd : decode μ.1 pc = .ok (.if_icmp .ne o, 3)) (ht : qjmp pc o = some t) (e : pc + 3 = q) (k1 : ¬ x = y → Wp d μ t l st σ P) (k2 : x = y → Wp d μ q l st σ P) : Wp d μ pc l (vI y :: vI x :: st) σ P := wp_cmp hd ht e (fun h => k1 (of_decide_eq_true h)) (fun h => k2 (Decidable.of_not_not (fun z => h (decide_eq_true z))))
theorem wp_if_ne (hd : decode μ.1 pc = .ok (.ifCond .ne o, 3)) (ht : qjmp pc o = some t) (e : pc + 3 = q) (k1 : ¬ x = 0 → Wp d μ t l st σ P) (k2 : x = 0 → Wp d μ q l st σ P) : Wp d μ pc l (vI x :: st) σ P := wp_cmp0 hd ht e (fun h => k1 (of_decide_eq_true h)) (fun h => k2 (Decidable.of_not_not (fun z => h (decide_eq_true z))))
theorem wp_icmp_lt (hd : decode μ.1 pc = .ok (.if_icmp .lt o, 3)) (ht : qjmp pc o = some t) (e : pc + 3 = q) (k1 : x < y → Wp d μ t l st σ P) (k2 : ¬ x < y → Wp d μ q l st σ P) : Wp d μ pc l (vI y :: vI x :: st) σ P := wp_cmp hd ht e (fun h => k1 (of_decide_eq_true h)) (fun h => k2 (fun z => h (decide_eq_true z)))
theorem wp_if_lt (hd : decode μ.1 pc = .ok (.ifCond .lt o, 3)) (ht : qjmp pc o = some t) (e : pc + 3 = q) (k1 : x < 0 → Wp d μ t l st σ P) (k2 : ¬ x < 0 → Wp d μ q l st σ P) : Wp d μ pc l (vI x :: st) σ P := wp_cmp0 hd ht e (fun h => k1 (of_decide_eq_true h)) (fun h => k2 (fun z => h (decide_eq_true z)))
theorem wp_icmp_ge (hd : decode μ.1 pc = .ok (.if_icmp .ge o, 3)) (ht : qjmp pc o = some t) (e : pc + 3 = q) (k1 : y ≤ x → Wp d μ t l st σ P) (k2 : ¬ y ≤ x → Wp d μ q l st σ P) : Wp d μ pc l (vI y :: vI x :: st) σ P := wp_cmp hd ht e (fun h => k1 (of_decide_eq_true h)) (fun h => k2 (fun z => h (decide_eq_true z)))
theorem wp_if_ge (hd : decode μ.1 pc = .ok (.ifCond .ge o, 3)) (ht : qjmp pc o = some t) (e : pc + 3 = q) (k1 : 0 ≤ x → Wp d μ t l st σ P) (k2 : ¬ 0 ≤ x → Wp d μ q l st σ P) : Wp d μ pc l (vI x :: st) σ P := wp_cmp0 hd ht e (fun h => k1 (of_decide_eq_true h)) (fun h => k2 (fun z => h (decide_eq_true z)))
theorem wp_icmp_gt (hd : decode μ.1 pc = .ok (.if_icmp .gt o, 3)) (ht : qjmp pc o = some t) (e : pc + 3 = q) (k1 : y < x → Wp d μ t l st σ P) (k2 : ¬ y < x → Wp d μ q l st σ P) : Wp d μ pc l (vI y :: vI x :: st) σ P := wp_cmp hd ht e (fun h => k1 (of_decide_eq_true h)) (fun h => k2 (fun z => h (decide_eq_true z)))
theorem wp_if_gt (hd : decode μ.1 pc = .ok (.ifCond .gt o, 3)) (ht : qjmp pc o = some t) (e : pc + 3 = q) (k1 : 0 < x → Wp d μ t l st σ P) (k2 : ¬ 0 < x → Wp d μ q l st σ P) : Wp d μ pc l (vI x :: st) σ P := wp_cmp0 hd ht e (fun h => k1 (of_decide_eq_true h)) (fun h => k2 (fun z => h (decide_eq_true z)))
theorem wp_icmp_le (hd : decode μ.1 pc = .ok (.if_icmp .le o, 3)) (ht : qjmp pc o = some t) (e : pc + 3 = q) (k1 : x ≤ y → Wp d μ t l st σ P) (k2 : ¬ x ≤ y → Wp d μ q l st σ P) : Wp d μ pc l (vI y :: vI x :: st) σ P := wp_cmp hd ht e (fun h => k1 (of_decide_eq_true h)) (fun h => k2 (fun z => h (decide_eq_true z)))
theorem wp_if_le (hd : decode μ.1 pc = .ok (.ifCond .le o, 3)) (ht : qjmp pc o = some t) (e : pc + 3 = q) (k1 : x ≤ 0 → Wp d μ t l st σ P) (k2 : ¬ x ≤ 0 → Wp d μ q l st σ P) : Wp d μ pc l (vI x :: st) σ P := wp_cmp0 hd ht e (fun h => k1 (of_decide_eq_true h)) (fun h => k2 (fun z => h (decide_eq_true z)))
theorem wp_if_eq_b {p : Prop} [Decidable p] (hd : decode μ.1 pc = .ok (.ifCond .eq o, 3)) (ht : qjmp pc o = some t) (e : pc + 3 = q) (k1 : ¬ p → Wp d μ t l st σ P) (k2 : p → Wp d μ q l st σ P) : Wp d μ pc l (vI (bI p) :: st) σ P := wp_if_eq hd ht e (fun h => k1 (bI_0.mp h)) (fun h => k2 (Decidable.of_not_not (fun z => h (bI_0.mpr z))))
theorem wp_if_ne_b {p : Prop} [Decidable p] (hd : decode μ.1 pc = .ok (.ifCond .ne o, 3)) (ht : qjmp pc o = some t) (e : pc + 3 = q) (k1 : p → Wp d μ t l st σ P) (k2 : ¬ p → Wp d μ q l st σ P) : Wp d μ pc l (vI (bI p) :: st) σ P := wp_if_ne hd ht e (fun h => k1 (Decidable.of_not_not (fun z => h (bI_0.mpr z)))) (fun h => k2 (bI_0.mp h))
theorem wp_ifnullN (hd : decode μ.1 pc = .ok (.ifnull o, 3)) (ht : qjmp pc o = some t) (k : Wp d μ t l st σ P) : Wp d μ pc l (vN :: st) σ P := wp_sA (pc' := t) (l' := l) (st' := st) hd (by simp only [sA]; rw [if_pos trivial, ht]; rfl) k
theorem wp_ifnullS {r : Rf} (hd : decode μ.1 pc = .ok (.ifnull o, 3)) (h5 : 5 ≤ r.1) (e : pc + 3 = q) (k : Wp d μ q l st σ P) : Wp d μ pc l (.inr (.inr (some r)) :: st) σ P := wp_sA (pc' := q) (l' := l) (st' := st) hd (by simp only [sA]; rw [if_pos trivial, if_pos h5, e]) k
theorem wp_ifnonnullN (hd : decode μ.1 pc = .ok (.ifnonnull o, 3)) (e : pc + 3 = q) (k : Wp d μ q l st σ P) : Wp d μ pc l (vN :: st) σ P := wp_sA (pc' := q) (l' := l) (st' := st) hd (by simp only [sA]; rw [if_pos trivial, e]) k
theorem wp_ifnonnullS {r : Rf} (hd : decode μ.1 pc = .ok (.ifnonnull o, 3)) (h5 : 5 ≤ r.1) (ht : qjmp pc o = some t) (k : Wp d μ t l st σ P) : Wp d μ pc l (.inr (.inr (some r)) :: st) σ P := wp_sA (pc' := t) (l' := l) (st' := st) hd (by simp only [sA]; rw [if_pos trivial, if_pos h5, ht]; rfl) k
theorem wp_tswI {df lo hi : Int} {os : Array Int} {len : Nat} (j : Nat) (hd : decode μ.1 pc = .ok (.tableswitch df lo hi os, len)) (hx : x.toInt = lo + j) (hj : lo + j ≤ hi) (ho : os[j]? = some o) (ht : qjmp pc o = some t) (k : Wp d μ t l st σ P) : Wp d μ pc l (vI x :: st) σ P := by
  refine wp_sA (pc' := t) (l' := l) (st' := st) hd ?_ k
  simp only [sA]
  rw [if_neg (by omega), show (x.toInt - lo).toNat = j by omega, ho]
  dsimp only
  rw [ht]; rfl
theorem wp_tswO {df lo hi : Int} {os : Array Int} {len : Nat} (hd : decode μ.1 pc = .ok (.tableswitch df lo hi os, len)) (hx : x.toInt < lo ∨ hi < x.toInt) (ht : qjmp pc df = some t) (k : Wp d μ t l st σ P) : Wp d μ pc l (vI x :: st) σ P := by
  refine wp_sA (pc' := t) (l' := l) (st' := st) hd ?_ k
  simp only [sA]
  rw [if_pos hx, ht]; rfl
theorem wp_lsw {df : Int} {ps : Array (Int × Int)} {len : Nat} (hd : decode μ.1 pc = .ok (.lookupswitch df ps, len)) (ha : (ps.toList.zip (ps.toList.drop 1)).all (fun (a, next) => a.1 < next.1) = true) (ho : Op.lookupswitch.offset ps.toList df x.toInt = o) (ht : qjmp pc o = some t) (k : Wp d μ t l st σ P) : Wp d μ pc l (vI x :: st) σ P := by
  refine wp_sA (pc' := t) (l' := l) (st' := st) hd ?_ k
  simp only [sA]
  rw [if_pos ha, ho, ht]; rfl
/-! returns -/
theorem wp_ret (hd : decode μ.1 pc = .ok (.return_, 1)) (hr : μ.2.2.2 = none) (k : P none σ) : Wp d μ pc l [] σ P := wp_sE hd rfl rfl rfl (by rw [hr]; rfl) k
theorem wp_iret {ty : FieldType} (hd : decode μ.1 pc = .ok (.ireturn, 1)) (hr : μ.2.2.2 = some ty) (hn : narrow ty (.int x) = .int x) (k : P (some (vI x)) σ) : Wp d μ pc l [vI x] σ P := wp_sE hd rfl rfl rfl (by rw [hr]; show (if 1 = 1 then (if narrow ty (.int x) = .int x then some (some (vI x)) else none) else none) = _; rw [if_pos rfl, if_pos hn]) k
theorem wp_bret {p : Prop} [Decidable p] (hd : decode μ.1 pc = .ok (.ireturn, 1)) (hr : μ.2.2.2 = some .boolean) (k : P (some (vI (bI p))) σ) : Wp d μ pc l [vI (bI p)] σ P := wp_iret hd hr (by unfold bI; by_cases h : p <;> simp only [h, if_true, if_false] <;> rfl) k
theorem wp_lret {z : Int64} (hd : decode μ.1 pc = .ok (.lreturn, 1)) (hr : μ.2.2.2 = some .long) (k : P (some (vL z)) σ) : Wp d μ pc l [vL z] σ P := wp_sE hd rfl rfl rfl (by rw [hr]; rfl) k
theorem wp_aret {ty : FieldType} {r : Option Rf} (hd : decode μ.1 pc = .ok (.areturn, 1)) (hr : μ.2.2.2 = some ty) (ht : rfT ty = true) (k : P (some (.inr (.inr r))) σ) : Wp d μ pc l [.inr (.inr r)] σ P := wp_sE hd rfl rfl rfl (by rw [hr]; show (if 1 = 1 then (if rfT ty = true then _ else none) else none) = _; rw [if_pos rfl, if_pos ht]) k
end RU2
end
section
/-! THE PURE PART, 2: typed heaps: whole numbers apart from references -/
abbrev Sx : Type := (Rf → Nat → Int32) × (Rf → Nat → Option Rf) × (Rf → Nat) × Nat × Nat
def isI (t k : Nat) : Bool := match t with
  | 2 => decide (k = 0)
  | 4 => false
  | 10 => decide (8 ≤ k)
  | 11 => decide (6 ≤ k)
  | 13 => false
  | 18 => false
  | 20 => decide (3 ≤ k)
  | 21 => decide (1 ≤ k)
  | 25 => false
  | 26 => false
  | 28 => decide (1 ≤ k)
  | 30 => decide (2 ≤ k)
  | 32 => decide (1 ≤ k)
  | 34 => decide (k < 2)
  | 40 => !([0, 1, 2, 4, 5, 13, 14, 15, 18, 20, 21, 22, 23, 24, 25, 26, 27, 28, 29, 30, 31].contains k)
  | _ => true
def hp (s : Sx) : Hp := fun r k => if isI r.1 k = true then vI (s.1 r k) else .inr (.inr (s.2.1 r k))
def hs (s : Sx) : St := (hp s, s.2.2)
def pI (s : Sx) (r : Rf) (k : Nat) (v : Int32) : Sx := (fun z j => if z = r ∧ j = k then v else s.1 z j, s.2)
def pR (s : Sx) (r : Rf) (k : Nat) (v : Option Rf) : Sx := (s.1, fun z j => if z = r ∧ j = k then v else s.2.1 z j, s.2.2)
def pA (s : Sx) (r : Rf) (f : Nat → Int32) : Sx := (fun z j => if z = r then f j else s.1 z j, s.2)
theorem hp_I {s : Sx} {r : Rf} {k : Nat} (h : isI r.1 k = true) : hp s r k = vI (s.1 r k) := by unfold hp; rw [if_pos h]
theorem hp_R {s : Sx} {r : Rf} {k : Nat} (h : isI r.1 k = false) : hp s r k = .inr (.inr (s.2.1 r k)) := by unfold hp; rw [if_neg (by rw [h]; decide)]
theorem hput_I {s : Sx} {r : Rf} {k : Nat} {v : Int32} (h : isI r.1 k = true) : hput (hp s) r k (vI v) = hp (pI s r k v) := by
  funext z j
  unfold hput hp pI
  by_cases hz : z = r ∧ j = k
  · obtain ⟨rfl, rfl⟩ := hz
    rw [if_pos ⟨rfl, rfl⟩, if_pos h]; dsimp only; rw [if_pos ⟨rfl, rfl⟩]
  · rw [if_neg hz]; dsimp only; rw [if_neg hz]
theorem hput_R {s : Sx} {r : Rf} {k : Nat} {v : Option Rf} (h : isI r.1 k = false) : hput (hp s) r k (.inr (.inr v)) = hp (pR s r k v) := by
  funext z j
  unfold hput hp pR
  by_cases hz : z = r ∧ j = k
  · obtain ⟨rfl, rfl⟩ := hz
    rw [if_pos ⟨rfl, rfl⟩, if_neg (by rw [h]; decide)]; dsimp only; rw [if_pos ⟨rfl, rfl⟩]
  · rw [if_neg hz]; dsimp only; rw [if_neg hz]
theorem hnew_A {s : Sx} {r : Rf} {f : Nat → Int32} (h : ∀ k, isI r.1 k = true) : hnew (hp s) r (fun k => vI (f k)) = hp (pA s r f) := by
  funext z j
  unfold hnew hp pA
  by_cases hz : z = r
  · subst hz
    rw [if_pos rfl, if_pos (h j)]; dsimp only; rw [if_pos rfl]
  · rw [if_neg hz]; dsimp only; rw [if_neg hz]
/-- is an array of whole numbers -/
def isA (t : Nat) : Bool := [0, 1, 3, 14, 15, 16, 17, 22, 23, 24, 27, 29, 33, 35, 36, 41, 42, 43].contains t
theorem isA_I {t : Nat} (h : isA t = true) (k : Nat) : isI t k = true := by
  unfold isA at h
  simp only [List.contains_cons, List.contains_nil, Bool.or_eq_true, beq_iff_eq, Bool.or_false] at h
  rcases h with h | h | h | h | h | h | h | h | h | h | h | h | h | h | h | h | h | h <;> subst h <;> rfl
section TH
variable {d : Nat} {μ : Mu} {pc q : Nat} {l : Lv} {st : List Av} {P : Option Av → St → Prop} {s : Sx} {r : Rf} {ci f k : Nat}
theorem wp_ldc {σ : St} {v : Int32} (hd : decode μ.1 pc = .ok (.ldc k, 2)) (hf : fCst μ.2.1.cls k = some v) (e : pc + 2 = q) (kk : Wp d μ q l (vI v :: st) σ P) : Wp d μ pc l st σ P :=
  wp_sB (pc' := q) (st' := vI v :: st) hd rfl (by simp only [sB]; rw [if_pos trivial, hf]; dsimp only; rw [e]) kk
theorem wp_ldcw {σ : St} {v : Int32} (hd : decode μ.1 pc = .ok (.ldc_w k, 3)) (hf : fCst μ.2.1.cls k = some v) (e : pc + 3 = q) (kk : Wp d μ q l (vI v :: st) σ P) : Wp d μ pc l st σ P :=
  wp_sB (pc' := q) (st' := vI v :: st) hd rfl (by simp only [sB]; rw [if_pos trivial, hf]; dsimp only; rw [e]) kk
theorem wp_ldcS {σ : St} {j : Nat} (hd : decode μ.1 pc = .ok (.ldc k, 2)) (hf : fCst μ.2.1.cls k = none ∧ fStr μ.2.1.cls k = some j) (e : pc + 2 = q) (kk : Wp d μ q l (vR 2 j 0 :: st) σ P) : Wp d μ pc l st σ P :=
  wp_sB (pc' := q) (st' := vR 2 j 0 :: st) hd rfl (by simp only [sB]; rw [if_pos trivial, hf.1]; dsimp only; rw [hf.2]; dsimp only; rw [e]) kk
theorem wp_gets {σ : St} {v : Av} (hd : decode μ.1 pc = .ok (.getstatic k, 3)) (hf : sta μ.2.1.cls k = some v) (e : pc + 3 = q) (kk : Wp d μ q l (v :: st) σ P) : Wp d μ pc l st σ P :=
  wp_sB (pc' := q) (st' := v :: st) hd rfl (by simp only [sB]; rw [if_pos trivial, hf]; dsimp only; rw [e]) kk
def gok (t ci f : Nat) : Bool := decide (kd t = ci) && (decide (ci < 9) && isI t f)
def gokR (t ci f : Nat) : Bool := decide (kd t = ci) && (decide (ci < 9) && !isI t f)
theorem wp_getI (hd : decode μ.1 pc = .ok (.getfield k, 3)) (hf : fld μ.2.1.cls k = some (ci, f)) (ho : okr (hs s) r = true) (hc : gok r.1 ci f = true) (e : pc + 3 = q) (kk : Wp d μ q l (vI (s.1 r f) :: st) (hs s) P) : Wp d μ pc l (.inr (.inr (some r)) :: st) (hs s) P := by
  unfold gok at hc
  simp only [Bool.and_eq_true, decide_eq_true_eq] at hc
  refine wp_sB (pc' := q) (st' := vI (s.1 r f) :: st) hd rfl ?_ kk
  simp only [sB]
  rw [if_pos trivial, hf]
  dsimp only
  rw [if_pos ⟨hc.1, Or.inl ⟨hc.2.1, ho⟩⟩, e]
  show some (q, hp s r f :: st) = _
  rw [hp_I hc.2.2]
theorem wp_getR {o : Option Rf} (hd : decode μ.1 pc = .ok (.getfield k, 3)) (hf : fld μ.2.1.cls k = some (ci, f)) (ho : okr (hs s) r = true) (hc : gokR r.1 ci f = true) (hv : s.2.1 r f = o) (e : pc + 3 = q) (kk : Wp d μ q l (.inr (.inr o) :: st) (hs s) P) : Wp d μ pc l (.inr (.inr (some r)) :: st) (hs s) P := by
  unfold gokR at hc
  simp only [Bool.and_eq_true, decide_eq_true_eq, Bool.not_eq_true'] at hc
  refine wp_sB (pc' := q) (st' := .inr (.inr o) :: st) hd rfl ?_ kk
  simp only [sB]
  rw [if_pos trivial, hf]
  dsimp only
  rw [if_pos ⟨hc.1, Or.inl ⟨hc.2.1, ho⟩⟩, e]
  show some (q, hp s r f :: st) = _
  rw [hp_R hc.2.2, hv]
/-- a text's own field -/
theorem wp_getX {j : Nat} (hd : decode μ.1 pc = .ok (.getfield k, 3)) (hf : fld μ.2.1.cls k = some (20, f)) (hj : j < 6) (e : pc + 3 = q) (kk : Wp d μ q l (hp s (2, j, 0) f :: st) (hs s) P) : Wp d μ pc l (vR 2 j 0 :: st) (hs s) P := by
  refine wp_sB (pc' := q) (st' := hp s (2, j, 0) f :: st) hd rfl ?_ kk
  simp only [sB]
  rw [if_pos trivial, hf]
  dsimp only
  rw [if_pos ⟨rfl, Or.inr ⟨rfl, by unfold oks; exact decide_eq_true ⟨rfl, hj, rfl⟩⟩⟩, e]
  rfl
def pok (t ci f : Nat) (c n : String) : Bool := decide (kd t = ci) && (decide (ci < 9) && (isI t f && (fok (tyOf ci f) (vI 0) && ((qfin ci f == false) || (decide (n = "<init>") && decide ((vwCl[ci]?).map (fun z => (z.2.1 f).1) = some c))))))
theorem wp_putG {v : Int32} (hd : decode μ.1 pc = .ok (.putfield k, 3)) (hf : fld μ.2.1.cls k = some (ci, f)) (ho : okr (hs s) r = true) (hc : pok r.1 ci f μ.2.1.cls μ.2.1.name = true) (hv : fok (tyOf ci f) (vI v) = true) (e : pc + 3 = q) (kk : Wp d μ q l st (hs (pI s r f v)) P) : Wp d μ pc l (vI v :: .inr (.inr (some r)) :: st) (hs s) P := by
  unfold pok at hc
  simp only [Bool.and_eq_true, decide_eq_true_eq, Bool.or_eq_true, beq_iff_eq] at hc
  refine wp_sC (pc' := q) (st' := st) (σ1 := hs (pI s r f v)) hd rfl rfl ?_ kk
  simp only [sC]
  rw [if_pos trivial, hf]
  dsimp only
  rw [if_pos ⟨ho, hc.1, hc.2.1, hv, hc.2.2.2.2⟩, e]
  show some (q, st, (hput (hp s) r f (vI v), s.2.2)) = _
  rw [hput_I hc.2.2.1]
  rfl
theorem wp_putI {v : Int32} (hd : decode μ.1 pc = .ok (.putfield k, 3)) (hf : fld μ.2.1.cls k = some (ci, f)) (ho : okr (hs s) r = true) (hc : pok r.1 ci f μ.2.1.cls μ.2.1.name = true) (ht : tyOf ci f = .int) (e : pc + 3 = q) (kk : Wp d μ q l st (hs (pI s r f v)) P) : Wp d μ pc l (vI v :: .inr (.inr (some r)) :: st) (hs s) P :=
  wp_putG hd hf ho hc (by rw [ht]; rfl) e kk
theorem wp_putZ {v : Int32} (hd : decode μ.1 pc = .ok (.putfield k, 3)) (hf : fld μ.2.1.cls k = some (ci, f)) (ho : okr (hs s) r = true) (hc : pok r.1 ci f μ.2.1.cls μ.2.1.name = true) (ht : tyOf ci f = .boolean) (h01 : v = 0 ∨ v = 1) (e : pc + 3 = q) (kk : Wp d μ q l st (hs (pI s r f v)) P) : Wp d μ pc l (vI v :: .inr (.inr (some r)) :: st) (hs s) P :=
  wp_putG hd hf ho hc (by rw [ht]; exact decide_eq_true h01) e kk
def pokR (t ci f : Nat) (c n : String) : Bool := decide (kd t = ci) && (decide (ci < 9) && (!isI t f && (fok (tyOf ci f) vN && ((qfin ci f == false) || (decide (n = "<init>") && decide ((vwCl[ci]?).map (fun z => (z.2.1 f).1) = some c))))))
theorem wp_putR {v : Option Rf} (hd : decode μ.1 pc = .ok (.putfield k, 3)) (hf : fld μ.2.1.cls k = some (ci, f)) (ho : okr (hs s) r = true) (hc : pokR r.1 ci f μ.2.1.cls μ.2.1.name = true) (hv : fok (tyOf ci f) (.inr (.inr v)) = true) (e : pc + 3 = q) (kk : Wp d μ q l st (hs (pR s r f v)) P) : Wp d μ pc l (.inr (.inr v) :: .inr (.inr (some r)) :: st) (hs s) P := by
  unfold pokR at hc
  simp only [Bool.and_eq_true, decide_eq_true_eq, Bool.or_eq_true, beq_iff_eq, Bool.not_eq_true'] at hc
  refine wp_sC (pc' := q) (st' := st) (σ1 := hs (pR s r f v)) hd rfl rfl ?_ kk
  simp only [sC]
  rw [if_pos trivial, hf]
  dsimp only
  rw [if_pos ⟨ho, hc.1, hc.2.1, hv, hc.2.2.2.2⟩, e]
  show some (q, st, (hput (hp s) r f (.inr (.inr v)), s.2.2)) = _
  rw [hput_R hc.2.2.1]
  rfl
theorem nI_c {j n : Nat} (hj : j < n) (hn : n < 2 ^ 31) : 0 ≤ nI j ∧ (nI j).toNatClampNeg = j := ⟨nI_pos' (by omega), nI_clamp (by omega)⟩
theorem wp_iald {x : Int32} {j : Nat} (hd : decode μ.1 pc = .ok (.iaload, 1)) (ho : (okr (hs s) r || okx r) = true) (hc : (decide (kd r.1 = 10) && isA r.1) = true) (hx : 0 ≤ x ∧ x.toNatClampNeg = j) (hj : j < s.2.2.1 r) (e : pc + 1 = q) (kk : Wp d μ q l (vI (s.1 r j) :: st) (hs s) P) : Wp d μ pc l (vI x :: .inr (.inr (some r)) :: st) (hs s) P := by
  simp only [Bool.and_eq_true, decide_eq_true_eq] at hc
  refine wp_sB (pc' := q) (st' := vI (s.1 r j) :: st) hd rfl ?_ kk
  simp only [sB]
  unfold rdA
  rw [if_pos rfl]
  dsimp only
  rw [if_pos ⟨by rw [hc.1]; decide, ho, hx.1, by rw [hx.2]; exact hj⟩, e, hx.2]
  show some (q, vI (aI (hp s r j)) :: st) = _
  rw [hp_I (isA_I hc.2 j)]
  rfl
theorem wp_bald {x : Int32} {j : Nat} (hd : decode μ.1 pc = .ok (.baload, 1)) (ho : (okr (hs s) r || okx r) = true) (hc : (decide (kd r.1 = 11) && isA r.1) = true) (hx : 0 ≤ x ∧ x.toNatClampNeg = j) (hj : j < s.2.2.1 r) (e : pc + 1 = q) (kk : Wp d μ q l (vI (s.1 r j) :: st) (hs s) P) : Wp d μ pc l (vI x :: .inr (.inr (some r)) :: st) (hs s) P := by
  simp only [Bool.and_eq_true, decide_eq_true_eq] at hc
  refine wp_sB (pc' := q) (st' := vI (s.1 r j) :: st) hd rfl ?_ kk
  simp only [sB]
  unfold rdA
  rw [if_pos rfl]
  dsimp only
  rw [if_pos ⟨by rw [hc.1]; decide, ho, hx.1, by rw [hx.2]; exact hj⟩, e, hx.2]
  show some (q, vI (aI (hp s r j)) :: st) = _
  rw [hp_I (isA_I hc.2 j)]
  rfl
theorem wp_zald {x : Int32} {j : Nat} (hd : decode μ.1 pc = .ok (.baload, 1)) (ho : (okr (hs s) r || okx r) = true) (hc : (decide (kd r.1 = 12) && isA r.1) = true) (hx : 0 ≤ x ∧ x.toNatClampNeg = j) (hj : j < s.2.2.1 r) (e : pc + 1 = q) (kk : Wp d μ q l (vI (s.1 r j) :: st) (hs s) P) : Wp d μ pc l (vI x :: .inr (.inr (some r)) :: st) (hs s) P := by
  simp only [Bool.and_eq_true, decide_eq_true_eq] at hc
  refine wp_sB (pc' := q) (st' := vI (s.1 r j) :: st) hd rfl ?_ kk
  simp only [sB]
  unfold rdA
  rw [if_pos rfl]
  dsimp only
  rw [if_pos ⟨by rw [hc.1]; decide, ho, hx.1, by rw [hx.2]; exact hj⟩, e, hx.2]
  show some (q, vI (aI (hp s r j)) :: st) = _
  rw [hp_I (isA_I hc.2 j)]
  rfl
theorem wp_cald {x : Int32} {j : Nat} (hd : decode μ.1 pc = .ok (.caload, 1)) (ho : (okr (hs s) r || okx r) = true) (hc : (decide (kd r.1 = 13) && isA r.1) = true) (hx : 0 ≤ x ∧ x.toNatClampNeg = j) (hj : j < s.2.2.1 r) (e : pc + 1 = q) (kk : Wp d μ q l (vI (s.1 r j) :: st) (hs s) P) : Wp d μ pc l (vI x :: .inr (.inr (some r)) :: st) (hs s) P := by
  simp only [Bool.and_eq_true, decide_eq_true_eq] at hc
  refine wp_sB (pc' := q) (st' := vI (s.1 r j) :: st) hd rfl ?_ kk
  simp only [sB]
  unfold rdA
  rw [if_pos rfl]
  dsimp only
  rw [if_pos ⟨by rw [hc.1]; decide, ho, hx.1, by rw [hx.2]; exact hj⟩, e, hx.2]
  show some (q, vI (aI (hp s r j)) :: st) = _
  rw [hp_I (isA_I hc.2 j)]
  rfl
theorem wp_iast {x v : Int32} {j : Nat} (hd : decode μ.1 pc = .ok (.iastore, 1)) (ho : okr (hs s) r = true) (hc : (decide (kd r.1 = 10) && isA r.1) = true) (hx : 0 ≤ x ∧ x.toNatClampNeg = j) (hj : j < s.2.2.1 r) (e : pc + 1 = q) (kk : Wp d μ q l st (hs (pI s r j v)) P) : Wp d μ pc l (vI v :: vI x :: .inr (.inr (some r)) :: st) (hs s) P := by
  simp only [Bool.and_eq_true, decide_eq_true_eq] at hc
  refine wp_sC (pc' := q) (st' := st) (σ1 := hs (pI s r j v)) hd rfl rfl ?_ kk
  simp only [sC]
  unfold wrA
  rw [if_pos rfl]
  dsimp only
  rw [if_pos ⟨ho, hc.1, hx.1, by rw [hx.2]; exact hj⟩, e, hx.2]
  show some (q, st, (hput (hp s) r j (vI v), s.2.2)) = _
  rw [hput_I (isA_I hc.2 j)]
  rfl
theorem wp_bast {x v : Int32} {j : Nat} (hd : decode μ.1 pc = .ok (.bastore, 1)) (ho : okr (hs s) r = true) (hc : (decide (kd r.1 = 11) && isA r.1) = true) (hx : 0 ≤ x ∧ x.toNatClampNeg = j) (hj : j < s.2.2.1 r) (e : pc + 1 = q) (kk : Wp d μ q l st (hs (pI s r j (vp_nar .byte v))) P) : Wp d μ pc l (vI v :: vI x :: .inr (.inr (some r)) :: st) (hs s) P := by
  simp only [Bool.and_eq_true, decide_eq_true_eq] at hc
  refine wp_sC (pc' := q) (st' := st) (σ1 := hs (pI s r j (vp_nar .byte v))) hd rfl rfl ?_ kk
  simp only [sC]
  rw [show wrA 11 (vp_nar .byte) 1 pc (vI v :: vI x :: .inr (.inr (some r)) :: st) (hs s) = some (q, st, hs (pI s r j (vp_nar .byte v))) from ?_]
  unfold wrA
  rw [if_pos rfl]
  dsimp only
  rw [if_pos ⟨ho, hc.1, hx.1, by rw [hx.2]; exact hj⟩, e, hx.2]
  show some (q, st, (hput (hp s) r j (vI (vp_nar .byte v)), s.2.2)) = _
  rw [hput_I (isA_I hc.2 j)]
  rfl
theorem wp_zast {x v : Int32} {j : Nat} (hd : decode μ.1 pc = .ok (.bastore, 1)) (ho : okr (hs s) r = true) (hc : (decide (kd r.1 = 12) && isA r.1) = true) (hx : 0 ≤ x ∧ x.toNatClampNeg = j) (hj : j < s.2.2.1 r) (e : pc + 1 = q) (kk : Wp d μ q l st (hs (pI s r j (vp_nar .boolean v))) P) : Wp d μ pc l (vI v :: vI x :: .inr (.inr (some r)) :: st) (hs s) P := by
  simp only [Bool.and_eq_true, decide_eq_true_eq] at hc
  refine wp_sC (pc' := q) (st' := st) (σ1 := hs (pI s r j (vp_nar .boolean v))) hd rfl rfl ?_ kk
  simp only [sC]
  rw [show wrA 11 (vp_nar .byte) 1 pc (vI v :: vI x :: .inr (.inr (some r)) :: st) (hs s) = none from by unfold wrA; rw [if_pos rfl]; dsimp only; rw [if_neg (fun h => absurd (hc.1.symm.trans h.2.1) (by decide))]]
  unfold wrA
  rw [if_pos rfl]
  dsimp only
  rw [if_pos ⟨ho, hc.1, hx.1, by rw [hx.2]; exact hj⟩, e, hx.2]
  show some (q, st, (hput (hp s) r j (vI (vp_nar .boolean v)), s.2.2)) = _
  rw [hput_I (isA_I hc.2 j)]
  rfl
theorem wp_cast {x v : Int32} {j : Nat} (hd : decode μ.1 pc = .ok (.castore, 1)) (ho : okr (hs s) r = true) (hc : (decide (kd r.1 = 13) && isA r.1) = true) (hx : 0 ≤ x ∧ x.toNatClampNeg = j) (hj : j < s.2.2.1 r) (e : pc + 1 = q) (kk : Wp d μ q l st (hs (pI s r j (vp_nar .char v))) P) : Wp d μ pc l (vI v :: vI x :: .inr (.inr (some r)) :: st) (hs s) P := by
  simp only [Bool.and_eq_true, decide_eq_true_eq] at hc
  refine wp_sC (pc' := q) (st' := st) (σ1 := hs (pI s r j (vp_nar .char v))) hd rfl rfl ?_ kk
  simp only [sC]
  unfold wrA
  rw [if_pos rfl]
  dsimp only
  rw [if_pos ⟨ho, hc.1, hx.1, by rw [hx.2]; exact hj⟩, e, hx.2]
  show some (q, st, (hput (hp s) r j (vI (vp_nar .char v)), s.2.2)) = _
  rw [hput_I (isA_I hc.2 j)]
  rfl
theorem wp_aald {x : Int32} {j : Nat} {o : Option Rf} (hd : decode μ.1 pc = .ok (.aaload, 1)) (ho : okr (hs s) r = true) (hc : (decide (14 ≤ kd r.1) && (decide (kd r.1 < 18) && !isI r.1 j)) = true) (hx : 0 ≤ x ∧ x.toNatClampNeg = j) (hj : j < s.2.2.1 r) (hv : s.2.1 r j = o) (h5 : ∀ z, o = some z → 5 ≤ z.1) (e : pc + 1 = q) (kk : Wp d μ q l (.inr (.inr o) :: st) (hs s) P) : Wp d μ pc l (vI x :: .inr (.inr (some r)) :: st) (hs s) P := by
  simp only [Bool.and_eq_true, decide_eq_true_eq, Bool.not_eq_true'] at hc
  refine wp_sB (pc' := q) (st' := .inr (.inr o) :: st) hd rfl ?_ kk
  simp only [sB]
  unfold rdR
  rw [if_pos rfl]
  dsimp only
  rw [if_pos ⟨hc.1, hc.2.1, ho, hx.1, by rw [hx.2]; exact hj⟩, e, hx.2]
  show some (q, .inr (.inr (aR (hp s r j))) :: st) = _
  rw [hp_R hc.2.2, hv]
  cases o with
  | none => rfl
  | some z =>
    show some (q, .inr (.inr (if 5 ≤ z.1 then some z else none)) :: st) = _
    rw [if_pos (h5 z rfl)]
theorem wp_aast {x : Int32} {j : Nat} {o : Option Rf} (hd : decode μ.1 pc = .ok (.aastore, 1)) (ho : okr (hs s) r = true) (hc : (decide (14 ≤ kd r.1) && (decide (kd r.1 < 18) && !isI r.1 j)) = true) (hx : 0 ≤ x ∧ x.toNatClampNeg = j) (hj : j < s.2.2.1 r) (hv : ∀ z ∈ o, okr (hs s) z = true ∧ kd z.1 = ecl (kd r.1)) (e : pc + 1 = q) (kk : Wp d μ q l st (hs (pR s r j o)) P) : Wp d μ pc l (.inr (.inr o) :: vI x :: .inr (.inr (some r)) :: st) (hs s) P := by
  simp only [Bool.and_eq_true, decide_eq_true_eq, Bool.not_eq_true'] at hc
  refine wp_sC (pc' := q) (st' := st) (σ1 := hs (pR s r j o)) hd rfl rfl ?_ kk
  simp only [sC]
  rw [if_pos trivial, if_pos ⟨ho, hc.1, hc.2.1, hx.1, by rw [hx.2]; exact hj, hv⟩, e, hx.2]
  show some (q, st, (hput (hp s) r j (.inr (.inr o)), s.2.2)) = _
  rw [hput_R hc.2.2]
  rfl
theorem wp_alen {n : Nat} (hd : decode μ.1 pc = .ok (.arraylength, 1)) (ho : (okr (hs s) r || okx r) = true) (hc : (decide (10 ≤ kd r.1) && decide (kd r.1 < 18)) = true) (hn : s.2.2.1 r = n) (e : pc + 1 = q) (kk : Wp d μ q l (vI (nI n) :: st) (hs s) P) : Wp d μ pc l (.inr (.inr (some r)) :: st) (hs s) P := by
  simp only [Bool.and_eq_true, decide_eq_true_eq] at hc
  refine wp_sB (pc' := q) (st' := vI (nI n) :: st) hd rfl ?_ kk
  simp only [sB]
  rw [if_pos trivial, if_pos ⟨hc.1, hc.2, ho⟩, e]
  show some (q, vI (Int32.ofNat (s.2.2.1 r)) :: st) = _
  rw [hn]
  rfl
theorem wp_acopy {z : Rf} {n dp sp : Int32} {N D S : Nat} (hd : decode μ.1 pc = .ok (.invokestatic k, 3)) (hf : spc μ.2.1.cls k = some 1) (ho : okr (hs s) r = true) (hz : okr (hs s) z = true) (hc : (decide (kd r.1 = 10) && isA r.1) = true) (hcz : (decide (kd z.1 = 10) && isA z.1) = true) (hn : 0 ≤ n ∧ n.toNatClampNeg = N) (hdp : 0 ≤ dp ∧ dp.toNatClampNeg = D) (hsp : 0 ≤ sp ∧ sp.toNatClampNeg = S) (h1 : S + N ≤ s.2.2.1 z) (h2 : D + N ≤ s.2.2.1 r) (h1d : 1 ≤ d) (h8 : (st.map qcat).sum ≤ 8) (e : pc + 3 = q)
    (kk : Wp d μ q l st (hs (pA s r (va_cpy (s.1 z) (s.1 r) S D N))) P) : Wp d μ pc l (vI n :: vI dp :: .inr (.inr (some r)) :: vI sp :: .inr (.inr (some z)) :: st) (hs s) P := by
  simp only [Bool.and_eq_true, decide_eq_true_eq] at hc hcz
  refine wp_sC (pc' := q) (st' := st) (σ1 := hs (pA s r (va_cpy (s.1 z) (s.1 r) S D N))) hd rfl rfl ?_ kk
  simp only [sC]
  rw [if_pos trivial, hf]
  show (if okr (hs s) r = true ∧ okr (hs s) z = true ∧ kd r.1 = 10 ∧ kd z.1 = 10 ∧ 0 ≤ n ∧ 0 ≤ dp ∧ 0 ≤ sp ∧ sp.toNatClampNeg + n.toNatClampNeg ≤ (hs s).2.1 z ∧ dp.toNatClampNeg + n.toNatClampNeg ≤ (hs s).2.1 r ∧ 1 ≤ d ∧ (st.map qcat).sum ≤ 8 then some (pc + 3, st, (hnew (hs s).1 r (fun k => vI (va_cpy (fun j => aI ((hs s).1 z j)) (fun j => aI ((hs s).1 r j)) sp.toNatClampNeg dp.toNatClampNeg n.toNatClampNeg k)), (hs s).2)) else none) = _
  rw [if_pos ⟨ho, hz, hc.1, hcz.1, hn.1, hdp.1, hsp.1, by rw [hn.2, hsp.2]; exact h1, by rw [hn.2, hdp.2]; exact h2, h1d, h8⟩, e, hn.2, hdp.2, hsp.2]
  show some (q, st, (hnew (hp s) r _, s.2.2)) = _
  have e1 : (fun j => aI (hp s z j)) = s.1 z := by funext j; rw [hp_I (isA_I hcz.2 j)]; rfl
  have e2 : (fun j => aI (hp s r j)) = s.1 r := by funext j; rw [hp_I (isA_I hc.2 j)]; rfl
  rw [show (hs s).1 = hp s from rfl, e1, e2, hnew_A (isA_I hc.2)]
  rfl
end TH
theorem qcat_r {r : Option Rf} : qcat (.inr (.inr r)) = 1 := rfl
section CL
variable {d : Nat} {μ μ' : Mu} {pc q k : Nat} {l : Lv} {st rest : List Av} {σ : St} {P P1 : Option Av → St → Prop} {r : Rf}
theorem spc_rsl : rslT.all (fun e => (spcT.find? (fun z => z.1 == e.1 && decide (z.2.1 = e.2.2.1))).isNone) = true := by decide +kernel
theorem spc_no {c np : Nat} {own : String} {i : Nat} (h : rsl c own i = some (μ', np)) : spc own i = none := by
  unfold rsl at h
  split at h
  · rename_i a1 a2 a3 μ2 np2 nst ps hf
    have h1 := List.mem_of_find?_eq_some hf
    have h2 := List.find?_some hf
    simp only [Bool.and_eq_true, beq_iff_eq, decide_eq_true_eq] at h2
    have h3 := List.all_eq_true.mp spc_rsl _ h1
    unfold spc
    obtain ⟨e1, e2, e3⟩ := h2
    rw [← e1, ← e3]
    rw [Option.isNone_iff_eq_none.mp h3]
  · cases h
theorem sC_stat {c np : Nat} (hf : rsl c μ.2.1.cls k = some (μ', np)) : sC μ d (.invokestatic k) 3 pc st σ = none := by
  simp only [sC]
  rw [if_pos trivial, spc_no hf]
theorem sC_spec {c np : Nat} (hf : rsl c μ.2.1.cls k = some (μ', np)) : sC μ d (.invokespecial k) 3 pc st σ = none := by
  simp only [sC]
  rw [if_pos trivial, spc_no hf]
  split
  · rename_i h; cases h
  · rfl
theorem wp_max {x y : Int32} (hd : decode μ.1 pc = .ok (.invokestatic k, 3)) (hf : spc μ.2.1.cls k = some 2) (h1d : 1 ≤ d) (h8 : (st.map qcat).sum ≤ 8) (e : pc + 3 = q) (kk : Wp d μ q l (vI (if x < y then y else x) :: st) σ P) : Wp d μ pc l (vI y :: vI x :: st) σ P := by
  refine wp_sC (pc' := q) (st' := vI (if x < y then y else x) :: st) (σ1 := σ) hd rfl rfl ?_ kk
  simp only [sC]
  rw [if_pos trivial, hf]
  show (if 1 ≤ d ∧ (st.map qcat).sum ≤ 8 then some (pc + 3, vI (if x < y then y else x) :: st, σ) else none) = _
  rw [if_pos ⟨h1d, h8⟩, e]
theorem wp_min {x y : Int32} (hd : decode μ.1 pc = .ok (.invokestatic k, 3)) (hf : spc μ.2.1.cls k = some 3) (h1d : 1 ≤ d) (h8 : (st.map qcat).sum ≤ 8) (e : pc + 3 = q) (kk : Wp d μ q l (vI (if y < x then y else x) :: st) σ P) : Wp d μ pc l (vI y :: vI x :: st) σ P := by
  refine wp_sC (pc' := q) (st' := vI (if y < x then y else x) :: st) (σ1 := σ) hd rfl rfl ?_ kk
  simp only [sC]
  rw [if_pos trivial, hf]
  show (if 1 ≤ d ∧ (st.map qcat).sum ≤ 8 then some (pc + 3, vI (if y < x then y else x) :: st, σ) else none) = _
  rw [if_pos ⟨h1d, h8⟩, e]
theorem wp_abs {x : Int32} (hd : decode μ.1 pc = .ok (.invokestatic k, 3)) (hf : spc μ.2.1.cls k = some 4) (h1d : 1 ≤ d) (h8 : (st.map qcat).sum ≤ 8) (e : pc + 3 = q) (kk : Wp d μ q l (vI (if 0 ≤ x then x else 0 - x) :: st) σ P) : Wp d μ pc l (vI x :: st) σ P := by
  refine wp_sC (pc' := q) (st' := vI (if 0 ≤ x then x else 0 - x) :: st) (σ1 := σ) hd rfl rfl ?_ kk
  simp only [sC]
  rw [if_pos trivial, hf]
  show (if 1 ≤ d ∧ (st.map qcat).sum ≤ 8 then some (pc + 3, vI (if 0 ≤ x then x else 0 - x) :: st, σ) else none) = _
  rw [if_pos ⟨h1d, h8⟩, e]
theorem rcv_of (ho : okr σ r = true) {C : String} (hq : (vwCl[kd r.1]?).map (fun z => z.1) = some C) : rcv σ r C = true := by
  unfold rcv
  cases h : vwCl[kd r.1]? with
  | none => rw [h] at hq; cases hq
  | some z =>
    rw [h] at hq
    simp only [ho, Bool.true_and, decide_eq_true_eq]
    exact Option.some.inj hq
theorem wp_objInit (hd : decode μ.1 pc = .ok (.invokespecial k, 3)) (hf : spc μ.2.1.cls k = some 0) (h5 : 5 ≤ r.1) (h1d : 1 ≤ d) (h8 : (st.map qcat).sum ≤ 8) (e : pc + 3 = q) (kk : Wp d μ q l st σ P) : Wp d μ pc l (.inr (.inr (some r)) :: st) σ P := by
  refine wp_sC (pc' := q) (st' := st) (σ1 := σ) hd rfl rfl ?_ kk
  simp only [sC]
  rw [if_pos trivial, hf]
  rw [if_pos ⟨h5, h1d, h8⟩, e]
theorem wp_callS0 (hd : decode μ.1 pc = .ok (.invokestatic k, 3)) (hr : rsl 0 μ.2.1.cls k = some (μ', 0)) (hl : 0 ≤ μ'.2.2.1)  (h8 : (rest.map qcat).sum ≤ 8) (e : pc + 3 = q) (hc : Ca d μ' [] σ P1) (kk : ∀ v σ1, P1 v σ1 → Wp (d + 1) μ q l (v.toList ++ rest) σ1 P) : Wp (d + 1) μ pc l (rest) σ P := by
  refine wp_sD (as := []) (rest := rest) (μ' := μ') hd rfl rfl (sC_stat hr) rfl ?_ hl (by simp) hc e kk
  unfold sD
  rw [if_pos rfl]
  dsimp only
  rw [hr]
  dsimp only
  rw [if_pos ⟨by simp, h8⟩]
  rfl
theorem wp_callV0 (hd : decode μ.1 pc = .ok (.invokevirtual k, 3)) (hr : rsl 1 μ.2.1.cls k = some (μ', 0)) (ho : rcv σ r μ'.2.1.cls = true) (hl : 1 ≤ μ'.2.2.1)  (h8 : (rest.map qcat).sum ≤ 8) (e : pc + 3 = q) (hc : Ca d μ' (.inr (.inr (some r)) :: []) σ P1) (kk : ∀ v σ1, P1 v σ1 → Wp (d + 1) μ q l (v.toList ++ rest) σ1 P) : Wp (d + 1) μ pc l (.inr (.inr (some r)) :: rest) σ P := by
  refine wp_sD (as := .inr (.inr (some r)) :: []) (rest := rest) (μ' := μ') hd rfl rfl rfl rfl ?_ hl (by simp [qcat_r]) hc e kk
  unfold sD
  rw [if_pos rfl]
  dsimp only
  rw [hr]
  show (match (.inr (.inr (some r)) :: rest).drop 0 with
      | .inr (.inr (some r)) :: rest => _
      | _ => none) = _
  simp only [List.drop_succ_cons, List.drop_zero]
  rw [if_pos ⟨by simp, h8, ho⟩]
  rfl
theorem wp_callI0 (hd : decode μ.1 pc = .ok (.invokespecial k, 3)) (hr : rsl 2 μ.2.1.cls k = some (μ', 0)) (h5 : 5 ≤ r.1) (hl : 1 ≤ μ'.2.2.1)  (h8 : (rest.map qcat).sum ≤ 8) (e : pc + 3 = q) (hc : Ca d μ' (.inr (.inr (some r)) :: []) σ P1) (kk : ∀ v σ1, P1 v σ1 → Wp (d + 1) μ q l (v.toList ++ rest) σ1 P) : Wp (d + 1) μ pc l (.inr (.inr (some r)) :: rest) σ P := by
  refine wp_sD (as := .inr (.inr (some r)) :: []) (rest := rest) (μ' := μ') hd rfl rfl (sC_spec hr) rfl ?_ hl (by simp [qcat_r]) hc e kk
  unfold sD
  rw [if_pos rfl]
  dsimp only
  rw [hr]
  show (match (.inr (.inr (some r)) :: rest).drop 0 with
      | .inr (.inr (some r)) :: rest => _
      | _ => none) = _
  simp only [List.drop_succ_cons, List.drop_zero]
  rw [if_pos ⟨by simp, h8, h5⟩]
  rfl
theorem wp_callS1 {a1 : Av} (hd : decode μ.1 pc = .ok (.invokestatic k, 3)) (hr : rsl 0 μ.2.1.cls k = some (μ', 1)) (hl : 1 ≤ μ'.2.2.1) (hq1 : qcat a1 = 1) (h8 : (rest.map qcat).sum ≤ 8) (e : pc + 3 = q) (hc : Ca d μ' [a1] σ P1) (kk : ∀ v σ1, P1 v σ1 → Wp (d + 1) μ q l (v.toList ++ rest) σ1 P) : Wp (d + 1) μ pc l (a1 :: rest) σ P := by
  refine wp_sD (as := [a1]) (rest := rest) (μ' := μ') hd rfl rfl (sC_stat hr) rfl ?_ hl (by simp [hq1]) hc e kk
  unfold sD
  rw [if_pos rfl]
  dsimp only
  rw [hr]
  dsimp only
  rw [if_pos ⟨by simp, h8⟩]
  rfl
theorem wp_callV1 {a1 : Av} (hd : decode μ.1 pc = .ok (.invokevirtual k, 3)) (hr : rsl 1 μ.2.1.cls k = some (μ', 1)) (ho : rcv σ r μ'.2.1.cls = true) (hl : 2 ≤ μ'.2.2.1) (hq1 : qcat a1 = 1) (h8 : (rest.map qcat).sum ≤ 8) (e : pc + 3 = q) (hc : Ca d μ' (.inr (.inr (some r)) :: [a1]) σ P1) (kk : ∀ v σ1, P1 v σ1 → Wp (d + 1) μ q l (v.toList ++ rest) σ1 P) : Wp (d + 1) μ pc l (a1 :: .inr (.inr (some r)) :: rest) σ P := by
  refine wp_sD (as := .inr (.inr (some r)) :: [a1]) (rest := rest) (μ' := μ') hd rfl rfl rfl rfl ?_ hl (by simp [qcat_r, hq1]) hc e kk
  unfold sD
  rw [if_pos rfl]
  dsimp only
  rw [hr]
  show (match (a1 :: .inr (.inr (some r)) :: rest).drop 1 with
      | .inr (.inr (some r)) :: rest => _
      | _ => none) = _
  simp only [List.drop_succ_cons, List.drop_zero]
  rw [if_pos ⟨by simp, h8, ho⟩]
  rfl
theorem wp_callI1 {a1 : Av} (hd : decode μ.1 pc = .ok (.invokespecial k, 3)) (hr : rsl 2 μ.2.1.cls k = some (μ', 1)) (h5 : 5 ≤ r.1) (hl : 2 ≤ μ'.2.2.1) (hq1 : qcat a1 = 1) (h8 : (rest.map qcat).sum ≤ 8) (e : pc + 3 = q) (hc : Ca d μ' (.inr (.inr (some r)) :: [a1]) σ P1) (kk : ∀ v σ1, P1 v σ1 → Wp (d + 1) μ q l (v.toList ++ rest) σ1 P) : Wp (d + 1) μ pc l (a1 :: .inr (.inr (some r)) :: rest) σ P := by
  refine wp_sD (as := .inr (.inr (some r)) :: [a1]) (rest := rest) (μ' := μ') hd rfl rfl (sC_spec hr) rfl ?_ hl (by simp [qcat_r, hq1]) hc e kk
  unfold sD
  rw [if_pos rfl]
  dsimp only
  rw [hr]
  show (match (a1 :: .inr (.inr (some r)) :: rest).drop 1 with
      | .inr (.inr (some r)) :: rest => _
      | _ => none) = _
  simp only [List.drop_succ_cons, List.drop_zero]
  rw [if_pos ⟨by simp, h8, h5⟩]
  rfl
theorem wp_callS2 {a1 a2 : Av} (hd : decode μ.1 pc = .ok (.invokestatic k, 3)) (hr : rsl 0 μ.2.1.cls k = some (μ', 2)) (hl : 2 ≤ μ'.2.2.1) (hq1 : qcat a1 = 1) (hq2 : qcat a2 = 1) (h8 : (rest.map qcat).sum ≤ 8) (e : pc + 3 = q) (hc : Ca d μ' [a1, a2] σ P1) (kk : ∀ v σ1, P1 v σ1 → Wp (d + 1) μ q l (v.toList ++ rest) σ1 P) : Wp (d + 1) μ pc l (a2 :: a1 :: rest) σ P := by
  refine wp_sD (as := [a1, a2]) (rest := rest) (μ' := μ') hd rfl rfl (sC_stat hr) rfl ?_ hl (by simp [hq1, hq2]) hc e kk
  unfold sD
  rw [if_pos rfl]
  dsimp only
  rw [hr]
  dsimp only
  rw [if_pos ⟨by simp, h8⟩]
  rfl
theorem wp_callV2 {a1 a2 : Av} (hd : decode μ.1 pc = .ok (.invokevirtual k, 3)) (hr : rsl 1 μ.2.1.cls k = some (μ', 2)) (ho : rcv σ r μ'.2.1.cls = true) (hl : 3 ≤ μ'.2.2.1) (hq1 : qcat a1 = 1) (hq2 : qcat a2 = 1) (h8 : (rest.map qcat).sum ≤ 8) (e : pc + 3 = q) (hc : Ca d μ' (.inr (.inr (some r)) :: [a1, a2]) σ P1) (kk : ∀ v σ1, P1 v σ1 → Wp (d + 1) μ q l (v.toList ++ rest) σ1 P) : Wp (d + 1) μ pc l (a2 :: a1 :: .inr (.inr (some r)) :: rest) σ P := by
  refine wp_sD (as := .inr (.inr (some r)) :: [a1, a2]) (rest := rest) (μ' := μ') hd rfl rfl rfl rfl ?_ hl (by simp [qcat_r, hq1, hq2]) hc e kk
  unfold sD
  rw [if_pos rfl]
  dsimp only
  rw [hr]
  show (match (a2 :: a1 :: .inr (.inr (some r)) :: rest).drop 2 with
      | .inr (.inr (some r)) :: rest => _
      | _ => none) = _
  simp only [List.drop_succ_cons, List.drop_zero]
  rw [if_pos ⟨by simp, h8, ho⟩]
  rfl
theorem wp_callI2 {a1 a2 : Av} (hd : decode μ.1 pc = .ok (.invokespecial k, 3)) (hr : rsl 2 μ.2.1.cls k = some (μ', 2)) (h5 : 5 ≤ r.1) (hl : 3 ≤ μ'.2.2.1) (hq1 : qcat a1 = 1) (hq2 : qcat a2 = 1) (h8 : (rest.map qcat).sum ≤ 8) (e : pc + 3 = q) (hc : Ca d μ' (.inr (.inr (some r)) :: [a1, a2]) σ P1) (kk : ∀ v σ1, P1 v σ1 → Wp (d + 1) μ q l (v.toList ++ rest) σ1 P) : Wp (d + 1) μ pc l (a2 :: a1 :: .inr (.inr (some r)) :: rest) σ P := by
  refine wp_sD (as := .inr (.inr (some r)) :: [a1, a2]) (rest := rest) (μ' := μ') hd rfl rfl (sC_spec hr) rfl ?_ hl (by simp [qcat_r, hq1, hq2]) hc e kk
  unfold sD
  rw [if_pos rfl]
  dsimp only
  rw [hr]
  show (match (a2 :: a1 :: .inr (.inr (some r)) :: rest).drop 2 with
      | .inr (.inr (some r)) :: rest => _
      | _ => none) = _
  simp only [List.drop_succ_cons, List.drop_zero]
  rw [if_pos ⟨by simp, h8, h5⟩]
  rfl
theorem wp_callS3 {a1 a2 a3 : Av} (hd : decode μ.1 pc = .ok (.invokestatic k, 3)) (hr : rsl 0 μ.2.1.cls k = some (μ', 3)) (hl : 3 ≤ μ'.2.2.1) (hq1 : qcat a1 = 1) (hq2 : qcat a2 = 1) (hq3 : qcat a3 = 1) (h8 : (rest.map qcat).sum ≤ 8) (e : pc + 3 = q) (hc : Ca d μ' [a1, a2, a3] σ P1) (kk : ∀ v σ1, P1 v σ1 → Wp (d + 1) μ q l (v.toList ++ rest) σ1 P) : Wp (d + 1) μ pc l (a3 :: a2 :: a1 :: rest) σ P := by
  refine wp_sD (as := [a1, a2, a3]) (rest := rest) (μ' := μ') hd rfl rfl (sC_stat hr) rfl ?_ hl (by simp [hq1, hq2, hq3]) hc e kk
  unfold sD
  rw [if_pos rfl]
  dsimp only
  rw [hr]
  dsimp only
  rw [if_pos ⟨by simp, h8⟩]
  rfl
theorem wp_callV3 {a1 a2 a3 : Av} (hd : decode μ.1 pc = .ok (.invokevirtual k, 3)) (hr : rsl 1 μ.2.1.cls k = some (μ', 3)) (ho : rcv σ r μ'.2.1.cls = true) (hl : 4 ≤ μ'.2.2.1) (hq1 : qcat a1 = 1) (hq2 : qcat a2 = 1) (hq3 : qcat a3 = 1) (h8 : (rest.map qcat).sum ≤ 8) (e : pc + 3 = q) (hc : Ca d μ' (.inr (.inr (some r)) :: [a1, a2, a3]) σ P1) (kk : ∀ v σ1, P1 v σ1 → Wp (d + 1) μ q l (v.toList ++ rest) σ1 P) : Wp (d + 1) μ pc l (a3 :: a2 :: a1 :: .inr (.inr (some r)) :: rest) σ P := by
  refine wp_sD (as := .inr (.inr (some r)) :: [a1, a2, a3]) (rest := rest) (μ' := μ') hd rfl rfl rfl rfl ?_ hl (by simp [qcat_r, hq1, hq2, hq3]) hc e kk
  unfold sD
  rw [if_pos rfl]
  dsimp only
  rw [hr]
  show (match (a3 :: a2 :: a1 :: .inr (.inr (some r)) :: rest).drop 3 with
      | .inr (.inr (some r)) :: rest => _
      | _ => none) = _
  simp only [List.drop_succ_cons, List.drop_zero]
  rw [if_pos ⟨by simp, h8, ho⟩]
  rfl
theorem wp_callI3 {a1 a2 a3 : Av} (hd : decode μ.1 pc = .ok (.invokespecial k, 3)) (hr : rsl 2 μ.2.1.cls k = some (μ', 3)) (h5 : 5 ≤ r.1) (hl : 4 ≤ μ'.2.2.1) (hq1 : qcat a1 = 1) (hq2 : qcat a2 = 1) (hq3 : qcat a3 = 1) (h8 : (rest.map qcat).sum ≤ 8) (e : pc + 3 = q) (hc : Ca d μ' (.inr (.inr (some r)) :: [a1, a2, a3]) σ P1) (kk : ∀ v σ1, P1 v σ1 → Wp (d + 1) μ q l (v.toList ++ rest) σ1 P) : Wp (d + 1) μ pc l (a3 :: a2 :: a1 :: .inr (.inr (some r)) :: rest) σ P := by
  refine wp_sD (as := .inr (.inr (some r)) :: [a1, a2, a3]) (rest := rest) (μ' := μ') hd rfl rfl (sC_spec hr) rfl ?_ hl (by simp [qcat_r, hq1, hq2, hq3]) hc e kk
  unfold sD
  rw [if_pos rfl]
  dsimp only
  rw [hr]
  show (match (a3 :: a2 :: a1 :: .inr (.inr (some r)) :: rest).drop 3 with
      | .inr (.inr (some r)) :: rest => _
      | _ => none) = _
  simp only [List.drop_succ_cons, List.drop_zero]
  rw [if_pos ⟨by simp, h8, h5⟩]
  rfl
theorem wp_callS4 {a1 a2 a3 a4 : Av} (hd : decode μ.1 pc = .ok (.invokestatic k, 3)) (hr : rsl 0 μ.2.1.cls k = some (μ', 4)) (hl : 4 ≤ μ'.2.2.1) (hq1 : qcat a1 = 1) (hq2 : qcat a2 = 1) (hq3 : qcat a3 = 1) (hq4 : qcat a4 = 1) (h8 : (rest.map qcat).sum ≤ 8) (e : pc + 3 = q) (hc : Ca d μ' [a1, a2, a3, a4] σ P1) (kk : ∀ v σ1, P1 v σ1 → Wp (d + 1) μ q l (v.toList ++ rest) σ1 P) : Wp (d + 1) μ pc l (a4 :: a3 :: a2 :: a1 :: rest) σ P := by
  refine wp_sD (as := [a1, a2, a3, a4]) (rest := rest) (μ' := μ') hd rfl rfl (sC_stat hr) rfl ?_ hl (by simp [hq1, hq2, hq3, hq4]) hc e kk
  unfold sD
  rw [if_pos rfl]
  dsimp only
  rw [hr]
  dsimp only
  rw [if_pos ⟨by simp, h8⟩]
  rfl
theorem wp_callV4 {a1 a2 a3 a4 : Av} (hd : decode μ.1 pc = .ok (.invokevirtual k, 3)) (hr : rsl 1 μ.2.1.cls k = some (μ', 4)) (ho : rcv σ r μ'.2.1.cls = true) (hl : 5 ≤ μ'.2.2.1) (hq1 : qcat a1 = 1) (hq2 : qcat a2 = 1) (hq3 : qcat a3 = 1) (hq4 : qcat a4 = 1) (h8 : (rest.map qcat).sum ≤ 8) (e : pc + 3 = q) (hc : Ca d μ' (.inr (.inr (some r)) :: [a1, a2, a3, a4]) σ P1) (kk : ∀ v σ1, P1 v σ1 → Wp (d + 1) μ q l (v.toList ++ rest) σ1 P) : Wp (d + 1) μ pc l (a4 :: a3 :: a2 :: a1 :: .inr (.inr (some r)) :: rest) σ P := by
  refine wp_sD (as := .inr (.inr (some r)) :: [a1, a2, a3, a4]) (rest := rest) (μ' := μ') hd rfl rfl rfl rfl ?_ hl (by simp [qcat_r, hq1, hq2, hq3, hq4]) hc e kk
  unfold sD
  rw [if_pos rfl]
  dsimp only
  rw [hr]
  show (match (a4 :: a3 :: a2 :: a1 :: .inr (.inr (some r)) :: rest).drop 4 with
      | .inr (.inr (some r)) :: rest => _
      | _ => none) = _
  simp only [List.drop_succ_cons, List.drop_zero]
  rw [if_pos ⟨by simp, h8, ho⟩]
  rfl
theorem wp_callI4 {a1 a2 a3 a4 : Av} (hd : decode μ.1 pc = .ok (.invokespecial k, 3)) (hr : rsl 2 μ.2.1.cls k = some (μ', 4)) (h5 : 5 ≤ r.1) (hl : 5 ≤ μ'.2.2.1) (hq1 : qcat a1 = 1) (hq2 : qcat a2 = 1) (hq3 : qcat a3 = 1) (hq4 : qcat a4 = 1) (h8 : (rest.map qcat).sum ≤ 8) (e : pc + 3 = q) (hc : Ca d μ' (.inr (.inr (some r)) :: [a1, a2, a3, a4]) σ P1) (kk : ∀ v σ1, P1 v σ1 → Wp (d + 1) μ q l (v.toList ++ rest) σ1 P) : Wp (d + 1) μ pc l (a4 :: a3 :: a2 :: a1 :: .inr (.inr (some r)) :: rest) σ P := by
  refine wp_sD (as := .inr (.inr (some r)) :: [a1, a2, a3, a4]) (rest := rest) (μ' := μ') hd rfl rfl (sC_spec hr) rfl ?_ hl (by simp [qcat_r, hq1, hq2, hq3, hq4]) hc e kk
  unfold sD
  rw [if_pos rfl]
  dsimp only
  rw [hr]
  show (match (a4 :: a3 :: a2 :: a1 :: .inr (.inr (some r)) :: rest).drop 4 with
      | .inr (.inr (some r)) :: rest => _
      | _ => none) = _
  simp only [List.drop_succ_cons, List.drop_zero]
  rw [if_pos ⟨by simp, h8, h5⟩]
  rfl
theorem wp_callS5 {a1 a2 a3 a4 a5 : Av} (hd : decode μ.1 pc = .ok (.invokestatic k, 3)) (hr : rsl 0 μ.2.1.cls k = some (μ', 5)) (hl : 5 ≤ μ'.2.2.1) (hq1 : qcat a1 = 1) (hq2 : qcat a2 = 1) (hq3 : qcat a3 = 1) (hq4 : qcat a4 = 1) (hq5 : qcat a5 = 1) (h8 : (rest.map qcat).sum ≤ 8) (e : pc + 3 = q) (hc : Ca d μ' [a1, a2, a3, a4, a5] σ P1) (kk : ∀ v σ1, P1 v σ1 → Wp (d + 1) μ q l (v.toList ++ rest) σ1 P) : Wp (d + 1) μ pc l (a5 :: a4 :: a3 :: a2 :: a1 :: rest) σ P := by
  refine wp_sD (as := [a1, a2, a3, a4, a5]) (rest := rest) (μ' := μ') hd rfl rfl (sC_stat hr) rfl ?_ hl (by simp [hq1, hq2, hq3, hq4, hq5]) hc e kk
  unfold sD
  rw [if_pos rfl]
  dsimp only
  rw [hr]
  dsimp only
  rw [if_pos ⟨by simp, h8⟩]
  rfl
theorem wp_callV5 {a1 a2 a3 a4 a5 : Av} (hd : decode μ.1 pc = .ok (.invokevirtual k, 3)) (hr : rsl 1 μ.2.1.cls k = some (μ', 5)) (ho : rcv σ r μ'.2.1.cls = true) (hl : 6 ≤ μ'.2.2.1) (hq1 : qcat a1 = 1) (hq2 : qcat a2 = 1) (hq3 : qcat a3 = 1) (hq4 : qcat a4 = 1) (hq5 : qcat a5 = 1) (h8 : (rest.map qcat).sum ≤ 8) (e : pc + 3 = q) (hc : Ca d μ' (.inr (.inr (some r)) :: [a1, a2, a3, a4, a5]) σ P1) (kk : ∀ v σ1, P1 v σ1 → Wp (d + 1) μ q l (v.toList ++ rest) σ1 P) : Wp (d + 1) μ pc l (a5 :: a4 :: a3 :: a2 :: a1 :: .inr (.inr (some r)) :: rest) σ P := by
  refine wp_sD (as := .inr (.inr (some r)) :: [a1, a2, a3, a4, a5]) (rest := rest) (μ' := μ') hd rfl rfl rfl rfl ?_ hl (by simp [qcat_r, hq1, hq2, hq3, hq4, hq5]) hc e kk
  unfold sD
  rw [if_pos rfl]
  dsimp only
  rw [hr]
  show (match (a5 :: a4 :: a3 :: a2 :: a1 :: .inr (.inr (some r)) :: rest).drop 5 with
      | .inr (.inr (some r)) :: rest => _
      | _ => none) = _
  simp only [List.drop_succ_cons, List.drop_zero]
  rw [if_pos ⟨by simp, h8, ho⟩]
  rfl
theorem wp_callI5 {a1 a2 a3 a4 a5 : Av} (hd : decode μ.1 pc = .ok (.invokespecial k, 3)) (hr : rsl 2 μ.2.1.cls k = some (μ', 5)) (h5 : 5 ≤ r.1) (hl : 6 ≤ μ'.2.2.1) (hq1 : qcat a1 = 1) (hq2 : qcat a2 = 1) (hq3 : qcat a3 = 1) (hq4 : qcat a4 = 1) (hq5 : qcat a5 = 1) (h8 : (rest.map qcat).sum ≤ 8) (e : pc + 3 = q) (hc : Ca d μ' (.inr (.inr (some r)) :: [a1, a2, a3, a4, a5]) σ P1) (kk : ∀ v σ1, P1 v σ1 → Wp (d + 1) μ q l (v.toList ++ rest) σ1 P) : Wp (d + 1) μ pc l (a5 :: a4 :: a3 :: a2 :: a1 :: .inr (.inr (some r)) :: rest) σ P := by
  refine wp_sD (as := .inr (.inr (some r)) :: [a1, a2, a3, a4, a5]) (rest := rest) (μ' := μ') hd rfl rfl (sC_spec hr) rfl ?_ hl (by simp [qcat_r, hq1, hq2, hq3, hq4, hq5]) hc e kk
  unfold sD
  rw [if_pos rfl]
  dsimp only
  rw [hr]
  show (match (a5 :: a4 :: a3 :: a2 :: a1 :: .inr (.inr (some r)) :: rest).drop 5 with
      | .inr (.inr (some r)) :: rest => _
      | _ => none) = _
  simp only [List.drop_succ_cons, List.drop_zero]
  rw [if_pos ⟨by simp, h8, h5⟩]
  rfl
end CL
end
