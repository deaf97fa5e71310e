section
-- ===== PART A: goes FIRST, ahead of the names: the tables' words, and 'selects' of the private methods out of them =====
/-- a private method of a class that the tables say can be made, by its rows of tables_1 -/
def lw_okq (q : MethodName × Nat) : Prop := (q.1.cls ≠ "java/lang/invoke/MethodHandle" ∧ q.1.cls ≠ "java/lang/invoke/VarHandle") ∧ Cond.instantiable q.1.cls q.2 ∈ tables_1 ∧ Cond.privateMethod q.1 ∈ tables_1 ∧ Cond.instanceMethod q.1 ∈ tables_1
theorem lw_p0 : lw_okq (⟨"java/lang/Throwable", "fillInStackTrace", "(I)Ljava/lang/Throwable;"⟩, 6) := ⟨⟨by decide +kernel, by decide +kernel⟩, List.mem_of_getElem? (i := 142) (by decide +kernel), List.mem_of_getElem? (i := 140) (by decide +kernel), List.mem_of_getElem? (i := 141) (by decide +kernel)⟩
theorem lw_p1 : lw_okq (⟨"java/util/ArrayList", "add", "(Ljava/lang/Object;[Ljava/lang/Object;I)V"⟩, 3) := ⟨⟨by decide +kernel, by decide +kernel⟩, List.mem_of_getElem? (i := 42) (by decide +kernel), List.mem_of_getElem? (i := 229) (by decide +kernel), List.mem_of_getElem? (i := 230) (by decide +kernel)⟩
theorem lw_p2 : lw_okq (⟨"java/util/ArrayList", "grow", "()[Ljava/lang/Object;"⟩, 3) := ⟨⟨by decide +kernel, by decide +kernel⟩, List.mem_of_getElem? (i := 42) (by decide +kernel), List.mem_of_getElem? (i := 233) (by decide +kernel), List.mem_of_getElem? (i := 234) (by decide +kernel)⟩
theorem lw_p3 : lw_okq (⟨"java/util/ArrayList", "grow", "(I)[Ljava/lang/Object;"⟩, 3) := ⟨⟨by decide +kernel, by decide +kernel⟩, List.mem_of_getElem? (i := 42) (by decide +kernel), List.mem_of_getElem? (i := 237) (by decide +kernel), List.mem_of_getElem? (i := 238) (by decide +kernel)⟩
theorem lw_p4 : lw_okq (⟨"AuditDraws", "forgetLatest", "()V"⟩, 6) := ⟨⟨by decide +kernel, by decide +kernel⟩, List.mem_of_getElem? (i := 23) (by decide +kernel), List.mem_of_getElem? (i := 305) (by decide +kernel), List.mem_of_getElem? (i := 306) (by decide +kernel)⟩
theorem lw_p5 : lw_okq (⟨"AuditDraws", "shareOut", "(I)V"⟩, 6) := ⟨⟨by decide +kernel, by decide +kernel⟩, List.mem_of_getElem? (i := 23) (by decide +kernel), List.mem_of_getElem? (i := 327) (by decide +kernel), List.mem_of_getElem? (i := 328) (by decide +kernel)⟩
theorem lw_p6 : lw_okq (⟨"AuditDraws", "giveRoundedDown", "(II)V"⟩, 6) := ⟨⟨by decide +kernel, by decide +kernel⟩, List.mem_of_getElem? (i := 23) (by decide +kernel), List.mem_of_getElem? (i := 331) (by decide +kernel), List.mem_of_getElem? (i := 332) (by decide +kernel)⟩
theorem lw_p7 : lw_okq (⟨"AuditDraws", "countThings", "(I)I"⟩, 6) := ⟨⟨by decide +kernel, by decide +kernel⟩, List.mem_of_getElem? (i := 23) (by decide +kernel), List.mem_of_getElem? (i := 335) (by decide +kernel), List.mem_of_getElem? (i := 336) (by decide +kernel)⟩
theorem lw_p8 : lw_okq (⟨"AuditDraws", "giveOneByGreatestRest", "()V"⟩, 6) := ⟨⟨by decide +kernel, by decide +kernel⟩, List.mem_of_getElem? (i := 23) (by decide +kernel), List.mem_of_getElem? (i := 339) (by decide +kernel), List.mem_of_getElem? (i := 340) (by decide +kernel)⟩
theorem lw_p9 : lw_okq (⟨"AuditDraws", "layRow", "(I)V"⟩, 6) := ⟨⟨by decide +kernel, by decide +kernel⟩, List.mem_of_getElem? (i := 23) (by decide +kernel), List.mem_of_getElem? (i := 343) (by decide +kernel), List.mem_of_getElem? (i := 344) (by decide +kernel)⟩
theorem lw_p10 : lw_okq (⟨"AuditDraws", "takeFromRow", "(I)V"⟩, 6) := ⟨⟨by decide +kernel, by decide +kernel⟩, List.mem_of_getElem? (i := 23) (by decide +kernel), List.mem_of_getElem? (i := 347) (by decide +kernel), List.mem_of_getElem? (i := 348) (by decide +kernel)⟩
theorem lw_p11 : lw_okq (⟨"AuditDraws", "existing", "(I)LAuditDraws$Thing;"⟩, 6) := ⟨⟨by decide +kernel, by decide +kernel⟩, List.mem_of_getElem? (i := 23) (by decide +kernel), List.mem_of_getElem? (i := 375) (by decide +kernel), List.mem_of_getElem? (i := 376) (by decide +kernel)⟩
theorem lw_p12 : lw_okq (⟨"AuditDraws", "countChecked", "(I)I"⟩, 6) := ⟨⟨by decide +kernel, by decide +kernel⟩, List.mem_of_getElem? (i := 23) (by decide +kernel), List.mem_of_getElem? (i := 397) (by decide +kernel), List.mem_of_getElem? (i := 398) (by decide +kernel)⟩
theorem lw_p13 : lw_okq (⟨"AuditDraws", "countListed", "(II)I"⟩, 6) := ⟨⟨by decide +kernel, by decide +kernel⟩, List.mem_of_getElem? (i := 23) (by decide +kernel), List.mem_of_getElem? (i := 401) (by decide +kernel), List.mem_of_getElem? (i := 402) (by decide +kernel)⟩
theorem lw_p14 : lw_okq (⟨"AuditDraws", "countMissed", "(I)I"⟩, 6) := ⟨⟨by decide +kernel, by decide +kernel⟩, List.mem_of_getElem? (i := 23) (by decide +kernel), List.mem_of_getElem? (i := 405) (by decide +kernel), List.mem_of_getElem? (i := 406) (by decide +kernel)⟩
theorem lw_p15 : lw_okq (⟨"AuditDrawsModel", "fails", "(ZZZ)Z"⟩, 15) := ⟨⟨by decide +kernel, by decide +kernel⟩, List.mem_of_getElem? (i := 543) (by decide +kernel), List.mem_of_getElem? (i := 612) (by decide +kernel), List.mem_of_getElem? (i := 613) (by decide +kernel)⟩
def lw_privs_1 : List (MethodName × Nat) := [(⟨"java/lang/Throwable", "fillInStackTrace", "(I)Ljava/lang/Throwable;"⟩, 6), (⟨"java/util/ArrayList", "add", "(Ljava/lang/Object;[Ljava/lang/Object;I)V"⟩, 3), (⟨"java/util/ArrayList", "grow", "()[Ljava/lang/Object;"⟩, 3), (⟨"java/util/ArrayList", "grow", "(I)[Ljava/lang/Object;"⟩, 3), (⟨"AuditDraws", "forgetLatest", "()V"⟩, 6), (⟨"AuditDraws", "shareOut", "(I)V"⟩, 6), (⟨"AuditDraws", "giveRoundedDown", "(II)V"⟩, 6), (⟨"AuditDraws", "countThings", "(I)I"⟩, 6), (⟨"AuditDraws", "giveOneByGreatestRest", "()V"⟩, 6), (⟨"AuditDraws", "layRow", "(I)V"⟩, 6), (⟨"AuditDraws", "takeFromRow", "(I)V"⟩, 6), (⟨"AuditDraws", "existing", "(I)LAuditDraws$Thing;"⟩, 6), (⟨"AuditDraws", "countChecked", "(I)I"⟩, 6), (⟨"AuditDraws", "countListed", "(II)I"⟩, 6), (⟨"AuditDraws", "countMissed", "(I)I"⟩, 6), (⟨"AuditDrawsModel", "fails", "(ZZZ)Z"⟩, 15)]
theorem lw_r1 : ∀ q ∈ lw_privs_1, lw_okq q := List.forall_mem_cons.mpr ⟨lw_p0, List.forall_mem_cons.mpr ⟨lw_p1, List.forall_mem_cons.mpr ⟨lw_p2, List.forall_mem_cons.mpr ⟨lw_p3, List.forall_mem_cons.mpr ⟨lw_p4, List.forall_mem_cons.mpr ⟨lw_p5, List.forall_mem_cons.mpr ⟨lw_p6, List.forall_mem_cons.mpr ⟨lw_p7, List.forall_mem_cons.mpr ⟨lw_p8, List.forall_mem_cons.mpr ⟨lw_p9, List.forall_mem_cons.mpr ⟨lw_p10, List.forall_mem_cons.mpr ⟨lw_p11, List.forall_mem_cons.mpr ⟨lw_p12, List.forall_mem_cons.mpr ⟨lw_p13, List.forall_mem_cons.mpr ⟨lw_p14, List.forall_mem_cons.mpr ⟨lw_p15, fun _ h => absurd h List.not_mem_nil⟩⟩⟩⟩⟩⟩⟩⟩⟩⟩⟩⟩⟩⟩⟩⟩
theorem lw_p16 : lw_okq (⟨"AuditDrawsModel", "divide", "(I)V"⟩, 15) := ⟨⟨by decide +kernel, by decide +kernel⟩, List.mem_of_getElem? (i := 543) (by decide +kernel), List.mem_of_getElem? (i := 620) (by decide +kernel), List.mem_of_getElem? (i := 621) (by decide +kernel)⟩
theorem lw_p17 : lw_okq (⟨"AuditDrawsModel", "size", "(I)I"⟩, 15) := ⟨⟨by decide +kernel, by decide +kernel⟩, List.mem_of_getElem? (i := 543) (by decide +kernel), List.mem_of_getElem? (i := 624) (by decide +kernel), List.mem_of_getElem? (i := 625) (by decide +kernel)⟩
theorem lw_p18 : lw_okq (⟨"AuditDrawsModel", "rest", "(II)I"⟩, 15) := ⟨⟨by decide +kernel, by decide +kernel⟩, List.mem_of_getElem? (i := 543) (by decide +kernel), List.mem_of_getElem? (i := 628) (by decide +kernel), List.mem_of_getElem? (i := 629) (by decide +kernel)⟩
theorem lw_p19 : lw_okq (⟨"AuditDrawsModel", "drawFrom", "(I)V"⟩, 15) := ⟨⟨by decide +kernel, by decide +kernel⟩, List.mem_of_getElem? (i := 543) (by decide +kernel), List.mem_of_getElem? (i := 632) (by decide +kernel), List.mem_of_getElem? (i := 633) (by decide +kernel)⟩
theorem lw_p20 : lw_okq (⟨"AuditDrawsModel", "draw", "(I)I"⟩, 15) := ⟨⟨by decide +kernel, by decide +kernel⟩, List.mem_of_getElem? (i := 543) (by decide +kernel), List.mem_of_getElem? (i := 636) (by decide +kernel), List.mem_of_getElem? (i := 637) (by decide +kernel)⟩
theorem lw_p21 : lw_okq (⟨"AuditDrawsModel", "isThing", "(I)Z"⟩, 15) := ⟨⟨by decide +kernel, by decide +kernel⟩, List.mem_of_getElem? (i := 543) (by decide +kernel), List.mem_of_getElem? (i := 650) (by decide +kernel), List.mem_of_getElem? (i := 651) (by decide +kernel)⟩
theorem lw_p22 : lw_okq (⟨"AuditDrawsModel", "many", "(III)I"⟩, 15) := ⟨⟨by decide +kernel, by decide +kernel⟩, List.mem_of_getElem? (i := 543) (by decide +kernel), List.mem_of_getElem? (i := 663) (by decide +kernel), List.mem_of_getElem? (i := 664) (by decide +kernel)⟩
theorem lw_p23 : lw_okq (⟨"AuditDrawsModel", "best", "(II)I"⟩, 15) := ⟨⟨by decide +kernel, by decide +kernel⟩, List.mem_of_getElem? (i := 543) (by decide +kernel), List.mem_of_getElem? (i := 700) (by decide +kernel), List.mem_of_getElem? (i := 701) (by decide +kernel)⟩
def lw_privs_2 : List (MethodName × Nat) := [(⟨"AuditDrawsModel", "divide", "(I)V"⟩, 15), (⟨"AuditDrawsModel", "size", "(I)I"⟩, 15), (⟨"AuditDrawsModel", "rest", "(II)I"⟩, 15), (⟨"AuditDrawsModel", "drawFrom", "(I)V"⟩, 15), (⟨"AuditDrawsModel", "draw", "(I)I"⟩, 15), (⟨"AuditDrawsModel", "isThing", "(I)Z"⟩, 15), (⟨"AuditDrawsModel", "many", "(III)I"⟩, 15), (⟨"AuditDrawsModel", "best", "(II)I"⟩, 15)]
theorem lw_r2 : ∀ q ∈ lw_privs_2, lw_okq q := List.forall_mem_cons.mpr ⟨lw_p16, List.forall_mem_cons.mpr ⟨lw_p17, List.forall_mem_cons.mpr ⟨lw_p18, List.forall_mem_cons.mpr ⟨lw_p19, List.forall_mem_cons.mpr ⟨lw_p20, List.forall_mem_cons.mpr ⟨lw_p21, List.forall_mem_cons.mpr ⟨lw_p22, List.forall_mem_cons.mpr ⟨lw_p23, fun _ h => absurd h List.not_mem_nil⟩⟩⟩⟩⟩⟩⟩⟩
def lw_privs : List (MethodName × Nat) := lw_privs_1 ++ (lw_privs_2)
def lw_tbl : List Cond := k2_sels lw_privs ++ tables_1
theorem lw_privs_ok : ∀ q ∈ lw_privs, lw_okq q := by
  show ∀ q ∈ lw_privs_1 ++ (lw_privs_2), lw_okq q
  exact List.forall_mem_append.mpr ⟨lw_r1, lw_r2⟩
def R_Draw : String := "AuditDraws$Draw"
def F_Draw : u_T := fun k => match k with
  | _ => ("AuditDraws$Draw", "state", "J", false)
def t_Draw : Nat → FieldType := fun k => match k with
  | _ => .long
def R_Thing : String := "AuditDraws$Thing"
def F_Thing : u_T := fun k => match k with
  | 0 => ("AuditDraws$Thing", "number", "I", true)
  | 1 => ("AuditDraws$Thing", "stratum", "I", true)
  | 2 => ("AuditDraws$Thing", "rows", "Ljava/util/ArrayList;", true)
  | 3 => ("AuditDraws$Thing", "place", "I", false)
  | 4 => ("AuditDraws$Thing", "state", "I", false)
  | _ => ("AuditDraws$Thing", "grams", "I", false)
def t_Thing : Nat → FieldType := fun k => match k with
  | 0 => .int
  | 1 => .int
  | 2 => .object "java/util/ArrayList"
  | 3 => .int
  | 4 => .int
  | _ => .int
def R_Sight : String := "AuditDraws$Sighting"
def F_Sight : u_T := fun k => match k with
  | 0 => ("AuditDraws$Sighting", "hour", "I", true)
  | 1 => ("AuditDraws$Sighting", "place", "I", true)
  | _ => ("AuditDraws$Sighting", "told", "I", true)
def t_Sight : Nat → FieldType := fun k => match k with
  | 0 => .int
  | 1 => .int
  | _ => .int
def R_AL : String := "java/util/ArrayList"
def F_AL : u_T := fun k => match k with
  | 0 => ("java/util/ArrayList", "elementData", "[Ljava/lang/Object;", false)
  | 1 => ("java/util/ArrayList", "size", "I", false)
  | _ => ("java/util/AbstractList", "modCount", "I", false)
def t_AL : Nat → FieldType := fun k => match k with
  | 0 => .array (.object "java/lang/Object")
  | 1 => .int
  | _ => .int
def R_AD : String := "AuditDraws"
def F_AD : u_T := fun k => match k with
  | 0 => ("AuditDraws", "draw", "LAuditDraws$Draw;", true)
  | 1 => ("AuditDraws", "things", "Ljava/util/ArrayList;", true)
  | 2 => ("AuditDraws", "latest", "Ljava/util/ArrayList;", true)
  | 3 => ("AuditDraws", "row", "Ljava/util/ArrayList;", true)
  | 4 => ("AuditDraws", "given", "[I", true)
  | _ => ("AuditDraws", "rests", "[I", true)
def t_AD : Nat → FieldType := fun k => match k with
  | 0 => .object "AuditDraws$Draw"
  | 1 => .object "java/util/ArrayList"
  | 2 => .object "java/util/ArrayList"
  | 3 => .object "java/util/ArrayList"
  | 4 => .array .int
  | _ => .array .int
def R_Mod : String := "AuditDrawsModel"
def F_Mod : u_T := fun k => match k with
  | 0 => ("AuditDrawsModel", "thrown", "I", false)
  | 1 => ("AuditDrawsModel", "state", "J", false)
  | 2 => ("AuditDrawsModel", "things", "I", false)
  | 3 => ("AuditDrawsModel", "strata", "[I", true)
  | 4 => ("AuditDrawsModel", "places", "[I", true)
  | 5 => ("AuditDrawsModel", "weights", "[I", true)
  | 6 => ("AuditDrawsModel", "drawnMany", "I", false)
  | 7 => ("AuditDrawsModel", "drawn", "[I", true)
  | 8 => ("AuditDrawsModel", "states", "[I", true)
  | 9 => ("AuditDrawsModel", "row", "[I", true)
  | 10 => ("AuditDrawsModel", "gives", "[I", true)
  | 11 => ("AuditDrawsModel", "rowMany", "[I", true)
  | 12 => ("AuditDrawsModel", "hours", "[I", true)
  | 13 => ("AuditDrawsModel", "seenAt", "[I", true)
  | _ => ("AuditDrawsModel", "tolds", "[I", true)
def t_Mod : Nat → FieldType := fun k => match k with
  | 0 => .int
  | 1 => .long
  | 2 => .int
  | 3 => .array .int
  | 4 => .array .int
  | 5 => .array .int
  | 6 => .int
  | 7 => .array .int
  | 8 => .array .int
  | 9 => .array .int
  | 10 => .array .int
  | 11 => .array .int
  | 12 => .array .int
  | 13 => .array .int
  | _ => .array .int
abbrev vwCl : List vw_C := [(R_Draw, F_Draw, 1), (R_Thing, F_Thing, 6), (R_Sight, F_Sight, 3), (R_AL, F_AL, 3), (R_AD, F_AD, 6), (R_Mod, F_Mod, 15)]
abbrev b_A_init : ByteArray := prog_1_method_1_code
def y_A_init : MethodName := ⟨"AuditDraws", "<init>", "()V"⟩
abbrev b_D_init : ByteArray := prog_3_method_1_code
def y_D_init : MethodName := ⟨"AuditDraws$Draw", "<init>", "()V"⟩
abbrev b_AL_init : ByteArray := prog_21_method_2_code
def y_AL_init : MethodName := ⟨"java/util/ArrayList", "<init>", "()V"⟩
abbrev b_AB_init : ByteArray := prog_20_method_1_code
def y_AB_init : MethodName := ⟨"java/util/AbstractList", "<init>", "()V"⟩
abbrev b_AC_init : ByteArray := prog_19_method_1_code
def y_AC_init : MethodName := ⟨"java/util/AbstractCollection", "<init>", "()V"⟩
abbrev b_A_seed : ByteArray := prog_1_method_2_code
def y_A_seed : MethodName := ⟨"AuditDraws", "seed", "(J)V"⟩
abbrev b_L_thing : ByteArray := method_3_code
def y_L_thing : MethodName := ⟨"AuditDrawsLaw", "thing", "(LAuditDraws;II[J)I"⟩
abbrev b_A_thing : ByteArray := prog_1_method_3_code
def y_A_thing : MethodName := ⟨"AuditDraws", "thing", "(II)I"⟩
abbrev b_A_needBelow : ByteArray := prog_1_method_30_code
def y_A_needBelow : MethodName := ⟨"AuditDraws", "needBelow", "(II)V"⟩
abbrev b_AL_size : ByteArray := prog_21_method_8_code
def y_AL_size : MethodName := ⟨"java/util/ArrayList", "size", "()I"⟩
abbrev b_T_init : ByteArray := prog_5_method_1_code
def y_T_init : MethodName := ⟨"AuditDraws$Thing", "<init>", "(III)V"⟩
abbrev b_AL_add : ByteArray := prog_21_method_25_code
def y_AL_add : MethodName := ⟨"java/util/ArrayList", "add", "(Ljava/lang/Object;)Z"⟩
abbrev b_AL_add3 : ByteArray := prog_21_method_24_code
def y_AL_add3 : MethodName := ⟨"java/util/ArrayList", "add", "(Ljava/lang/Object;[Ljava/lang/Object;I)V"⟩
abbrev b_AL_grow : ByteArray := prog_21_method_7_code
def y_AL_grow : MethodName := ⟨"java/util/ArrayList", "grow", "()[Ljava/lang/Object;"⟩
abbrev b_AL_grow1 : ByteArray := prog_21_method_6_code
def y_AL_grow1 : MethodName := ⟨"java/util/ArrayList", "grow", "(I)[Ljava/lang/Object;"⟩
abbrev b_AS_newLength : ByteArray := prog_29_method_27_code
def y_AS_newLength : MethodName := ⟨"jdk/internal/util/ArraysSupport", "newLength", "(III)I"⟩
abbrev b_MA_max : ByteArray := prog_14_method_65_code
def y_MA_max : MethodName := ⟨"java/lang/Math", "max", "(II)I"⟩
abbrev b_AS_hugeLength : ByteArray := prog_29_method_28_code
def y_AS_hugeLength : MethodName := ⟨"jdk/internal/util/ArraysSupport", "hugeLength", "(II)I"⟩
abbrev b_AR_copyOf : ByteArray := prog_22_method_119_code
def y_AR_copyOf : MethodName := ⟨"java/util/Arrays", "copyOf", "([Ljava/lang/Object;I)[Ljava/lang/Object;"⟩
abbrev b_AR_copyOf3 : ByteArray := prog_22_method_120_code
def y_AR_copyOf3 : MethodName := ⟨"java/util/Arrays", "copyOf", "([Ljava/lang/Object;ILjava/lang/Class;)[Ljava/lang/Object;"⟩
abbrev b_MA_min : ByteArray := prog_14_method_69_code
def y_MA_min : MethodName := ⟨"java/lang/Math", "min", "(II)I"⟩
abbrev b_L_list : ByteArray := method_4_code
def y_L_list : MethodName := ⟨"AuditDrawsLaw", "list", "(LAuditDraws;I[J)I"⟩
abbrev b_A_list : ByteArray := prog_1_method_4_code
def y_A_list : MethodName := ⟨"AuditDraws", "list", "(I)I"⟩
abbrev b_A_forgetLatest : ByteArray := prog_1_method_18_code
def y_A_forgetLatest : MethodName := ⟨"AuditDraws", "forgetLatest", "()V"⟩
abbrev b_AL_get : ByteArray := prog_21_method_20_code
def y_AL_get : MethodName := ⟨"java/util/ArrayList", "get", "(I)Ljava/lang/Object;"⟩
abbrev b_OB_checkIndex : ByteArray := prog_26_method_17_code
def y_OB_checkIndex : MethodName := ⟨"java/util/Objects", "checkIndex", "(II)I"⟩
abbrev b_PR_checkIndex : ByteArray := prog_30_method_11_code
def y_PR_checkIndex : MethodName := ⟨"jdk/internal/util/Preconditions", "checkIndex", "(IILjava/util/function/BiFunction;)I"⟩
abbrev b_AL_elementData : ByteArray := prog_21_method_18_code
def y_AL_elementData : MethodName := ⟨"java/util/ArrayList", "elementData", "(I)Ljava/lang/Object;"⟩
abbrev b_AL_clear : ByteArray := prog_21_method_40_code
def y_AL_clear : MethodName := ⟨"java/util/ArrayList", "clear", "()V"⟩
abbrev b_A_shareOut : ByteArray := prog_1_method_19_code
def y_A_shareOut : MethodName := ⟨"AuditDraws", "shareOut", "(I)V"⟩
abbrev b_A_giveRoundedDown : ByteArray := prog_1_method_20_code
def y_A_giveRoundedDown : MethodName := ⟨"AuditDraws", "giveRoundedDown", "(II)V"⟩
abbrev b_A_countThings : ByteArray := prog_1_method_24_code
def y_A_countThings : MethodName := ⟨"AuditDraws", "countThings", "(I)I"⟩
abbrev b_A_giveOneByGreatestRest : ByteArray := prog_1_method_21_code
def y_A_giveOneByGreatestRest : MethodName := ⟨"AuditDraws", "giveOneByGreatestRest", "()V"⟩
abbrev b_A_layRow : ByteArray := prog_1_method_22_code
def y_A_layRow : MethodName := ⟨"AuditDraws", "layRow", "(I)V"⟩
abbrev b_A_takeFromRow : ByteArray := prog_1_method_23_code
def y_A_takeFromRow : MethodName := ⟨"AuditDraws", "takeFromRow", "(I)V"⟩
abbrev b_D_below : ByteArray := prog_3_method_2_code
def y_D_below : MethodName := ⟨"AuditDraws$Draw", "below", "(I)I"⟩
abbrev b_AL_set : ByteArray := prog_21_method_23_code
def y_AL_set : MethodName := ⟨"java/util/ArrayList", "set", "(ILjava/lang/Object;)Ljava/lang/Object;"⟩
abbrev b_L_drawn : ByteArray := method_5_code
def y_L_drawn : MethodName := ⟨"AuditDrawsLaw", "drawn", "(LAuditDraws;I[J)I"⟩
abbrev b_A_drawn : ByteArray := prog_1_method_5_code
def y_A_drawn : MethodName := ⟨"AuditDraws", "drawn", "(I)I"⟩
abbrev b_L_check : ByteArray := method_6_code
def y_L_check : MethodName := ⟨"AuditDrawsLaw", "check", "(LAuditDraws;IIII[J)I"⟩
abbrev b_A_check : ByteArray := prog_1_method_6_code
def y_A_check : MethodName := ⟨"AuditDraws", "check", "(IIII)I"⟩
abbrev b_A_existing : ByteArray := prog_1_method_29_code
def y_A_existing : MethodName := ⟨"AuditDraws", "existing", "(I)LAuditDraws$Thing;"⟩
abbrev b_A_needListed : ByteArray := prog_1_method_32_code
def y_A_needListed : MethodName := ⟨"AuditDraws", "needListed", "(LAuditDraws$Thing;)V"⟩
abbrev b_L_gone : ByteArray := method_7_code
def y_L_gone : MethodName := ⟨"AuditDrawsLaw", "gone", "(LAuditDraws;I[J)I"⟩
abbrev b_A_gone : ByteArray := prog_1_method_7_code
def y_A_gone : MethodName := ⟨"AuditDraws", "gone", "(I)Z"⟩
abbrev b_L_share : ByteArray := method_8_code
def y_L_share : MethodName := ⟨"AuditDrawsLaw", "share", "(LAuditDraws;II[J)I"⟩
abbrev b_A_share : ByteArray := prog_1_method_8_code
def y_A_share : MethodName := ⟨"AuditDraws", "share", "(II)I"⟩
abbrev b_A_countChecked : ByteArray := prog_1_method_27_code
def y_A_countChecked : MethodName := ⟨"AuditDraws", "countChecked", "(I)I"⟩
abbrev b_A_countListed : ByteArray := prog_1_method_25_code
def y_A_countListed : MethodName := ⟨"AuditDraws", "countListed", "(II)I"⟩
abbrev b_A_countMissed : ByteArray := prog_1_method_26_code
def y_A_countMissed : MethodName := ⟨"AuditDraws", "countMissed", "(I)I"⟩
abbrev b_A_commonDivisor : ByteArray := prog_1_method_28_code
def y_A_commonDivisor : MethodName := ⟨"AuditDraws", "commonDivisor", "(II)I"⟩
abbrev b_L_next : ByteArray := method_9_code
def y_L_next : MethodName := ⟨"AuditDrawsLaw", "next", "(LAuditDraws;I[J)I"⟩
abbrev b_A_next : ByteArray := prog_1_method_9_code
def y_A_next : MethodName := ⟨"AuditDraws", "next", "(I)I"⟩
abbrev b_L_digit : ByteArray := method_10_code
def y_L_digit : MethodName := ⟨"AuditDrawsLaw", "digit", "(LAuditDraws;IJ[J)I"⟩
abbrev b_A_digit : ByteArray := prog_1_method_10_code
def y_A_digit : MethodName := ⟨"AuditDraws", "digit", "(IJ)I"⟩
abbrev b_A_needNumber : ByteArray := prog_1_method_34_code
def y_A_needNumber : MethodName := ⟨"AuditDraws", "needNumber", "(J)V"⟩
abbrev b_C_of : ByteArray := prog_2_method_2_code
def y_C_of : MethodName := ⟨"AuditDraws$CheckDigits", "of", "(IJ)I"⟩
abbrev b_C_weighedSum : ByteArray := prog_2_method_4_code
def y_C_weighedSum : MethodName := ⟨"AuditDraws$CheckDigits", "weighedSum", "(IJ)I"⟩
abbrev b_C_weighed : ByteArray := prog_2_method_5_code
def y_C_weighed : MethodName := ⟨"AuditDraws$CheckDigits", "weighed", "(III)I"⟩
abbrev b_C_doubled : ByteArray := prog_2_method_6_code
def y_C_doubled : MethodName := ⟨"AuditDraws$CheckDigits", "doubled", "(I)I"⟩
abbrev b_L_good : ByteArray := method_11_code
def y_L_good : MethodName := ⟨"AuditDrawsLaw", "good", "(LAuditDraws;IJ[J)I"⟩
abbrev b_A_good : ByteArray := prog_1_method_11_code
def y_A_good : MethodName := ⟨"AuditDraws", "good", "(IJ)Z"⟩
abbrev b_C_closes : ByteArray := prog_2_method_3_code
def y_C_closes : MethodName := ⟨"AuditDraws$CheckDigits", "closes", "(IJ)Z"⟩
abbrev b_L_tag : ByteArray := method_12_code
def y_L_tag : MethodName := ⟨"AuditDrawsLaw", "tag", "(LAuditDraws;IIII[J)I"⟩
abbrev b_A_tag : ByteArray := prog_1_method_12_code
def y_A_tag : MethodName := ⟨"AuditDraws", "tag", "(IIII)I"⟩
abbrev b_A_needHour : ByteArray := prog_1_method_33_code
def y_A_needHour : MethodName := ⟨"AuditDraws", "needHour", "(I)V"⟩
abbrev b_S_init : ByteArray := prog_4_method_1_code
def y_S_init : MethodName := ⟨"AuditDraws$Sighting", "<init>", "(III)V"⟩
abbrev b_L_first : ByteArray := method_13_code
def y_L_first : MethodName := ⟨"AuditDrawsLaw", "first", "(LAuditDraws;II[J)I"⟩
abbrev b_A_first : ByteArray := prog_1_method_13_code
def y_A_first : MethodName := ⟨"AuditDraws", "first", "(II)I"⟩
abbrev b_T_lastToldBy : ByteArray := prog_5_method_2_code
def y_T_lastToldBy : MethodName := ⟨"AuditDraws$Thing", "lastToldBy", "(I)LAuditDraws$Sighting;"⟩
abbrev b_S_replaces : ByteArray := prog_4_method_2_code
def y_S_replaces : MethodName := ⟨"AuditDraws$Sighting", "replaces", "(LAuditDraws$Sighting;)Z"⟩
abbrev b_L_seen : ByteArray := method_14_code
def y_L_seen : MethodName := ⟨"AuditDrawsLaw", "seen", "(LAuditDraws;II[J)I"⟩
abbrev b_A_seen : ByteArray := prog_1_method_14_code
def y_A_seen : MethodName := ⟨"AuditDraws", "seen", "(II)I"⟩
abbrev b_L_weight : ByteArray := method_15_code
def y_L_weight : MethodName := ⟨"AuditDrawsLaw", "weight", "(LAuditDraws;II[J)I"⟩
abbrev b_A_weight : ByteArray := prog_1_method_15_code
def y_A_weight : MethodName := ⟨"AuditDraws", "weight", "(II)I"⟩
abbrev b_MA_abs : ByteArray := prog_14_method_59_code
def y_MA_abs : MethodName := ⟨"java/lang/Math", "abs", "(I)I"⟩
abbrev b_L_report : ByteArray := method_16_code
def y_L_report : MethodName := ⟨"AuditDrawsLaw", "report", "(LAuditDraws;II[J)I"⟩
abbrev b_A_report : ByteArray := prog_1_method_16_code
def y_A_report : MethodName := ⟨"AuditDraws", "report", "(II)I"⟩
abbrev b_A_needNotNegative : ByteArray := prog_1_method_31_code
def y_A_needNotNegative : MethodName := ⟨"AuditDraws", "needNotNegative", "(I)V"⟩
abbrev b_L_room : ByteArray := method_17_code
def y_L_room : MethodName := ⟨"AuditDrawsLaw", "room", "(LAuditDraws;II[J)I"⟩
abbrev b_A_room : ByteArray := prog_1_method_17_code
def y_A_room : MethodName := ⟨"AuditDraws", "room", "(II)I"⟩
abbrev b_M_init : ByteArray := prog_7_method_1_code
def y_M_init : MethodName := ⟨"AuditDrawsModel", "<init>", "()V"⟩
abbrev b_M_thrown : ByteArray := prog_7_method_2_code
def y_M_thrown : MethodName := ⟨"AuditDrawsModel", "thrown", "()I"⟩
abbrev b_M_seed : ByteArray := prog_7_method_6_code
def y_M_seed : MethodName := ⟨"AuditDrawsModel", "seed", "(J)V"⟩
abbrev b_M_thing : ByteArray := prog_7_method_7_code
def y_M_thing : MethodName := ⟨"AuditDrawsModel", "thing", "(II)I"⟩
abbrev b_M_in : ByteArray := prog_7_method_3_code
def y_M_in : MethodName := ⟨"AuditDrawsModel", "in", "(JJJ)Z"⟩
abbrev b_M_fails : ByteArray := prog_7_method_4_code
def y_M_fails : MethodName := ⟨"AuditDrawsModel", "fails", "(ZZZ)Z"⟩
abbrev b_M_list : ByteArray := prog_7_method_13_code
def y_M_list : MethodName := ⟨"AuditDrawsModel", "list", "(I)I"⟩
abbrev b_M_divide : ByteArray := prog_7_method_11_code
def y_M_divide : MethodName := ⟨"AuditDrawsModel", "divide", "(I)V"⟩
abbrev b_M_size : ByteArray := prog_7_method_9_code
def y_M_size : MethodName := ⟨"AuditDrawsModel", "size", "(I)I"⟩
abbrev b_M_rest : ByteArray := prog_7_method_10_code
def y_M_rest : MethodName := ⟨"AuditDrawsModel", "rest", "(II)I"⟩
abbrev b_M_drawFrom : ByteArray := prog_7_method_12_code
def y_M_drawFrom : MethodName := ⟨"AuditDrawsModel", "drawFrom", "(I)V"⟩
abbrev b_M_draw : ByteArray := prog_7_method_8_code
def y_M_draw : MethodName := ⟨"AuditDrawsModel", "draw", "(I)I"⟩
abbrev b_M_drawn : ByteArray := prog_7_method_14_code
def y_M_drawn : MethodName := ⟨"AuditDrawsModel", "drawn", "(I)I"⟩
abbrev b_M_check : ByteArray := prog_7_method_15_code
def y_M_check : MethodName := ⟨"AuditDrawsModel", "check", "(IIII)I"⟩
abbrev b_M_isThing : ByteArray := prog_7_method_5_code
def y_M_isThing : MethodName := ⟨"AuditDrawsModel", "isThing", "(I)Z"⟩
abbrev b_M_gone : ByteArray := prog_7_method_16_code
def y_M_gone : MethodName := ⟨"AuditDrawsModel", "gone", "(I)Z"⟩
abbrev b_M_share : ByteArray := prog_7_method_18_code
def y_M_share : MethodName := ⟨"AuditDrawsModel", "share", "(II)I"⟩
abbrev b_M_many : ByteArray := prog_7_method_17_code
def y_M_many : MethodName := ⟨"AuditDrawsModel", "many", "(III)I"⟩
abbrev b_M_next : ByteArray := prog_7_method_19_code
def y_M_next : MethodName := ⟨"AuditDrawsModel", "next", "(I)I"⟩
abbrev b_M_digit : ByteArray := prog_7_method_23_code
def y_M_digit : MethodName := ⟨"AuditDrawsModel", "digit", "(IJ)I"⟩
abbrev b_M_digitOf : ByteArray := prog_7_method_22_code
def y_M_digitOf : MethodName := ⟨"AuditDrawsModel", "digitOf", "(IJ)I"⟩
abbrev b_M_sum : ByteArray := prog_7_method_21_code
def y_M_sum : MethodName := ⟨"AuditDrawsModel", "sum", "(IJ)I"⟩
abbrev b_M_counts : ByteArray := prog_7_method_20_code
def y_M_counts : MethodName := ⟨"AuditDrawsModel", "counts", "(III)I"⟩
abbrev b_M_good : ByteArray := prog_7_method_24_code
def y_M_good : MethodName := ⟨"AuditDrawsModel", "good", "(IJ)Z"⟩
abbrev b_M_tag : ByteArray := prog_7_method_25_code
def y_M_tag : MethodName := ⟨"AuditDrawsModel", "tag", "(IIII)I"⟩
abbrev b_M_first : ByteArray := prog_7_method_27_code
def y_M_first : MethodName := ⟨"AuditDrawsModel", "first", "(II)I"⟩
abbrev b_M_best : ByteArray := prog_7_method_26_code
def y_M_best : MethodName := ⟨"AuditDrawsModel", "best", "(II)I"⟩
abbrev b_M_seen : ByteArray := prog_7_method_28_code
def y_M_seen : MethodName := ⟨"AuditDrawsModel", "seen", "(II)I"⟩
abbrev b_M_weight : ByteArray := prog_7_method_29_code
def y_M_weight : MethodName := ⟨"AuditDrawsModel", "weight", "(II)I"⟩
abbrev b_M_report : ByteArray := prog_7_method_30_code
def y_M_report : MethodName := ⟨"AuditDrawsModel", "report", "(II)I"⟩
abbrev b_M_room : ByteArray := prog_7_method_31_code
def y_M_room : MethodName := ⟨"AuditDrawsModel", "room", "(II)I"⟩
/-- the words that a call keeps -/
def ad_g : Cond → Bool
  | .arrayOver (.object _) => true
  | w => goodWord w || (w.onTables && w.faceAtom)
def ad_T : List Cond := lw_tbl.filter ad_g
theorem ad_in {w : Cond} (h : w ∈ tables_1) (hg : ad_g w = true) : w ∈ ad_T := List.mem_filter.mpr ⟨List.mem_append_right _ h, hg⟩
theorem ad_inS {w : Cond} (h : w ∈ k2_sels lw_privs) (hg : ad_g w = true) : w ∈ ad_T := List.mem_filter.mpr ⟨List.mem_append_left _ h, hg⟩
theorem w_0 : (Cond.initialized "AuditDrawsLaw" : Cond) ∈ ad_T := ad_in (List.mem_of_getElem? (i := 0) (by decide +kernel)) (by rfl)
theorem w_1 : (Cond.initialized "AuditDraws" : Cond) ∈ ad_T := ad_in (List.mem_of_getElem? (i := 1) (by decide +kernel)) (by rfl)
theorem w_2 : (Cond.initialized "AuditDraws$Draw" : Cond) ∈ ad_T := ad_in (List.mem_of_getElem? (i := 2) (by decide +kernel)) (by rfl)
theorem w_3 : (Cond.initialized "java/util/AbstractCollection" : Cond) ∈ ad_T := ad_in (List.mem_of_getElem? (i := 3) (by decide +kernel)) (by rfl)
theorem w_4 : (Cond.initialized "java/util/AbstractList" : Cond) ∈ ad_T := ad_in (List.mem_of_getElem? (i := 4) (by decide +kernel)) (by rfl)
theorem w_5 : (Cond.initialized "java/util/ArrayList" : Cond) ∈ ad_T := ad_in (List.mem_of_getElem? (i := 5) (by decide +kernel)) (by rfl)
theorem w_6 : (Cond.initialized "AuditDrawsModel" : Cond) ∈ ad_T := ad_in (List.mem_of_getElem? (i := 6) (by decide +kernel)) (by rfl)
theorem w_7 : (Cond.initialized "java/lang/Throwable" : Cond) ∈ ad_T := ad_in (List.mem_of_getElem? (i := 7) (by decide +kernel)) (by rfl)
theorem w_8 : (Cond.initialized "java/lang/Exception" : Cond) ∈ ad_T := ad_in (List.mem_of_getElem? (i := 8) (by decide +kernel)) (by rfl)
theorem w_9 : (Cond.initialized "java/lang/RuntimeException" : Cond) ∈ ad_T := ad_in (List.mem_of_getElem? (i := 9) (by decide +kernel)) (by rfl)
theorem w_10 : (Cond.initialized "java/util/NoSuchElementException" : Cond) ∈ ad_T := ad_in (List.mem_of_getElem? (i := 10) (by decide +kernel)) (by rfl)
theorem w_11 : (Cond.initialized "java/lang/IllegalStateException" : Cond) ∈ ad_T := ad_in (List.mem_of_getElem? (i := 11) (by decide +kernel)) (by rfl)
theorem w_12 : (Cond.initialized "AuditDraws$Thing" : Cond) ∈ ad_T := ad_in (List.mem_of_getElem? (i := 12) (by decide +kernel)) (by rfl)
theorem w_13 : (Cond.initialized "jdk/internal/util/ArraysSupport" : Cond) ∈ ad_T := ad_in (List.mem_of_getElem? (i := 13) (by decide +kernel)) (by rfl)
theorem w_14 : (Cond.initialized "java/lang/Math" : Cond) ∈ ad_T := ad_in (List.mem_of_getElem? (i := 14) (by decide +kernel)) (by rfl)
theorem w_15 : (Cond.initialized "java/util/Arrays" : Cond) ∈ ad_T := ad_in (List.mem_of_getElem? (i := 15) (by decide +kernel)) (by rfl)
theorem w_16 : (Cond.initialized "java/lang/System" : Cond) ∈ ad_T := ad_in (List.mem_of_getElem? (i := 16) (by decide +kernel)) (by rfl)
theorem w_17 : (Cond.initialized "java/lang/IllegalArgumentException" : Cond) ∈ ad_T := ad_in (List.mem_of_getElem? (i := 17) (by decide +kernel)) (by rfl)
theorem w_18 : (Cond.initialized "java/util/Objects" : Cond) ∈ ad_T := ad_in (List.mem_of_getElem? (i := 18) (by decide +kernel)) (by rfl)
theorem w_19 : (Cond.initialized "jdk/internal/util/Preconditions" : Cond) ∈ ad_T := ad_in (List.mem_of_getElem? (i := 19) (by decide +kernel)) (by rfl)
theorem w_20 : (Cond.initialized "AuditDraws$CheckDigits" : Cond) ∈ ad_T := ad_in (List.mem_of_getElem? (i := 20) (by decide +kernel)) (by rfl)
theorem w_21 : (Cond.initialized "AuditDraws$Sighting" : Cond) ∈ ad_T := ad_in (List.mem_of_getElem? (i := 21) (by decide +kernel)) (by rfl)
theorem w_22 : (Cond.classLink "AuditDrawsLaw" 8 "AuditDraws" : Cond) ∈ ad_T := ad_in (List.mem_of_getElem? (i := 22) (by decide +kernel)) (by rfl)
theorem w_23 : (Cond.instantiable "AuditDraws" 6 : Cond) ∈ ad_T := ad_in (List.mem_of_getElem? (i := 23) (by decide +kernel)) (by rfl)
theorem w_24 : (Cond.methodLink "AuditDrawsLaw" 66 ⟨"AuditDraws", "<init>", "()V"⟩ : Cond) ∈ ad_T := ad_in (List.mem_of_getElem? (i := 24) (by decide +kernel)) (by rfl)
theorem w_25 : (Cond.instanceMethod ⟨"AuditDraws", "<init>", "()V"⟩ : Cond) ∈ ad_T := ad_in (List.mem_of_getElem? (i := 25) (by decide +kernel)) (by rfl)
set_option maxRecDepth 100000 in
theorem w_26 : (Cond.code ⟨"AuditDraws", "<init>", "()V"⟩ prog_1_method_1_code 1 (none : Option FieldType) : Cond) ∈ ad_T := ad_in (List.mem_of_getElem? (i := 26) rfl) (by rfl)
theorem w_27 : (Cond.methodLink "AuditDraws" 1 ⟨"java/lang/Object", "<init>", "()V"⟩ : Cond) ∈ ad_T := ad_in (List.mem_of_getElem? (i := 27) (by decide +kernel)) (by rfl)
theorem w_28 : (Cond.instanceMethod ⟨"java/lang/Object", "<init>", "()V"⟩ : Cond) ∈ ad_T := ad_in (List.mem_of_getElem? (i := 28) (by decide +kernel)) (by rfl)
set_option maxRecDepth 100000 in
theorem w_29 : (Cond.code ⟨"java/lang/Object", "<init>", "()V"⟩ object_method_1_code 1 (none : Option FieldType) : Cond) ∈ ad_T := ad_in (List.mem_of_getElem? (i := 29) rfl) (by rfl)
theorem w_30 : (Cond.classLink "AuditDraws" 7 "AuditDraws$Draw" : Cond) ∈ ad_T := ad_in (List.mem_of_getElem? (i := 30) (by decide +kernel)) (by rfl)
theorem w_31 : (Cond.instantiable "AuditDraws$Draw" 1 : Cond) ∈ ad_T := ad_in (List.mem_of_getElem? (i := 31) (by decide +kernel)) (by rfl)
theorem w_33 : (Cond.instanceMethod ⟨"AuditDraws$Draw", "<init>", "()V"⟩ : Cond) ∈ ad_T := ad_in (List.mem_of_getElem? (i := 33) (by decide +kernel)) (by rfl)
set_option maxRecDepth 100000 in
theorem w_34 : (Cond.code ⟨"AuditDraws$Draw", "<init>", "()V"⟩ prog_3_method_1_code 1 (none : Option FieldType) : Cond) ∈ ad_T := ad_in (List.mem_of_getElem? (i := 34) rfl) (by rfl)
theorem w_35 : (Cond.methodLink "AuditDraws$Draw" 1 ⟨"java/lang/Object", "<init>", "()V"⟩ : Cond) ∈ ad_T := ad_in (List.mem_of_getElem? (i := 35) (by decide +kernel)) (by rfl)
theorem w_36 : (Cond.fieldLink "AuditDraws$Draw" 7 "AuditDraws$Draw" "state" "J" : Cond) ∈ ad_T := ad_in (List.mem_of_getElem? (i := 36) (by decide +kernel)) (by rfl)
theorem w_37 : (Cond.fieldLink "AuditDraws" 36 "AuditDraws$Draw" "state" "J" : Cond) ∈ ad_T := ad_in (List.mem_of_getElem? (i := 37) (by decide +kernel)) (by rfl)
theorem w_38 : (Cond.lays "AuditDraws$Draw" "AuditDraws$Draw" "state" "J" : Cond) ∈ ad_T := ad_in (List.mem_of_getElem? (i := 38) (by decide +kernel)) (by rfl)
theorem w_40 : (Cond.superclass "AuditDraws$Draw" "java/lang/Object" : Cond) ∈ ad_T := ad_in (List.mem_of_getElem? (i := 40) (by decide +kernel)) (by rfl)
theorem w_41 : (Cond.classLink "AuditDraws" 16 "java/util/ArrayList" : Cond) ∈ ad_T := ad_in (List.mem_of_getElem? (i := 41) (by decide +kernel)) (by rfl)
theorem w_42 : (Cond.instantiable "java/util/ArrayList" 3 : Cond) ∈ ad_T := ad_in (List.mem_of_getElem? (i := 42) (by decide +kernel)) (by rfl)
theorem w_43 : (Cond.methodLink "AuditDraws" 18 ⟨"java/util/ArrayList", "<init>", "()V"⟩ : Cond) ∈ ad_T := ad_in (List.mem_of_getElem? (i := 43) (by decide +kernel)) (by rfl)
theorem w_44 : (Cond.instanceMethod ⟨"java/util/ArrayList", "<init>", "()V"⟩ : Cond) ∈ ad_T := ad_in (List.mem_of_getElem? (i := 44) (by decide +kernel)) (by rfl)
set_option maxRecDepth 100000 in
theorem w_45 : (Cond.code ⟨"java/util/ArrayList", "<init>", "()V"⟩ prog_21_method_2_code 1 (none : Option FieldType) : Cond) ∈ ad_T := ad_in (List.mem_of_getElem? (i := 45) rfl) (by rfl)
theorem w_46 : (Cond.methodLink "java/util/ArrayList" 1 ⟨"java/util/AbstractList", "<init>", "()V"⟩ : Cond) ∈ ad_T := ad_in (List.mem_of_getElem? (i := 46) (by decide +kernel)) (by rfl)
theorem w_47 : (Cond.instanceMethod ⟨"java/util/AbstractList", "<init>", "()V"⟩ : Cond) ∈ ad_T := ad_in (List.mem_of_getElem? (i := 47) (by decide +kernel)) (by rfl)
set_option maxRecDepth 100000 in
theorem w_48 : (Cond.code ⟨"java/util/AbstractList", "<init>", "()V"⟩ prog_20_method_1_code 1 (none : Option FieldType) : Cond) ∈ ad_T := ad_in (List.mem_of_getElem? (i := 48) rfl) (by rfl)
theorem w_49 : (Cond.methodLink "java/util/AbstractList" 1 ⟨"java/util/AbstractCollection", "<init>", "()V"⟩ : Cond) ∈ ad_T := ad_in (List.mem_of_getElem? (i := 49) (by decide +kernel)) (by rfl)
theorem w_50 : (Cond.instanceMethod ⟨"java/util/AbstractCollection", "<init>", "()V"⟩ : Cond) ∈ ad_T := ad_in (List.mem_of_getElem? (i := 50) (by decide +kernel)) (by rfl)
set_option maxRecDepth 100000 in
theorem w_51 : (Cond.code ⟨"java/util/AbstractCollection", "<init>", "()V"⟩ prog_19_method_1_code 1 (none : Option FieldType) : Cond) ∈ ad_T := ad_in (List.mem_of_getElem? (i := 51) rfl) (by rfl)
theorem w_52 : (Cond.methodLink "java/util/AbstractCollection" 1 ⟨"java/lang/Object", "<init>", "()V"⟩ : Cond) ∈ ad_T := ad_in (List.mem_of_getElem? (i := 52) (by decide +kernel)) (by rfl)
theorem w_53 : (Cond.fieldLink "java/util/ArrayList" 39 "java/util/ArrayList" "DEFAULTCAPACITY_EMPTY_ELEMENTDATA" "[Ljava/lang/Object;" : Cond) ∈ ad_T := ad_in (List.mem_of_getElem? (i := 53) (by decide +kernel)) (by rfl)
theorem w_55 : (Cond.fieldLink "java/util/ArrayList" 9 "java/util/ArrayList" "elementData" "[Ljava/lang/Object;" : Cond) ∈ ad_T := ad_in (List.mem_of_getElem? (i := 55) (by decide +kernel)) (by rfl)
theorem w_56 : (Cond.fieldLink "java/util/ArrayList" 48 "java/util/ArrayList" "size" "I" : Cond) ∈ ad_T := ad_in (List.mem_of_getElem? (i := 56) (by decide +kernel)) (by rfl)
theorem w_57 : (Cond.fieldLink "java/util/AbstractList" 7 "java/util/AbstractList" "modCount" "I" : Cond) ∈ ad_T := ad_in (List.mem_of_getElem? (i := 57) (by decide +kernel)) (by rfl)
theorem w_58 : (Cond.fieldLink "java/util/ArrayList" 63 "java/util/ArrayList" "modCount" "I" : Cond) ∈ ad_T := ad_in (List.mem_of_getElem? (i := 58) (by decide +kernel)) (by rfl)
theorem w_60 : (Cond.lays "java/util/ArrayList" "java/util/ArrayList" "elementData" "[Ljava/lang/Object;" : Cond) ∈ ad_T := ad_in (List.mem_of_getElem? (i := 60) (by decide +kernel)) (by rfl)
theorem w_62 : (Cond.lays "java/util/ArrayList" "java/util/ArrayList" "size" "I" : Cond) ∈ ad_T := ad_in (List.mem_of_getElem? (i := 62) (by decide +kernel)) (by rfl)
theorem w_64 : (Cond.lays "java/util/ArrayList" "java/util/AbstractList" "modCount" "I" : Cond) ∈ ad_T := ad_in (List.mem_of_getElem? (i := 64) (by decide +kernel)) (by rfl)
theorem w_66 : (Cond.superclass "java/util/ArrayList" "java/util/AbstractList" : Cond) ∈ ad_T := ad_in (List.mem_of_getElem? (i := 66) (by decide +kernel)) (by rfl)
theorem w_67 : (Cond.fieldLink "AuditDraws" 10 "AuditDraws" "draw" "LAuditDraws$Draw;" : Cond) ∈ ad_T := ad_in (List.mem_of_getElem? (i := 67) (by decide +kernel)) (by rfl)
theorem w_68 : (Cond.fieldLink "AuditDraws" 19 "AuditDraws" "things" "Ljava/util/ArrayList;" : Cond) ∈ ad_T := ad_in (List.mem_of_getElem? (i := 68) (by decide +kernel)) (by rfl)
theorem w_69 : (Cond.fieldLink "AuditDraws" 23 "AuditDraws" "latest" "Ljava/util/ArrayList;" : Cond) ∈ ad_T := ad_in (List.mem_of_getElem? (i := 69) (by decide +kernel)) (by rfl)
theorem w_70 : (Cond.fieldLink "AuditDraws" 26 "AuditDraws" "row" "Ljava/util/ArrayList;" : Cond) ∈ ad_T := ad_in (List.mem_of_getElem? (i := 70) (by decide +kernel)) (by rfl)
theorem w_71 : (Cond.fieldLink "AuditDraws" 29 "AuditDraws" "given" "[I" : Cond) ∈ ad_T := ad_in (List.mem_of_getElem? (i := 71) (by decide +kernel)) (by rfl)
theorem w_72 : (Cond.fieldLink "AuditDraws" 33 "AuditDraws" "rests" "[I" : Cond) ∈ ad_T := ad_in (List.mem_of_getElem? (i := 72) (by decide +kernel)) (by rfl)
theorem w_73 : (Cond.laysFinal "AuditDraws" "AuditDraws" "draw" "LAuditDraws$Draw;" : Cond) ∈ ad_T := ad_in (List.mem_of_getElem? (i := 73) (by decide +kernel)) (by rfl)
theorem w_75 : (Cond.laysFinal "AuditDraws" "AuditDraws" "things" "Ljava/util/ArrayList;" : Cond) ∈ ad_T := ad_in (List.mem_of_getElem? (i := 75) (by decide +kernel)) (by rfl)
theorem w_77 : (Cond.laysFinal "AuditDraws" "AuditDraws" "latest" "Ljava/util/ArrayList;" : Cond) ∈ ad_T := ad_in (List.mem_of_getElem? (i := 77) (by decide +kernel)) (by rfl)
theorem w_79 : (Cond.laysFinal "AuditDraws" "AuditDraws" "row" "Ljava/util/ArrayList;" : Cond) ∈ ad_T := ad_in (List.mem_of_getElem? (i := 79) (by decide +kernel)) (by rfl)
theorem w_81 : (Cond.laysFinal "AuditDraws" "AuditDraws" "given" "[I" : Cond) ∈ ad_T := ad_in (List.mem_of_getElem? (i := 81) (by decide +kernel)) (by rfl)
theorem w_83 : (Cond.laysFinal "AuditDraws" "AuditDraws" "rests" "[I" : Cond) ∈ ad_T := ad_in (List.mem_of_getElem? (i := 83) (by decide +kernel)) (by rfl)
theorem w_85 : (Cond.superclass "AuditDraws" "java/lang/Object" : Cond) ∈ ad_T := ad_in (List.mem_of_getElem? (i := 85) (by decide +kernel)) (by rfl)
theorem w_86 : (Cond.arrayClass .int : Cond) ∈ ad_T := ad_in (List.mem_of_getElem? (i := 86) (by decide +kernel)) (by rfl)
theorem w_87 : (Cond.methodLink "AuditDrawsLaw" 72 ⟨"AuditDraws", "seed", "(J)V"⟩ : Cond) ∈ ad_T := ad_in (List.mem_of_getElem? (i := 87) (by decide +kernel)) (by rfl)
theorem w_88 : (Cond.instanceMethod ⟨"AuditDraws", "seed", "(J)V"⟩ : Cond) ∈ ad_T := ad_in (List.mem_of_getElem? (i := 88) (by decide +kernel)) (by rfl)
theorem w_89 : (Cond.selects "AuditDraws" ⟨"AuditDraws", "seed", "(J)V"⟩ ⟨"AuditDraws", "seed", "(J)V"⟩ : Cond) ∈ ad_T := ad_in (List.mem_of_getElem? (i := 89) (by decide +kernel)) (by rfl)
set_option maxRecDepth 100000 in
theorem w_90 : (Cond.code ⟨"AuditDraws", "seed", "(J)V"⟩ prog_1_method_2_code 3 (none : Option FieldType) : Cond) ∈ ad_T := ad_in (List.mem_of_getElem? (i := 90) rfl) (by rfl)
theorem w_91 : (Cond.methodLink "AuditDrawsLaw" 77 ⟨"AuditDrawsLaw", "thing", "(LAuditDraws;II[J)I"⟩ : Cond) ∈ ad_T := ad_in (List.mem_of_getElem? (i := 91) (by decide +kernel)) (by rfl)
theorem w_92 : (Cond.static ⟨"AuditDrawsLaw", "thing", "(LAuditDraws;II[J)I"⟩ : Cond) ∈ ad_T := ad_in (List.mem_of_getElem? (i := 92) (by decide +kernel)) (by rfl)
set_option maxRecDepth 100000 in
theorem w_93 : (Cond.codeWith ⟨"AuditDrawsLaw", "thing", "(LAuditDraws;II[J)I"⟩ method_3_code 5 (some .int) [(0, 10, 13, 13), (0, 10, 17, 15)] : Cond) ∈ ad_T := ad_in (List.mem_of_getElem? (i := 93) rfl) (by rfl)
theorem w_94 : (Cond.classLink "AuditDrawsLaw" 13 "java/util/NoSuchElementException" : Cond) ∈ ad_T := ad_in (List.mem_of_getElem? (i := 94) (by decide +kernel)) (by rfl)
theorem w_95 : (Cond.classLink "AuditDrawsLaw" 15 "java/lang/IllegalStateException" : Cond) ∈ ad_T := ad_in (List.mem_of_getElem? (i := 95) (by decide +kernel)) (by rfl)
theorem w_96 : (Cond.methodLink "AuditDrawsLaw" 7 ⟨"AuditDraws", "thing", "(II)I"⟩ : Cond) ∈ ad_T := ad_in (List.mem_of_getElem? (i := 96) (by decide +kernel)) (by rfl)
theorem w_97 : (Cond.instanceMethod ⟨"AuditDraws", "thing", "(II)I"⟩ : Cond) ∈ ad_T := ad_in (List.mem_of_getElem? (i := 97) (by decide +kernel)) (by rfl)
theorem w_98 : (Cond.selects "AuditDraws" ⟨"AuditDraws", "thing", "(II)I"⟩ ⟨"AuditDraws", "thing", "(II)I"⟩ : Cond) ∈ ad_T := ad_in (List.mem_of_getElem? (i := 98) (by decide +kernel)) (by rfl)
set_option maxRecDepth 100000 in
theorem w_99 : (Cond.code ⟨"AuditDraws", "thing", "(II)I"⟩ prog_1_method_3_code 4 (some .int) : Cond) ∈ ad_T := ad_in (List.mem_of_getElem? (i := 99) rfl) (by rfl)
theorem w_100 : (Cond.methodLink "AuditDraws" 40 ⟨"AuditDraws", "needBelow", "(II)V"⟩ : Cond) ∈ ad_T := ad_in (List.mem_of_getElem? (i := 100) (by decide +kernel)) (by rfl)
theorem w_101 : (Cond.static ⟨"AuditDraws", "needBelow", "(II)V"⟩ : Cond) ∈ ad_T := ad_in (List.mem_of_getElem? (i := 101) (by decide +kernel)) (by rfl)
set_option maxRecDepth 100000 in
theorem w_102 : (Cond.code ⟨"AuditDraws", "needBelow", "(II)V"⟩ prog_1_method_30_code 2 (none : Option FieldType) : Cond) ∈ ad_T := ad_in (List.mem_of_getElem? (i := 102) rfl) (by rfl)
theorem w_103 : (Cond.classLink "AuditDraws" 188 "java/util/NoSuchElementException" : Cond) ∈ ad_T := ad_in (List.mem_of_getElem? (i := 103) (by decide +kernel)) (by rfl)
theorem w_104 : (Cond.instantiable "java/util/NoSuchElementException" 6 : Cond) ∈ ad_T := ad_in (List.mem_of_getElem? (i := 104) (by decide +kernel)) (by rfl)
theorem w_105 : (Cond.castable "java/util/NoSuchElementException" "java/util/NoSuchElementException" : Cond) ∈ ad_T := ad_in (List.mem_of_getElem? (i := 105) (by decide +kernel)) (by rfl)
theorem w_106 : (Cond.declares ⟨"java/lang/RuntimeException", "<init>", "()V"⟩ : Cond) ∈ ad_T := ad_in (List.mem_of_getElem? (i := 106) (by decide +kernel)) (by rfl)
theorem w_107 : (Cond.declares ⟨"java/lang/RuntimeException", "<init>", "(Ljava/lang/String;)V"⟩ : Cond) ∈ ad_T := ad_in (List.mem_of_getElem? (i := 107) (by decide +kernel)) (by rfl)
theorem w_108 : (Cond.declares ⟨"java/lang/Exception", "<init>", "()V"⟩ : Cond) ∈ ad_T := ad_in (List.mem_of_getElem? (i := 108) (by decide +kernel)) (by rfl)
theorem w_109 : (Cond.declares ⟨"java/lang/Exception", "<init>", "(Ljava/lang/String;)V"⟩ : Cond) ∈ ad_T := ad_in (List.mem_of_getElem? (i := 109) (by decide +kernel)) (by rfl)
theorem w_110 : (Cond.declares ⟨"java/lang/Throwable", "<init>", "()V"⟩ : Cond) ∈ ad_T := ad_in (List.mem_of_getElem? (i := 110) (by decide +kernel)) (by rfl)
theorem w_111 : (Cond.declares ⟨"java/lang/Throwable", "<init>", "(Ljava/lang/String;)V"⟩ : Cond) ∈ ad_T := ad_in (List.mem_of_getElem? (i := 111) (by decide +kernel)) (by rfl)
theorem w_112 : (Cond.selects "java/util/NoSuchElementException" ⟨"java/lang/Throwable", "fillInStackTrace", "(I)Ljava/lang/Throwable;"⟩ ⟨"java/lang/Throwable", "fillInStackTrace", "(I)Ljava/lang/Throwable;"⟩ : Cond) ∈ ad_T := ad_in (List.mem_of_getElem? (i := 112) (by decide +kernel)) (by rfl)
theorem w_113 : (Cond.selects "java/util/NoSuchElementException" ⟨"java/lang/Throwable", "fillInStackTrace", "()Ljava/lang/Throwable;"⟩ ⟨"java/lang/Throwable", "fillInStackTrace", "()Ljava/lang/Throwable;"⟩ : Cond) ∈ ad_T := ad_in (List.mem_of_getElem? (i := 113) (by decide +kernel)) (by rfl)
theorem w_114 : (Cond.lays "java/util/NoSuchElementException" "java/lang/Throwable" "cause" "Ljava/lang/Throwable;" : Cond) ∈ ad_T := ad_in (List.mem_of_getElem? (i := 114) (by decide +kernel)) (by rfl)
theorem w_115 : (Cond.lays "java/lang/Throwable" "java/lang/Throwable" "cause" "Ljava/lang/Throwable;" : Cond) ∈ ad_T := ad_in (List.mem_of_getElem? (i := 115) (by decide +kernel)) (by rfl)
theorem w_116 : (Cond.lays "java/util/NoSuchElementException" "java/lang/Throwable" "stackTrace" "[Ljava/lang/StackTraceElement;" : Cond) ∈ ad_T := ad_in (List.mem_of_getElem? (i := 116) (by decide +kernel)) (by rfl)
theorem w_117 : (Cond.lays "java/lang/Throwable" "java/lang/Throwable" "stackTrace" "[Ljava/lang/StackTraceElement;" : Cond) ∈ ad_T := ad_in (List.mem_of_getElem? (i := 117) (by decide +kernel)) (by rfl)
theorem w_118 : (Cond.lays "java/util/NoSuchElementException" "java/lang/Throwable" "suppressedExceptions" "Ljava/util/List;" : Cond) ∈ ad_T := ad_in (List.mem_of_getElem? (i := 118) (by decide +kernel)) (by rfl)
theorem w_119 : (Cond.lays "java/lang/Throwable" "java/lang/Throwable" "suppressedExceptions" "Ljava/util/List;" : Cond) ∈ ad_T := ad_in (List.mem_of_getElem? (i := 119) (by decide +kernel)) (by rfl)
theorem w_120 : (Cond.lays "java/util/NoSuchElementException" "java/lang/Throwable" "detailMessage" "Ljava/lang/String;" : Cond) ∈ ad_T := ad_in (List.mem_of_getElem? (i := 120) (by decide +kernel)) (by rfl)
theorem w_121 : (Cond.lays "java/lang/Throwable" "java/lang/Throwable" "detailMessage" "Ljava/lang/String;" : Cond) ∈ ad_T := ad_in (List.mem_of_getElem? (i := 121) (by decide +kernel)) (by rfl)
theorem w_122 : (Cond.lays "java/util/NoSuchElementException" "java/lang/Throwable" "backtrace" "Ljava/lang/Object;" : Cond) ∈ ad_T := ad_in (List.mem_of_getElem? (i := 122) (by decide +kernel)) (by rfl)
theorem w_123 : (Cond.lays "java/lang/Throwable" "java/lang/Throwable" "backtrace" "Ljava/lang/Object;" : Cond) ∈ ad_T := ad_in (List.mem_of_getElem? (i := 123) (by decide +kernel)) (by rfl)
theorem w_124 : (Cond.fieldLink "java/lang/Throwable" 198 "java/lang/Throwable" "backtrace" "Ljava/lang/Object;" : Cond) ∈ ad_T := ad_in (List.mem_of_getElem? (i := 124) (by decide +kernel)) (by rfl)
theorem w_125 : (Cond.superclass "java/lang/Throwable" "java/lang/Object" : Cond) ∈ ad_T := ad_in (List.mem_of_getElem? (i := 125) (by decide +kernel)) (by rfl)
theorem w_126 : (Cond.instanceMethod ⟨"java/lang/Throwable", "<init>", "()V"⟩ : Cond) ∈ ad_T := ad_in (List.mem_of_getElem? (i := 126) (by decide +kernel)) (by rfl)
set_option maxRecDepth 100000 in
theorem w_127 : (Cond.code ⟨"java/lang/Throwable", "<init>", "()V"⟩ prog_18_method_1_code 1 (none : Option FieldType) : Cond) ∈ ad_T := ad_in (List.mem_of_getElem? (i := 127) rfl) (by rfl)
theorem w_128 : (Cond.methodLink "java/lang/Throwable" 1 ⟨"java/lang/Object", "<init>", "()V"⟩ : Cond) ∈ ad_T := ad_in (List.mem_of_getElem? (i := 128) (by decide +kernel)) (by rfl)
theorem w_129 : (Cond.fieldLink "java/lang/Throwable" 13 "java/lang/Throwable" "UNASSIGNED_STACK" "[Ljava/lang/StackTraceElement;" : Cond) ∈ ad_T := ad_in (List.mem_of_getElem? (i := 129) (by decide +kernel)) (by rfl)
theorem w_131 : (Cond.fieldLink "java/lang/Throwable" 20 "java/lang/Throwable" "SUPPRESSED_SENTINEL" "Ljava/util/List;" : Cond) ∈ ad_T := ad_in (List.mem_of_getElem? (i := 131) (by decide +kernel)) (by rfl)
theorem w_133 : (Cond.methodLink "java/lang/Throwable" 27 ⟨"java/lang/Throwable", "fillInStackTrace", "()Ljava/lang/Throwable;"⟩ : Cond) ∈ ad_T := ad_in (List.mem_of_getElem? (i := 133) (by decide +kernel)) (by rfl)
theorem w_134 : (Cond.instanceMethod ⟨"java/lang/Throwable", "fillInStackTrace", "()Ljava/lang/Throwable;"⟩ : Cond) ∈ ad_T := ad_in (List.mem_of_getElem? (i := 134) (by decide +kernel)) (by rfl)
theorem w_135 : (Cond.sameMethod "java/lang/Throwable" "java/lang/Throwable" "fillInStackTrace" "()Ljava/lang/Throwable;" : Cond) ∈ ad_T := ad_in (List.mem_of_getElem? (i := 135) (by decide +kernel)) (by rfl)
theorem w_136 : (Cond.selects "java/lang/IllegalArgumentException" ⟨"java/lang/Throwable", "fillInStackTrace", "()Ljava/lang/Throwable;"⟩ ⟨"java/lang/Throwable", "fillInStackTrace", "()Ljava/lang/Throwable;"⟩ : Cond) ∈ ad_T := ad_in (List.mem_of_getElem? (i := 136) (by decide +kernel)) (by rfl)
theorem w_137 : (Cond.selects "java/lang/IllegalStateException" ⟨"java/lang/Throwable", "fillInStackTrace", "()Ljava/lang/Throwable;"⟩ ⟨"java/lang/Throwable", "fillInStackTrace", "()Ljava/lang/Throwable;"⟩ : Cond) ∈ ad_T := ad_in (List.mem_of_getElem? (i := 137) (by decide +kernel)) (by rfl)
theorem w_138 : (Cond.codeSync ⟨"java/lang/Throwable", "fillInStackTrace", "()Ljava/lang/Throwable;"⟩ prog_18_method_18_code 1 (some (.object "java/lang/Throwable")) : Cond) ∈ ad_T := ad_in (List.mem_of_getElem? (i := 138) (by decide +kernel)) (by rfl)
theorem w_139 : (Cond.methodLink "java/lang/Throwable" 202 ⟨"java/lang/Throwable", "fillInStackTrace", "(I)Ljava/lang/Throwable;"⟩ : Cond) ∈ ad_T := ad_in (List.mem_of_getElem? (i := 139) (by decide +kernel)) (by rfl)
theorem w_140 : (Cond.privateMethod ⟨"java/lang/Throwable", "fillInStackTrace", "(I)Ljava/lang/Throwable;"⟩ : Cond) ∈ ad_T := ad_in (List.mem_of_getElem? (i := 140) (by decide +kernel)) (by rfl)
theorem w_141 : (Cond.instanceMethod ⟨"java/lang/Throwable", "fillInStackTrace", "(I)Ljava/lang/Throwable;"⟩ : Cond) ∈ ad_T := ad_in (List.mem_of_getElem? (i := 141) (by decide +kernel)) (by rfl)
theorem w_142 : (Cond.instantiable "java/lang/Throwable" 6 : Cond) ∈ ad_T := ad_in (List.mem_of_getElem? (i := 142) (by decide +kernel)) (by rfl)
theorem w_143 : (Cond.native ⟨"java/lang/Throwable", "fillInStackTrace", "(I)Ljava/lang/Throwable;"⟩ : Cond) ∈ ad_T := ad_in (List.mem_of_getElem? (i := 143) (by decide +kernel)) (by rfl)
theorem w_145 : (Cond.methodLink "AuditDraws" 192 ⟨"java/util/NoSuchElementException", "<init>", "(Ljava/lang/String;)V"⟩ : Cond) ∈ ad_T := ad_in (List.mem_of_getElem? (i := 145) (by decide +kernel)) (by rfl)
theorem w_146 : (Cond.instanceMethod ⟨"java/util/NoSuchElementException", "<init>", "(Ljava/lang/String;)V"⟩ : Cond) ∈ ad_T := ad_in (List.mem_of_getElem? (i := 146) (by decide +kernel)) (by rfl)
set_option maxRecDepth 100000 in
theorem w_147 : (Cond.code ⟨"java/util/NoSuchElementException", "<init>", "(Ljava/lang/String;)V"⟩ prog_25_method_4_code 2 (none : Option FieldType) : Cond) ∈ ad_T := ad_in (List.mem_of_getElem? (i := 147) rfl) (by rfl)
theorem w_148 : (Cond.methodLink "java/util/NoSuchElementException" 13 ⟨"java/lang/RuntimeException", "<init>", "(Ljava/lang/String;)V"⟩ : Cond) ∈ ad_T := ad_in (List.mem_of_getElem? (i := 148) (by decide +kernel)) (by rfl)
theorem w_149 : (Cond.instanceMethod ⟨"java/lang/RuntimeException", "<init>", "(Ljava/lang/String;)V"⟩ : Cond) ∈ ad_T := ad_in (List.mem_of_getElem? (i := 149) (by decide +kernel)) (by rfl)
set_option maxRecDepth 100000 in
theorem w_150 : (Cond.code ⟨"java/lang/RuntimeException", "<init>", "(Ljava/lang/String;)V"⟩ prog_15_method_2_code 2 (none : Option FieldType) : Cond) ∈ ad_T := ad_in (List.mem_of_getElem? (i := 150) rfl) (by rfl)
theorem w_151 : (Cond.methodLink "java/lang/RuntimeException" 7 ⟨"java/lang/Exception", "<init>", "(Ljava/lang/String;)V"⟩ : Cond) ∈ ad_T := ad_in (List.mem_of_getElem? (i := 151) (by decide +kernel)) (by rfl)
theorem w_152 : (Cond.instanceMethod ⟨"java/lang/Exception", "<init>", "(Ljava/lang/String;)V"⟩ : Cond) ∈ ad_T := ad_in (List.mem_of_getElem? (i := 152) (by decide +kernel)) (by rfl)
set_option maxRecDepth 100000 in
theorem w_153 : (Cond.code ⟨"java/lang/Exception", "<init>", "(Ljava/lang/String;)V"⟩ prog_10_method_2_code 2 (none : Option FieldType) : Cond) ∈ ad_T := ad_in (List.mem_of_getElem? (i := 153) rfl) (by rfl)
theorem w_154 : (Cond.methodLink "java/lang/Exception" 7 ⟨"java/lang/Throwable", "<init>", "(Ljava/lang/String;)V"⟩ : Cond) ∈ ad_T := ad_in (List.mem_of_getElem? (i := 154) (by decide +kernel)) (by rfl)
theorem w_155 : (Cond.instanceMethod ⟨"java/lang/Throwable", "<init>", "(Ljava/lang/String;)V"⟩ : Cond) ∈ ad_T := ad_in (List.mem_of_getElem? (i := 155) (by decide +kernel)) (by rfl)
set_option maxRecDepth 100000 in
theorem w_156 : (Cond.code ⟨"java/lang/Throwable", "<init>", "(Ljava/lang/String;)V"⟩ prog_18_method_2_code 2 (none : Option FieldType) : Cond) ∈ ad_T := ad_in (List.mem_of_getElem? (i := 156) rfl) (by rfl)
theorem w_157 : (Cond.fieldLink "java/lang/Throwable" 198 "java/lang/Throwable" "backtrace" "Ljava/lang/Object;" : Cond) ∈ ad_T := ad_in (List.mem_of_getElem? (i := 157) (by decide +kernel)) (by rfl)
theorem w_158 : (Cond.fieldLink "java/lang/Throwable" 31 "java/lang/Throwable" "detailMessage" "Ljava/lang/String;" : Cond) ∈ ad_T := ad_in (List.mem_of_getElem? (i := 158) (by decide +kernel)) (by rfl)
theorem w_159 : (Cond.fieldLink "java/lang/Throwable" 7 "java/lang/Throwable" "cause" "Ljava/lang/Throwable;" : Cond) ∈ ad_T := ad_in (List.mem_of_getElem? (i := 159) (by decide +kernel)) (by rfl)
theorem w_160 : (Cond.fieldLink "java/lang/Throwable" 17 "java/lang/Throwable" "stackTrace" "[Ljava/lang/StackTraceElement;" : Cond) ∈ ad_T := ad_in (List.mem_of_getElem? (i := 160) (by decide +kernel)) (by rfl)
theorem w_161 : (Cond.fieldLink "java/lang/Throwable" 24 "java/lang/Throwable" "suppressedExceptions" "Ljava/util/List;" : Cond) ∈ ad_T := ad_in (List.mem_of_getElem? (i := 161) (by decide +kernel)) (by rfl)
theorem w_166 : (Cond.lays "java/util/NoSuchElementException" "java/lang/Throwable" "depth" "I" : Cond) ∈ ad_T := ad_in (List.mem_of_getElem? (i := 166) (by decide +kernel)) (by rfl)
theorem w_169 : (Cond.superclass "java/util/NoSuchElementException" "java/lang/RuntimeException" : Cond) ∈ ad_T := ad_in (List.mem_of_getElem? (i := 169) (by decide +kernel)) (by rfl)
theorem w_170 : (Cond.arrayClass .byte : Cond) ∈ ad_T := ad_in (List.mem_of_getElem? (i := 170) (by decide +kernel)) (by rfl)
theorem w_171 : (Cond.methodLink "AuditDraws" 44 ⟨"java/util/ArrayList", "size", "()I"⟩ : Cond) ∈ ad_T := ad_in (List.mem_of_getElem? (i := 171) (by decide +kernel)) (by rfl)
theorem w_172 : (Cond.instanceMethod ⟨"java/util/ArrayList", "size", "()I"⟩ : Cond) ∈ ad_T := ad_in (List.mem_of_getElem? (i := 172) (by decide +kernel)) (by rfl)
theorem w_173 : (Cond.selects "java/util/ArrayList" ⟨"java/util/ArrayList", "size", "()I"⟩ ⟨"java/util/ArrayList", "size", "()I"⟩ : Cond) ∈ ad_T := ad_in (List.mem_of_getElem? (i := 173) (by decide +kernel)) (by rfl)
set_option maxRecDepth 100000 in
theorem w_174 : (Cond.code ⟨"java/util/ArrayList", "size", "()I"⟩ prog_21_method_8_code 1 (some .int) : Cond) ∈ ad_T := ad_in (List.mem_of_getElem? (i := 174) rfl) (by rfl)
theorem w_175 : (Cond.classLink "AuditDraws" 48 "java/lang/IllegalStateException" : Cond) ∈ ad_T := ad_in (List.mem_of_getElem? (i := 175) (by decide +kernel)) (by rfl)
theorem w_176 : (Cond.instantiable "java/lang/IllegalStateException" 6 : Cond) ∈ ad_T := ad_in (List.mem_of_getElem? (i := 176) (by decide +kernel)) (by rfl)
theorem w_177 : (Cond.castable "java/lang/IllegalStateException" "java/lang/IllegalStateException" : Cond) ∈ ad_T := ad_in (List.mem_of_getElem? (i := 177) (by decide +kernel)) (by rfl)
theorem w_178 : (Cond.selects "java/lang/IllegalStateException" ⟨"java/lang/Throwable", "fillInStackTrace", "(I)Ljava/lang/Throwable;"⟩ ⟨"java/lang/Throwable", "fillInStackTrace", "(I)Ljava/lang/Throwable;"⟩ : Cond) ∈ ad_T := ad_in (List.mem_of_getElem? (i := 178) (by decide +kernel)) (by rfl)
theorem w_179 : (Cond.lays "java/lang/IllegalStateException" "java/lang/Throwable" "cause" "Ljava/lang/Throwable;" : Cond) ∈ ad_T := ad_in (List.mem_of_getElem? (i := 179) (by decide +kernel)) (by rfl)
theorem w_180 : (Cond.lays "java/lang/IllegalStateException" "java/lang/Throwable" "stackTrace" "[Ljava/lang/StackTraceElement;" : Cond) ∈ ad_T := ad_in (List.mem_of_getElem? (i := 180) (by decide +kernel)) (by rfl)
theorem w_181 : (Cond.lays "java/lang/IllegalStateException" "java/lang/Throwable" "suppressedExceptions" "Ljava/util/List;" : Cond) ∈ ad_T := ad_in (List.mem_of_getElem? (i := 181) (by decide +kernel)) (by rfl)
theorem w_182 : (Cond.lays "java/lang/IllegalStateException" "java/lang/Throwable" "detailMessage" "Ljava/lang/String;" : Cond) ∈ ad_T := ad_in (List.mem_of_getElem? (i := 182) (by decide +kernel)) (by rfl)
theorem w_183 : (Cond.lays "java/lang/IllegalStateException" "java/lang/Throwable" "backtrace" "Ljava/lang/Object;" : Cond) ∈ ad_T := ad_in (List.mem_of_getElem? (i := 183) (by decide +kernel)) (by rfl)
theorem w_185 : (Cond.methodLink "AuditDraws" 52 ⟨"java/lang/IllegalStateException", "<init>", "(Ljava/lang/String;)V"⟩ : Cond) ∈ ad_T := ad_in (List.mem_of_getElem? (i := 185) (by decide +kernel)) (by rfl)
theorem w_186 : (Cond.instanceMethod ⟨"java/lang/IllegalStateException", "<init>", "(Ljava/lang/String;)V"⟩ : Cond) ∈ ad_T := ad_in (List.mem_of_getElem? (i := 186) (by decide +kernel)) (by rfl)
set_option maxRecDepth 100000 in
theorem w_187 : (Cond.code ⟨"java/lang/IllegalStateException", "<init>", "(Ljava/lang/String;)V"⟩ prog_12_method_2_code 2 (none : Option FieldType) : Cond) ∈ ad_T := ad_in (List.mem_of_getElem? (i := 187) rfl) (by rfl)
theorem w_188 : (Cond.methodLink "java/lang/IllegalStateException" 7 ⟨"java/lang/RuntimeException", "<init>", "(Ljava/lang/String;)V"⟩ : Cond) ∈ ad_T := ad_in (List.mem_of_getElem? (i := 188) (by decide +kernel)) (by rfl)
theorem w_189 : (Cond.lays "java/lang/IllegalStateException" "java/lang/Throwable" "depth" "I" : Cond) ∈ ad_T := ad_in (List.mem_of_getElem? (i := 189) (by decide +kernel)) (by rfl)
theorem w_190 : (Cond.superclass "java/lang/IllegalStateException" "java/lang/RuntimeException" : Cond) ∈ ad_T := ad_in (List.mem_of_getElem? (i := 190) (by decide +kernel)) (by rfl)
theorem w_191 : (Cond.classLink "AuditDraws" 55 "AuditDraws$Thing" : Cond) ∈ ad_T := ad_in (List.mem_of_getElem? (i := 191) (by decide +kernel)) (by rfl)
theorem w_192 : (Cond.instantiable "AuditDraws$Thing" 6 : Cond) ∈ ad_T := ad_in (List.mem_of_getElem? (i := 192) (by decide +kernel)) (by rfl)
theorem w_193 : (Cond.methodLink "AuditDraws" 57 ⟨"AuditDraws$Thing", "<init>", "(III)V"⟩ : Cond) ∈ ad_T := ad_in (List.mem_of_getElem? (i := 193) (by decide +kernel)) (by rfl)
theorem w_194 : (Cond.instanceMethod ⟨"AuditDraws$Thing", "<init>", "(III)V"⟩ : Cond) ∈ ad_T := ad_in (List.mem_of_getElem? (i := 194) (by decide +kernel)) (by rfl)
set_option maxRecDepth 100000 in
theorem w_195 : (Cond.code ⟨"AuditDraws$Thing", "<init>", "(III)V"⟩ prog_5_method_1_code 4 (none : Option FieldType) : Cond) ∈ ad_T := ad_in (List.mem_of_getElem? (i := 195) rfl) (by rfl)
theorem w_196 : (Cond.methodLink "AuditDraws$Thing" 3 ⟨"java/lang/Object", "<init>", "()V"⟩ : Cond) ∈ ad_T := ad_in (List.mem_of_getElem? (i := 196) (by decide +kernel)) (by rfl)
theorem w_197 : (Cond.classLink "AuditDraws$Thing" 9 "java/util/ArrayList" : Cond) ∈ ad_T := ad_in (List.mem_of_getElem? (i := 197) (by decide +kernel)) (by rfl)
theorem w_198 : (Cond.methodLink "AuditDraws$Thing" 11 ⟨"java/util/ArrayList", "<init>", "()V"⟩ : Cond) ∈ ad_T := ad_in (List.mem_of_getElem? (i := 198) (by decide +kernel)) (by rfl)
theorem w_199 : (Cond.fieldLink "AuditDraws$Thing" 25 "AuditDraws$Thing" "number" "I" : Cond) ∈ ad_T := ad_in (List.mem_of_getElem? (i := 199) (by decide +kernel)) (by rfl)
theorem w_200 : (Cond.fieldLink "AuditDraws" 86 "AuditDraws$Thing" "number" "I" : Cond) ∈ ad_T := ad_in (List.mem_of_getElem? (i := 200) (by decide +kernel)) (by rfl)
theorem w_201 : (Cond.fieldLink "AuditDraws$Thing" 28 "AuditDraws$Thing" "stratum" "I" : Cond) ∈ ad_T := ad_in (List.mem_of_getElem? (i := 201) (by decide +kernel)) (by rfl)
theorem w_202 : (Cond.fieldLink "AuditDraws" 178 "AuditDraws$Thing" "stratum" "I" : Cond) ∈ ad_T := ad_in (List.mem_of_getElem? (i := 202) (by decide +kernel)) (by rfl)
theorem w_203 : (Cond.fieldLink "AuditDraws$Thing" 12 "AuditDraws$Thing" "rows" "Ljava/util/ArrayList;" : Cond) ∈ ad_T := ad_in (List.mem_of_getElem? (i := 203) (by decide +kernel)) (by rfl)
theorem w_204 : (Cond.fieldLink "AuditDraws" 136 "AuditDraws$Thing" "rows" "Ljava/util/ArrayList;" : Cond) ∈ ad_T := ad_in (List.mem_of_getElem? (i := 204) (by decide +kernel)) (by rfl)
theorem w_205 : (Cond.fieldLink "AuditDraws$Thing" 31 "AuditDraws$Thing" "place" "I" : Cond) ∈ ad_T := ad_in (List.mem_of_getElem? (i := 205) (by decide +kernel)) (by rfl)
theorem w_206 : (Cond.fieldLink "AuditDraws" 98 "AuditDraws$Thing" "place" "I" : Cond) ∈ ad_T := ad_in (List.mem_of_getElem? (i := 206) (by decide +kernel)) (by rfl)
theorem w_207 : (Cond.fieldLink "AuditDraws$Thing" 18 "AuditDraws$Thing" "state" "I" : Cond) ∈ ad_T := ad_in (List.mem_of_getElem? (i := 207) (by decide +kernel)) (by rfl)
theorem w_208 : (Cond.fieldLink "AuditDraws" 101 "AuditDraws$Thing" "state" "I" : Cond) ∈ ad_T := ad_in (List.mem_of_getElem? (i := 208) (by decide +kernel)) (by rfl)
theorem w_209 : (Cond.fieldLink "AuditDraws$Thing" 22 "AuditDraws$Thing" "grams" "I" : Cond) ∈ ad_T := ad_in (List.mem_of_getElem? (i := 209) (by decide +kernel)) (by rfl)
theorem w_210 : (Cond.fieldLink "AuditDraws" 155 "AuditDraws$Thing" "grams" "I" : Cond) ∈ ad_T := ad_in (List.mem_of_getElem? (i := 210) (by decide +kernel)) (by rfl)
theorem w_211 : (Cond.laysFinal "AuditDraws$Thing" "AuditDraws$Thing" "number" "I" : Cond) ∈ ad_T := ad_in (List.mem_of_getElem? (i := 211) (by decide +kernel)) (by rfl)
theorem w_213 : (Cond.laysFinal "AuditDraws$Thing" "AuditDraws$Thing" "stratum" "I" : Cond) ∈ ad_T := ad_in (List.mem_of_getElem? (i := 213) (by decide +kernel)) (by rfl)
theorem w_215 : (Cond.laysFinal "AuditDraws$Thing" "AuditDraws$Thing" "rows" "Ljava/util/ArrayList;" : Cond) ∈ ad_T := ad_in (List.mem_of_getElem? (i := 215) (by decide +kernel)) (by rfl)
theorem w_217 : (Cond.lays "AuditDraws$Thing" "AuditDraws$Thing" "place" "I" : Cond) ∈ ad_T := ad_in (List.mem_of_getElem? (i := 217) (by decide +kernel)) (by rfl)
theorem w_219 : (Cond.lays "AuditDraws$Thing" "AuditDraws$Thing" "state" "I" : Cond) ∈ ad_T := ad_in (List.mem_of_getElem? (i := 219) (by decide +kernel)) (by rfl)
theorem w_221 : (Cond.lays "AuditDraws$Thing" "AuditDraws$Thing" "grams" "I" : Cond) ∈ ad_T := ad_in (List.mem_of_getElem? (i := 221) (by decide +kernel)) (by rfl)
theorem w_223 : (Cond.superclass "AuditDraws$Thing" "java/lang/Object" : Cond) ∈ ad_T := ad_in (List.mem_of_getElem? (i := 223) (by decide +kernel)) (by rfl)
theorem w_224 : (Cond.methodLink "AuditDraws" 60 ⟨"java/util/ArrayList", "add", "(Ljava/lang/Object;)Z"⟩ : Cond) ∈ ad_T := ad_in (List.mem_of_getElem? (i := 224) (by decide +kernel)) (by rfl)
theorem w_225 : (Cond.instanceMethod ⟨"java/util/ArrayList", "add", "(Ljava/lang/Object;)Z"⟩ : Cond) ∈ ad_T := ad_in (List.mem_of_getElem? (i := 225) (by decide +kernel)) (by rfl)
theorem w_226 : (Cond.selects "java/util/ArrayList" ⟨"java/util/ArrayList", "add", "(Ljava/lang/Object;)Z"⟩ ⟨"java/util/ArrayList", "add", "(Ljava/lang/Object;)Z"⟩ : Cond) ∈ ad_T := ad_in (List.mem_of_getElem? (i := 226) (by decide +kernel)) (by rfl)
set_option maxRecDepth 100000 in
theorem w_227 : (Cond.code ⟨"java/util/ArrayList", "add", "(Ljava/lang/Object;)Z"⟩ prog_21_method_25_code 2 (some .boolean) : Cond) ∈ ad_T := ad_in (List.mem_of_getElem? (i := 227) rfl) (by rfl)
theorem w_228 : (Cond.methodLink "java/util/ArrayList" 131 ⟨"java/util/ArrayList", "add", "(Ljava/lang/Object;[Ljava/lang/Object;I)V"⟩ : Cond) ∈ ad_T := ad_in (List.mem_of_getElem? (i := 228) (by decide +kernel)) (by rfl)
theorem w_229 : (Cond.privateMethod ⟨"java/util/ArrayList", "add", "(Ljava/lang/Object;[Ljava/lang/Object;I)V"⟩ : Cond) ∈ ad_T := ad_in (List.mem_of_getElem? (i := 229) (by decide +kernel)) (by rfl)
theorem w_230 : (Cond.instanceMethod ⟨"java/util/ArrayList", "add", "(Ljava/lang/Object;[Ljava/lang/Object;I)V"⟩ : Cond) ∈ ad_T := ad_in (List.mem_of_getElem? (i := 230) (by decide +kernel)) (by rfl)
set_option maxRecDepth 100000 in
theorem w_231 : (Cond.code ⟨"java/util/ArrayList", "add", "(Ljava/lang/Object;[Ljava/lang/Object;I)V"⟩ prog_21_method_24_code 4 (none : Option FieldType) : Cond) ∈ ad_T := ad_in (List.mem_of_getElem? (i := 231) rfl) (by rfl)
theorem w_232 : (Cond.methodLink "java/util/ArrayList" 129 ⟨"java/util/ArrayList", "grow", "()[Ljava/lang/Object;"⟩ : Cond) ∈ ad_T := ad_in (List.mem_of_getElem? (i := 232) (by decide +kernel)) (by rfl)
theorem w_233 : (Cond.privateMethod ⟨"java/util/ArrayList", "grow", "()[Ljava/lang/Object;"⟩ : Cond) ∈ ad_T := ad_in (List.mem_of_getElem? (i := 233) (by decide +kernel)) (by rfl)
theorem w_234 : (Cond.instanceMethod ⟨"java/util/ArrayList", "grow", "()[Ljava/lang/Object;"⟩ : Cond) ∈ ad_T := ad_in (List.mem_of_getElem? (i := 234) (by decide +kernel)) (by rfl)
set_option maxRecDepth 100000 in
theorem w_235 : (Cond.code ⟨"java/util/ArrayList", "grow", "()[Ljava/lang/Object;"⟩ prog_21_method_7_code 1 (some (.array (.object "java/lang/Object"))) : Cond) ∈ ad_T := ad_in (List.mem_of_getElem? (i := 235) rfl) (by rfl)
theorem w_236 : (Cond.methodLink "java/util/ArrayList" 69 ⟨"java/util/ArrayList", "grow", "(I)[Ljava/lang/Object;"⟩ : Cond) ∈ ad_T := ad_in (List.mem_of_getElem? (i := 236) (by decide +kernel)) (by rfl)
theorem w_237 : (Cond.privateMethod ⟨"java/util/ArrayList", "grow", "(I)[Ljava/lang/Object;"⟩ : Cond) ∈ ad_T := ad_in (List.mem_of_getElem? (i := 237) (by decide +kernel)) (by rfl)
theorem w_238 : (Cond.instanceMethod ⟨"java/util/ArrayList", "grow", "(I)[Ljava/lang/Object;"⟩ : Cond) ∈ ad_T := ad_in (List.mem_of_getElem? (i := 238) (by decide +kernel)) (by rfl)
set_option maxRecDepth 100000 in
theorem w_239 : (Cond.code ⟨"java/util/ArrayList", "grow", "(I)[Ljava/lang/Object;"⟩ prog_21_method_6_code 4 (some (.array (.object "java/lang/Object"))) : Cond) ∈ ad_T := ad_in (List.mem_of_getElem? (i := 239) rfl) (by rfl)
theorem w_240 : (Cond.methodLink "java/util/ArrayList" 73 ⟨"jdk/internal/util/ArraysSupport", "newLength", "(III)I"⟩ : Cond) ∈ ad_T := ad_in (List.mem_of_getElem? (i := 240) (by decide +kernel)) (by rfl)
theorem w_241 : (Cond.static ⟨"jdk/internal/util/ArraysSupport", "newLength", "(III)I"⟩ : Cond) ∈ ad_T := ad_in (List.mem_of_getElem? (i := 241) (by decide +kernel)) (by rfl)
set_option maxRecDepth 100000 in
theorem w_242 : (Cond.code ⟨"jdk/internal/util/ArraysSupport", "newLength", "(III)I"⟩ prog_29_method_27_code 4 (some .int) : Cond) ∈ ad_T := ad_in (List.mem_of_getElem? (i := 242) rfl) (by rfl)
theorem w_243 : (Cond.methodLink "jdk/internal/util/ArraysSupport" 194 ⟨"java/lang/Math", "max", "(II)I"⟩ : Cond) ∈ ad_T := ad_in (List.mem_of_getElem? (i := 243) (by decide +kernel)) (by rfl)
theorem w_244 : (Cond.static ⟨"java/lang/Math", "max", "(II)I"⟩ : Cond) ∈ ad_T := ad_in (List.mem_of_getElem? (i := 244) (by decide +kernel)) (by rfl)
set_option maxRecDepth 100000 in
theorem w_245 : (Cond.code ⟨"java/lang/Math", "max", "(II)I"⟩ prog_14_method_65_code 2 (some .int) : Cond) ∈ ad_T := ad_in (List.mem_of_getElem? (i := 245) rfl) (by rfl)
theorem w_246 : (Cond.constant "jdk/internal/util/ArraysSupport" 200 2147483639 : Cond) ∈ ad_T := ad_in (List.mem_of_getElem? (i := 246) (by decide +kernel)) (by rfl)
theorem w_247 : (Cond.methodLink "jdk/internal/util/ArraysSupport" 201 ⟨"jdk/internal/util/ArraysSupport", "hugeLength", "(II)I"⟩ : Cond) ∈ ad_T := ad_in (List.mem_of_getElem? (i := 247) (by decide +kernel)) (by rfl)
theorem w_248 : (Cond.static ⟨"jdk/internal/util/ArraysSupport", "hugeLength", "(II)I"⟩ : Cond) ∈ ad_T := ad_in (List.mem_of_getElem? (i := 248) (by decide +kernel)) (by rfl)
set_option maxRecDepth 100000 in
theorem w_249 : (Cond.code ⟨"jdk/internal/util/ArraysSupport", "hugeLength", "(II)I"⟩ prog_29_method_28_code 3 (some .int) : Cond) ∈ ad_T := ad_in (List.mem_of_getElem? (i := 249) rfl) (by rfl)
theorem w_250 : (Cond.methodLink "java/util/ArrayList" 66 ⟨"java/util/Arrays", "copyOf", "([Ljava/lang/Object;I)[Ljava/lang/Object;"⟩ : Cond) ∈ ad_T := ad_in (List.mem_of_getElem? (i := 250) (by decide +kernel)) (by rfl)
theorem w_251 : (Cond.static ⟨"java/util/Arrays", "copyOf", "([Ljava/lang/Object;I)[Ljava/lang/Object;"⟩ : Cond) ∈ ad_T := ad_in (List.mem_of_getElem? (i := 251) (by decide +kernel)) (by rfl)
set_option maxRecDepth 100000 in
theorem w_252 : (Cond.code ⟨"java/util/Arrays", "copyOf", "([Ljava/lang/Object;I)[Ljava/lang/Object;"⟩ prog_22_method_119_code 2 (some (.array (.object "java/lang/Object"))) : Cond) ∈ ad_T := ad_in (List.mem_of_getElem? (i := 252) rfl) (by rfl)
theorem w_253 : (Cond.methodLink "java/util/Arrays" 86 ⟨"java/lang/Object", "getClass", "()Ljava/lang/Class;"⟩ : Cond) ∈ ad_T := ad_in (List.mem_of_getElem? (i := 253) (by decide +kernel)) (by rfl)
theorem w_254 : (Cond.instanceMethod ⟨"java/lang/Object", "getClass", "()Ljava/lang/Class;"⟩ : Cond) ∈ ad_T := ad_in (List.mem_of_getElem? (i := 254) (by decide +kernel)) (by rfl)
theorem w_255 : (Cond.sameMethod "java/lang/Object" "java/lang/Object" "getClass" "()Ljava/lang/Class;" : Cond) ∈ ad_T := ad_in (List.mem_of_getElem? (i := 255) (by decide +kernel)) (by rfl)
theorem w_256 : (Cond.selects "AuditDraws" ⟨"java/lang/Object", "getClass", "()Ljava/lang/Class;"⟩ ⟨"java/lang/Object", "getClass", "()Ljava/lang/Class;"⟩ : Cond) ∈ ad_T := ad_in (List.mem_of_getElem? (i := 256) (by decide +kernel)) (by rfl)
theorem w_257 : (Cond.selects "AuditDraws$Draw" ⟨"java/lang/Object", "getClass", "()Ljava/lang/Class;"⟩ ⟨"java/lang/Object", "getClass", "()Ljava/lang/Class;"⟩ : Cond) ∈ ad_T := ad_in (List.mem_of_getElem? (i := 257) (by decide +kernel)) (by rfl)
theorem w_258 : (Cond.selects "AuditDraws$Sighting" ⟨"java/lang/Object", "getClass", "()Ljava/lang/Class;"⟩ ⟨"java/lang/Object", "getClass", "()Ljava/lang/Class;"⟩ : Cond) ∈ ad_T := ad_in (List.mem_of_getElem? (i := 258) (by decide +kernel)) (by rfl)
theorem w_259 : (Cond.selects "AuditDraws$Thing" ⟨"java/lang/Object", "getClass", "()Ljava/lang/Class;"⟩ ⟨"java/lang/Object", "getClass", "()Ljava/lang/Class;"⟩ : Cond) ∈ ad_T := ad_in (List.mem_of_getElem? (i := 259) (by decide +kernel)) (by rfl)
theorem w_260 : (Cond.selects "AuditDrawsModel" ⟨"java/lang/Object", "getClass", "()Ljava/lang/Class;"⟩ ⟨"java/lang/Object", "getClass", "()Ljava/lang/Class;"⟩ : Cond) ∈ ad_T := ad_in (List.mem_of_getElem? (i := 260) (by decide +kernel)) (by rfl)
theorem w_261 : (Cond.selects "java/lang/IllegalArgumentException" ⟨"java/lang/Object", "getClass", "()Ljava/lang/Class;"⟩ ⟨"java/lang/Object", "getClass", "()Ljava/lang/Class;"⟩ : Cond) ∈ ad_T := ad_in (List.mem_of_getElem? (i := 261) (by decide +kernel)) (by rfl)
theorem w_262 : (Cond.selects "java/lang/IllegalStateException" ⟨"java/lang/Object", "getClass", "()Ljava/lang/Class;"⟩ ⟨"java/lang/Object", "getClass", "()Ljava/lang/Class;"⟩ : Cond) ∈ ad_T := ad_in (List.mem_of_getElem? (i := 262) (by decide +kernel)) (by rfl)
theorem w_263 : (Cond.selects "java/util/ArrayList" ⟨"java/lang/Object", "getClass", "()Ljava/lang/Class;"⟩ ⟨"java/lang/Object", "getClass", "()Ljava/lang/Class;"⟩ : Cond) ∈ ad_T := ad_in (List.mem_of_getElem? (i := 263) (by decide +kernel)) (by rfl)
theorem w_264 : (Cond.selects "java/util/NoSuchElementException" ⟨"java/lang/Object", "getClass", "()Ljava/lang/Class;"⟩ ⟨"java/lang/Object", "getClass", "()Ljava/lang/Class;"⟩ : Cond) ∈ ad_T := ad_in (List.mem_of_getElem? (i := 264) (by decide +kernel)) (by rfl)
theorem w_265 : (Cond.native ⟨"java/lang/Object", "getClass", "()Ljava/lang/Class;"⟩ : Cond) ∈ ad_T := ad_in (List.mem_of_getElem? (i := 265) (by decide +kernel)) (by rfl)
theorem w_266 : (Cond.methodLink "java/util/Arrays" 300 ⟨"java/util/Arrays", "copyOf", "([Ljava/lang/Object;ILjava/lang/Class;)[Ljava/lang/Object;"⟩ : Cond) ∈ ad_T := ad_in (List.mem_of_getElem? (i := 266) (by decide +kernel)) (by rfl)
theorem w_267 : (Cond.static ⟨"java/util/Arrays", "copyOf", "([Ljava/lang/Object;ILjava/lang/Class;)[Ljava/lang/Object;"⟩ : Cond) ∈ ad_T := ad_in (List.mem_of_getElem? (i := 267) (by decide +kernel)) (by rfl)
set_option maxRecDepth 100000 in
theorem w_268 : (Cond.code ⟨"java/util/Arrays", "copyOf", "([Ljava/lang/Object;ILjava/lang/Class;)[Ljava/lang/Object;"⟩ prog_22_method_120_code 4 (some (.array (.object "java/lang/Object"))) : Cond) ∈ ad_T := ad_in (List.mem_of_getElem? (i := 268) rfl) (by rfl)
theorem w_269 : (Cond.classLink "java/util/Arrays" 110 "[Ljava/lang/Object;" : Cond) ∈ ad_T := ad_in (List.mem_of_getElem? (i := 269) (by decide +kernel)) (by rfl)
theorem w_270 : (Cond.arrayOver (.object "java/lang/Object") : Cond) ∈ ad_T := ad_in (List.mem_of_getElem? (i := 270) (by decide +kernel)) (by rfl)
theorem w_271 : (Cond.classLink "java/util/Arrays" 2 "java/lang/Object" : Cond) ∈ ad_T := ad_in (List.mem_of_getElem? (i := 271) (by decide +kernel)) (by rfl)
theorem w_272 : (Cond.methodLink "java/util/Arrays" 304 ⟨"java/lang/Math", "min", "(II)I"⟩ : Cond) ∈ ad_T := ad_in (List.mem_of_getElem? (i := 272) (by decide +kernel)) (by rfl)
theorem w_273 : (Cond.static ⟨"java/lang/Math", "min", "(II)I"⟩ : Cond) ∈ ad_T := ad_in (List.mem_of_getElem? (i := 273) (by decide +kernel)) (by rfl)
set_option maxRecDepth 100000 in
theorem w_274 : (Cond.code ⟨"java/lang/Math", "min", "(II)I"⟩ prog_14_method_69_code 2 (some .int) : Cond) ∈ ad_T := ad_in (List.mem_of_getElem? (i := 274) rfl) (by rfl)
theorem w_275 : (Cond.methodLink "java/util/Arrays" 150 ⟨"java/lang/System", "arraycopy", "(Ljava/lang/Object;ILjava/lang/Object;II)V"⟩ : Cond) ∈ ad_T := ad_in (List.mem_of_getElem? (i := 275) (by decide +kernel)) (by rfl)
theorem w_276 : (Cond.static ⟨"java/lang/System", "arraycopy", "(Ljava/lang/Object;ILjava/lang/Object;II)V"⟩ : Cond) ∈ ad_T := ad_in (List.mem_of_getElem? (i := 276) (by decide +kernel)) (by rfl)
theorem w_277 : (Cond.native ⟨"java/lang/System", "arraycopy", "(Ljava/lang/Object;ILjava/lang/Object;II)V"⟩ : Cond) ∈ ad_T := ad_in (List.mem_of_getElem? (i := 277) (by decide +kernel)) (by rfl)
theorem w_278 : (Cond.methodLink "java/util/ArrayList" 79 ⟨"java/lang/Math", "max", "(II)I"⟩ : Cond) ∈ ad_T := ad_in (List.mem_of_getElem? (i := 278) (by decide +kernel)) (by rfl)
theorem w_279 : (Cond.classLink "java/util/ArrayList" 7 "java/lang/Object" : Cond) ∈ ad_T := ad_in (List.mem_of_getElem? (i := 279) (by decide +kernel)) (by rfl)
theorem w_280 : (Cond.methodLink "AuditDrawsLaw" 87 ⟨"AuditDrawsLaw", "list", "(LAuditDraws;I[J)I"⟩ : Cond) ∈ ad_T := ad_in (List.mem_of_getElem? (i := 280) (by decide +kernel)) (by rfl)
theorem w_281 : (Cond.static ⟨"AuditDrawsLaw", "list", "(LAuditDraws;I[J)I"⟩ : Cond) ∈ ad_T := ad_in (List.mem_of_getElem? (i := 281) (by decide +kernel)) (by rfl)
set_option maxRecDepth 100000 in
theorem w_282 : (Cond.codeWith ⟨"AuditDrawsLaw", "list", "(LAuditDraws;I[J)I"⟩ method_4_code 4 (some .int) [(0, 9, 12, 21)] : Cond) ∈ ad_T := ad_in (List.mem_of_getElem? (i := 282) rfl) (by rfl)
theorem w_283 : (Cond.classLink "AuditDrawsLaw" 21 "java/lang/IllegalArgumentException" : Cond) ∈ ad_T := ad_in (List.mem_of_getElem? (i := 283) (by decide +kernel)) (by rfl)
theorem w_284 : (Cond.methodLink "AuditDrawsLaw" 17 ⟨"AuditDraws", "list", "(I)I"⟩ : Cond) ∈ ad_T := ad_in (List.mem_of_getElem? (i := 284) (by decide +kernel)) (by rfl)
theorem w_285 : (Cond.instanceMethod ⟨"AuditDraws", "list", "(I)I"⟩ : Cond) ∈ ad_T := ad_in (List.mem_of_getElem? (i := 285) (by decide +kernel)) (by rfl)
theorem w_286 : (Cond.selects "AuditDraws" ⟨"AuditDraws", "list", "(I)I"⟩ ⟨"AuditDraws", "list", "(I)I"⟩ : Cond) ∈ ad_T := ad_in (List.mem_of_getElem? (i := 286) (by decide +kernel)) (by rfl)
set_option maxRecDepth 100000 in
theorem w_287 : (Cond.code ⟨"AuditDraws", "list", "(I)I"⟩ prog_1_method_4_code 3 (some .int) : Cond) ∈ ad_T := ad_in (List.mem_of_getElem? (i := 287) rfl) (by rfl)
theorem w_288 : (Cond.classLink "AuditDraws" 64 "java/lang/IllegalArgumentException" : Cond) ∈ ad_T := ad_in (List.mem_of_getElem? (i := 288) (by decide +kernel)) (by rfl)
theorem w_289 : (Cond.instantiable "java/lang/IllegalArgumentException" 6 : Cond) ∈ ad_T := ad_in (List.mem_of_getElem? (i := 289) (by decide +kernel)) (by rfl)
theorem w_290 : (Cond.castable "java/lang/IllegalArgumentException" "java/lang/IllegalArgumentException" : Cond) ∈ ad_T := ad_in (List.mem_of_getElem? (i := 290) (by decide +kernel)) (by rfl)
theorem w_291 : (Cond.selects "java/lang/IllegalArgumentException" ⟨"java/lang/Throwable", "fillInStackTrace", "(I)Ljava/lang/Throwable;"⟩ ⟨"java/lang/Throwable", "fillInStackTrace", "(I)Ljava/lang/Throwable;"⟩ : Cond) ∈ ad_T := ad_in (List.mem_of_getElem? (i := 291) (by decide +kernel)) (by rfl)
theorem w_292 : (Cond.lays "java/lang/IllegalArgumentException" "java/lang/Throwable" "cause" "Ljava/lang/Throwable;" : Cond) ∈ ad_T := ad_in (List.mem_of_getElem? (i := 292) (by decide +kernel)) (by rfl)
theorem w_293 : (Cond.lays "java/lang/IllegalArgumentException" "java/lang/Throwable" "stackTrace" "[Ljava/lang/StackTraceElement;" : Cond) ∈ ad_T := ad_in (List.mem_of_getElem? (i := 293) (by decide +kernel)) (by rfl)
theorem w_294 : (Cond.lays "java/lang/IllegalArgumentException" "java/lang/Throwable" "suppressedExceptions" "Ljava/util/List;" : Cond) ∈ ad_T := ad_in (List.mem_of_getElem? (i := 294) (by decide +kernel)) (by rfl)
theorem w_295 : (Cond.lays "java/lang/IllegalArgumentException" "java/lang/Throwable" "detailMessage" "Ljava/lang/String;" : Cond) ∈ ad_T := ad_in (List.mem_of_getElem? (i := 295) (by decide +kernel)) (by rfl)
theorem w_296 : (Cond.lays "java/lang/IllegalArgumentException" "java/lang/Throwable" "backtrace" "Ljava/lang/Object;" : Cond) ∈ ad_T := ad_in (List.mem_of_getElem? (i := 296) (by decide +kernel)) (by rfl)
theorem w_298 : (Cond.methodLink "AuditDraws" 68 ⟨"java/lang/IllegalArgumentException", "<init>", "(Ljava/lang/String;)V"⟩ : Cond) ∈ ad_T := ad_in (List.mem_of_getElem? (i := 298) (by decide +kernel)) (by rfl)
theorem w_299 : (Cond.instanceMethod ⟨"java/lang/IllegalArgumentException", "<init>", "(Ljava/lang/String;)V"⟩ : Cond) ∈ ad_T := ad_in (List.mem_of_getElem? (i := 299) (by decide +kernel)) (by rfl)
set_option maxRecDepth 100000 in
theorem w_300 : (Cond.code ⟨"java/lang/IllegalArgumentException", "<init>", "(Ljava/lang/String;)V"⟩ prog_11_method_2_code 2 (none : Option FieldType) : Cond) ∈ ad_T := ad_in (List.mem_of_getElem? (i := 300) rfl) (by rfl)
theorem w_301 : (Cond.methodLink "java/lang/IllegalArgumentException" 7 ⟨"java/lang/RuntimeException", "<init>", "(Ljava/lang/String;)V"⟩ : Cond) ∈ ad_T := ad_in (List.mem_of_getElem? (i := 301) (by decide +kernel)) (by rfl)
theorem w_302 : (Cond.lays "java/lang/IllegalArgumentException" "java/lang/Throwable" "depth" "I" : Cond) ∈ ad_T := ad_in (List.mem_of_getElem? (i := 302) (by decide +kernel)) (by rfl)
theorem w_303 : (Cond.superclass "java/lang/IllegalArgumentException" "java/lang/RuntimeException" : Cond) ∈ ad_T := ad_in (List.mem_of_getElem? (i := 303) (by decide +kernel)) (by rfl)
theorem w_304 : (Cond.methodLink "AuditDraws" 69 ⟨"AuditDraws", "forgetLatest", "()V"⟩ : Cond) ∈ ad_T := ad_in (List.mem_of_getElem? (i := 304) (by decide +kernel)) (by rfl)
theorem w_305 : (Cond.privateMethod ⟨"AuditDraws", "forgetLatest", "()V"⟩ : Cond) ∈ ad_T := ad_in (List.mem_of_getElem? (i := 305) (by decide +kernel)) (by rfl)
theorem w_306 : (Cond.instanceMethod ⟨"AuditDraws", "forgetLatest", "()V"⟩ : Cond) ∈ ad_T := ad_in (List.mem_of_getElem? (i := 306) (by decide +kernel)) (by rfl)
set_option maxRecDepth 100000 in
theorem w_307 : (Cond.code ⟨"AuditDraws", "forgetLatest", "()V"⟩ prog_1_method_18_code 2 (none : Option FieldType) : Cond) ∈ ad_T := ad_in (List.mem_of_getElem? (i := 307) rfl) (by rfl)
theorem w_308 : (Cond.methodLink "AuditDraws" 82 ⟨"java/util/ArrayList", "get", "(I)Ljava/lang/Object;"⟩ : Cond) ∈ ad_T := ad_in (List.mem_of_getElem? (i := 308) (by decide +kernel)) (by rfl)
theorem w_309 : (Cond.instanceMethod ⟨"java/util/ArrayList", "get", "(I)Ljava/lang/Object;"⟩ : Cond) ∈ ad_T := ad_in (List.mem_of_getElem? (i := 309) (by decide +kernel)) (by rfl)
theorem w_310 : (Cond.selects "java/util/ArrayList" ⟨"java/util/ArrayList", "get", "(I)Ljava/lang/Object;"⟩ ⟨"java/util/ArrayList", "get", "(I)Ljava/lang/Object;"⟩ : Cond) ∈ ad_T := ad_in (List.mem_of_getElem? (i := 310) (by decide +kernel)) (by rfl)
set_option maxRecDepth 100000 in
theorem w_311 : (Cond.code ⟨"java/util/ArrayList", "get", "(I)Ljava/lang/Object;"⟩ prog_21_method_20_code 2 (some (.object "java/lang/Object")) : Cond) ∈ ad_T := ad_in (List.mem_of_getElem? (i := 311) rfl) (by rfl)
theorem w_312 : (Cond.methodLink "java/util/ArrayList" 118 ⟨"java/util/Objects", "checkIndex", "(II)I"⟩ : Cond) ∈ ad_T := ad_in (List.mem_of_getElem? (i := 312) (by decide +kernel)) (by rfl)
theorem w_313 : (Cond.static ⟨"java/util/Objects", "checkIndex", "(II)I"⟩ : Cond) ∈ ad_T := ad_in (List.mem_of_getElem? (i := 313) (by decide +kernel)) (by rfl)
set_option maxRecDepth 100000 in
theorem w_314 : (Cond.code ⟨"java/util/Objects", "checkIndex", "(II)I"⟩ prog_26_method_17_code 2 (some .int) : Cond) ∈ ad_T := ad_in (List.mem_of_getElem? (i := 314) rfl) (by rfl)
theorem w_315 : (Cond.methodLink "java/util/Objects" 105 ⟨"jdk/internal/util/Preconditions", "checkIndex", "(IILjava/util/function/BiFunction;)I"⟩ : Cond) ∈ ad_T := ad_in (List.mem_of_getElem? (i := 315) (by decide +kernel)) (by rfl)
theorem w_316 : (Cond.static ⟨"jdk/internal/util/Preconditions", "checkIndex", "(IILjava/util/function/BiFunction;)I"⟩ : Cond) ∈ ad_T := ad_in (List.mem_of_getElem? (i := 316) (by decide +kernel)) (by rfl)
set_option maxRecDepth 100000 in
theorem w_317 : (Cond.code ⟨"jdk/internal/util/Preconditions", "checkIndex", "(IILjava/util/function/BiFunction;)I"⟩ prog_30_method_11_code 3 (some .int) : Cond) ∈ ad_T := ad_in (List.mem_of_getElem? (i := 317) rfl) (by rfl)
theorem w_318 : (Cond.methodLink "java/util/ArrayList" 123 ⟨"java/util/ArrayList", "elementData", "(I)Ljava/lang/Object;"⟩ : Cond) ∈ ad_T := ad_in (List.mem_of_getElem? (i := 318) (by decide +kernel)) (by rfl)
theorem w_319 : (Cond.instanceMethod ⟨"java/util/ArrayList", "elementData", "(I)Ljava/lang/Object;"⟩ : Cond) ∈ ad_T := ad_in (List.mem_of_getElem? (i := 319) (by decide +kernel)) (by rfl)
theorem w_320 : (Cond.selects "java/util/ArrayList" ⟨"java/util/ArrayList", "elementData", "(I)Ljava/lang/Object;"⟩ ⟨"java/util/ArrayList", "elementData", "(I)Ljava/lang/Object;"⟩ : Cond) ∈ ad_T := ad_in (List.mem_of_getElem? (i := 320) (by decide +kernel)) (by rfl)
set_option maxRecDepth 100000 in
theorem w_321 : (Cond.code ⟨"java/util/ArrayList", "elementData", "(I)Ljava/lang/Object;"⟩ prog_21_method_18_code 2 (some (.object "java/lang/Object")) : Cond) ∈ ad_T := ad_in (List.mem_of_getElem? (i := 321) rfl) (by rfl)
theorem w_322 : (Cond.methodLink "AuditDraws" 166 ⟨"java/util/ArrayList", "clear", "()V"⟩ : Cond) ∈ ad_T := ad_in (List.mem_of_getElem? (i := 322) (by decide +kernel)) (by rfl)
theorem w_323 : (Cond.instanceMethod ⟨"java/util/ArrayList", "clear", "()V"⟩ : Cond) ∈ ad_T := ad_in (List.mem_of_getElem? (i := 323) (by decide +kernel)) (by rfl)
theorem w_324 : (Cond.selects "java/util/ArrayList" ⟨"java/util/ArrayList", "clear", "()V"⟩ ⟨"java/util/ArrayList", "clear", "()V"⟩ : Cond) ∈ ad_T := ad_in (List.mem_of_getElem? (i := 324) (by decide +kernel)) (by rfl)
set_option maxRecDepth 100000 in
theorem w_325 : (Cond.code ⟨"java/util/ArrayList", "clear", "()V"⟩ prog_21_method_40_code 4 (none : Option FieldType) : Cond) ∈ ad_T := ad_in (List.mem_of_getElem? (i := 325) rfl) (by rfl)
theorem w_326 : (Cond.methodLink "AuditDraws" 72 ⟨"AuditDraws", "shareOut", "(I)V"⟩ : Cond) ∈ ad_T := ad_in (List.mem_of_getElem? (i := 326) (by decide +kernel)) (by rfl)
theorem w_327 : (Cond.privateMethod ⟨"AuditDraws", "shareOut", "(I)V"⟩ : Cond) ∈ ad_T := ad_in (List.mem_of_getElem? (i := 327) (by decide +kernel)) (by rfl)
theorem w_328 : (Cond.instanceMethod ⟨"AuditDraws", "shareOut", "(I)V"⟩ : Cond) ∈ ad_T := ad_in (List.mem_of_getElem? (i := 328) (by decide +kernel)) (by rfl)
set_option maxRecDepth 100000 in
theorem w_329 : (Cond.code ⟨"AuditDraws", "shareOut", "(I)V"⟩ prog_1_method_19_code 4 (none : Option FieldType) : Cond) ∈ ad_T := ad_in (List.mem_of_getElem? (i := 329) rfl) (by rfl)
theorem w_330 : (Cond.methodLink "AuditDraws" 169 ⟨"AuditDraws", "giveRoundedDown", "(II)V"⟩ : Cond) ∈ ad_T := ad_in (List.mem_of_getElem? (i := 330) (by decide +kernel)) (by rfl)
theorem w_331 : (Cond.privateMethod ⟨"AuditDraws", "giveRoundedDown", "(II)V"⟩ : Cond) ∈ ad_T := ad_in (List.mem_of_getElem? (i := 331) (by decide +kernel)) (by rfl)
theorem w_332 : (Cond.instanceMethod ⟨"AuditDraws", "giveRoundedDown", "(II)V"⟩ : Cond) ∈ ad_T := ad_in (List.mem_of_getElem? (i := 332) (by decide +kernel)) (by rfl)
set_option maxRecDepth 100000 in
theorem w_333 : (Cond.code ⟨"AuditDraws", "giveRoundedDown", "(II)V"⟩ prog_1_method_20_code 5 (none : Option FieldType) : Cond) ∈ ad_T := ad_in (List.mem_of_getElem? (i := 333) rfl) (by rfl)
theorem w_334 : (Cond.methodLink "AuditDraws" 175 ⟨"AuditDraws", "countThings", "(I)I"⟩ : Cond) ∈ ad_T := ad_in (List.mem_of_getElem? (i := 334) (by decide +kernel)) (by rfl)
theorem w_335 : (Cond.privateMethod ⟨"AuditDraws", "countThings", "(I)I"⟩ : Cond) ∈ ad_T := ad_in (List.mem_of_getElem? (i := 335) (by decide +kernel)) (by rfl)
theorem w_336 : (Cond.instanceMethod ⟨"AuditDraws", "countThings", "(I)I"⟩ : Cond) ∈ ad_T := ad_in (List.mem_of_getElem? (i := 336) (by decide +kernel)) (by rfl)
set_option maxRecDepth 100000 in
theorem w_337 : (Cond.code ⟨"AuditDraws", "countThings", "(I)I"⟩ prog_1_method_24_code 4 (some .int) : Cond) ∈ ad_T := ad_in (List.mem_of_getElem? (i := 337) rfl) (by rfl)
theorem w_338 : (Cond.methodLink "AuditDraws" 172 ⟨"AuditDraws", "giveOneByGreatestRest", "()V"⟩ : Cond) ∈ ad_T := ad_in (List.mem_of_getElem? (i := 338) (by decide +kernel)) (by rfl)
theorem w_339 : (Cond.privateMethod ⟨"AuditDraws", "giveOneByGreatestRest", "()V"⟩ : Cond) ∈ ad_T := ad_in (List.mem_of_getElem? (i := 339) (by decide +kernel)) (by rfl)
theorem w_340 : (Cond.instanceMethod ⟨"AuditDraws", "giveOneByGreatestRest", "()V"⟩ : Cond) ∈ ad_T := ad_in (List.mem_of_getElem? (i := 340) (by decide +kernel)) (by rfl)
set_option maxRecDepth 100000 in
theorem w_341 : (Cond.code ⟨"AuditDraws", "giveOneByGreatestRest", "()V"⟩ prog_1_method_21_code 3 (none : Option FieldType) : Cond) ∈ ad_T := ad_in (List.mem_of_getElem? (i := 341) rfl) (by rfl)
theorem w_342 : (Cond.methodLink "AuditDraws" 76 ⟨"AuditDraws", "layRow", "(I)V"⟩ : Cond) ∈ ad_T := ad_in (List.mem_of_getElem? (i := 342) (by decide +kernel)) (by rfl)
theorem w_343 : (Cond.privateMethod ⟨"AuditDraws", "layRow", "(I)V"⟩ : Cond) ∈ ad_T := ad_in (List.mem_of_getElem? (i := 343) (by decide +kernel)) (by rfl)
theorem w_344 : (Cond.instanceMethod ⟨"AuditDraws", "layRow", "(I)V"⟩ : Cond) ∈ ad_T := ad_in (List.mem_of_getElem? (i := 344) (by decide +kernel)) (by rfl)
set_option maxRecDepth 100000 in
theorem w_345 : (Cond.code ⟨"AuditDraws", "layRow", "(I)V"⟩ prog_1_method_22_code 4 (none : Option FieldType) : Cond) ∈ ad_T := ad_in (List.mem_of_getElem? (i := 345) rfl) (by rfl)
theorem w_346 : (Cond.methodLink "AuditDraws" 79 ⟨"AuditDraws", "takeFromRow", "(I)V"⟩ : Cond) ∈ ad_T := ad_in (List.mem_of_getElem? (i := 346) (by decide +kernel)) (by rfl)
theorem w_347 : (Cond.privateMethod ⟨"AuditDraws", "takeFromRow", "(I)V"⟩ : Cond) ∈ ad_T := ad_in (List.mem_of_getElem? (i := 347) (by decide +kernel)) (by rfl)
theorem w_348 : (Cond.instanceMethod ⟨"AuditDraws", "takeFromRow", "(I)V"⟩ : Cond) ∈ ad_T := ad_in (List.mem_of_getElem? (i := 348) (by decide +kernel)) (by rfl)
set_option maxRecDepth 100000 in
theorem w_349 : (Cond.code ⟨"AuditDraws", "takeFromRow", "(I)V"⟩ prog_1_method_23_code 5 (none : Option FieldType) : Cond) ∈ ad_T := ad_in (List.mem_of_getElem? (i := 349) rfl) (by rfl)
theorem w_350 : (Cond.methodLink "AuditDraws" 181 ⟨"AuditDraws$Draw", "below", "(I)I"⟩ : Cond) ∈ ad_T := ad_in (List.mem_of_getElem? (i := 350) (by decide +kernel)) (by rfl)
theorem w_351 : (Cond.instanceMethod ⟨"AuditDraws$Draw", "below", "(I)I"⟩ : Cond) ∈ ad_T := ad_in (List.mem_of_getElem? (i := 351) (by decide +kernel)) (by rfl)
theorem w_352 : (Cond.selects "AuditDraws$Draw" ⟨"AuditDraws$Draw", "below", "(I)I"⟩ ⟨"AuditDraws$Draw", "below", "(I)I"⟩ : Cond) ∈ ad_T := ad_in (List.mem_of_getElem? (i := 352) (by decide +kernel)) (by rfl)
set_option maxRecDepth 100000 in
theorem w_353 : (Cond.code ⟨"AuditDraws$Draw", "below", "(I)I"⟩ prog_3_method_2_code 2 (some .int) : Cond) ∈ ad_T := ad_in (List.mem_of_getElem? (i := 353) rfl) (by rfl)
theorem w_354 : (Cond.constantLong "AuditDraws$Draw" 13 6364136223846793005 : Cond) ∈ ad_T := ad_in (List.mem_of_getElem? (i := 354) (by decide +kernel)) (by rfl)
theorem w_355 : (Cond.constantLong "AuditDraws$Draw" 15 1442695040888963407 : Cond) ∈ ad_T := ad_in (List.mem_of_getElem? (i := 355) (by decide +kernel)) (by rfl)
theorem w_356 : (Cond.methodLink "AuditDraws" 184 ⟨"java/util/ArrayList", "set", "(ILjava/lang/Object;)Ljava/lang/Object;"⟩ : Cond) ∈ ad_T := ad_in (List.mem_of_getElem? (i := 356) (by decide +kernel)) (by rfl)
theorem w_357 : (Cond.instanceMethod ⟨"java/util/ArrayList", "set", "(ILjava/lang/Object;)Ljava/lang/Object;"⟩ : Cond) ∈ ad_T := ad_in (List.mem_of_getElem? (i := 357) (by decide +kernel)) (by rfl)
theorem w_358 : (Cond.selects "java/util/ArrayList" ⟨"java/util/ArrayList", "set", "(ILjava/lang/Object;)Ljava/lang/Object;"⟩ ⟨"java/util/ArrayList", "set", "(ILjava/lang/Object;)Ljava/lang/Object;"⟩ : Cond) ∈ ad_T := ad_in (List.mem_of_getElem? (i := 358) (by decide +kernel)) (by rfl)
set_option maxRecDepth 100000 in
theorem w_359 : (Cond.code ⟨"java/util/ArrayList", "set", "(ILjava/lang/Object;)Ljava/lang/Object;"⟩ prog_21_method_23_code 4 (some (.object "java/lang/Object")) : Cond) ∈ ad_T := ad_in (List.mem_of_getElem? (i := 359) rfl) (by rfl)
theorem w_360 : (Cond.methodLink "AuditDrawsLaw" 91 ⟨"AuditDrawsLaw", "drawn", "(LAuditDraws;I[J)I"⟩ : Cond) ∈ ad_T := ad_in (List.mem_of_getElem? (i := 360) (by decide +kernel)) (by rfl)
theorem w_361 : (Cond.static ⟨"AuditDrawsLaw", "drawn", "(LAuditDraws;I[J)I"⟩ : Cond) ∈ ad_T := ad_in (List.mem_of_getElem? (i := 361) (by decide +kernel)) (by rfl)
set_option maxRecDepth 100000 in
theorem w_362 : (Cond.codeWith ⟨"AuditDrawsLaw", "drawn", "(LAuditDraws;I[J)I"⟩ method_5_code 4 (some .int) [(0, 9, 12, 13)] : Cond) ∈ ad_T := ad_in (List.mem_of_getElem? (i := 362) rfl) (by rfl)
theorem w_363 : (Cond.methodLink "AuditDrawsLaw" 23 ⟨"AuditDraws", "drawn", "(I)I"⟩ : Cond) ∈ ad_T := ad_in (List.mem_of_getElem? (i := 363) (by decide +kernel)) (by rfl)
theorem w_364 : (Cond.instanceMethod ⟨"AuditDraws", "drawn", "(I)I"⟩ : Cond) ∈ ad_T := ad_in (List.mem_of_getElem? (i := 364) (by decide +kernel)) (by rfl)
theorem w_365 : (Cond.selects "AuditDraws" ⟨"AuditDraws", "drawn", "(I)I"⟩ ⟨"AuditDraws", "drawn", "(I)I"⟩ : Cond) ∈ ad_T := ad_in (List.mem_of_getElem? (i := 365) (by decide +kernel)) (by rfl)
set_option maxRecDepth 100000 in
theorem w_366 : (Cond.code ⟨"AuditDraws", "drawn", "(I)I"⟩ prog_1_method_5_code 2 (some .int) : Cond) ∈ ad_T := ad_in (List.mem_of_getElem? (i := 366) rfl) (by rfl)
theorem w_367 : (Cond.methodLink "AuditDrawsLaw" 94 ⟨"AuditDrawsLaw", "check", "(LAuditDraws;IIII[J)I"⟩ : Cond) ∈ ad_T := ad_in (List.mem_of_getElem? (i := 367) (by decide +kernel)) (by rfl)
theorem w_368 : (Cond.static ⟨"AuditDrawsLaw", "check", "(LAuditDraws;IIII[J)I"⟩ : Cond) ∈ ad_T := ad_in (List.mem_of_getElem? (i := 368) (by decide +kernel)) (by rfl)
set_option maxRecDepth 100000 in
theorem w_369 : (Cond.codeWith ⟨"AuditDrawsLaw", "check", "(LAuditDraws;IIII[J)I"⟩ method_6_code 7 (some .int) [(0, 14, 17, 13), (0, 14, 21, 15)] : Cond) ∈ ad_T := ad_in (List.mem_of_getElem? (i := 369) rfl) (by rfl)
theorem w_370 : (Cond.methodLink "AuditDrawsLaw" 26 ⟨"AuditDraws", "check", "(IIII)I"⟩ : Cond) ∈ ad_T := ad_in (List.mem_of_getElem? (i := 370) (by decide +kernel)) (by rfl)
theorem w_371 : (Cond.instanceMethod ⟨"AuditDraws", "check", "(IIII)I"⟩ : Cond) ∈ ad_T := ad_in (List.mem_of_getElem? (i := 371) (by decide +kernel)) (by rfl)
theorem w_372 : (Cond.selects "AuditDraws" ⟨"AuditDraws", "check", "(IIII)I"⟩ ⟨"AuditDraws", "check", "(IIII)I"⟩ : Cond) ∈ ad_T := ad_in (List.mem_of_getElem? (i := 372) (by decide +kernel)) (by rfl)
set_option maxRecDepth 100000 in
theorem w_373 : (Cond.code ⟨"AuditDraws", "check", "(IIII)I"⟩ prog_1_method_6_code 6 (some .int) : Cond) ∈ ad_T := ad_in (List.mem_of_getElem? (i := 373) rfl) (by rfl)
theorem w_374 : (Cond.methodLink "AuditDraws" 90 ⟨"AuditDraws", "existing", "(I)LAuditDraws$Thing;"⟩ : Cond) ∈ ad_T := ad_in (List.mem_of_getElem? (i := 374) (by decide +kernel)) (by rfl)
theorem w_375 : (Cond.privateMethod ⟨"AuditDraws", "existing", "(I)LAuditDraws$Thing;"⟩ : Cond) ∈ ad_T := ad_in (List.mem_of_getElem? (i := 375) (by decide +kernel)) (by rfl)
theorem w_376 : (Cond.instanceMethod ⟨"AuditDraws", "existing", "(I)LAuditDraws$Thing;"⟩ : Cond) ∈ ad_T := ad_in (List.mem_of_getElem? (i := 376) (by decide +kernel)) (by rfl)
set_option maxRecDepth 100000 in
theorem w_377 : (Cond.code ⟨"AuditDraws", "existing", "(I)LAuditDraws$Thing;"⟩ prog_1_method_29_code 2 (some (.object "AuditDraws$Thing")) : Cond) ∈ ad_T := ad_in (List.mem_of_getElem? (i := 377) rfl) (by rfl)
theorem w_378 : (Cond.methodLink "AuditDraws" 94 ⟨"AuditDraws", "needListed", "(LAuditDraws$Thing;)V"⟩ : Cond) ∈ ad_T := ad_in (List.mem_of_getElem? (i := 378) (by decide +kernel)) (by rfl)
theorem w_379 : (Cond.static ⟨"AuditDraws", "needListed", "(LAuditDraws$Thing;)V"⟩ : Cond) ∈ ad_T := ad_in (List.mem_of_getElem? (i := 379) (by decide +kernel)) (by rfl)
set_option maxRecDepth 100000 in
theorem w_380 : (Cond.code ⟨"AuditDraws", "needListed", "(LAuditDraws$Thing;)V"⟩ prog_1_method_32_code 1 (none : Option FieldType) : Cond) ∈ ad_T := ad_in (List.mem_of_getElem? (i := 380) rfl) (by rfl)
theorem w_382 : (Cond.methodLink "AuditDrawsLaw" 98 ⟨"AuditDrawsLaw", "gone", "(LAuditDraws;I[J)I"⟩ : Cond) ∈ ad_T := ad_in (List.mem_of_getElem? (i := 382) (by decide +kernel)) (by rfl)
theorem w_383 : (Cond.static ⟨"AuditDrawsLaw", "gone", "(LAuditDraws;I[J)I"⟩ : Cond) ∈ ad_T := ad_in (List.mem_of_getElem? (i := 383) (by decide +kernel)) (by rfl)
set_option maxRecDepth 100000 in
theorem w_384 : (Cond.codeWith ⟨"AuditDrawsLaw", "gone", "(LAuditDraws;I[J)I"⟩ method_7_code 4 (some .int) [(0, 16, 19, 13), (0, 16, 22, 15)] : Cond) ∈ ad_T := ad_in (List.mem_of_getElem? (i := 384) rfl) (by rfl)
theorem w_385 : (Cond.methodLink "AuditDrawsLaw" 30 ⟨"AuditDraws", "gone", "(I)Z"⟩ : Cond) ∈ ad_T := ad_in (List.mem_of_getElem? (i := 385) (by decide +kernel)) (by rfl)
theorem w_386 : (Cond.instanceMethod ⟨"AuditDraws", "gone", "(I)Z"⟩ : Cond) ∈ ad_T := ad_in (List.mem_of_getElem? (i := 386) (by decide +kernel)) (by rfl)
theorem w_387 : (Cond.selects "AuditDraws" ⟨"AuditDraws", "gone", "(I)Z"⟩ ⟨"AuditDraws", "gone", "(I)Z"⟩ : Cond) ∈ ad_T := ad_in (List.mem_of_getElem? (i := 387) (by decide +kernel)) (by rfl)
set_option maxRecDepth 100000 in
theorem w_388 : (Cond.code ⟨"AuditDraws", "gone", "(I)Z"⟩ prog_1_method_7_code 4 (some .boolean) : Cond) ∈ ad_T := ad_in (List.mem_of_getElem? (i := 388) rfl) (by rfl)
theorem w_389 : (Cond.methodLink "AuditDrawsLaw" 101 ⟨"AuditDrawsLaw", "share", "(LAuditDraws;II[J)I"⟩ : Cond) ∈ ad_T := ad_in (List.mem_of_getElem? (i := 389) (by decide +kernel)) (by rfl)
theorem w_390 : (Cond.static ⟨"AuditDrawsLaw", "share", "(LAuditDraws;II[J)I"⟩ : Cond) ∈ ad_T := ad_in (List.mem_of_getElem? (i := 390) (by decide +kernel)) (by rfl)
set_option maxRecDepth 100000 in
theorem w_391 : (Cond.codeWith ⟨"AuditDrawsLaw", "share", "(LAuditDraws;II[J)I"⟩ method_8_code 5 (some .int) [(0, 10, 13, 13)] : Cond) ∈ ad_T := ad_in (List.mem_of_getElem? (i := 391) rfl) (by rfl)
theorem w_392 : (Cond.methodLink "AuditDrawsLaw" 34 ⟨"AuditDraws", "share", "(II)I"⟩ : Cond) ∈ ad_T := ad_in (List.mem_of_getElem? (i := 392) (by decide +kernel)) (by rfl)
theorem w_393 : (Cond.instanceMethod ⟨"AuditDraws", "share", "(II)I"⟩ : Cond) ∈ ad_T := ad_in (List.mem_of_getElem? (i := 393) (by decide +kernel)) (by rfl)
theorem w_394 : (Cond.selects "AuditDraws" ⟨"AuditDraws", "share", "(II)I"⟩ ⟨"AuditDraws", "share", "(II)I"⟩ : Cond) ∈ ad_T := ad_in (List.mem_of_getElem? (i := 394) (by decide +kernel)) (by rfl)
set_option maxRecDepth 100000 in
theorem w_395 : (Cond.code ⟨"AuditDraws", "share", "(II)I"⟩ prog_1_method_8_code 6 (some .int) : Cond) ∈ ad_T := ad_in (List.mem_of_getElem? (i := 395) rfl) (by rfl)
theorem w_396 : (Cond.methodLink "AuditDraws" 103 ⟨"AuditDraws", "countChecked", "(I)I"⟩ : Cond) ∈ ad_T := ad_in (List.mem_of_getElem? (i := 396) (by decide +kernel)) (by rfl)
theorem w_397 : (Cond.privateMethod ⟨"AuditDraws", "countChecked", "(I)I"⟩ : Cond) ∈ ad_T := ad_in (List.mem_of_getElem? (i := 397) (by decide +kernel)) (by rfl)
theorem w_398 : (Cond.instanceMethod ⟨"AuditDraws", "countChecked", "(I)I"⟩ : Cond) ∈ ad_T := ad_in (List.mem_of_getElem? (i := 398) (by decide +kernel)) (by rfl)
set_option maxRecDepth 100000 in
theorem w_399 : (Cond.code ⟨"AuditDraws", "countChecked", "(I)I"⟩ prog_1_method_27_code 2 (some .int) : Cond) ∈ ad_T := ad_in (List.mem_of_getElem? (i := 399) rfl) (by rfl)
theorem w_400 : (Cond.methodLink "AuditDraws" 107 ⟨"AuditDraws", "countListed", "(II)I"⟩ : Cond) ∈ ad_T := ad_in (List.mem_of_getElem? (i := 400) (by decide +kernel)) (by rfl)
theorem w_401 : (Cond.privateMethod ⟨"AuditDraws", "countListed", "(II)I"⟩ : Cond) ∈ ad_T := ad_in (List.mem_of_getElem? (i := 401) (by decide +kernel)) (by rfl)
theorem w_402 : (Cond.instanceMethod ⟨"AuditDraws", "countListed", "(II)I"⟩ : Cond) ∈ ad_T := ad_in (List.mem_of_getElem? (i := 402) (by decide +kernel)) (by rfl)
set_option maxRecDepth 100000 in
theorem w_403 : (Cond.code ⟨"AuditDraws", "countListed", "(II)I"⟩ prog_1_method_25_code 6 (some .int) : Cond) ∈ ad_T := ad_in (List.mem_of_getElem? (i := 403) rfl) (by rfl)
theorem w_404 : (Cond.methodLink "AuditDraws" 114 ⟨"AuditDraws", "countMissed", "(I)I"⟩ : Cond) ∈ ad_T := ad_in (List.mem_of_getElem? (i := 404) (by decide +kernel)) (by rfl)
theorem w_405 : (Cond.privateMethod ⟨"AuditDraws", "countMissed", "(I)I"⟩ : Cond) ∈ ad_T := ad_in (List.mem_of_getElem? (i := 405) (by decide +kernel)) (by rfl)
theorem w_406 : (Cond.instanceMethod ⟨"AuditDraws", "countMissed", "(I)I"⟩ : Cond) ∈ ad_T := ad_in (List.mem_of_getElem? (i := 406) (by decide +kernel)) (by rfl)
set_option maxRecDepth 100000 in
theorem w_407 : (Cond.code ⟨"AuditDraws", "countMissed", "(I)I"⟩ prog_1_method_26_code 2 (some .int) : Cond) ∈ ad_T := ad_in (List.mem_of_getElem? (i := 407) rfl) (by rfl)
theorem w_408 : (Cond.methodLink "AuditDraws" 111 ⟨"AuditDraws", "commonDivisor", "(II)I"⟩ : Cond) ∈ ad_T := ad_in (List.mem_of_getElem? (i := 408) (by decide +kernel)) (by rfl)
theorem w_409 : (Cond.static ⟨"AuditDraws", "commonDivisor", "(II)I"⟩ : Cond) ∈ ad_T := ad_in (List.mem_of_getElem? (i := 409) (by decide +kernel)) (by rfl)
set_option maxRecDepth 100000 in
theorem w_410 : (Cond.code ⟨"AuditDraws", "commonDivisor", "(II)I"⟩ prog_1_method_28_code 3 (some .int) : Cond) ∈ ad_T := ad_in (List.mem_of_getElem? (i := 410) rfl) (by rfl)
theorem w_411 : (Cond.methodLink "AuditDrawsLaw" 104 ⟨"AuditDrawsLaw", "next", "(LAuditDraws;I[J)I"⟩ : Cond) ∈ ad_T := ad_in (List.mem_of_getElem? (i := 411) (by decide +kernel)) (by rfl)
theorem w_412 : (Cond.static ⟨"AuditDrawsLaw", "next", "(LAuditDraws;I[J)I"⟩ : Cond) ∈ ad_T := ad_in (List.mem_of_getElem? (i := 412) (by decide +kernel)) (by rfl)
set_option maxRecDepth 100000 in
theorem w_413 : (Cond.codeWith ⟨"AuditDrawsLaw", "next", "(LAuditDraws;I[J)I"⟩ method_9_code 4 (some .int) [(0, 9, 12, 13)] : Cond) ∈ ad_T := ad_in (List.mem_of_getElem? (i := 413) rfl) (by rfl)
theorem w_414 : (Cond.methodLink "AuditDrawsLaw" 37 ⟨"AuditDraws", "next", "(I)I"⟩ : Cond) ∈ ad_T := ad_in (List.mem_of_getElem? (i := 414) (by decide +kernel)) (by rfl)
theorem w_415 : (Cond.instanceMethod ⟨"AuditDraws", "next", "(I)I"⟩ : Cond) ∈ ad_T := ad_in (List.mem_of_getElem? (i := 415) (by decide +kernel)) (by rfl)
theorem w_416 : (Cond.selects "AuditDraws" ⟨"AuditDraws", "next", "(I)I"⟩ ⟨"AuditDraws", "next", "(I)I"⟩ : Cond) ∈ ad_T := ad_in (List.mem_of_getElem? (i := 416) (by decide +kernel)) (by rfl)
set_option maxRecDepth 100000 in
theorem w_417 : (Cond.code ⟨"AuditDraws", "next", "(I)I"⟩ prog_1_method_9_code 4 (some .int) : Cond) ∈ ad_T := ad_in (List.mem_of_getElem? (i := 417) rfl) (by rfl)
theorem w_418 : (Cond.methodLink "AuditDrawsLaw" 107 ⟨"AuditDrawsLaw", "digit", "(LAuditDraws;IJ[J)I"⟩ : Cond) ∈ ad_T := ad_in (List.mem_of_getElem? (i := 418) (by decide +kernel)) (by rfl)
theorem w_419 : (Cond.static ⟨"AuditDrawsLaw", "digit", "(LAuditDraws;IJ[J)I"⟩ : Cond) ∈ ad_T := ad_in (List.mem_of_getElem? (i := 419) (by decide +kernel)) (by rfl)
set_option maxRecDepth 100000 in
theorem w_420 : (Cond.codeWith ⟨"AuditDrawsLaw", "digit", "(LAuditDraws;IJ[J)I"⟩ method_10_code 6 (some .int) [(0, 11, 14, 13), (0, 11, 18, 21)] : Cond) ∈ ad_T := ad_in (List.mem_of_getElem? (i := 420) rfl) (by rfl)
theorem w_421 : (Cond.methodLink "AuditDrawsLaw" 40 ⟨"AuditDraws", "digit", "(IJ)I"⟩ : Cond) ∈ ad_T := ad_in (List.mem_of_getElem? (i := 421) (by decide +kernel)) (by rfl)
theorem w_422 : (Cond.instanceMethod ⟨"AuditDraws", "digit", "(IJ)I"⟩ : Cond) ∈ ad_T := ad_in (List.mem_of_getElem? (i := 422) (by decide +kernel)) (by rfl)
theorem w_423 : (Cond.selects "AuditDraws" ⟨"AuditDraws", "digit", "(IJ)I"⟩ ⟨"AuditDraws", "digit", "(IJ)I"⟩ : Cond) ∈ ad_T := ad_in (List.mem_of_getElem? (i := 423) (by decide +kernel)) (by rfl)
set_option maxRecDepth 100000 in
theorem w_424 : (Cond.code ⟨"AuditDraws", "digit", "(IJ)I"⟩ prog_1_method_10_code 4 (some .int) : Cond) ∈ ad_T := ad_in (List.mem_of_getElem? (i := 424) rfl) (by rfl)
theorem w_425 : (Cond.methodLink "AuditDraws" 119 ⟨"AuditDraws", "needNumber", "(J)V"⟩ : Cond) ∈ ad_T := ad_in (List.mem_of_getElem? (i := 425) (by decide +kernel)) (by rfl)
theorem w_426 : (Cond.static ⟨"AuditDraws", "needNumber", "(J)V"⟩ : Cond) ∈ ad_T := ad_in (List.mem_of_getElem? (i := 426) (by decide +kernel)) (by rfl)
set_option maxRecDepth 100000 in
theorem w_427 : (Cond.code ⟨"AuditDraws", "needNumber", "(J)V"⟩ prog_1_method_34_code 2 (none : Option FieldType) : Cond) ∈ ad_T := ad_in (List.mem_of_getElem? (i := 427) rfl) (by rfl)
theorem w_428 : (Cond.constantLong "AuditDraws" 200 100000000000000000 : Cond) ∈ ad_T := ad_in (List.mem_of_getElem? (i := 428) (by decide +kernel)) (by rfl)
theorem w_430 : (Cond.methodLink "AuditDraws" 123 ⟨"AuditDraws$CheckDigits", "of", "(IJ)I"⟩ : Cond) ∈ ad_T := ad_in (List.mem_of_getElem? (i := 430) (by decide +kernel)) (by rfl)
theorem w_431 : (Cond.static ⟨"AuditDraws$CheckDigits", "of", "(IJ)I"⟩ : Cond) ∈ ad_T := ad_in (List.mem_of_getElem? (i := 431) (by decide +kernel)) (by rfl)
set_option maxRecDepth 100000 in
theorem w_432 : (Cond.code ⟨"AuditDraws$CheckDigits", "of", "(IJ)I"⟩ prog_2_method_2_code 4 (some .int) : Cond) ∈ ad_T := ad_in (List.mem_of_getElem? (i := 432) rfl) (by rfl)
theorem w_433 : (Cond.methodLink "AuditDraws$CheckDigits" 7 ⟨"AuditDraws$CheckDigits", "weighedSum", "(IJ)I"⟩ : Cond) ∈ ad_T := ad_in (List.mem_of_getElem? (i := 433) (by decide +kernel)) (by rfl)
theorem w_434 : (Cond.static ⟨"AuditDraws$CheckDigits", "weighedSum", "(IJ)I"⟩ : Cond) ∈ ad_T := ad_in (List.mem_of_getElem? (i := 434) (by decide +kernel)) (by rfl)
set_option maxRecDepth 100000 in
theorem w_435 : (Cond.code ⟨"AuditDraws$CheckDigits", "weighedSum", "(IJ)I"⟩ prog_2_method_4_code 7 (some .int) : Cond) ∈ ad_T := ad_in (List.mem_of_getElem? (i := 435) rfl) (by rfl)
theorem w_436 : (Cond.constantLong "AuditDraws$CheckDigits" 13 10 : Cond) ∈ ad_T := ad_in (List.mem_of_getElem? (i := 436) (by decide +kernel)) (by rfl)
theorem w_437 : (Cond.methodLink "AuditDraws$CheckDigits" 18 ⟨"AuditDraws$CheckDigits", "weighed", "(III)I"⟩ : Cond) ∈ ad_T := ad_in (List.mem_of_getElem? (i := 437) (by decide +kernel)) (by rfl)
theorem w_438 : (Cond.static ⟨"AuditDraws$CheckDigits", "weighed", "(III)I"⟩ : Cond) ∈ ad_T := ad_in (List.mem_of_getElem? (i := 438) (by decide +kernel)) (by rfl)
set_option maxRecDepth 100000 in
theorem w_439 : (Cond.code ⟨"AuditDraws$CheckDigits", "weighed", "(III)I"⟩ prog_2_method_5_code 4 (some .int) : Cond) ∈ ad_T := ad_in (List.mem_of_getElem? (i := 439) rfl) (by rfl)
theorem w_440 : (Cond.methodLink "AuditDraws$CheckDigits" 22 ⟨"AuditDraws$CheckDigits", "doubled", "(I)I"⟩ : Cond) ∈ ad_T := ad_in (List.mem_of_getElem? (i := 440) (by decide +kernel)) (by rfl)
theorem w_441 : (Cond.static ⟨"AuditDraws$CheckDigits", "doubled", "(I)I"⟩ : Cond) ∈ ad_T := ad_in (List.mem_of_getElem? (i := 441) (by decide +kernel)) (by rfl)
set_option maxRecDepth 100000 in
theorem w_442 : (Cond.code ⟨"AuditDraws$CheckDigits", "doubled", "(I)I"⟩ prog_2_method_6_code 2 (some .int) : Cond) ∈ ad_T := ad_in (List.mem_of_getElem? (i := 442) rfl) (by rfl)
theorem w_443 : (Cond.methodLink "AuditDrawsLaw" 111 ⟨"AuditDrawsLaw", "good", "(LAuditDraws;IJ[J)I"⟩ : Cond) ∈ ad_T := ad_in (List.mem_of_getElem? (i := 443) (by decide +kernel)) (by rfl)
theorem w_444 : (Cond.static ⟨"AuditDrawsLaw", "good", "(LAuditDraws;IJ[J)I"⟩ : Cond) ∈ ad_T := ad_in (List.mem_of_getElem? (i := 444) (by decide +kernel)) (by rfl)
set_option maxRecDepth 100000 in
theorem w_445 : (Cond.codeWith ⟨"AuditDrawsLaw", "good", "(LAuditDraws;IJ[J)I"⟩ method_11_code 6 (some .int) [(0, 18, 21, 13), (0, 18, 25, 21)] : Cond) ∈ ad_T := ad_in (List.mem_of_getElem? (i := 445) rfl) (by rfl)
theorem w_446 : (Cond.methodLink "AuditDrawsLaw" 44 ⟨"AuditDraws", "good", "(IJ)Z"⟩ : Cond) ∈ ad_T := ad_in (List.mem_of_getElem? (i := 446) (by decide +kernel)) (by rfl)
theorem w_447 : (Cond.instanceMethod ⟨"AuditDraws", "good", "(IJ)Z"⟩ : Cond) ∈ ad_T := ad_in (List.mem_of_getElem? (i := 447) (by decide +kernel)) (by rfl)
theorem w_448 : (Cond.selects "AuditDraws" ⟨"AuditDraws", "good", "(IJ)Z"⟩ ⟨"AuditDraws", "good", "(IJ)Z"⟩ : Cond) ∈ ad_T := ad_in (List.mem_of_getElem? (i := 448) (by decide +kernel)) (by rfl)
set_option maxRecDepth 100000 in
theorem w_449 : (Cond.code ⟨"AuditDraws", "good", "(IJ)Z"⟩ prog_1_method_11_code 4 (some .boolean) : Cond) ∈ ad_T := ad_in (List.mem_of_getElem? (i := 449) rfl) (by rfl)
theorem w_450 : (Cond.methodLink "AuditDraws" 127 ⟨"AuditDraws$CheckDigits", "closes", "(IJ)Z"⟩ : Cond) ∈ ad_T := ad_in (List.mem_of_getElem? (i := 450) (by decide +kernel)) (by rfl)
theorem w_451 : (Cond.static ⟨"AuditDraws$CheckDigits", "closes", "(IJ)Z"⟩ : Cond) ∈ ad_T := ad_in (List.mem_of_getElem? (i := 451) (by decide +kernel)) (by rfl)
set_option maxRecDepth 100000 in
theorem w_452 : (Cond.code ⟨"AuditDraws$CheckDigits", "closes", "(IJ)Z"⟩ prog_2_method_3_code 4 (some .boolean) : Cond) ∈ ad_T := ad_in (List.mem_of_getElem? (i := 452) rfl) (by rfl)
theorem w_453 : (Cond.methodLink "AuditDraws$CheckDigits" 15 ⟨"AuditDraws$CheckDigits", "of", "(IJ)I"⟩ : Cond) ∈ ad_T := ad_in (List.mem_of_getElem? (i := 453) (by decide +kernel)) (by rfl)
theorem w_454 : (Cond.methodLink "AuditDrawsLaw" 114 ⟨"AuditDrawsLaw", "tag", "(LAuditDraws;IIII[J)I"⟩ : Cond) ∈ ad_T := ad_in (List.mem_of_getElem? (i := 454) (by decide +kernel)) (by rfl)
theorem w_455 : (Cond.static ⟨"AuditDrawsLaw", "tag", "(LAuditDraws;IIII[J)I"⟩ : Cond) ∈ ad_T := ad_in (List.mem_of_getElem? (i := 455) (by decide +kernel)) (by rfl)
set_option maxRecDepth 100000 in
theorem w_456 : (Cond.codeWith ⟨"AuditDrawsLaw", "tag", "(LAuditDraws;IIII[J)I"⟩ method_12_code 7 (some .int) [(0, 14, 17, 13), (0, 14, 21, 21), (0, 14, 25, 15)] : Cond) ∈ ad_T := ad_in (List.mem_of_getElem? (i := 456) rfl) (by rfl)
theorem w_457 : (Cond.methodLink "AuditDrawsLaw" 48 ⟨"AuditDraws", "tag", "(IIII)I"⟩ : Cond) ∈ ad_T := ad_in (List.mem_of_getElem? (i := 457) (by decide +kernel)) (by rfl)
theorem w_458 : (Cond.instanceMethod ⟨"AuditDraws", "tag", "(IIII)I"⟩ : Cond) ∈ ad_T := ad_in (List.mem_of_getElem? (i := 458) (by decide +kernel)) (by rfl)
theorem w_459 : (Cond.selects "AuditDraws" ⟨"AuditDraws", "tag", "(IIII)I"⟩ ⟨"AuditDraws", "tag", "(IIII)I"⟩ : Cond) ∈ ad_T := ad_in (List.mem_of_getElem? (i := 459) (by decide +kernel)) (by rfl)
set_option maxRecDepth 100000 in
theorem w_460 : (Cond.code ⟨"AuditDraws", "tag", "(IIII)I"⟩ prog_1_method_12_code 6 (some .int) : Cond) ∈ ad_T := ad_in (List.mem_of_getElem? (i := 460) rfl) (by rfl)
theorem w_461 : (Cond.methodLink "AuditDraws" 131 ⟨"AuditDraws", "needHour", "(I)V"⟩ : Cond) ∈ ad_T := ad_in (List.mem_of_getElem? (i := 461) (by decide +kernel)) (by rfl)
theorem w_462 : (Cond.static ⟨"AuditDraws", "needHour", "(I)V"⟩ : Cond) ∈ ad_T := ad_in (List.mem_of_getElem? (i := 462) (by decide +kernel)) (by rfl)
set_option maxRecDepth 100000 in
theorem w_463 : (Cond.code ⟨"AuditDraws", "needHour", "(I)V"⟩ prog_1_method_33_code 1 (none : Option FieldType) : Cond) ∈ ad_T := ad_in (List.mem_of_getElem? (i := 463) rfl) (by rfl)
theorem w_464 : (Cond.constant "AuditDraws" 197 1000000 : Cond) ∈ ad_T := ad_in (List.mem_of_getElem? (i := 464) (by decide +kernel)) (by rfl)
theorem w_468 : (Cond.classLink "AuditDraws" 141 "AuditDraws$Sighting" : Cond) ∈ ad_T := ad_in (List.mem_of_getElem? (i := 468) (by decide +kernel)) (by rfl)
theorem w_469 : (Cond.instantiable "AuditDraws$Sighting" 3 : Cond) ∈ ad_T := ad_in (List.mem_of_getElem? (i := 469) (by decide +kernel)) (by rfl)
theorem w_470 : (Cond.methodLink "AuditDraws" 143 ⟨"AuditDraws$Sighting", "<init>", "(III)V"⟩ : Cond) ∈ ad_T := ad_in (List.mem_of_getElem? (i := 470) (by decide +kernel)) (by rfl)
theorem w_471 : (Cond.instanceMethod ⟨"AuditDraws$Sighting", "<init>", "(III)V"⟩ : Cond) ∈ ad_T := ad_in (List.mem_of_getElem? (i := 471) (by decide +kernel)) (by rfl)
set_option maxRecDepth 100000 in
theorem w_472 : (Cond.code ⟨"AuditDraws$Sighting", "<init>", "(III)V"⟩ prog_4_method_1_code 4 (none : Option FieldType) : Cond) ∈ ad_T := ad_in (List.mem_of_getElem? (i := 472) rfl) (by rfl)
theorem w_473 : (Cond.methodLink "AuditDraws$Sighting" 1 ⟨"java/lang/Object", "<init>", "()V"⟩ : Cond) ∈ ad_T := ad_in (List.mem_of_getElem? (i := 473) (by decide +kernel)) (by rfl)
theorem w_474 : (Cond.fieldLink "AuditDraws$Sighting" 7 "AuditDraws$Sighting" "hour" "I" : Cond) ∈ ad_T := ad_in (List.mem_of_getElem? (i := 474) (by decide +kernel)) (by rfl)
theorem w_475 : (Cond.fieldLink "AuditDraws" 148 "AuditDraws$Sighting" "hour" "I" : Cond) ∈ ad_T := ad_in (List.mem_of_getElem? (i := 475) (by decide +kernel)) (by rfl)
theorem w_476 : (Cond.fieldLink "AuditDraws$Sighting" 13 "AuditDraws$Sighting" "place" "I" : Cond) ∈ ad_T := ad_in (List.mem_of_getElem? (i := 476) (by decide +kernel)) (by rfl)
theorem w_477 : (Cond.fieldLink "AuditDraws" 151 "AuditDraws$Sighting" "place" "I" : Cond) ∈ ad_T := ad_in (List.mem_of_getElem? (i := 477) (by decide +kernel)) (by rfl)
theorem w_478 : (Cond.fieldLink "AuditDraws$Sighting" 16 "AuditDraws$Sighting" "told" "I" : Cond) ∈ ad_T := ad_in (List.mem_of_getElem? (i := 478) (by decide +kernel)) (by rfl)
theorem w_479 : (Cond.fieldLink "AuditDraws$Thing" 44 "AuditDraws$Sighting" "told" "I" : Cond) ∈ ad_T := ad_in (List.mem_of_getElem? (i := 479) (by decide +kernel)) (by rfl)
theorem w_480 : (Cond.laysFinal "AuditDraws$Sighting" "AuditDraws$Sighting" "hour" "I" : Cond) ∈ ad_T := ad_in (List.mem_of_getElem? (i := 480) (by decide +kernel)) (by rfl)
theorem w_482 : (Cond.laysFinal "AuditDraws$Sighting" "AuditDraws$Sighting" "place" "I" : Cond) ∈ ad_T := ad_in (List.mem_of_getElem? (i := 482) (by decide +kernel)) (by rfl)
theorem w_484 : (Cond.laysFinal "AuditDraws$Sighting" "AuditDraws$Sighting" "told" "I" : Cond) ∈ ad_T := ad_in (List.mem_of_getElem? (i := 484) (by decide +kernel)) (by rfl)
theorem w_486 : (Cond.superclass "AuditDraws$Sighting" "java/lang/Object" : Cond) ∈ ad_T := ad_in (List.mem_of_getElem? (i := 486) (by decide +kernel)) (by rfl)
theorem w_487 : (Cond.methodLink "AuditDrawsLaw" 117 ⟨"AuditDrawsLaw", "first", "(LAuditDraws;II[J)I"⟩ : Cond) ∈ ad_T := ad_in (List.mem_of_getElem? (i := 487) (by decide +kernel)) (by rfl)
theorem w_488 : (Cond.static ⟨"AuditDrawsLaw", "first", "(LAuditDraws;II[J)I"⟩ : Cond) ∈ ad_T := ad_in (List.mem_of_getElem? (i := 488) (by decide +kernel)) (by rfl)
set_option maxRecDepth 100000 in
theorem w_489 : (Cond.codeWith ⟨"AuditDrawsLaw", "first", "(LAuditDraws;II[J)I"⟩ method_13_code 5 (some .int) [(0, 10, 13, 13), (0, 10, 17, 21)] : Cond) ∈ ad_T := ad_in (List.mem_of_getElem? (i := 489) rfl) (by rfl)
theorem w_490 : (Cond.methodLink "AuditDrawsLaw" 51 ⟨"AuditDraws", "first", "(II)I"⟩ : Cond) ∈ ad_T := ad_in (List.mem_of_getElem? (i := 490) (by decide +kernel)) (by rfl)
theorem w_491 : (Cond.instanceMethod ⟨"AuditDraws", "first", "(II)I"⟩ : Cond) ∈ ad_T := ad_in (List.mem_of_getElem? (i := 491) (by decide +kernel)) (by rfl)
theorem w_492 : (Cond.selects "AuditDraws" ⟨"AuditDraws", "first", "(II)I"⟩ ⟨"AuditDraws", "first", "(II)I"⟩ : Cond) ∈ ad_T := ad_in (List.mem_of_getElem? (i := 492) (by decide +kernel)) (by rfl)
set_option maxRecDepth 100000 in
theorem w_493 : (Cond.code ⟨"AuditDraws", "first", "(II)I"⟩ prog_1_method_13_code 5 (some .int) : Cond) ∈ ad_T := ad_in (List.mem_of_getElem? (i := 493) rfl) (by rfl)
theorem w_494 : (Cond.methodLink "AuditDraws" 144 ⟨"AuditDraws$Thing", "lastToldBy", "(I)LAuditDraws$Sighting;"⟩ : Cond) ∈ ad_T := ad_in (List.mem_of_getElem? (i := 494) (by decide +kernel)) (by rfl)
theorem w_495 : (Cond.instanceMethod ⟨"AuditDraws$Thing", "lastToldBy", "(I)LAuditDraws$Sighting;"⟩ : Cond) ∈ ad_T := ad_in (List.mem_of_getElem? (i := 495) (by decide +kernel)) (by rfl)
theorem w_496 : (Cond.selects "AuditDraws$Thing" ⟨"AuditDraws$Thing", "lastToldBy", "(I)LAuditDraws$Sighting;"⟩ ⟨"AuditDraws$Thing", "lastToldBy", "(I)LAuditDraws$Sighting;"⟩ : Cond) ∈ ad_T := ad_in (List.mem_of_getElem? (i := 496) (by decide +kernel)) (by rfl)
set_option maxRecDepth 100000 in
theorem w_497 : (Cond.code ⟨"AuditDraws$Thing", "lastToldBy", "(I)LAuditDraws$Sighting;"⟩ prog_5_method_2_code 5 (some (.object "AuditDraws$Sighting")) : Cond) ∈ ad_T := ad_in (List.mem_of_getElem? (i := 497) rfl) (by rfl)
theorem w_498 : (Cond.methodLink "AuditDraws$Thing" 34 ⟨"java/util/ArrayList", "size", "()I"⟩ : Cond) ∈ ad_T := ad_in (List.mem_of_getElem? (i := 498) (by decide +kernel)) (by rfl)
theorem w_499 : (Cond.methodLink "AuditDraws$Thing" 38 ⟨"java/util/ArrayList", "get", "(I)Ljava/lang/Object;"⟩ : Cond) ∈ ad_T := ad_in (List.mem_of_getElem? (i := 499) (by decide +kernel)) (by rfl)
theorem w_500 : (Cond.classLink "AuditDraws$Thing" 42 "AuditDraws$Sighting" : Cond) ∈ ad_T := ad_in (List.mem_of_getElem? (i := 500) (by decide +kernel)) (by rfl)
theorem w_501 : (Cond.methodLink "AuditDraws$Thing" 47 ⟨"AuditDraws$Sighting", "replaces", "(LAuditDraws$Sighting;)Z"⟩ : Cond) ∈ ad_T := ad_in (List.mem_of_getElem? (i := 501) (by decide +kernel)) (by rfl)
theorem w_502 : (Cond.instanceMethod ⟨"AuditDraws$Sighting", "replaces", "(LAuditDraws$Sighting;)Z"⟩ : Cond) ∈ ad_T := ad_in (List.mem_of_getElem? (i := 502) (by decide +kernel)) (by rfl)
theorem w_503 : (Cond.selects "AuditDraws$Sighting" ⟨"AuditDraws$Sighting", "replaces", "(LAuditDraws$Sighting;)Z"⟩ ⟨"AuditDraws$Sighting", "replaces", "(LAuditDraws$Sighting;)Z"⟩ : Cond) ∈ ad_T := ad_in (List.mem_of_getElem? (i := 503) (by decide +kernel)) (by rfl)
set_option maxRecDepth 100000 in
theorem w_504 : (Cond.code ⟨"AuditDraws$Sighting", "replaces", "(LAuditDraws$Sighting;)Z"⟩ prog_4_method_2_code 2 (some .boolean) : Cond) ∈ ad_T := ad_in (List.mem_of_getElem? (i := 504) rfl) (by rfl)
theorem w_505 : (Cond.methodLink "AuditDrawsLaw" 120 ⟨"AuditDrawsLaw", "seen", "(LAuditDraws;II[J)I"⟩ : Cond) ∈ ad_T := ad_in (List.mem_of_getElem? (i := 505) (by decide +kernel)) (by rfl)
theorem w_506 : (Cond.static ⟨"AuditDrawsLaw", "seen", "(LAuditDraws;II[J)I"⟩ : Cond) ∈ ad_T := ad_in (List.mem_of_getElem? (i := 506) (by decide +kernel)) (by rfl)
set_option maxRecDepth 100000 in
theorem w_507 : (Cond.codeWith ⟨"AuditDrawsLaw", "seen", "(LAuditDraws;II[J)I"⟩ method_14_code 5 (some .int) [(0, 10, 13, 13), (0, 10, 17, 21)] : Cond) ∈ ad_T := ad_in (List.mem_of_getElem? (i := 507) rfl) (by rfl)
theorem w_508 : (Cond.methodLink "AuditDrawsLaw" 54 ⟨"AuditDraws", "seen", "(II)I"⟩ : Cond) ∈ ad_T := ad_in (List.mem_of_getElem? (i := 508) (by decide +kernel)) (by rfl)
theorem w_509 : (Cond.instanceMethod ⟨"AuditDraws", "seen", "(II)I"⟩ : Cond) ∈ ad_T := ad_in (List.mem_of_getElem? (i := 509) (by decide +kernel)) (by rfl)
theorem w_510 : (Cond.selects "AuditDraws" ⟨"AuditDraws", "seen", "(II)I"⟩ ⟨"AuditDraws", "seen", "(II)I"⟩ : Cond) ∈ ad_T := ad_in (List.mem_of_getElem? (i := 510) (by decide +kernel)) (by rfl)
set_option maxRecDepth 100000 in
theorem w_511 : (Cond.code ⟨"AuditDraws", "seen", "(II)I"⟩ prog_1_method_14_code 5 (some .int) : Cond) ∈ ad_T := ad_in (List.mem_of_getElem? (i := 511) rfl) (by rfl)
theorem w_512 : (Cond.methodLink "AuditDrawsLaw" 123 ⟨"AuditDrawsLaw", "weight", "(LAuditDraws;II[J)I"⟩ : Cond) ∈ ad_T := ad_in (List.mem_of_getElem? (i := 512) (by decide +kernel)) (by rfl)
theorem w_513 : (Cond.static ⟨"AuditDrawsLaw", "weight", "(LAuditDraws;II[J)I"⟩ : Cond) ∈ ad_T := ad_in (List.mem_of_getElem? (i := 513) (by decide +kernel)) (by rfl)
set_option maxRecDepth 100000 in
theorem w_514 : (Cond.codeWith ⟨"AuditDrawsLaw", "weight", "(LAuditDraws;II[J)I"⟩ method_15_code 5 (some .int) [(0, 10, 13, 13), (0, 10, 17, 21)] : Cond) ∈ ad_T := ad_in (List.mem_of_getElem? (i := 514) rfl) (by rfl)
theorem w_515 : (Cond.methodLink "AuditDrawsLaw" 57 ⟨"AuditDraws", "weight", "(II)I"⟩ : Cond) ∈ ad_T := ad_in (List.mem_of_getElem? (i := 515) (by decide +kernel)) (by rfl)
theorem w_516 : (Cond.instanceMethod ⟨"AuditDraws", "weight", "(II)I"⟩ : Cond) ∈ ad_T := ad_in (List.mem_of_getElem? (i := 516) (by decide +kernel)) (by rfl)
theorem w_517 : (Cond.selects "AuditDraws" ⟨"AuditDraws", "weight", "(II)I"⟩ ⟨"AuditDraws", "weight", "(II)I"⟩ : Cond) ∈ ad_T := ad_in (List.mem_of_getElem? (i := 517) (by decide +kernel)) (by rfl)
set_option maxRecDepth 100000 in
theorem w_518 : (Cond.code ⟨"AuditDraws", "weight", "(II)I"⟩ prog_1_method_15_code 5 (some .int) : Cond) ∈ ad_T := ad_in (List.mem_of_getElem? (i := 518) rfl) (by rfl)
theorem w_519 : (Cond.constant "AuditDraws" 152 1000000000 : Cond) ∈ ad_T := ad_in (List.mem_of_getElem? (i := 519) (by decide +kernel)) (by rfl)
theorem w_521 : (Cond.methodLink "AuditDraws" 158 ⟨"java/lang/Math", "abs", "(I)I"⟩ : Cond) ∈ ad_T := ad_in (List.mem_of_getElem? (i := 521) (by decide +kernel)) (by rfl)
theorem w_522 : (Cond.static ⟨"java/lang/Math", "abs", "(I)I"⟩ : Cond) ∈ ad_T := ad_in (List.mem_of_getElem? (i := 522) (by decide +kernel)) (by rfl)
set_option maxRecDepth 100000 in
theorem w_523 : (Cond.code ⟨"java/lang/Math", "abs", "(I)I"⟩ prog_14_method_59_code 1 (some .int) : Cond) ∈ ad_T := ad_in (List.mem_of_getElem? (i := 523) rfl) (by rfl)
theorem w_524 : (Cond.methodLink "AuditDrawsLaw" 126 ⟨"AuditDrawsLaw", "report", "(LAuditDraws;II[J)I"⟩ : Cond) ∈ ad_T := ad_in (List.mem_of_getElem? (i := 524) (by decide +kernel)) (by rfl)
theorem w_525 : (Cond.static ⟨"AuditDrawsLaw", "report", "(LAuditDraws;II[J)I"⟩ : Cond) ∈ ad_T := ad_in (List.mem_of_getElem? (i := 525) (by decide +kernel)) (by rfl)
set_option maxRecDepth 100000 in
theorem w_526 : (Cond.codeWith ⟨"AuditDrawsLaw", "report", "(LAuditDraws;II[J)I"⟩ method_16_code 5 (some .int) [(0, 10, 13, 13)] : Cond) ∈ ad_T := ad_in (List.mem_of_getElem? (i := 526) rfl) (by rfl)
theorem w_527 : (Cond.methodLink "AuditDrawsLaw" 60 ⟨"AuditDraws", "report", "(II)I"⟩ : Cond) ∈ ad_T := ad_in (List.mem_of_getElem? (i := 527) (by decide +kernel)) (by rfl)
theorem w_528 : (Cond.instanceMethod ⟨"AuditDraws", "report", "(II)I"⟩ : Cond) ∈ ad_T := ad_in (List.mem_of_getElem? (i := 528) (by decide +kernel)) (by rfl)
theorem w_529 : (Cond.selects "AuditDraws" ⟨"AuditDraws", "report", "(II)I"⟩ ⟨"AuditDraws", "report", "(II)I"⟩ : Cond) ∈ ad_T := ad_in (List.mem_of_getElem? (i := 529) (by decide +kernel)) (by rfl)
set_option maxRecDepth 100000 in
theorem w_530 : (Cond.code ⟨"AuditDraws", "report", "(II)I"⟩ prog_1_method_16_code 5 (some .int) : Cond) ∈ ad_T := ad_in (List.mem_of_getElem? (i := 530) rfl) (by rfl)
theorem w_531 : (Cond.methodLink "AuditDraws" 163 ⟨"AuditDraws", "needNotNegative", "(I)V"⟩ : Cond) ∈ ad_T := ad_in (List.mem_of_getElem? (i := 531) (by decide +kernel)) (by rfl)
theorem w_532 : (Cond.static ⟨"AuditDraws", "needNotNegative", "(I)V"⟩ : Cond) ∈ ad_T := ad_in (List.mem_of_getElem? (i := 532) (by decide +kernel)) (by rfl)
set_option maxRecDepth 100000 in
theorem w_533 : (Cond.code ⟨"AuditDraws", "needNotNegative", "(I)V"⟩ prog_1_method_31_code 1 (none : Option FieldType) : Cond) ∈ ad_T := ad_in (List.mem_of_getElem? (i := 533) rfl) (by rfl)
theorem w_535 : (Cond.methodLink "AuditDrawsLaw" 129 ⟨"AuditDrawsLaw", "room", "(LAuditDraws;II[J)I"⟩ : Cond) ∈ ad_T := ad_in (List.mem_of_getElem? (i := 535) (by decide +kernel)) (by rfl)
theorem w_536 : (Cond.static ⟨"AuditDrawsLaw", "room", "(LAuditDraws;II[J)I"⟩ : Cond) ∈ ad_T := ad_in (List.mem_of_getElem? (i := 536) (by decide +kernel)) (by rfl)
set_option maxRecDepth 100000 in
theorem w_537 : (Cond.codeWith ⟨"AuditDrawsLaw", "room", "(LAuditDraws;II[J)I"⟩ method_17_code 5 (some .int) [(0, 10, 13, 13)] : Cond) ∈ ad_T := ad_in (List.mem_of_getElem? (i := 537) rfl) (by rfl)
theorem w_538 : (Cond.methodLink "AuditDrawsLaw" 63 ⟨"AuditDraws", "room", "(II)I"⟩ : Cond) ∈ ad_T := ad_in (List.mem_of_getElem? (i := 538) (by decide +kernel)) (by rfl)
theorem w_539 : (Cond.instanceMethod ⟨"AuditDraws", "room", "(II)I"⟩ : Cond) ∈ ad_T := ad_in (List.mem_of_getElem? (i := 539) (by decide +kernel)) (by rfl)
theorem w_540 : (Cond.selects "AuditDraws" ⟨"AuditDraws", "room", "(II)I"⟩ ⟨"AuditDraws", "room", "(II)I"⟩ : Cond) ∈ ad_T := ad_in (List.mem_of_getElem? (i := 540) (by decide +kernel)) (by rfl)
set_option maxRecDepth 100000 in
theorem w_541 : (Cond.code ⟨"AuditDraws", "room", "(II)I"⟩ prog_1_method_17_code 5 (some .int) : Cond) ∈ ad_T := ad_in (List.mem_of_getElem? (i := 541) rfl) (by rfl)
theorem w_542 : (Cond.classLink "AuditDrawsLaw" 67 "AuditDrawsModel" : Cond) ∈ ad_T := ad_in (List.mem_of_getElem? (i := 542) (by decide +kernel)) (by rfl)
theorem w_543 : (Cond.instantiable "AuditDrawsModel" 15 : Cond) ∈ ad_T := ad_in (List.mem_of_getElem? (i := 543) (by decide +kernel)) (by rfl)
theorem w_544 : (Cond.methodLink "AuditDrawsLaw" 69 ⟨"AuditDrawsModel", "<init>", "()V"⟩ : Cond) ∈ ad_T := ad_in (List.mem_of_getElem? (i := 544) (by decide +kernel)) (by rfl)
theorem w_545 : (Cond.instanceMethod ⟨"AuditDrawsModel", "<init>", "()V"⟩ : Cond) ∈ ad_T := ad_in (List.mem_of_getElem? (i := 545) (by decide +kernel)) (by rfl)
set_option maxRecDepth 100000 in
theorem w_546 : (Cond.code ⟨"AuditDrawsModel", "<init>", "()V"⟩ prog_7_method_1_code 1 (none : Option FieldType) : Cond) ∈ ad_T := ad_in (List.mem_of_getElem? (i := 546) rfl) (by rfl)
theorem w_547 : (Cond.methodLink "AuditDrawsModel" 1 ⟨"java/lang/Object", "<init>", "()V"⟩ : Cond) ∈ ad_T := ad_in (List.mem_of_getElem? (i := 547) (by decide +kernel)) (by rfl)
theorem w_548 : (Cond.fieldLink "AuditDrawsModel" 43 "AuditDrawsModel" "thrown" "I" : Cond) ∈ ad_T := ad_in (List.mem_of_getElem? (i := 548) (by decide +kernel)) (by rfl)
theorem w_549 : (Cond.fieldLink "AuditDrawsModel" 54 "AuditDrawsModel" "state" "J" : Cond) ∈ ad_T := ad_in (List.mem_of_getElem? (i := 549) (by decide +kernel)) (by rfl)
theorem w_550 : (Cond.fieldLink "AuditDrawsModel" 47 "AuditDrawsModel" "things" "I" : Cond) ∈ ad_T := ad_in (List.mem_of_getElem? (i := 550) (by decide +kernel)) (by rfl)
theorem w_551 : (Cond.fieldLink "AuditDrawsModel" 7 "AuditDrawsModel" "strata" "[I" : Cond) ∈ ad_T := ad_in (List.mem_of_getElem? (i := 551) (by decide +kernel)) (by rfl)
theorem w_552 : (Cond.fieldLink "AuditDrawsModel" 13 "AuditDrawsModel" "places" "[I" : Cond) ∈ ad_T := ad_in (List.mem_of_getElem? (i := 552) (by decide +kernel)) (by rfl)
theorem w_553 : (Cond.fieldLink "AuditDrawsModel" 16 "AuditDrawsModel" "weights" "[I" : Cond) ∈ ad_T := ad_in (List.mem_of_getElem? (i := 553) (by decide +kernel)) (by rfl)
theorem w_554 : (Cond.fieldLink "AuditDrawsModel" 81 "AuditDrawsModel" "drawnMany" "I" : Cond) ∈ ad_T := ad_in (List.mem_of_getElem? (i := 554) (by decide +kernel)) (by rfl)
theorem w_555 : (Cond.fieldLink "AuditDrawsModel" 19 "AuditDrawsModel" "drawn" "[I" : Cond) ∈ ad_T := ad_in (List.mem_of_getElem? (i := 555) (by decide +kernel)) (by rfl)
theorem w_556 : (Cond.fieldLink "AuditDrawsModel" 22 "AuditDrawsModel" "states" "[I" : Cond) ∈ ad_T := ad_in (List.mem_of_getElem? (i := 556) (by decide +kernel)) (by rfl)
theorem w_557 : (Cond.fieldLink "AuditDrawsModel" 25 "AuditDrawsModel" "row" "[I" : Cond) ∈ ad_T := ad_in (List.mem_of_getElem? (i := 557) (by decide +kernel)) (by rfl)
theorem w_558 : (Cond.fieldLink "AuditDrawsModel" 28 "AuditDrawsModel" "gives" "[I" : Cond) ∈ ad_T := ad_in (List.mem_of_getElem? (i := 558) (by decide +kernel)) (by rfl)
theorem w_559 : (Cond.fieldLink "AuditDrawsModel" 31 "AuditDrawsModel" "rowMany" "[I" : Cond) ∈ ad_T := ad_in (List.mem_of_getElem? (i := 559) (by decide +kernel)) (by rfl)
theorem w_560 : (Cond.fieldLink "AuditDrawsModel" 34 "AuditDrawsModel" "hours" "[I" : Cond) ∈ ad_T := ad_in (List.mem_of_getElem? (i := 560) (by decide +kernel)) (by rfl)
theorem w_561 : (Cond.fieldLink "AuditDrawsModel" 37 "AuditDrawsModel" "seenAt" "[I" : Cond) ∈ ad_T := ad_in (List.mem_of_getElem? (i := 561) (by decide +kernel)) (by rfl)
theorem w_562 : (Cond.fieldLink "AuditDrawsModel" 40 "AuditDrawsModel" "tolds" "[I" : Cond) ∈ ad_T := ad_in (List.mem_of_getElem? (i := 562) (by decide +kernel)) (by rfl)
theorem w_563 : (Cond.lays "AuditDrawsModel" "AuditDrawsModel" "thrown" "I" : Cond) ∈ ad_T := ad_in (List.mem_of_getElem? (i := 563) (by decide +kernel)) (by rfl)
theorem w_565 : (Cond.lays "AuditDrawsModel" "AuditDrawsModel" "state" "J" : Cond) ∈ ad_T := ad_in (List.mem_of_getElem? (i := 565) (by decide +kernel)) (by rfl)
theorem w_567 : (Cond.lays "AuditDrawsModel" "AuditDrawsModel" "things" "I" : Cond) ∈ ad_T := ad_in (List.mem_of_getElem? (i := 567) (by decide +kernel)) (by rfl)
theorem w_569 : (Cond.laysFinal "AuditDrawsModel" "AuditDrawsModel" "strata" "[I" : Cond) ∈ ad_T := ad_in (List.mem_of_getElem? (i := 569) (by decide +kernel)) (by rfl)
theorem w_571 : (Cond.laysFinal "AuditDrawsModel" "AuditDrawsModel" "places" "[I" : Cond) ∈ ad_T := ad_in (List.mem_of_getElem? (i := 571) (by decide +kernel)) (by rfl)
theorem w_573 : (Cond.laysFinal "AuditDrawsModel" "AuditDrawsModel" "weights" "[I" : Cond) ∈ ad_T := ad_in (List.mem_of_getElem? (i := 573) (by decide +kernel)) (by rfl)
theorem w_575 : (Cond.lays "AuditDrawsModel" "AuditDrawsModel" "drawnMany" "I" : Cond) ∈ ad_T := ad_in (List.mem_of_getElem? (i := 575) (by decide +kernel)) (by rfl)
theorem w_577 : (Cond.laysFinal "AuditDrawsModel" "AuditDrawsModel" "drawn" "[I" : Cond) ∈ ad_T := ad_in (List.mem_of_getElem? (i := 577) (by decide +kernel)) (by rfl)
theorem w_579 : (Cond.laysFinal "AuditDrawsModel" "AuditDrawsModel" "states" "[I" : Cond) ∈ ad_T := ad_in (List.mem_of_getElem? (i := 579) (by decide +kernel)) (by rfl)
theorem w_581 : (Cond.laysFinal "AuditDrawsModel" "AuditDrawsModel" "row" "[I" : Cond) ∈ ad_T := ad_in (List.mem_of_getElem? (i := 581) (by decide +kernel)) (by rfl)
theorem w_583 : (Cond.laysFinal "AuditDrawsModel" "AuditDrawsModel" "gives" "[I" : Cond) ∈ ad_T := ad_in (List.mem_of_getElem? (i := 583) (by decide +kernel)) (by rfl)
theorem w_585 : (Cond.laysFinal "AuditDrawsModel" "AuditDrawsModel" "rowMany" "[I" : Cond) ∈ ad_T := ad_in (List.mem_of_getElem? (i := 585) (by decide +kernel)) (by rfl)
theorem w_587 : (Cond.laysFinal "AuditDrawsModel" "AuditDrawsModel" "hours" "[I" : Cond) ∈ ad_T := ad_in (List.mem_of_getElem? (i := 587) (by decide +kernel)) (by rfl)
theorem w_589 : (Cond.laysFinal "AuditDrawsModel" "AuditDrawsModel" "seenAt" "[I" : Cond) ∈ ad_T := ad_in (List.mem_of_getElem? (i := 589) (by decide +kernel)) (by rfl)
theorem w_591 : (Cond.laysFinal "AuditDrawsModel" "AuditDrawsModel" "tolds" "[I" : Cond) ∈ ad_T := ad_in (List.mem_of_getElem? (i := 591) (by decide +kernel)) (by rfl)
theorem w_593 : (Cond.superclass "AuditDrawsModel" "java/lang/Object" : Cond) ∈ ad_T := ad_in (List.mem_of_getElem? (i := 593) (by decide +kernel)) (by rfl)
theorem w_594 : (Cond.methodLink "AuditDrawsLaw" 83 ⟨"AuditDrawsModel", "thrown", "()I"⟩ : Cond) ∈ ad_T := ad_in (List.mem_of_getElem? (i := 594) (by decide +kernel)) (by rfl)
theorem w_595 : (Cond.instanceMethod ⟨"AuditDrawsModel", "thrown", "()I"⟩ : Cond) ∈ ad_T := ad_in (List.mem_of_getElem? (i := 595) (by decide +kernel)) (by rfl)
theorem w_596 : (Cond.selects "AuditDrawsModel" ⟨"AuditDrawsModel", "thrown", "()I"⟩ ⟨"AuditDrawsModel", "thrown", "()I"⟩ : Cond) ∈ ad_T := ad_in (List.mem_of_getElem? (i := 596) (by decide +kernel)) (by rfl)
set_option maxRecDepth 100000 in
theorem w_597 : (Cond.code ⟨"AuditDrawsModel", "thrown", "()I"⟩ prog_7_method_2_code 1 (some .int) : Cond) ∈ ad_T := ad_in (List.mem_of_getElem? (i := 597) rfl) (by rfl)
theorem w_598 : (Cond.methodLink "AuditDrawsLaw" 76 ⟨"AuditDrawsModel", "seed", "(J)V"⟩ : Cond) ∈ ad_T := ad_in (List.mem_of_getElem? (i := 598) (by decide +kernel)) (by rfl)
theorem w_599 : (Cond.instanceMethod ⟨"AuditDrawsModel", "seed", "(J)V"⟩ : Cond) ∈ ad_T := ad_in (List.mem_of_getElem? (i := 599) (by decide +kernel)) (by rfl)
theorem w_600 : (Cond.selects "AuditDrawsModel" ⟨"AuditDrawsModel", "seed", "(J)V"⟩ ⟨"AuditDrawsModel", "seed", "(J)V"⟩ : Cond) ∈ ad_T := ad_in (List.mem_of_getElem? (i := 600) (by decide +kernel)) (by rfl)
set_option maxRecDepth 100000 in
theorem w_601 : (Cond.code ⟨"AuditDrawsModel", "seed", "(J)V"⟩ prog_7_method_6_code 3 (none : Option FieldType) : Cond) ∈ ad_T := ad_in (List.mem_of_getElem? (i := 601) rfl) (by rfl)
theorem w_602 : (Cond.methodLink "AuditDrawsLaw" 82 ⟨"AuditDrawsModel", "thing", "(II)I"⟩ : Cond) ∈ ad_T := ad_in (List.mem_of_getElem? (i := 602) (by decide +kernel)) (by rfl)
theorem w_603 : (Cond.instanceMethod ⟨"AuditDrawsModel", "thing", "(II)I"⟩ : Cond) ∈ ad_T := ad_in (List.mem_of_getElem? (i := 603) (by decide +kernel)) (by rfl)
theorem w_604 : (Cond.selects "AuditDrawsModel" ⟨"AuditDrawsModel", "thing", "(II)I"⟩ ⟨"AuditDrawsModel", "thing", "(II)I"⟩ : Cond) ∈ ad_T := ad_in (List.mem_of_getElem? (i := 604) (by decide +kernel)) (by rfl)
set_option maxRecDepth 100000 in
theorem w_605 : (Cond.code ⟨"AuditDrawsModel", "thing", "(II)I"⟩ prog_7_method_7_code 3 (some .int) : Cond) ∈ ad_T := ad_in (List.mem_of_getElem? (i := 605) rfl) (by rfl)
theorem w_606 : (Cond.constantLong "AuditDrawsModel" 58 5 : Cond) ∈ ad_T := ad_in (List.mem_of_getElem? (i := 606) (by decide +kernel)) (by rfl)
theorem w_607 : (Cond.methodLink "AuditDrawsModel" 50 ⟨"AuditDrawsModel", "in", "(JJJ)Z"⟩ : Cond) ∈ ad_T := ad_in (List.mem_of_getElem? (i := 607) (by decide +kernel)) (by rfl)
theorem w_608 : (Cond.static ⟨"AuditDrawsModel", "in", "(JJJ)Z"⟩ : Cond) ∈ ad_T := ad_in (List.mem_of_getElem? (i := 608) (by decide +kernel)) (by rfl)
set_option maxRecDepth 100000 in
theorem w_609 : (Cond.code ⟨"AuditDrawsModel", "in", "(JJJ)Z"⟩ prog_7_method_3_code 6 (some .boolean) : Cond) ∈ ad_T := ad_in (List.mem_of_getElem? (i := 609) rfl) (by rfl)
theorem w_610 : (Cond.constantLong "AuditDrawsModel" 60 15 : Cond) ∈ ad_T := ad_in (List.mem_of_getElem? (i := 610) (by decide +kernel)) (by rfl)
theorem w_611 : (Cond.methodLink "AuditDrawsModel" 62 ⟨"AuditDrawsModel", "fails", "(ZZZ)Z"⟩ : Cond) ∈ ad_T := ad_in (List.mem_of_getElem? (i := 611) (by decide +kernel)) (by rfl)
theorem w_612 : (Cond.privateMethod ⟨"AuditDrawsModel", "fails", "(ZZZ)Z"⟩ : Cond) ∈ ad_T := ad_in (List.mem_of_getElem? (i := 612) (by decide +kernel)) (by rfl)
theorem w_613 : (Cond.instanceMethod ⟨"AuditDrawsModel", "fails", "(ZZZ)Z"⟩ : Cond) ∈ ad_T := ad_in (List.mem_of_getElem? (i := 613) (by decide +kernel)) (by rfl)
set_option maxRecDepth 100000 in
theorem w_614 : (Cond.code ⟨"AuditDrawsModel", "fails", "(ZZZ)Z"⟩ prog_7_method_4_code 4 (some .boolean) : Cond) ∈ ad_T := ad_in (List.mem_of_getElem? (i := 614) rfl) (by rfl)
theorem w_615 : (Cond.methodLink "AuditDrawsLaw" 90 ⟨"AuditDrawsModel", "list", "(I)I"⟩ : Cond) ∈ ad_T := ad_in (List.mem_of_getElem? (i := 615) (by decide +kernel)) (by rfl)
theorem w_616 : (Cond.instanceMethod ⟨"AuditDrawsModel", "list", "(I)I"⟩ : Cond) ∈ ad_T := ad_in (List.mem_of_getElem? (i := 616) (by decide +kernel)) (by rfl)
theorem w_617 : (Cond.selects "AuditDrawsModel" ⟨"AuditDrawsModel", "list", "(I)I"⟩ ⟨"AuditDrawsModel", "list", "(I)I"⟩ : Cond) ∈ ad_T := ad_in (List.mem_of_getElem? (i := 617) (by decide +kernel)) (by rfl)
set_option maxRecDepth 100000 in
theorem w_618 : (Cond.code ⟨"AuditDrawsModel", "list", "(I)I"⟩ prog_7_method_13_code 3 (some .int) : Cond) ∈ ad_T := ad_in (List.mem_of_getElem? (i := 618) rfl) (by rfl)
theorem w_619 : (Cond.methodLink "AuditDrawsModel" 84 ⟨"AuditDrawsModel", "divide", "(I)V"⟩ : Cond) ∈ ad_T := ad_in (List.mem_of_getElem? (i := 619) (by decide +kernel)) (by rfl)
theorem w_620 : (Cond.privateMethod ⟨"AuditDrawsModel", "divide", "(I)V"⟩ : Cond) ∈ ad_T := ad_in (List.mem_of_getElem? (i := 620) (by decide +kernel)) (by rfl)
theorem w_621 : (Cond.instanceMethod ⟨"AuditDrawsModel", "divide", "(I)V"⟩ : Cond) ∈ ad_T := ad_in (List.mem_of_getElem? (i := 621) (by decide +kernel)) (by rfl)
set_option maxRecDepth 100000 in
theorem w_622 : (Cond.code ⟨"AuditDrawsModel", "divide", "(I)V"⟩ prog_7_method_11_code 7 (none : Option FieldType) : Cond) ∈ ad_T := ad_in (List.mem_of_getElem? (i := 622) rfl) (by rfl)
theorem w_623 : (Cond.methodLink "AuditDrawsModel" 70 ⟨"AuditDrawsModel", "size", "(I)I"⟩ : Cond) ∈ ad_T := ad_in (List.mem_of_getElem? (i := 623) (by decide +kernel)) (by rfl)
theorem w_624 : (Cond.privateMethod ⟨"AuditDrawsModel", "size", "(I)I"⟩ : Cond) ∈ ad_T := ad_in (List.mem_of_getElem? (i := 624) (by decide +kernel)) (by rfl)
theorem w_625 : (Cond.instanceMethod ⟨"AuditDrawsModel", "size", "(I)I"⟩ : Cond) ∈ ad_T := ad_in (List.mem_of_getElem? (i := 625) (by decide +kernel)) (by rfl)
set_option maxRecDepth 100000 in
theorem w_626 : (Cond.code ⟨"AuditDrawsModel", "size", "(I)I"⟩ prog_7_method_9_code 4 (some .int) : Cond) ∈ ad_T := ad_in (List.mem_of_getElem? (i := 626) rfl) (by rfl)
theorem w_627 : (Cond.methodLink "AuditDrawsModel" 74 ⟨"AuditDrawsModel", "rest", "(II)I"⟩ : Cond) ∈ ad_T := ad_in (List.mem_of_getElem? (i := 627) (by decide +kernel)) (by rfl)
theorem w_628 : (Cond.privateMethod ⟨"AuditDrawsModel", "rest", "(II)I"⟩ : Cond) ∈ ad_T := ad_in (List.mem_of_getElem? (i := 628) (by decide +kernel)) (by rfl)
theorem w_629 : (Cond.instanceMethod ⟨"AuditDrawsModel", "rest", "(II)I"⟩ : Cond) ∈ ad_T := ad_in (List.mem_of_getElem? (i := 629) (by decide +kernel)) (by rfl)
set_option maxRecDepth 100000 in
theorem w_630 : (Cond.code ⟨"AuditDrawsModel", "rest", "(II)I"⟩ prog_7_method_10_code 3 (some .int) : Cond) ∈ ad_T := ad_in (List.mem_of_getElem? (i := 630) rfl) (by rfl)
theorem w_631 : (Cond.methodLink "AuditDrawsModel" 88 ⟨"AuditDrawsModel", "drawFrom", "(I)V"⟩ : Cond) ∈ ad_T := ad_in (List.mem_of_getElem? (i := 631) (by decide +kernel)) (by rfl)
theorem w_632 : (Cond.privateMethod ⟨"AuditDrawsModel", "drawFrom", "(I)V"⟩ : Cond) ∈ ad_T := ad_in (List.mem_of_getElem? (i := 632) (by decide +kernel)) (by rfl)
theorem w_633 : (Cond.instanceMethod ⟨"AuditDrawsModel", "drawFrom", "(I)V"⟩ : Cond) ∈ ad_T := ad_in (List.mem_of_getElem? (i := 633) (by decide +kernel)) (by rfl)
set_option maxRecDepth 100000 in
theorem w_634 : (Cond.code ⟨"AuditDrawsModel", "drawFrom", "(I)V"⟩ prog_7_method_12_code 6 (none : Option FieldType) : Cond) ∈ ad_T := ad_in (List.mem_of_getElem? (i := 634) rfl) (by rfl)
theorem w_635 : (Cond.methodLink "AuditDrawsModel" 78 ⟨"AuditDrawsModel", "draw", "(I)I"⟩ : Cond) ∈ ad_T := ad_in (List.mem_of_getElem? (i := 635) (by decide +kernel)) (by rfl)
theorem w_636 : (Cond.privateMethod ⟨"AuditDrawsModel", "draw", "(I)I"⟩ : Cond) ∈ ad_T := ad_in (List.mem_of_getElem? (i := 636) (by decide +kernel)) (by rfl)
theorem w_637 : (Cond.instanceMethod ⟨"AuditDrawsModel", "draw", "(I)I"⟩ : Cond) ∈ ad_T := ad_in (List.mem_of_getElem? (i := 637) (by decide +kernel)) (by rfl)
set_option maxRecDepth 100000 in
theorem w_638 : (Cond.code ⟨"AuditDrawsModel", "draw", "(I)I"⟩ prog_7_method_8_code 2 (some .int) : Cond) ∈ ad_T := ad_in (List.mem_of_getElem? (i := 638) rfl) (by rfl)
theorem w_639 : (Cond.constantLong "AuditDrawsModel" 66 6364136223846793005 : Cond) ∈ ad_T := ad_in (List.mem_of_getElem? (i := 639) (by decide +kernel)) (by rfl)
theorem w_640 : (Cond.constantLong "AuditDrawsModel" 68 1442695040888963407 : Cond) ∈ ad_T := ad_in (List.mem_of_getElem? (i := 640) (by decide +kernel)) (by rfl)
theorem w_641 : (Cond.methodLink "AuditDrawsLaw" 93 ⟨"AuditDrawsModel", "drawn", "(I)I"⟩ : Cond) ∈ ad_T := ad_in (List.mem_of_getElem? (i := 641) (by decide +kernel)) (by rfl)
theorem w_642 : (Cond.instanceMethod ⟨"AuditDrawsModel", "drawn", "(I)I"⟩ : Cond) ∈ ad_T := ad_in (List.mem_of_getElem? (i := 642) (by decide +kernel)) (by rfl)
theorem w_643 : (Cond.selects "AuditDrawsModel" ⟨"AuditDrawsModel", "drawn", "(I)I"⟩ ⟨"AuditDrawsModel", "drawn", "(I)I"⟩ : Cond) ∈ ad_T := ad_in (List.mem_of_getElem? (i := 643) (by decide +kernel)) (by rfl)
set_option maxRecDepth 100000 in
theorem w_644 : (Cond.code ⟨"AuditDrawsModel", "drawn", "(I)I"⟩ prog_7_method_14_code 2 (some .int) : Cond) ∈ ad_T := ad_in (List.mem_of_getElem? (i := 644) rfl) (by rfl)
theorem w_645 : (Cond.methodLink "AuditDrawsLaw" 97 ⟨"AuditDrawsModel", "check", "(IIII)I"⟩ : Cond) ∈ ad_T := ad_in (List.mem_of_getElem? (i := 645) (by decide +kernel)) (by rfl)
theorem w_646 : (Cond.instanceMethod ⟨"AuditDrawsModel", "check", "(IIII)I"⟩ : Cond) ∈ ad_T := ad_in (List.mem_of_getElem? (i := 646) (by decide +kernel)) (by rfl)
theorem w_647 : (Cond.selects "AuditDrawsModel" ⟨"AuditDrawsModel", "check", "(IIII)I"⟩ ⟨"AuditDrawsModel", "check", "(IIII)I"⟩ : Cond) ∈ ad_T := ad_in (List.mem_of_getElem? (i := 647) (by decide +kernel)) (by rfl)
set_option maxRecDepth 100000 in
theorem w_648 : (Cond.code ⟨"AuditDrawsModel", "check", "(IIII)I"⟩ prog_7_method_15_code 8 (some .int) : Cond) ∈ ad_T := ad_in (List.mem_of_getElem? (i := 648) rfl) (by rfl)
theorem w_649 : (Cond.methodLink "AuditDrawsModel" 91 ⟨"AuditDrawsModel", "isThing", "(I)Z"⟩ : Cond) ∈ ad_T := ad_in (List.mem_of_getElem? (i := 649) (by decide +kernel)) (by rfl)
theorem w_650 : (Cond.privateMethod ⟨"AuditDrawsModel", "isThing", "(I)Z"⟩ : Cond) ∈ ad_T := ad_in (List.mem_of_getElem? (i := 650) (by decide +kernel)) (by rfl)
theorem w_651 : (Cond.instanceMethod ⟨"AuditDrawsModel", "isThing", "(I)Z"⟩ : Cond) ∈ ad_T := ad_in (List.mem_of_getElem? (i := 651) (by decide +kernel)) (by rfl)
set_option maxRecDepth 100000 in
theorem w_652 : (Cond.code ⟨"AuditDrawsModel", "isThing", "(I)Z"⟩ prog_7_method_5_code 2 (some .boolean) : Cond) ∈ ad_T := ad_in (List.mem_of_getElem? (i := 652) rfl) (by rfl)
theorem w_653 : (Cond.constantLong "AuditDrawsModel" 95 9 : Cond) ∈ ad_T := ad_in (List.mem_of_getElem? (i := 653) (by decide +kernel)) (by rfl)
theorem w_654 : (Cond.methodLink "AuditDrawsLaw" 100 ⟨"AuditDrawsModel", "gone", "(I)Z"⟩ : Cond) ∈ ad_T := ad_in (List.mem_of_getElem? (i := 654) (by decide +kernel)) (by rfl)
theorem w_655 : (Cond.instanceMethod ⟨"AuditDrawsModel", "gone", "(I)Z"⟩ : Cond) ∈ ad_T := ad_in (List.mem_of_getElem? (i := 655) (by decide +kernel)) (by rfl)
theorem w_656 : (Cond.selects "AuditDrawsModel" ⟨"AuditDrawsModel", "gone", "(I)Z"⟩ ⟨"AuditDrawsModel", "gone", "(I)Z"⟩ : Cond) ∈ ad_T := ad_in (List.mem_of_getElem? (i := 656) (by decide +kernel)) (by rfl)
set_option maxRecDepth 100000 in
theorem w_657 : (Cond.code ⟨"AuditDrawsModel", "gone", "(I)Z"⟩ prog_7_method_16_code 4 (some .boolean) : Cond) ∈ ad_T := ad_in (List.mem_of_getElem? (i := 657) rfl) (by rfl)
theorem w_658 : (Cond.methodLink "AuditDrawsLaw" 103 ⟨"AuditDrawsModel", "share", "(II)I"⟩ : Cond) ∈ ad_T := ad_in (List.mem_of_getElem? (i := 658) (by decide +kernel)) (by rfl)
theorem w_659 : (Cond.instanceMethod ⟨"AuditDrawsModel", "share", "(II)I"⟩ : Cond) ∈ ad_T := ad_in (List.mem_of_getElem? (i := 659) (by decide +kernel)) (by rfl)
theorem w_660 : (Cond.selects "AuditDrawsModel" ⟨"AuditDrawsModel", "share", "(II)I"⟩ ⟨"AuditDrawsModel", "share", "(II)I"⟩ : Cond) ∈ ad_T := ad_in (List.mem_of_getElem? (i := 660) (by decide +kernel)) (by rfl)
set_option maxRecDepth 100000 in
theorem w_661 : (Cond.code ⟨"AuditDrawsModel", "share", "(II)I"⟩ prog_7_method_18_code 6 (some .int) : Cond) ∈ ad_T := ad_in (List.mem_of_getElem? (i := 661) rfl) (by rfl)
theorem w_662 : (Cond.methodLink "AuditDrawsModel" 97 ⟨"AuditDrawsModel", "many", "(III)I"⟩ : Cond) ∈ ad_T := ad_in (List.mem_of_getElem? (i := 662) (by decide +kernel)) (by rfl)
theorem w_663 : (Cond.privateMethod ⟨"AuditDrawsModel", "many", "(III)I"⟩ : Cond) ∈ ad_T := ad_in (List.mem_of_getElem? (i := 663) (by decide +kernel)) (by rfl)
theorem w_664 : (Cond.instanceMethod ⟨"AuditDrawsModel", "many", "(III)I"⟩ : Cond) ∈ ad_T := ad_in (List.mem_of_getElem? (i := 664) (by decide +kernel)) (by rfl)
set_option maxRecDepth 100000 in
theorem w_665 : (Cond.code ⟨"AuditDrawsModel", "many", "(III)I"⟩ prog_7_method_17_code 6 (some .int) : Cond) ∈ ad_T := ad_in (List.mem_of_getElem? (i := 665) rfl) (by rfl)
theorem w_666 : (Cond.methodLink "AuditDrawsLaw" 106 ⟨"AuditDrawsModel", "next", "(I)I"⟩ : Cond) ∈ ad_T := ad_in (List.mem_of_getElem? (i := 666) (by decide +kernel)) (by rfl)
theorem w_667 : (Cond.instanceMethod ⟨"AuditDrawsModel", "next", "(I)I"⟩ : Cond) ∈ ad_T := ad_in (List.mem_of_getElem? (i := 667) (by decide +kernel)) (by rfl)
theorem w_668 : (Cond.selects "AuditDrawsModel" ⟨"AuditDrawsModel", "next", "(I)I"⟩ ⟨"AuditDrawsModel", "next", "(I)I"⟩ : Cond) ∈ ad_T := ad_in (List.mem_of_getElem? (i := 668) (by decide +kernel)) (by rfl)
set_option maxRecDepth 100000 in
theorem w_669 : (Cond.code ⟨"AuditDrawsModel", "next", "(I)I"⟩ prog_7_method_19_code 4 (some .int) : Cond) ∈ ad_T := ad_in (List.mem_of_getElem? (i := 669) rfl) (by rfl)
theorem w_670 : (Cond.methodLink "AuditDrawsLaw" 110 ⟨"AuditDrawsModel", "digit", "(IJ)I"⟩ : Cond) ∈ ad_T := ad_in (List.mem_of_getElem? (i := 670) (by decide +kernel)) (by rfl)
theorem w_671 : (Cond.instanceMethod ⟨"AuditDrawsModel", "digit", "(IJ)I"⟩ : Cond) ∈ ad_T := ad_in (List.mem_of_getElem? (i := 671) (by decide +kernel)) (by rfl)
theorem w_672 : (Cond.selects "AuditDrawsModel" ⟨"AuditDrawsModel", "digit", "(IJ)I"⟩ ⟨"AuditDrawsModel", "digit", "(IJ)I"⟩ : Cond) ∈ ad_T := ad_in (List.mem_of_getElem? (i := 672) (by decide +kernel)) (by rfl)
set_option maxRecDepth 100000 in
theorem w_673 : (Cond.code ⟨"AuditDrawsModel", "digit", "(IJ)I"⟩ prog_7_method_23_code 4 (some .int) : Cond) ∈ ad_T := ad_in (List.mem_of_getElem? (i := 673) rfl) (by rfl)
theorem w_674 : (Cond.constantLong "AuditDrawsModel" 110 2 : Cond) ∈ ad_T := ad_in (List.mem_of_getElem? (i := 674) (by decide +kernel)) (by rfl)
theorem w_675 : (Cond.constantLong "AuditDrawsModel" 112 100000000000000000 : Cond) ∈ ad_T := ad_in (List.mem_of_getElem? (i := 675) (by decide +kernel)) (by rfl)
theorem w_676 : (Cond.methodLink "AuditDrawsModel" 114 ⟨"AuditDrawsModel", "digitOf", "(IJ)I"⟩ : Cond) ∈ ad_T := ad_in (List.mem_of_getElem? (i := 676) (by decide +kernel)) (by rfl)
theorem w_677 : (Cond.static ⟨"AuditDrawsModel", "digitOf", "(IJ)I"⟩ : Cond) ∈ ad_T := ad_in (List.mem_of_getElem? (i := 677) (by decide +kernel)) (by rfl)
set_option maxRecDepth 100000 in
theorem w_678 : (Cond.code ⟨"AuditDrawsModel", "digitOf", "(IJ)I"⟩ prog_7_method_22_code 4 (some .int) : Cond) ∈ ad_T := ad_in (List.mem_of_getElem? (i := 678) rfl) (by rfl)
theorem w_679 : (Cond.methodLink "AuditDrawsModel" 106 ⟨"AuditDrawsModel", "sum", "(IJ)I"⟩ : Cond) ∈ ad_T := ad_in (List.mem_of_getElem? (i := 679) (by decide +kernel)) (by rfl)
theorem w_680 : (Cond.static ⟨"AuditDrawsModel", "sum", "(IJ)I"⟩ : Cond) ∈ ad_T := ad_in (List.mem_of_getElem? (i := 680) (by decide +kernel)) (by rfl)
set_option maxRecDepth 100000 in
theorem w_681 : (Cond.code ⟨"AuditDrawsModel", "sum", "(IJ)I"⟩ prog_7_method_21_code 7 (some .int) : Cond) ∈ ad_T := ad_in (List.mem_of_getElem? (i := 681) rfl) (by rfl)
theorem w_682 : (Cond.constantLong "AuditDrawsModel" 101 10 : Cond) ∈ ad_T := ad_in (List.mem_of_getElem? (i := 682) (by decide +kernel)) (by rfl)
theorem w_683 : (Cond.methodLink "AuditDrawsModel" 103 ⟨"AuditDrawsModel", "counts", "(III)I"⟩ : Cond) ∈ ad_T := ad_in (List.mem_of_getElem? (i := 683) (by decide +kernel)) (by rfl)
theorem w_684 : (Cond.static ⟨"AuditDrawsModel", "counts", "(III)I"⟩ : Cond) ∈ ad_T := ad_in (List.mem_of_getElem? (i := 684) (by decide +kernel)) (by rfl)
set_option maxRecDepth 100000 in
theorem w_685 : (Cond.code ⟨"AuditDrawsModel", "counts", "(III)I"⟩ prog_7_method_20_code 3 (some .int) : Cond) ∈ ad_T := ad_in (List.mem_of_getElem? (i := 685) rfl) (by rfl)
theorem w_686 : (Cond.methodLink "AuditDrawsLaw" 113 ⟨"AuditDrawsModel", "good", "(IJ)Z"⟩ : Cond) ∈ ad_T := ad_in (List.mem_of_getElem? (i := 686) (by decide +kernel)) (by rfl)
theorem w_687 : (Cond.instanceMethod ⟨"AuditDrawsModel", "good", "(IJ)Z"⟩ : Cond) ∈ ad_T := ad_in (List.mem_of_getElem? (i := 687) (by decide +kernel)) (by rfl)
theorem w_688 : (Cond.selects "AuditDrawsModel" ⟨"AuditDrawsModel", "good", "(IJ)Z"⟩ ⟨"AuditDrawsModel", "good", "(IJ)Z"⟩ : Cond) ∈ ad_T := ad_in (List.mem_of_getElem? (i := 688) (by decide +kernel)) (by rfl)
set_option maxRecDepth 100000 in
theorem w_689 : (Cond.code ⟨"AuditDrawsModel", "good", "(IJ)Z"⟩ prog_7_method_24_code 4 (some .boolean) : Cond) ∈ ad_T := ad_in (List.mem_of_getElem? (i := 689) rfl) (by rfl)
theorem w_690 : (Cond.methodLink "AuditDrawsLaw" 116 ⟨"AuditDrawsModel", "tag", "(IIII)I"⟩ : Cond) ∈ ad_T := ad_in (List.mem_of_getElem? (i := 690) (by decide +kernel)) (by rfl)
theorem w_691 : (Cond.instanceMethod ⟨"AuditDrawsModel", "tag", "(IIII)I"⟩ : Cond) ∈ ad_T := ad_in (List.mem_of_getElem? (i := 691) (by decide +kernel)) (by rfl)
theorem w_692 : (Cond.selects "AuditDrawsModel" ⟨"AuditDrawsModel", "tag", "(IIII)I"⟩ ⟨"AuditDrawsModel", "tag", "(IIII)I"⟩ : Cond) ∈ ad_T := ad_in (List.mem_of_getElem? (i := 692) (by decide +kernel)) (by rfl)
set_option maxRecDepth 100000 in
theorem w_693 : (Cond.code ⟨"AuditDrawsModel", "tag", "(IIII)I"⟩ prog_7_method_25_code 8 (some .int) : Cond) ∈ ad_T := ad_in (List.mem_of_getElem? (i := 693) rfl) (by rfl)
theorem w_694 : (Cond.constantLong "AuditDrawsModel" 117 1000000 : Cond) ∈ ad_T := ad_in (List.mem_of_getElem? (i := 694) (by decide +kernel)) (by rfl)
theorem w_695 : (Cond.methodLink "AuditDrawsLaw" 119 ⟨"AuditDrawsModel", "first", "(II)I"⟩ : Cond) ∈ ad_T := ad_in (List.mem_of_getElem? (i := 695) (by decide +kernel)) (by rfl)
theorem w_696 : (Cond.instanceMethod ⟨"AuditDrawsModel", "first", "(II)I"⟩ : Cond) ∈ ad_T := ad_in (List.mem_of_getElem? (i := 696) (by decide +kernel)) (by rfl)
theorem w_697 : (Cond.selects "AuditDrawsModel" ⟨"AuditDrawsModel", "first", "(II)I"⟩ ⟨"AuditDrawsModel", "first", "(II)I"⟩ : Cond) ∈ ad_T := ad_in (List.mem_of_getElem? (i := 697) (by decide +kernel)) (by rfl)
set_option maxRecDepth 100000 in
theorem w_698 : (Cond.code ⟨"AuditDrawsModel", "first", "(II)I"⟩ prog_7_method_27_code 4 (some .int) : Cond) ∈ ad_T := ad_in (List.mem_of_getElem? (i := 698) rfl) (by rfl)
theorem w_699 : (Cond.methodLink "AuditDrawsModel" 119 ⟨"AuditDrawsModel", "best", "(II)I"⟩ : Cond) ∈ ad_T := ad_in (List.mem_of_getElem? (i := 699) (by decide +kernel)) (by rfl)
theorem w_700 : (Cond.privateMethod ⟨"AuditDrawsModel", "best", "(II)I"⟩ : Cond) ∈ ad_T := ad_in (List.mem_of_getElem? (i := 700) (by decide +kernel)) (by rfl)
theorem w_701 : (Cond.instanceMethod ⟨"AuditDrawsModel", "best", "(II)I"⟩ : Cond) ∈ ad_T := ad_in (List.mem_of_getElem? (i := 701) (by decide +kernel)) (by rfl)
set_option maxRecDepth 100000 in
theorem w_702 : (Cond.code ⟨"AuditDrawsModel", "best", "(II)I"⟩ prog_7_method_26_code 6 (some .int) : Cond) ∈ ad_T := ad_in (List.mem_of_getElem? (i := 702) rfl) (by rfl)
theorem w_703 : (Cond.methodLink "AuditDrawsLaw" 122 ⟨"AuditDrawsModel", "seen", "(II)I"⟩ : Cond) ∈ ad_T := ad_in (List.mem_of_getElem? (i := 703) (by decide +kernel)) (by rfl)
theorem w_704 : (Cond.instanceMethod ⟨"AuditDrawsModel", "seen", "(II)I"⟩ : Cond) ∈ ad_T := ad_in (List.mem_of_getElem? (i := 704) (by decide +kernel)) (by rfl)
theorem w_705 : (Cond.selects "AuditDrawsModel" ⟨"AuditDrawsModel", "seen", "(II)I"⟩ ⟨"AuditDrawsModel", "seen", "(II)I"⟩ : Cond) ∈ ad_T := ad_in (List.mem_of_getElem? (i := 705) (by decide +kernel)) (by rfl)
set_option maxRecDepth 100000 in
theorem w_706 : (Cond.code ⟨"AuditDrawsModel", "seen", "(II)I"⟩ prog_7_method_28_code 4 (some .int) : Cond) ∈ ad_T := ad_in (List.mem_of_getElem? (i := 706) rfl) (by rfl)
theorem w_707 : (Cond.methodLink "AuditDrawsLaw" 125 ⟨"AuditDrawsModel", "weight", "(II)I"⟩ : Cond) ∈ ad_T := ad_in (List.mem_of_getElem? (i := 707) (by decide +kernel)) (by rfl)
theorem w_708 : (Cond.instanceMethod ⟨"AuditDrawsModel", "weight", "(II)I"⟩ : Cond) ∈ ad_T := ad_in (List.mem_of_getElem? (i := 708) (by decide +kernel)) (by rfl)
theorem w_709 : (Cond.selects "AuditDrawsModel" ⟨"AuditDrawsModel", "weight", "(II)I"⟩ ⟨"AuditDrawsModel", "weight", "(II)I"⟩ : Cond) ∈ ad_T := ad_in (List.mem_of_getElem? (i := 709) (by decide +kernel)) (by rfl)
set_option maxRecDepth 100000 in
theorem w_710 : (Cond.code ⟨"AuditDrawsModel", "weight", "(II)I"⟩ prog_7_method_29_code 4 (some .int) : Cond) ∈ ad_T := ad_in (List.mem_of_getElem? (i := 710) rfl) (by rfl)
theorem w_711 : (Cond.constantLong "AuditDrawsModel" 122 1000000000 : Cond) ∈ ad_T := ad_in (List.mem_of_getElem? (i := 711) (by decide +kernel)) (by rfl)
theorem w_712 : (Cond.methodLink "AuditDrawsLaw" 128 ⟨"AuditDrawsModel", "report", "(II)I"⟩ : Cond) ∈ ad_T := ad_in (List.mem_of_getElem? (i := 712) (by decide +kernel)) (by rfl)
theorem w_713 : (Cond.instanceMethod ⟨"AuditDrawsModel", "report", "(II)I"⟩ : Cond) ∈ ad_T := ad_in (List.mem_of_getElem? (i := 713) (by decide +kernel)) (by rfl)
theorem w_714 : (Cond.selects "AuditDrawsModel" ⟨"AuditDrawsModel", "report", "(II)I"⟩ ⟨"AuditDrawsModel", "report", "(II)I"⟩ : Cond) ∈ ad_T := ad_in (List.mem_of_getElem? (i := 714) (by decide +kernel)) (by rfl)
set_option maxRecDepth 100000 in
theorem w_715 : (Cond.code ⟨"AuditDrawsModel", "report", "(II)I"⟩ prog_7_method_30_code 5 (some .int) : Cond) ∈ ad_T := ad_in (List.mem_of_getElem? (i := 715) rfl) (by rfl)
theorem w_716 : (Cond.constantLong "AuditDrawsModel" 124 3 : Cond) ∈ ad_T := ad_in (List.mem_of_getElem? (i := 716) (by decide +kernel)) (by rfl)
theorem w_717 : (Cond.methodLink "AuditDrawsLaw" 131 ⟨"AuditDrawsModel", "room", "(II)I"⟩ : Cond) ∈ ad_T := ad_in (List.mem_of_getElem? (i := 717) (by decide +kernel)) (by rfl)
theorem w_718 : (Cond.instanceMethod ⟨"AuditDrawsModel", "room", "(II)I"⟩ : Cond) ∈ ad_T := ad_in (List.mem_of_getElem? (i := 718) (by decide +kernel)) (by rfl)
theorem w_719 : (Cond.selects "AuditDrawsModel" ⟨"AuditDrawsModel", "room", "(II)I"⟩ ⟨"AuditDrawsModel", "room", "(II)I"⟩ : Cond) ∈ ad_T := ad_in (List.mem_of_getElem? (i := 719) (by decide +kernel)) (by rfl)
set_option maxRecDepth 100000 in
theorem w_720 : (Cond.code ⟨"AuditDrawsModel", "room", "(II)I"⟩ prog_7_method_31_code 5 (some .int) : Cond) ∈ ad_T := ad_in (List.mem_of_getElem? (i := 720) rfl) (by rfl)
theorem w_721 : (Cond.constantLong "AuditDrawsLaw" 70 4294967295 : Cond) ∈ ad_T := ad_in (List.mem_of_getElem? (i := 721) (by decide +kernel)) (by rfl)
theorem w_722 : (Cond.arrayClass .long : Cond) ∈ ad_T := ad_in (List.mem_of_getElem? (i := 722) (by decide +kernel)) (by rfl)
theorem w_723 : (Cond.sameMethod "java/lang/Throwable" "java/lang/Throwable" "fillInStackTrace" "(I)Ljava/lang/Throwable;" : Cond) ∈ ad_T := ad_in (List.mem_of_getElem? (i := 723) (by decide +kernel)) (by rfl)
theorem w_724 : (Cond.castable "AuditDraws$Thing" "AuditDraws$Thing" : Cond) ∈ ad_T := ad_in (List.mem_of_getElem? (i := 724) (by decide +kernel)) (by rfl)
theorem w_725 : (Cond.castable "AuditDraws$Sighting" "AuditDraws$Sighting" : Cond) ∈ ad_T := ad_in (List.mem_of_getElem? (i := 725) (by decide +kernel)) (by rfl)
theorem w_726 : (Cond.sameMethod "[Ljava/lang/Object;" "java/lang/Object" "getClass" "()Ljava/lang/Class;" : Cond) ∈ ad_T := ad_in (List.mem_of_getElem? (i := 726) (by decide +kernel)) (by rfl)
theorem w_727 : (Cond.selects "[Ljava/lang/Object;" ⟨"java/lang/Object", "getClass", "()Ljava/lang/Class;"⟩ ⟨"java/lang/Object", "getClass", "()Ljava/lang/Class;"⟩ : Cond) ∈ ad_T := ad_in (List.mem_of_getElem? (i := 727) (by decide +kernel)) (by rfl)
theorem w_728 : (Cond.declares ⟨"java/lang/Object", "getClass", "()Ljava/lang/Class;"⟩ : Cond) ∈ ad_T := ad_in (List.mem_of_getElem? (i := 728) (by decide +kernel)) (by rfl)
theorem w_729 : (Cond.castable "AuditDraws" "java/lang/Object" : Cond) ∈ ad_T := ad_in (List.mem_of_getElem? (i := 729) (by decide +kernel)) (by rfl)
theorem w_730 : (Cond.castable "AuditDraws$Draw" "java/lang/Object" : Cond) ∈ ad_T := ad_in (List.mem_of_getElem? (i := 730) (by decide +kernel)) (by rfl)
theorem w_731 : (Cond.castable "AuditDrawsModel" "java/lang/Object" : Cond) ∈ ad_T := ad_in (List.mem_of_getElem? (i := 731) (by decide +kernel)) (by rfl)
theorem w_732 : (Cond.castable "AuditDraws$Thing" "java/lang/Object" : Cond) ∈ ad_T := ad_in (List.mem_of_getElem? (i := 732) (by decide +kernel)) (by rfl)
theorem w_733 : (Cond.castable "AuditDraws$Sighting" "java/lang/Object" : Cond) ∈ ad_T := ad_in (List.mem_of_getElem? (i := 733) (by decide +kernel)) (by rfl)
theorem w_734 : (Cond.castable "java/lang/String" "java/lang/Object" : Cond) ∈ ad_T := ad_in (List.mem_of_getElem? (i := 734) (by decide +kernel)) (by rfl)
theorem sp_AL_add3 : Cond.selects "java/util/ArrayList" y_AL_add3 y_AL_add3 ∈ ad_T := ad_inS (List.mem_of_getElem? (i := 1) (by decide +kernel)) (by rfl)
theorem sp_AL_grow : Cond.selects "java/util/ArrayList" y_AL_grow y_AL_grow ∈ ad_T := ad_inS (List.mem_of_getElem? (i := 2) (by decide +kernel)) (by rfl)
theorem sp_AL_grow1 : Cond.selects "java/util/ArrayList" y_AL_grow1 y_AL_grow1 ∈ ad_T := ad_inS (List.mem_of_getElem? (i := 3) (by decide +kernel)) (by rfl)
theorem sp_A_forgetLatest : Cond.selects "AuditDraws" y_A_forgetLatest y_A_forgetLatest ∈ ad_T := ad_inS (List.mem_of_getElem? (i := 4) (by decide +kernel)) (by rfl)
theorem sp_A_shareOut : Cond.selects "AuditDraws" y_A_shareOut y_A_shareOut ∈ ad_T := ad_inS (List.mem_of_getElem? (i := 5) (by decide +kernel)) (by rfl)
theorem sp_A_giveRoundedDown : Cond.selects "AuditDraws" y_A_giveRoundedDown y_A_giveRoundedDown ∈ ad_T := ad_inS (List.mem_of_getElem? (i := 6) (by decide +kernel)) (by rfl)
theorem sp_A_countThings : Cond.selects "AuditDraws" y_A_countThings y_A_countThings ∈ ad_T := ad_inS (List.mem_of_getElem? (i := 7) (by decide +kernel)) (by rfl)
theorem sp_A_giveOneByGreatestRest : Cond.selects "AuditDraws" y_A_giveOneByGreatestRest y_A_giveOneByGreatestRest ∈ ad_T := ad_inS (List.mem_of_getElem? (i := 8) (by decide +kernel)) (by rfl)
theorem sp_A_layRow : Cond.selects "AuditDraws" y_A_layRow y_A_layRow ∈ ad_T := ad_inS (List.mem_of_getElem? (i := 9) (by decide +kernel)) (by rfl)
theorem sp_A_takeFromRow : Cond.selects "AuditDraws" y_A_takeFromRow y_A_takeFromRow ∈ ad_T := ad_inS (List.mem_of_getElem? (i := 10) (by decide +kernel)) (by rfl)
theorem sp_A_existing : Cond.selects "AuditDraws" y_A_existing y_A_existing ∈ ad_T := ad_inS (List.mem_of_getElem? (i := 11) (by decide +kernel)) (by rfl)
theorem sp_A_countChecked : Cond.selects "AuditDraws" y_A_countChecked y_A_countChecked ∈ ad_T := ad_inS (List.mem_of_getElem? (i := 12) (by decide +kernel)) (by rfl)
theorem sp_A_countListed : Cond.selects "AuditDraws" y_A_countListed y_A_countListed ∈ ad_T := ad_inS (List.mem_of_getElem? (i := 13) (by decide +kernel)) (by rfl)
theorem sp_A_countMissed : Cond.selects "AuditDraws" y_A_countMissed y_A_countMissed ∈ ad_T := ad_inS (List.mem_of_getElem? (i := 14) (by decide +kernel)) (by rfl)
theorem sp_M_fails : Cond.selects "AuditDrawsModel" y_M_fails y_M_fails ∈ ad_T := ad_inS (List.mem_of_getElem? (i := 15) (by decide +kernel)) (by rfl)
theorem sp_M_divide : Cond.selects "AuditDrawsModel" y_M_divide y_M_divide ∈ ad_T := ad_inS (List.mem_of_getElem? (i := 16) (by decide +kernel)) (by rfl)
theorem sp_M_size : Cond.selects "AuditDrawsModel" y_M_size y_M_size ∈ ad_T := ad_inS (List.mem_of_getElem? (i := 17) (by decide +kernel)) (by rfl)
theorem sp_M_rest : Cond.selects "AuditDrawsModel" y_M_rest y_M_rest ∈ ad_T := ad_inS (List.mem_of_getElem? (i := 18) (by decide +kernel)) (by rfl)
theorem sp_M_drawFrom : Cond.selects "AuditDrawsModel" y_M_drawFrom y_M_drawFrom ∈ ad_T := ad_inS (List.mem_of_getElem? (i := 19) (by decide +kernel)) (by rfl)
theorem sp_M_draw : Cond.selects "AuditDrawsModel" y_M_draw y_M_draw ∈ ad_T := ad_inS (List.mem_of_getElem? (i := 20) (by decide +kernel)) (by rfl)
theorem sp_M_isThing : Cond.selects "AuditDrawsModel" y_M_isThing y_M_isThing ∈ ad_T := ad_inS (List.mem_of_getElem? (i := 21) (by decide +kernel)) (by rfl)
theorem sp_M_many : Cond.selects "AuditDrawsModel" y_M_many y_M_many ∈ ad_T := ad_inS (List.mem_of_getElem? (i := 22) (by decide +kernel)) (by rfl)
theorem sp_M_best : Cond.selects "AuditDrawsModel" y_M_best y_M_best ∈ ad_T := ad_inS (List.mem_of_getElem? (i := 23) (by decide +kernel)) (by rfl)
end
section
/-! MY WORLD: a function from addresses to cells (ad_H). A world lies from 'lo' on; what is below 'lo' never changes.
A contract (ad_Ct, ad_Cp) is a walk of a method's body from its entry; it may return or throw. -/
abbrev ad_H : Type := Nat → Option va_E
def ad_up (hp : ad_H) (a : Nat) (e : va_E) : ad_H := fun q => if q = a then some e else hp q
theorem ad_up_s (hp : ad_H) (a : Nat) (e : va_E) : ad_up hp a e a = some e := by simp [ad_up]
theorem ad_up_n {hp : ad_H} {a q : Nat} (e : va_E) (h : q ≠ a) : ad_up hp a e q = hp q := by simp [ad_up, h]
/-- numbers of the classes and of their slots; numbers of the array classes; addresses of constants -/
abbrev ad_G : Type := va_G × (Nat → ClassId) × (Nat → Nat)
def ad_P (G : ad_G) (lo : Nat) (hp : ad_H) (H : Heap) : Prop := ∀ (q : Nat) (e : va_E), hp q = some e → lo ≤ q ∧ va_at G.1 vwCl (q, e) H
section ADP
variable {G : ad_G} {lo : Nat} {hp : ad_H} {H H1 : Heap}
theorem ad_P.lt (h : ad_P G lo hp H) {q : Nat} {e : va_E} (hq : hp q = some e) : q < H.size := (h q e hq).2.lt
theorem ad_P.kept (h : ad_P G lo hp H) (hk : ∀ q : Nat, q < H.size → H1[q]? = H[q]?) : ad_P G lo hp H1 := fun q e hq => ⟨(h q e hq).1, (h q e hq).2.kept (hk q (h.lt hq))⟩
theorem ad_P.fresh (h : ad_P G lo hp H) : hp H.size = none := by
  cases hq : hp H.size with
  | none => rfl
  | some e => exact absurd (h.lt hq) (Nat.lt_irrefl _)
theorem ad_P.set (h : ad_P G lo hp H) {a : Nat} {e0 e : va_E} (ha : hp a = some e0) (he : va_at G.1 vwCl (a, e) H1) (oq : ∀ q : Nat, q ≠ a → H1[q]? = H[q]?) : ad_P G lo (ad_up hp a e) H1 := by
  intro q e2 hq
  by_cases hqa : q = a
  · subst hqa
    rw [ad_up_s] at hq
    cases hq
    exact ⟨(h q e0 ha).1, he⟩
  · rw [ad_up_n e hqa] at hq
    exact ⟨(h q e2 hq).1, (h q e2 hq).2.kept (oq q hqa)⟩
theorem ad_P.new (h : ad_P G lo hp H) (hlo : lo ≤ H.size) {e : va_E} (he : va_at G.1 vwCl (H.size, e) H1) (oq : ∀ q : Nat, q < H.size → H1[q]? = H[q]?) : ad_P G lo (ad_up hp H.size e) H1 := by
  intro q e2 hq
  by_cases hqa : q = H.size
  · subst hqa
    rw [ad_up_s] at hq
    cases hq
    exact ⟨hlo, he⟩
  · rw [ad_up_n e hqa] at hq
    exact ⟨(h q e2 hq).1, (h q e2 hq).2.kept (oq q (h.lt hq))⟩
theorem ad_P.one (h : ad_P G lo hp H) {a : Nat} {e : va_E} (hq : hp a = some e) : va_P G.1 vwCl [(a, e)] H := by
  intro k q hk
  cases k with
  | zero => cases hk; exact (h _ _ hq).2
  | succ k => simp at hk
end ADP
theorem ad_ls {o n d : String} {A A' : Array Value} {s U : State} {lo : Nat} (hW : s.WarmedH U.vm) (hZ : va_Zq o n d (fun q => lo ≤ q) s s.heap) (hk : ∀ q : Nat, q < lo → U.heap[q]? = s.heap[q]?) (h : (Cond.laysStatic o n d).before A s = true) : (Cond.laysStatic o n d).before A' U = true := by
  have h1 := Cond.laysStatic_setVm hW.alike h
  have hZ2 : ∃ v : Value, va_Z o n d v (fun q => lo ≤ q) U s.heap := by
    rcases va_Zq.moved hW.alike hZ with h | ⟨t, h⟩
    · exact ⟨_, h⟩
    · exact ⟨_, h⟩
  obtain ⟨v, cf, kf, fi, f, a, cell, e1, e2, e3, e4, e5, e6, e7, e8⟩ := hZ2
  have e1' : (s.setVm U.vm).fieldFound? o n d = some (cf, kf, fi, f) := e1
  simp only [Cond.before, Cond.holds, Cond.value] at h1 ⊢
  rw [e1'] at h1
  rw [e1]
  have hv : (s.setVm U.vm).vm.findClass o = U.vm.findClass o := rfl
  rw [hv] at h1
  cases hc : U.vm.findClass o with
  | none => rw [hc] at h1; simp at h1
  | some c =>
    rw [hc] at h1
    simp only [e4, Option.bind_some] at h1 ⊢
    rw [hk a (by omega)]
    exact h1
theorem ad_words {s : State} {args a' : Array Value} {U : State} (hts : ∀ w ∈ ad_T, w.before args s = true) (hW : s.WarmedH U.vm) : ∀ w ∈ ad_T, w.before a' U = true := by
  intro w hw
  have h1 := hts w hw
  have h2 := (List.mem_filter.mp hw).2
  unfold ad_g at h2
  split at h2
  · exact va_AO.use (va_AO.moved hW.alike (va_AO.of h1))
  · rcases Bool.or_eq_true_iff.mp h2 with h3 | h3
    · exact word_at hW (good_of_word h3) h1
    · rw [Bool.and_eq_true] at h3
      exact va_tabs h3.1 (rfl : (s.setVm U.vm).vm = U.vm) (Cond.faceAtom_setVm hW.alike w h3.2 h1)
/-- what a method finds beside its world: statics and constants that nobody writes -/
def ad_strs : List (Nat × String) := [(190, "there is no such number"), (50, "there are 64 things"), (66, "not so many things"), (195, "not on the latest list"), (202, "not 0 .. 10 to the 17th"), (198, "no hour"), (134, "told ahead of its hour"), (139, "the thing has 24 rows"), (153, "no weight"), (193, "k is below 0")]
def ad_ncs : List (String × String) := [("java/lang/IllegalStateException", "java/util/NoSuchElementException"), ("java/lang/IllegalArgumentException", "java/util/NoSuchElementException"), ("java/lang/IllegalStateException", "java/lang/IllegalArgumentException")]
def ad_tys (G : ad_G) : List (ClassId × FieldType) := [(G.2.1 0, .int), (G.2.1 1, .object "java/lang/Object"), (G.2.1 2, .long)]
def ad_X (G : ad_G) (lo : Nat) (s : State) : Prop :=
  va_Zq "java/lang/Throwable" "UNASSIGNED_STACK" "[Ljava/lang/StackTraceElement;" (fun q => lo ≤ q) s s.heap ∧ va_Zq "java/lang/Throwable" "SUPPRESSED_SENTINEL" "Ljava/util/List;" (fun q => lo ≤ q) s s.heap ∧
  (Cond.laysStatic "java/lang/Throwable" "UNASSIGNED_STACK" "[Ljava/lang/StackTraceElement;").before #[] s = true ∧ (Cond.laysStatic "java/lang/Throwable" "SUPPRESSED_SENTINEL" "Ljava/util/List;").before #[] s = true ∧
  (∀ x ∈ ad_strs, ∃ q : Nat, vk_R "AuditDraws" x.1 x.2 q s) ∧ (∀ x ∈ ad_ncs, va_Nc x.1 x.2 s) ∧ va_Nw (.methodLinkNest "AuditDraws" 9 y_D_init "AuditDraws") s ∧
  va_Z "java/util/ArrayList" "DEFAULTCAPACITY_EMPTY_ELEMENTDATA" "[Ljava/lang/Object;" (.ref (G.2.2 0)) (fun q => lo ≤ q) s s.heap ∧ (G.2.2 0 < lo ∧ s.heap[G.2.2 0]? = some (vp_cell (G.2.1 1) (0, .inr (.inr (.inr (.inr (fun _ => none))))))) ∧ va_Mi "[Ljava/lang/Object;" (G.2.2 1) s
def ad_B (G : ad_G) (lo : Nat) (s : State) : Prop := lo ≤ s.heap.size ∧ va_K G.1 vwCl (ad_tys G) s ∧ ad_X G lo s
theorem ad_B.move {G : ad_G} {lo : Nat} {s U : State} (h : ad_B G lo s) (hW : s.WarmedH U.vm) (hz : lo ≤ U.heap.size) (hk : ∀ q : Nat, q < lo → U.heap[q]? = s.heap[q]?) : ad_B G lo U := by
  obtain ⟨h1, h2, g1, g2, l1, l2, g3, g4, g5, g6, g7, g8⟩ := h
  have hk2 : ∀ a : Nat, a < s.heap.size → ¬ lo ≤ a → U.heap[a]? = s.heap[a]? := fun a _ ha => hk a (by omega)
  refine ⟨hz, va_K.moved hW.alike h2, (va_Zq.moved hW.alike g1).kept hk2, (va_Zq.moved hW.alike g2).kept hk2, ad_ls hW g1 hk l1, ad_ls hW g2 hk l2, fun x hx => ?_, fun x hx => va_Nc.moved hW.alike (g4 x hx), va_Nw.warmM hW g5, (va_Z.moved hW.alike g6).kept hk2, ⟨g7.1, by rw [hk _ g7.1]; exact g7.2⟩, va_Mi.moved hW.alike g8⟩
  obtain ⟨q, hq⟩ := g3 x hx
  exact ⟨q, vk_R.warm hW hq⟩
/-- how a method ends: with an answer, or by throwing an object of a class -/
abbrev ad_R : Type := Option Value ⊕ String
def ad_o (o : Outcome) (t : State) (r : ad_R) : Prop := match r with
  | .inl v => o = .returned v
  | .inr C => ∃ (x : Addr) (cell : Cell), o = .threw x ∧ t.heap[x]? = some cell ∧ cell.vm = .none ∧ t.vm.findClass C = some cell.cls
def ad_rm (d mc ms : Nat) : Room := { frames := d, cells := mc, slots := ms, locals := 37 * d }
/-- the facts of a method that stands in the tables -/
def ad_M (y : MethodName) (cc : ByteArray) (nL : Nat) (rt : Option FieldType) (hs : List (Nat × Nat × Nat × Nat)) (p : Program) (s : State) (m : MethodId) (meth : Method) (c : Code) : Prop :=
  p.tables.exec = Jvm.exec ∧ c.code = cc ∧ c.maxLocals = nL ∧ s.vm.findClass y.cls = some m.cls ∧ meth.sig.returnType = rt ∧ meth.locks = false ∧ c.exceptionTable.toList = tableOf hs ∧ meth.name = y.name
/-- the end of a method that may write -/
def ad_Z (below : List Frame) (G : ad_G) (lo : Nat) (Post : ad_R → ad_H → Prop) (s : State) (mc ms : Nat) : State → Prop := fun t =>
  ∃ (o : Outcome) (r : ad_R) (hp' : ad_H), t.status = .running ∧ Ended t below o ∧ s.WarmedH t.vm ∧ (∃ L, s.sameButNew ({ t with vm := s.vm } : State) L mc ms ∧ ∀ q ∈ L, lo ≤ q.base) ∧ Post r hp' ∧ ad_o o t r ∧ ad_P G lo hp' t.heap ∧ s.heap.size ≤ t.heap.size ∧ ∀ q : Nat, q < lo → t.heap[q]? = s.heap[q]?
/-- the end of a method that writes nothing (it may throw) -/
def ad_Zp (below : List Frame) (Post : ad_R → Prop) (s : State) (mc ms : Nat) : State → Prop := fun t =>
  ∃ (o : Outcome) (r : ad_R), t.status = .running ∧ Ended t below o ∧ s.WarmedH t.vm ∧ Post r ∧ ad_o o t r ∧ s.heap.size ≤ t.heap.size ∧ (∀ q : Nat, q < s.heap.size → t.heap[q]? = s.heap[q]?) ∧
    match r with
    | .inl _ => t.heap = s.heap ∧ s.sameButNew ({ t with vm := s.vm } : State) [] 0 0
    | .inr _ => s.sameButNew ({ t with vm := s.vm } : State) [] mc ms
def ad_Ct (l : Launch) (y : MethodName) (cc : ByteArray) (nL : Nat) (rt : Option FieldType) (hs : List (Nat × Nat × Nat × Nat)) (d mc ms : Nat) (G : ad_G) (lo : Nat) (hp : ad_H) (av : List Value) (Post : ad_R → ad_H → Prop) : Prop :=
  ∀ (p : Program) (e : Env) (s : State) (m : MethodId) (below : List Frame) (meth : Method) (c : Code), ad_M y cc nL rt hs p s m meth c → (∀ w ∈ ad_T, w.before av.toArray s = true) → ad_B G lo s → ad_P G lo hp s.heap →
    W p l e (ad_rm d mc ms) s m av.toArray below meth c s.heap [] 0 0 (ad_Z below G lo Post s mc ms) (entryFrame m av.toArray nL)
def ad_Cp (l : Launch) (y : MethodName) (cc : ByteArray) (nL : Nat) (rt : Option FieldType) (hs : List (Nat × Nat × Nat × Nat)) (d mc ms : Nat) (G : ad_G) (lo : Nat) (hp : ad_H) (av : List Value) (Post : ad_R → Prop) : Prop :=
  ∀ (p : Program) (e : Env) (s : State) (m : MethodId) (below : List Frame) (meth : Method) (c : Code), ad_M y cc nL rt hs p s m meth c → (∀ w ∈ ad_T, w.before av.toArray s = true) → ad_B G lo s → ad_P G lo hp s.heap →
    W p l e (ad_rm d mc ms) s m av.toArray below meth c s.heap [] 0 0 (ad_Zp below Post s mc ms) (entryFrame m av.toArray nL)
/-- the machine with an exception in flight over the frame g -/
def ad_WT (p : Program) (l : Launch) (e : Env) (R : Room) (s : State) (m : MethodId) (args : Array Value) (below : List Frame) (meth : Method) (c : Code) (H : Heap) (locs : List Loc) (cells slots : Nat) (Q : State → Prop) (g : JFrame) (x : Addr) : Prop :=
  ∀ T : State, T.heap = H → Stand p l e R s m args below meth c T locs cells slots → ∃ t, Steps p.tables e below ((T.setTop g).pushFrame (.throwing x)) t ∧ Q t
/-- where a walk stands -/
def ad_I (G : ad_G) (lo : Nat) (s : State) (hp : ad_H) (H : Heap) (locs : List Loc) : Prop :=
  ad_B G lo s ∧ ad_P G lo hp H ∧ s.heap.size ≤ H.size ∧ (∀ q : Nat, q < lo → H[q]? = s.heap[q]?) ∧ ∀ q ∈ locs, lo ≤ q.base
theorem ad_I.rf {G : ad_G} {lo : Nat} {s : State} {hp : ad_H} (hB : ad_B G lo s) (hP : ad_P G lo hp s.heap) : ad_I G lo s hp s.heap [] := ⟨hB, hP, Nat.le_refl _, fun _ _ => rfl, fun _ h => by cases h⟩
theorem ad_pop {tb : Tables} {e : Env} {g : JFrame} {below : List Frame} {s s' : State} (h : Steps tb e (.java g :: below) s s') : Steps tb e below s s' := by
  obtain ⟨n, hn, hw⟩ := h
  refine ⟨n, hn, fun k hk => ?_⟩
  obtain ⟨above, h1, h2, h3⟩ := hw k hk
  refine ⟨above ++ [.java g], by rw [h1]; simp, by simp, fun a ha => ?_⟩
  cases above with
  | nil => exact h2 rfl
  | cons x xs => simp at ha
end
section
/-- a class of the tables: its number in vwCl, its fields, their types -/
def ad_K (ci : Nat) (C : String) (T : u_T) (N : Nat) (ty0 : Nat → FieldType) : Prop := vwCl[ci]? = some (C, T, N) ∧ (∀ w ∈ u_ws C T N, w ∈ ad_T) ∧ (∀ k, k < N → parseFieldDescriptor (T k).2.2.1 = some (ty0 k)) ∧ (∀ a, a < N → ∀ b, b < N → a ≠ b → (T a).2.1 ≠ (T b).2.1)
section ADW
variable {p : Program} {l : Launch} {e : Env} {R : Room} {s : State} {m : MethodId} {args : Array Value} {below : List Frame} {meth : Method} {c : Code} {H : Heap} {locs : List Loc} {cells slots : Nat} {Q : State → Prop}
variable {cc : ByteArray} {nL pc : Nat} {ls : Array Slot} {rest : List Value} {own : String} {G : ad_G} {lo : Nat} {hp : ad_H} {a : Nat}
theorem ad_get (S : CallFix p m c cc nL s args ad_T own) (I : ad_I G lo s hp H locs) {ci : Nat} {fs : List Value} (he : hp a = some (.inr (ci, fs))) {C : String} {T : u_T} {N : Nat} {ty0 : Nat → FieldType} (K : ad_K ci C T N ty0) (k : Nat) (hk : k < N) {index : Nat} (hlink : Cond.fieldLink own index (T k).1 (T k).2.1 (T k).2.2.1 ∈ ad_T) {v : Value} (hv : fs[k]? = some v) (hdg : decode cc pc = .ok (.getfield index, 3))
    (kk : W p l e R s m args below meth c H locs cells slots Q (F0 m (pc + 3) ls (v :: rest))) : W p l e R s m args below meth c H locs cells slots Q (F0 m pc ls (.ref a :: rest)) := by
  obtain ⟨hx, hb, -, hown, hts⟩ := S
  exact va_get (D := G.1) (cl := vwCl) (ws := [(a, .inr (ci, fs))]) hx hb hts K.2.1 hown I.1.2.1 (I.2.1.one he) 0 rfl K.1 k hk (hts _ hlink) (fun _ h => h) hv hdg kk
theorem ad_put (S : CallFix p m c cc nL s args ad_T own) (I : ad_I G lo s hp H locs) {ci : Nat} {fs : List Value} (he : hp a = some (.inr (ci, fs))) {C : String} {T : u_T} {N : Nat} {ty0 : Nat → FieldType} (K : ad_K ci C T N ty0) (k : Nat) (hk : k < N) {index : Nat} (hlink : Cond.fieldLink own index (T k).1 (T k).2.1 (T k).2.2.1 ∈ ad_T) (hfin : (T k).2.2.2 = false) {v : Value} (hn : narrow (ty0 k) v = v) (hfit : fits (ty0 k) v = true) (hl : k < fs.length) (hdg : decode cc pc = .ok (.putfield index, 3))
    (kk : ∀ (H1 : Heap) (locs1 : List Loc), ad_I G lo s (ad_up hp a (.inr (ci, fs.set k v))) H1 locs1 → W p l e R s m args below meth c H1 locs1 cells slots Q (F0 m (pc + 3) ls rest)) : W p l e R s m args below meth c H locs cells slots Q (F0 m pc ls (v :: .ref a :: rest)) := by
  obtain ⟨hx, hb, -, hown, hts⟩ := S
  obtain ⟨hB, hP, hz, hlo, hL⟩ := I
  obtain ⟨hc, hin, hty, hnm⟩ := K
  have hap := va_apart (own := own) hts hin ty0 hty hnm hB.2.1 hc
  obtain ⟨hla, r, h1, cell, q1, q2, q3, q4⟩ := hP a _ he
  have hr : r = (C, T, N) := Option.some.inj (h1.symm.trans hc)
  subst hr
  obtain ⟨hS, hfc, kC, hkC, hkind⟩ := hB.2.1.1 ci _ hc
  obtain ⟨cf, kf, fi, f, hi, hsl⟩ := hS k hk
  have hlay := hts _ (hin _ (u_in_lay hk))
  unfold u_lay at hlay
  rw [if_neg (by rw [hfin]; decide)] at hlay
  have hst := (u_facts hfc hkC (u_lays hts hin hk) hi).1
  have h6 := u_store hfc hkC hkind hlay hi (hty k hk) hn hfit
  refine W.putK hx hb (f := f) ⟨hown, hts _ hlink, ⟨_, _, _, hi⟩, hst⟩ (by rw [q2]; exact h6) q1 q3 (by rw [hsl]; exact k2_hasslot (q4 k hk)) rfl rfl hdg fun H' e1 e2 e3 => ?_
  rw [hsl] at e1 ⊢
  exact kk H' _ ⟨hB, hP.set he ⟨_, hc, t_OB.to (V := updV (vp_V fs) k v) ⟨_, e1, q2, q3, t_set q4 hap hk v⟩ (fun j _ => vp_updV_set hl v j)⟩ e3, by rw [e2]; exact hz, fun q hq => (e3 q (Nat.ne_of_lt (Nat.lt_of_lt_of_le hq hla))).trans (hlo q hq), t_lc hL hla⟩
theorem ad_putF (S : CallFix p m c cc nL s args ad_T own) (I : ad_I G lo s hp H locs) {ci : Nat} {fs : List Value} (he : hp a = some (.inr (ci, fs))) {C : String} {T : u_T} {N : Nat} {ty0 : Nat → FieldType} (K : ad_K ci C T N ty0) (k : Nat) (hk : k < N) {index : Nat} (hlink : Cond.fieldLink own index (T k).1 (T k).2.1 (T k).2.2.1 ∈ ad_T) (hfin : (T k).2.2.2 = true) (hin2 : meth.name = "<init>") (hdecl : (T k).1 = own) {v : Value} (hn : narrow (ty0 k) v = v) (hfit : fits (ty0 k) v = true) (hl : k < fs.length) (hdg : decode cc pc = .ok (.putfield index, 3))
    (kk : ∀ (H1 : Heap) (locs1 : List Loc), ad_I G lo s (ad_up hp a (.inr (ci, fs.set k v))) H1 locs1 → W p l e R s m args below meth c H1 locs1 cells slots Q (F0 m (pc + 3) ls rest)) : W p l e R s m args below meth c H locs cells slots Q (F0 m pc ls (v :: .ref a :: rest)) := by
  obtain ⟨hx, hb, -, hown, hts⟩ := S
  obtain ⟨hB, hP, hz, hlo, hL⟩ := I
  obtain ⟨hc, hin, hty, hnm⟩ := K
  have hap := va_apart (own := own) hts hin ty0 hty hnm hB.2.1 hc
  obtain ⟨hla, r, h1, cell, q1, q2, q3, q4⟩ := hP a _ he
  have hr : r = (C, T, N) := Option.some.inj (h1.symm.trans hc)
  subst hr
  obtain ⟨hS, hfc, kC, hkC, hkind⟩ := hB.2.1.1 ci _ hc
  obtain ⟨cf, kf, fi, f, hi, hsl⟩ := hS k hk
  have hlay := hts _ (hin _ (u_in_lay hk))
  unfold u_lay at hlay
  rw [if_pos hfin] at hlay
  have hst := (u_facts hfc hkC (u_lays hts hin hk) hi).1
  have hcf : m.cls = cf := by
    obtain ⟨_, _, c', _, _, _, -, -, hf', -, -, -, hown2, -⟩ := Cond.laysFinal_spec hlay
    have e1 : c' = cf := by have := hi.symm.trans hf'; simp at this; exact this.1.symm
    rw [hdecl] at hown2
    rw [← e1]; exact Option.some.inj (hown.symm.trans hown2)
  have h6 := u_fits hfc hkC hkind (Or.inr hlay) hi (hty k hk) hn hfit
  refine W.putFinK hx hb hown (hts _ hlink) hi hst hcf hin2 (by rw [q2]; exact h6) q1 q3 (by rw [hsl]; exact k2_hasslot (q4 k hk)) rfl rfl hdg fun H' e1 e2 e3 => ?_
  rw [hsl] at e1 ⊢
  exact kk H' _ ⟨hB, hP.set he ⟨_, hc, t_OB.to (V := updV (vp_V fs) k v) ⟨_, e1, q2, q3, t_set q4 hap hk v⟩ (fun j _ => vp_updV_set hl v j)⟩ e3, by rw [e2]; exact hz, fun q hq => (e3 q (Nat.ne_of_lt (Nat.lt_of_lt_of_le hq hla))).trans (hlo q hq), t_lc hL hla⟩
theorem ad_new (S : CallFix p m c cc nL s args ad_T own) (I : ad_I G lo s hp H locs) {ci : Nat} {C : String} {T : u_T} {N : Nat} {ty0 : Nat → FieldType} (K : ad_K ci C T N ty0) {index : Nat} (hcl : Cond.classLink own index C ∈ ad_T) (hinst : Cond.instantiable C N ∈ ad_T) (hini : Cond.initialized C ∈ ad_T) {fs : List Value} (hfs : ∀ j, j < N → defaultValue (ty0 j) = vp_V fs j) (hcells : cells + 1 ≤ R.cells) (hslots : slots + N ≤ R.slots) (hdg : decode cc pc = .ok (.new index, 3))
    (kk : ∀ (q : Nat) (H1 : Heap), hp q = none → ad_I G lo s (ad_up hp q (.inr (ci, fs))) H1 locs → W p l e R s m args below meth c H1 locs (cells + 1) (slots + N) Q (F0 m (pc + 3) ls (.ref q :: rest))) : W p l e R s m args below meth c H locs cells slots Q (F0 m pc ls rest) := by
  obtain ⟨hx, hb, -, hown, hts⟩ := S
  obtain ⟨hB, hP, hz, hlo, hL⟩ := I
  obtain ⟨hc, hin, hty, hnm⟩ := K
  have hKn := hB.2.1.1 ci _ hc
  have hlz : lo ≤ H.size := Nat.le_trans hB.1 hz
  refine W.newcK hx hb hown (hts _ hcl) (hts _ hinst) (hts _ hini) rfl hdg hcells hslots hKn.2.1 rfl fun H1 kC hkC e1 z1 o1 => ?_
  exact kk H.size H1 hP.fresh ⟨hB, hP.new hlz ⟨_, hc, (u_born ty0 hts hin hKn hkC e1 hty).to hfs⟩ o1, by omega, fun q hq => (o1 q (by omega)).trans (hlo q hq), hL⟩
/-- arrays of ints -/
theorem ad_iald (S : CallFix p m c cc nL s args ad_T own) (I : ad_I G lo s hp H locs) {n : Nat} {f : Nat → Int32} (he : hp a = some (.inl (G.2.1 0, n, .inl f))) {i : Int32} (hin : vp_in i n) (hdg : decode cc pc = .ok (.iaload, 1))
    (kk : W p l e R s m args below meth c H locs cells slots Q (F0 m (pc + 1) ls (.int (f i.toNatClampNeg) :: rest))) : W p l e R s m args below meth c H locs cells slots Q (F0 m pc ls (.int i :: .ref a :: rest)) := by
  obtain ⟨hx, hb, -, hown, hts⟩ := S
  exact va_iald (D := G.1) (cl := vwCl) (ws := [(a, _)]) hx hb I.1.2.1 (I.2.1.one he) 0 0 rfl rfl hin hdg kk
theorem ad_iast (S : CallFix p m c cc nL s args ad_T own) (I : ad_I G lo s hp H locs) {n : Nat} {f : Nat → Int32} (he : hp a = some (.inl (G.2.1 0, n, .inl f))) {i x : Int32} (hin : vp_in i n) (hdg : decode cc pc = .ok (.iastore, 1))
    (kk : ∀ (H1 : Heap) (locs1 : List Loc), ad_I G lo s (ad_up hp a (.inl (G.2.1 0, n, .inl (upd f i.toNatClampNeg x)))) H1 locs1 → W p l e R s m args below meth c H1 locs1 cells slots Q (F0 m (pc + 1) ls rest)) : W p l e R s m args below meth c H locs cells slots Q (F0 m pc ls (.int x :: .int i :: .ref a :: rest)) := by
  obtain ⟨hx, hb, -, hown, hts⟩ := S
  obtain ⟨hB, hP, hz, hlo, hL⟩ := I
  obtain ⟨hla, hat⟩ := hP a _ he
  refine W.iast hx hb hat ((hB.2.1.2 0 (G.2.1 0, .int) rfl).1 n (fun j => .int (f j))) (fun q => by cases q) (by show ¬ (i < 0 ∨ (arrV _ _ _).slots.size ≤ _); rw [arrV_size]; exact hin) rfl rfl hdg fun H1 e1 e2 e3 => ?_
  refine kk H1 _ ⟨hB, hP.set he ?_ e3, by rw [e2]; exact hz, fun q hq => (e3 q (Nat.ne_of_lt (Nat.lt_of_lt_of_le hq hla))).trans (hlo q hq), t_lc hL hla⟩
  show H1[a]? = some (vp_cell _ _)
  rw [e1, vp_cell_i, vp_cell_i, arrV_store]
  congr 2
  funext q
  by_cases hq : q = i.toNatClampNeg
  · subst hq; simp [updV, upd]
  · simp [updV, upd, hq]
/-- arrays of longs -/
theorem ad_lald (S : CallFix p m c cc nL s args ad_T own) (I : ad_I G lo s hp H locs) {n : Nat} {f : Nat → Int64} (he : hp a = some (.inl (G.2.1 2, n, .inr (.inl f)))) {i : Int32} (hin : vp_in i n) (hdg : decode cc pc = .ok (.laload, 1))
    (kk : W p l e R s m args below meth c H locs cells slots Q (F0 m (pc + 1) ls (.long (f i.toNatClampNeg) :: rest))) : W p l e R s m args below meth c H locs cells slots Q (F0 m pc ls (.int i :: .ref a :: rest)) := by
  obtain ⟨hx, hb, -, hown, hts⟩ := S
  exact va_lald (D := G.1) (cl := vwCl) (ws := [(a, _)]) hx hb I.1.2.1 (I.2.1.one he) 0 2 rfl rfl hin hdg kk
theorem ad_last (S : CallFix p m c cc nL s args ad_T own) (I : ad_I G lo s hp H locs) {n : Nat} {f : Nat → Int64} (he : hp a = some (.inl (G.2.1 2, n, .inr (.inl f)))) {i : Int32} {x : Int64} (hin : vp_in i n) (hdg : decode cc pc = .ok (.lastore, 1))
    (kk : ∀ (H1 : Heap) (locs1 : List Loc), ad_I G lo s (ad_up hp a (.inl (G.2.1 2, n, .inr (.inl (vp_updL f i.toNatClampNeg x))))) H1 locs1 → W p l e R s m args below meth c H1 locs1 cells slots Q (F0 m (pc + 1) ls rest)) : W p l e R s m args below meth c H locs cells slots Q (F0 m pc ls (.long x :: .int i :: .ref a :: rest)) := by
  obtain ⟨hx, hb, -, hown, hts⟩ := S
  obtain ⟨hB, hP, hz, hlo, hL⟩ := I
  obtain ⟨hla, hat⟩ := hP a _ he
  refine W.last hx hb hat ((hB.2.1.2 2 (G.2.1 2, .long) rfl).1 n (fun j => .long (f j))) (fun q => by cases q) (by show ¬ (i < 0 ∨ (arrV _ _ _).slots.size ≤ _); rw [arrV_size]; exact hin) rfl rfl hdg fun H1 e1 e2 e3 => ?_
  refine kk H1 _ ⟨hB, hP.set he ?_ e3, by rw [e2]; exact hz, fun q hq => (e3 q (Nat.ne_of_lt (Nat.lt_of_lt_of_le hq hla))).trans (hlo q hq), t_lc hL hla⟩
  show H1[a]? = some (vp_cell _ _)
  rw [e1, vp_cell_l, vp_cell_l, arrV_store]
  congr 2
  funext q
  by_cases hq : q = i.toNatClampNeg
  · subst hq; simp [updV, vp_updL]
  · simp [updV, vp_updL, hq]
theorem ad_alen (S : CallFix p m c cc nL s args ad_T own) (I : ad_I G lo s hp H locs) {cA : ClassId} {x : vp_A} (he : hp a = some (.inl (cA, x))) (t0 : Nat) {ty : FieldType} (ht : (ad_tys G)[t0]? = some (cA, ty)) {v : Int32} (hv : Int32.ofNat x.1 = v) (hdg : decode cc pc = .ok (.arraylength, 1))
    (kk : W p l e R s m args below meth c H locs cells slots Q (F0 m (pc + 1) ls (.int v :: rest))) : W p l e R s m args below meth c H locs cells slots Q (F0 m pc ls (.ref a :: rest)) := by
  obtain ⟨hx, hb, -, hown, hts⟩ := S
  exact va_alen (D := G.1) (cl := vwCl) (ws := [(a, _)]) hx hb I.1.2.1 (I.2.1.one he) 0 t0 rfl ht hv hdg kk
/-- a new array of a primitive type -/
theorem ad_newa (S : CallFix p m c cc nL s args ad_T own) (I : ad_I G lo s hp H locs) {atype : ArrayType} (harr : Cond.arrayClass (newarray.typeOf atype) ∈ ad_T) {ty : FieldType} (hty : newarray.typeOf atype = ty) (t0 : Nat) {cA : ClassId} (ht : (ad_tys G)[t0]? = some (cA, ty)) (hRA : ∀ U, va_RA U cA ty = (U.vm.findClass ("[" ++ ty.toString) = some cA))
    {n : Int32} {N' : Nat} {a0 : vp_A} (ha : vp_cell cA a0 = arrV cA N' (fun _ => defaultValue ty)) (hn : ¬ n < 0) (hN : n.toNatClampNeg = N') (hbytes : N' * componentBytes ty ≤ 536870912) (hcells : cells + 1 ≤ R.cells) (hslots : slots + N' ≤ R.slots) (hdg : decode cc pc = .ok (.newarray atype, 2))
    (kk : ∀ (q : Nat) (H1 : Heap), hp q = none → ad_I G lo s (ad_up hp q (.inl (cA, a0))) H1 locs → W p l e R s m args below meth c H1 locs (cells + 1) (slots + N') Q (F0 m (pc + 2) ls (.ref q :: rest))) : W p l e R s m args below meth c H locs cells slots Q (F0 m pc ls (.int n :: rest)) := by
  subst hty
  obtain ⟨hx, hb, -, hown, hts⟩ := S
  obtain ⟨hB, hP, hz, hlo, hL⟩ := I
  have hlz : lo ≤ H.size := Nat.le_trans hB.1 hz
  have hcA := (hB.2.1.2 t0 _ ht).2
  rw [hRA] at hcA
  refine va_newaK hx hb (hts _ harr) rfl hdg rfl hn hN hbytes hcells hslots rfl fun H1 cA' e1 z1 o1 hAr hNm => ?_
  cases hNm.symm.trans hcA
  refine kk H.size H1 hP.fresh ⟨hB, hP.new hlz ?_ o1, by omega, fun q hq => (o1 q (by omega)).trans (hlo q hq), hL⟩
  show H1[H.size]? = some (vp_cell _ _)
  rw [ha]
  exact e1
end ADW
end
section
/-- a method's code word stands in the tables -/
def ad_Y (y : MethodName) (cc : ByteArray) (nL : Nat) (rt : Option FieldType) (hs : List (Nat × Nat × Nat × Nat)) : Prop := plainName y.cls = true ∧ ((Cond.code y cc nL rt ∈ ad_T ∧ hs = []) ∨ Cond.codeWith y cc nL rt hs ∈ ad_T)
theorem ad_Y.at {y : MethodName} {cc : ByteArray} {nL : Nat} {rt : Option FieldType} {hs : List (Nat × Nat × Nat × Nat)} (h : ad_Y y cc nL rt hs) {s : State} {args : Array Value} (hts : ∀ w ∈ ad_T, w.before args s = true) :
    ∃ (mk : MethodId) (meth : Method) (c : Code), s.methodNamed? y = some mk ∧ s.vm.method? mk = some meth ∧ meth.code = some c ∧ c.code = cc ∧ c.maxLocals = nL ∧ meth.sig.returnType = rt ∧ meth.locks = false ∧ c.exceptionTable.toList = tableOf hs ∧ parseMethodDescriptor y.desc = some meth.sig := by
  obtain ⟨-, ⟨h1, rfl⟩ | h1⟩ := h
  · have hc := hts _ h1
    obtain ⟨mk, hn⟩ := Cond.code_named hc
    obtain ⟨meth, c, a1, a2, a3, a4, a5, a6, a7, a8⟩ := Cond.code_spec hn hc
    refine ⟨mk, meth, c, hn, a1, a2, a3, a4, a5, a6, ?_, a8⟩
    have h0 : c.exceptionTable = #[] := by simpa using a7
    rw [h0]; rfl
  · obtain ⟨mk, meth, c, hn, a1, a2, a3, a4, a5, a6, a7, a8⟩ := Cond.codeWith_spec (hts _ h1)
    exact ⟨mk, meth, c, hn, a1, a2, a3, a4, a6, a7, by rw [← a5, table_eq], a8⟩
section ADC
variable {p : Program} {l : Launch} {e : Env} {R : Room} {s : State} {m : MethodId} {args : Array Value} {below : List Frame} {meth : Method} {c : Code} {H : Heap} {locs : List Loc} {cells slots : Nat} {Q : State → Prop}
variable {cc : ByteArray} {nL pc : Nat} {ls : Array Slot} {rest : List Value} {own : String} {G : ad_G} {lo : Nat} {hp : ad_H}
variable {y : MethodName} {cy : ByteArray} {ny : Nat} {rt : Option FieldType} {hs : List (Nat × Nat × Nat × Nat)} {d mc ms : Nat} {As : List Value}
/-- what a callee's entry asks, at a point of the caller's walk -/
theorem ad_into {T₁ : State} (X₁ : Stand p l e R s m args below meth c T₁ locs cells slots) (hexec : p.tables.exec = Jvm.exec) (hts : ∀ w ∈ ad_T, w.before args s = true) {g : JFrame} (hg : g.method = m) (hsize : g.locals.size = c.maxLocals) {ig : Instr} {len : Nat} (hdg : decode c.code g.pc = .ok (ig, len))
    (Y : ad_Y y cy ny rt hs) (hR : d + 1 ≤ R.frames ∧ 2 * g.monitorRoom + (g.stack.map fun v => v.category).sum + (ny + 11) + 37 * d ≤ R.locals) (hcells : cells + mc ≤ R.cells) (hslots : slots + ms ≤ R.slots) :
    ∃ (mk : MethodId) (methk : Method) (ck : Code), s.methodNamed? y = some mk ∧ s.vm.method? mk = some methk ∧ parseMethodDescriptor y.desc = some methk.sig ∧ ad_M y cy ny rt hs p (T₁.calling g mk As.toArray) mk methk ck ∧ (∀ w ∈ ad_T, w.before As.toArray (T₁.calling g mk As.toArray) = true) ∧
      Stand p l e (ad_rm d mc ms) (T₁.calling g mk As.toArray) mk As.toArray (.java g :: below) methk ck ((T₁.setTop g).pushFrame (.java (entryFrame mk As.toArray ck.maxLocals))) [] 0 0 ∧
      ∀ acts, (doInvoke e (T₁.setTop g) acts mk As.toArray).1 = ((T₁.setTop g).pushFrame (.java (entryFrame mk As.toArray ck.maxLocals))).setTop (entryFrame mk As.toArray ck.maxLocals) := by
  obtain ⟨mk, methk, ck, hn, hmk, hck, hbk, hlk, hrk, hlock, htk, hsk⟩ := Y.at hts
  have hmT : T₁.vm.method? mk = some methk := by rw [X₁.warmed.alike.method?]; exact hmk
  have hpl : T₁.plainMethod mk := by
    refine State.plainMethod.of_name ?_
    intro k hk
    obtain ⟨k', hk', hnm⟩ := className_of_methodNamed (X₁.named hn)
    cases hk.symm.trans hk'
    rw [hnm]; exact Y.1
  obtain ⟨Yk, hdo⟩ := X₁.into (R' := ad_rm d mc ms) hg hsize hdg As.toArray hmT hck hlock hpl (show d + 1 ≤ R.frames from hR.1) (by rw [hlk]; exact hR.2) (show cells + mc ≤ R.cells from hcells) (show slots + ms ≤ R.slots from hslots)
  refine ⟨mk, methk, ck, hn, hmk, hsk, ⟨hexec, hbk, hlk, ?_, hrk, hlock, htk, (name_of_methodNamed hn hmk).1⟩, ad_words hts (U := T₁.calling g mk As.toArray) X₁.warmed, Yk, hdo⟩
  show T₁.vm.findClass y.cls = some mk.cls
  rw [X₁.warmed.alike.findClass]
  exact findClass_of_methodNamed hn
theorem ad_callZ {T₁ : State} (X₁ : Stand p l e R s m args below meth c T₁ locs cells slots) (hT : T₁.heap = H) (I : ad_I G lo s hp H locs) (hexec : p.tables.exec = Jvm.exec) (hts : ∀ w ∈ ad_T, w.before args s = true) {g : JFrame} (hg : g.method = m) (hsize : g.locals.size = c.maxLocals) {ig : Instr} {len : Nat} (hdg : decode c.code g.pc = .ok (ig, len))
    {Post : ad_R → ad_H → Prop} (K : ad_Ct l y cy ny rt hs d mc ms G lo hp As Post) (Y : ad_Y y cy ny rt hs) (hR : d + 1 ≤ R.frames ∧ 2 * g.monitorRoom + (g.stack.map fun v => v.category).sum + (ny + 11) + 37 * d ≤ R.locals) (hcells : cells + mc ≤ R.cells) (hslots : slots + ms ≤ R.slots) :
    ∃ (mk : MethodId) (methk : Method) (T' : State) (r : ad_R) (hp' : ad_H) (L : List Loc), s.methodNamed? y = some mk ∧ s.vm.method? mk = some methk ∧ parseMethodDescriptor y.desc = some methk.sig ∧ Stand p l e R s m args below meth c T' (locs ++ L) (cells + mc) (slots + ms) ∧ Post r hp' ∧ ad_I G lo s hp' T'.heap (locs ++ L) ∧
      match r with
      | .inl v => ∀ acts, Steps p.tables e below (doInvoke e (T₁.setTop g) acts mk As.toArray).1 (T'.setTop { g with pc := g.pc + len, stack := v.toList ++ g.stack })
      | .inr C => ∃ (x : Addr) (cell : Cell), T'.heap[x]? = some cell ∧ cell.vm = .none ∧ s.vm.findClass C = some cell.cls ∧ ∀ acts, Steps p.tables e below (doInvoke e (T₁.setTop g) acts mk As.toArray).1 ((T'.setTop g).pushFrame (.throwing x)) := by
  obtain ⟨mk, methk, ck, hn, hmk, hsk, hM, hw, Yk, hdo⟩ := ad_into (As := As) (d := d) (mc := mc) (ms := ms) X₁ hexec hts hg hsize hdg Y hR hcells hslots
  obtain ⟨hB, hP, hz, hlo, hL⟩ := I
  have hB' : ad_B G lo (T₁.calling g mk As.toArray) := ad_B.move hB (show s.WarmedH T₁.vm from X₁.warmed) (by show lo ≤ T₁.heap.size; rw [hT]; exact Nat.le_trans hB.1 hz) (fun q hq => by show T₁.heap[q]? = _; rw [hT]; exact hlo q hq)
  obtain ⟨t, hst, o, r, hp', h1, h2, h3, ⟨L, h4, h5⟩, h6, h7, h8, h9, h10⟩ := K p e _ mk (.java g :: below) methk ck hM hw hB' (by show ad_P G lo hp T₁.heap; rw [hT]; exact hP) ((T₁.setTop g).pushFrame (.java (entryFrame mk As.toArray ck.maxLocals))) rfl Yk
  rw [← hM.2.2.1] at hst
  have hs9 : T₁.heap.size ≤ t.heap.size := h9
  have hs10 : ∀ q : Nat, q < lo → t.heap[q]? = T₁.heap[q]? := h10
  rw [hT] at hs9 hs10
  refine ⟨mk, methk, ?_⟩
  cases r with
  | inl v =>
    have ho : o = .returned v := h7
    subst ho
    obtain ⟨T', XT, -, -, et⟩ := X₁.outOf hg hdg h2 h3 h4
    have eh : T'.heap = t.heap := by rw [et]; rfl
    refine ⟨T', .inl v, hp', L, hn, hmk, hsk, XT, h6, ⟨hB, by rw [eh]; exact h8, by rw [eh]; omega, fun q hq => by rw [eh, hs10 q hq]; exact hlo q hq, t_lL hL h5⟩, fun acts => ?_⟩
    rw [hdo acts, ← et]
    exact ad_pop hst
  | inr C =>
    obtain ⟨x, cell, rfl, g1, g2, g3⟩ := h7
    obtain ⟨T', XT, -, -, et⟩ := X₁.outOfThrown hg h2 h3 h4
    have eh : T'.heap = t.heap := by rw [et, Stand.throwing_heap]
    have ev : T'.vm = t.vm := by rw [et, Stand.throwing_vm]
    refine ⟨T', .inr C, hp', L, hn, hmk, hsk, XT, h6, ⟨hB, by rw [eh]; exact h8, by rw [eh]; omega, fun q hq => by rw [eh, hs10 q hq]; exact hlo q hq, t_lL hL h5⟩, x, cell, by rw [eh]; exact g1, g2, by rw [← XT.warmed.alike.findClass, ev]; exact g3, fun acts => ?_⟩
    rw [hdo acts, ← et]
    exact ad_pop hst
theorem ad_callP {T₁ : State} (X₁ : Stand p l e R s m args below meth c T₁ locs cells slots) (hT : T₁.heap = H) (I : ad_I G lo s hp H locs) (hexec : p.tables.exec = Jvm.exec) (hts : ∀ w ∈ ad_T, w.before args s = true) {g : JFrame} (hg : g.method = m) (hsize : g.locals.size = c.maxLocals) {ig : Instr} {len : Nat} (hdg : decode c.code g.pc = .ok (ig, len))
    {Post : ad_R → Prop} (K : ad_Cp l y cy ny rt hs d mc ms G lo hp As Post) (Y : ad_Y y cy ny rt hs) (hR : d + 1 ≤ R.frames ∧ 2 * g.monitorRoom + (g.stack.map fun v => v.category).sum + (ny + 11) + 37 * d ≤ R.locals) (hcells : cells + mc ≤ R.cells) (hslots : slots + ms ≤ R.slots) :
    ∃ (mk : MethodId) (methk : Method) (T' : State) (r : ad_R), s.methodNamed? y = some mk ∧ s.vm.method? mk = some methk ∧ parseMethodDescriptor y.desc = some methk.sig ∧ Post r ∧
      match r with
      | .inl v => T'.heap = H ∧ Stand p l e R s m args below meth c T' locs cells slots ∧ ∀ acts, Steps p.tables e below (doInvoke e (T₁.setTop g) acts mk As.toArray).1 (T'.setTop { g with pc := g.pc + len, stack := v.toList ++ g.stack })
      | .inr C => H.size ≤ T'.heap.size ∧ (∀ q : Nat, q < H.size → T'.heap[q]? = H[q]?) ∧ Stand p l e R s m args below meth c T' locs (cells + mc) (slots + ms) ∧ ∃ (x : Addr) (cell : Cell), T'.heap[x]? = some cell ∧ cell.vm = .none ∧ s.vm.findClass C = some cell.cls ∧ ∀ acts, Steps p.tables e below (doInvoke e (T₁.setTop g) acts mk As.toArray).1 ((T'.setTop g).pushFrame (.throwing x)) := by
  obtain ⟨mk, methk, ck, hn, hmk, hsk, hM, hw, Yk, hdo⟩ := ad_into (As := As) (d := d) (mc := mc) (ms := ms) X₁ hexec hts hg hsize hdg Y hR hcells hslots
  obtain ⟨hB, hP, hz, hlo, hL⟩ := I
  have hB' : ad_B G lo (T₁.calling g mk As.toArray) := ad_B.move hB (show s.WarmedH T₁.vm from X₁.warmed) (by show lo ≤ T₁.heap.size; rw [hT]; exact Nat.le_trans hB.1 hz) (fun q hq => by show T₁.heap[q]? = _; rw [hT]; exact hlo q hq)
  obtain ⟨t, hst, o, r, h1, h2, h3, h6, h7, h9, h10, h11⟩ := K p e _ mk (.java g :: below) methk ck hM hw hB' (by show ad_P G lo hp T₁.heap; rw [hT]; exact hP) ((T₁.setTop g).pushFrame (.java (entryFrame mk As.toArray ck.maxLocals))) rfl Yk
  rw [← hM.2.2.1] at hst
  have hs9 : T₁.heap.size ≤ t.heap.size := h9
  have hs10 : ∀ q : Nat, q < T₁.heap.size → t.heap[q]? = T₁.heap[q]? := h10
  rw [hT] at hs9 hs10
  refine ⟨mk, methk, ?_⟩
  cases r with
  | inl v =>
    have ho : o = .returned v := h7
    subst ho
    obtain ⟨h12, h4⟩ := h11
    obtain ⟨T', XT, -, -, et⟩ := X₁.outOf hg hdg h2 h3 h4
    have eh : T'.heap = t.heap := by rw [et]; rfl
    refine ⟨T', .inl v, hn, hmk, hsk, h6, by rw [eh, h12]; exact hT, by simpa using XT, fun acts => ?_⟩
    rw [hdo acts, ← et]
    exact ad_pop hst
  | inr C =>
    obtain ⟨x, cell, rfl, g1, g2, g3⟩ := h7
    obtain ⟨T', XT, -, -, et⟩ := X₁.outOfThrown hg h2 h3 h11
    have eh : T'.heap = t.heap := by rw [et, Stand.throwing_heap]
    have ev : T'.vm = t.vm := by rw [et, Stand.throwing_vm]
    refine ⟨T', .inr C, hn, hmk, hsk, h6, by rw [eh]; exact hs9, fun q hq => by rw [eh]; exact hs10 q hq, by simpa using XT, x, cell, by rw [eh]; exact g1, g2, by rw [← XT.warmed.alike.findClass, ev]; exact g3, fun acts => ?_⟩
    rw [hdo acts, ← et]
    exact ad_pop hst
end ADC
end
section
section ADV
variable {p : Program} {l : Launch} {e : Env} {R : Room} {s : State} {m : MethodId} {args : Array Value} {below : List Frame} {meth : Method} {c : Code} {H : Heap} {locs : List Loc} {cells slots : Nat} {Q : State → Prop}
variable {cc : ByteArray} {nL pc : Nat} {ls : Array Slot} {rest st : List Value} {own : String} {G : ad_G} {lo : Nat} {hp : ad_H}
variable {y : MethodName} {cy : ByteArray} {ny : Nat} {rt : Option FieldType} {hs : List (Nat × Nat × Nat × Nat)} {d mc ms : Nat} {As : List Value}
/-- the frame g comes to the call of y with the values Av, which leaves 'rest' -/
def ad_Iv (p : Program) (l : Launch) (e : Env) (R : Room) (s : State) (m : MethodId) (args : Array Value) (below : List Frame) (meth : Method) (c : Code) (H : Heap) (locs : List Loc) (cells slots : Nat) (pc : Nat) (ls : Array Slot) (st rest : List Value) (y : MethodName) (Av : List Value) : Prop :=
  ∀ T : State, T.heap = H → Stand p l e R s m args below meth c T locs cells slots → ∃ vm₁, Stand p l e R s m args below meth c (T.setVm vm₁) locs cells slots ∧ ∀ (mk : MethodId), s.methodNamed? y = some mk → ∀ target, (∀ acts, Steps p.tables e below (doInvoke e ((T.setVm vm₁).setTop (F0 m pc ls rest)) acts mk Av.toArray).1 target) → Steps p.tables e below (T.setTop (F0 m pc ls st)) target
theorem ad_np {y : MethodName} {n : Nat} (h : (parseMethodDescriptor y.desc).map (fun d => d.parameters.length) = some n) {sig : MethodDescriptor} (hs : parseMethodDescriptor y.desc = some sig) : n = sig.parameters.length := by
  rw [hs] at h
  exact (Option.some.inj h).symm
theorem ad_ivS (S : CallFix p m c cc nL s args ad_T own) (Y : ad_Y y cy ny rt hs) {index : Nat} (hlink : Cond.methodLink own index y ∈ ad_T) (hstat : Cond.static y ∈ ad_T) (hini : Cond.initialized y.cls ∈ ad_T)
    (hd : y.cls ≠ "java/lang/invoke/MethodHandle" ∧ y.cls ≠ "java/lang/invoke/VarHandle" ∧ (parseMethodDescriptor y.desc).map (fun d => d.parameters.length) = some As.length) (hst : st = As.reverse ++ rest) (hdg : decode cc pc = .ok (.invokestatic index, 3)) :
    ad_Iv p l e R s m args below meth c H locs cells slots pc ls st rest y As := by
  obtain ⟨hx, hb, -, hown, hts⟩ := S
  intro T hT X
  obtain ⟨mk0, methk, ck, hn, hmk, -, -, -, -, -, -, hsk⟩ := Y.at hts
  obtain ⟨kP, hkP, -⟩ := className_of_methodNamed hn
  obtain ⟨vm₁, X₁, hstep⟩ := X.invokestatic hx hown (hts _ hlink) hn hmk (Cond.static_spec hn hmk (hts _ hstat)) hkP (Cond.initialized_spec (findClass_of_methodNamed hn) hkP (hts _ hini)) ⟨hd.1, hd.2.1⟩ (g := F0 m pc ls st) rfl (argsL := As) (rest := rest) (ad_np hd.2.2 hsk) hst (by rw [hb]; exact hdg)
  refine ⟨vm₁, X₁, fun mk hmk2 target h => ?_⟩
  cases hn.symm.trans hmk2
  exact hstep target h
theorem ad_ivV (S : CallFix p m c cc nL s args ad_T own) {b : Addr} {C : String} (hrec : ∃ cellB : Cell, H[b]? = some cellB ∧ cellB.vm.isStatics = false ∧ s.vm.findClass C = some cellB.cls) {index : Nat} (hlink : Cond.methodLink own index y ∈ ad_T) (hinst : Cond.instanceMethod y ∈ ad_T) (hsel : Cond.selects C y y ∈ ad_T) (Y : ad_Y y cy ny rt hs)
    (hd : y.cls ≠ "java/lang/invoke/MethodHandle" ∧ y.cls ≠ "java/lang/invoke/VarHandle" ∧ (parseMethodDescriptor y.desc).map (fun d => d.parameters.length) = some As.length) (hst : st = As.reverse ++ .ref b :: rest) (hdg : decode cc pc = .ok (.invokevirtual index, 3)) :
    ad_Iv p l e R s m args below meth c H locs cells slots pc ls st rest y (.ref b :: As) := by
  obtain ⟨hx, hb, -, hown, hts⟩ := S
  obtain ⟨cellB, hcB, hoB, hclB⟩ := hrec
  intro T hT X
  obtain ⟨mk, methM, hnamed, hmethM, hstM, habM⟩ := Cond.instanceMethod_spec (hts _ hinst)
  obtain ⟨mk0, methk, ck, hn, hmk, -, -, -, -, -, -, hsk⟩ := Y.at hts
  cases hnamed.symm.trans hn
  cases hmethM.symm.trans hmk
  have hy : y.cls ≠ "java/lang/invoke/MethodHandle" ∧ y.cls ≠ "java/lang/invoke/VarHandle" := ⟨hd.1, hd.2.1⟩
  obtain ⟨c2, r2, m2, q1, q2, q3, q4, kP, hkP, hkPi⟩ := Cond.selects_spec (hts _ hsel)
  cases hclB.symm.trans q1
  cases (State.methodFound?_of_named hnamed hy).symm.trans q2
  cases hnamed.symm.trans q3
  have hselP : selectMethod e.platform s.vm cellB.cls mk = .method mk := by rw [Launch.admits_selectMethod X.admits]; exact q4
  obtain ⟨vm₁, X₁, hstep⟩ := X.invokevirtual hx hown (hts _ hlink) hnamed hmethM hstM hkP hkPi hy (a := b) (cell := cellB) (by rw [hT]; exact hcB)
    (fun z h => by rw [h] at hoB; cases hoB) hselP hmethM habM hkP hkPi (g := F0 m pc ls st) rfl (argsL := As) (rest := rest) (ad_np hd.2.2 hsk) hst (by rw [hb]; exact hdg)
  refine ⟨vm₁, X₁, fun mk2 hmk2 target h => ?_⟩
  cases hnamed.symm.trans hmk2
  exact hstep target h
theorem ad_ivI (S : CallFix p m c cc nL s args ad_T own) {b : Addr} {index : Nat} (hlink : Cond.methodLink own index y ∈ ad_T) (hinst : Cond.instanceMethod y ∈ ad_T) (hcode : Cond.code y cy ny none ∈ ad_T) (hin : y.name = "<init>")
    (hd : y.cls ≠ "java/lang/invoke/MethodHandle" ∧ y.cls ≠ "java/lang/invoke/VarHandle" ∧ (parseMethodDescriptor y.desc).map (fun d => d.parameters.length) = some As.length) (hst : st = As.reverse ++ .ref b :: rest) (hdg : decode cc pc = .ok (.invokespecial index, 3)) :
    ad_Iv p l e R s m args below meth c H locs cells slots pc ls st rest y (.ref b :: As) := by
  obtain ⟨hx, hb, -, hown, hts⟩ := S
  intro T hT X
  have hpl : e.platform.magicAccessors = ({} : Platform).magicAccessors := by rw [X.admits.platform]
  obtain ⟨tm, methM, cM, kP, vm₁, hnamed, -, -, -, -, -, -, -, hW₁, hstep⟩ := Steps.initColdArgs (e := e) X.here hx X.warmed hpl hown hin ⟨hd.1, hd.2.1⟩ (hts _ hlink) (hts _ hinst) (hts _ hcode) (f := F0 m pc ls st) rfl (argsL := As) (rest := rest) (fun sig h => ad_np hd.2.2 h) hst (by rw [hb]; exact hdg)
  refine ⟨vm₁, X.noted hW₁, fun mk2 hmk2 target h => ?_⟩
  cases hnamed.symm.trans hmk2
  exact hstep target h
/-- a call of a method that may write -/
theorem ad_cZ (S : CallFix p m c cc nL s args ad_T own) (I : ad_I G lo s hp H locs) (iv : ad_Iv p l e R s m args below meth c H locs cells slots pc ls st rest y As) {Post : ad_R → ad_H → Prop} (K : ad_Ct l y cy ny rt hs d mc ms G lo hp As Post) (Y : ad_Y y cy ny rt hs) (hls : ls.size = nL)
    (hR : d + 1 ≤ R.frames ∧ (rest.map fun v => v.category).sum + (ny + 11) + 37 * d ≤ R.locals) (hcells : cells + mc ≤ R.cells) (hslots : slots + ms ≤ R.slots) {ig : Instr} (hdg : decode cc pc = .ok (ig, 3))
    (k1 : ∀ (v : Option Value) (hp' : ad_H) (H1 : Heap) (locs1 : List Loc), Post (.inl v) hp' → ad_I G lo s hp' H1 locs1 → W p l e R s m args below meth c H1 locs1 (cells + mc) (slots + ms) Q (F0 m (pc + 3) ls (v.toList ++ rest)))
    (k2 : ∀ (C : String) (hp' : ad_H) (H1 : Heap) (locs1 : List Loc) (x : Addr) (cell : Cell), Post (.inr C) hp' → ad_I G lo s hp' H1 locs1 → H1[x]? = some cell → cell.vm = .none → s.vm.findClass C = some cell.cls → ad_WT p l e R s m args below meth c H1 locs1 (cells + mc) (slots + ms) Q (F0 m pc ls rest) x) :
    W p l e R s m args below meth c H locs cells slots Q (F0 m pc ls st) := by
  obtain ⟨hx, hb, hml, hown, hts⟩ := S
  intro T hT X
  obtain ⟨vm₁, X₁, hstep⟩ := iv T hT X
  obtain ⟨mk, methk, T', r, hp', L, hn, -, -, XT, hq, I', hr⟩ := ad_callZ X₁ (H := H) (show (T.setVm vm₁).heap = H from hT) I hx hts (g := F0 m pc ls rest) rfl (hls.trans hml.symm) (by rw [hb]; exact hdg) K Y ⟨hR.1, by show 2 * 0 + (rest.map fun v => v.category).sum + _ + _ ≤ _; omega⟩ hcells hslots
  cases r with
  | inl v =>
    obtain ⟨t, a1, b1⟩ := k1 v hp' T'.heap _ hq I' T' rfl XT
    exact ⟨t, hstep mk hn t (fun acts => (hr acts).trans a1), b1⟩
  | inr C =>
    obtain ⟨x, cell, g1, g2, g3, g4⟩ := hr
    obtain ⟨t, a1, b1⟩ := k2 C hp' T'.heap _ x cell hq I' g1 g2 g3 T' rfl XT
    exact ⟨t, hstep mk hn t (fun acts => (g4 acts).trans a1), b1⟩
/-- a call of a method that writes nothing -/
theorem ad_cP (S : CallFix p m c cc nL s args ad_T own) (I : ad_I G lo s hp H locs) (iv : ad_Iv p l e R s m args below meth c H locs cells slots pc ls st rest y As) {Post : ad_R → Prop} (K : ad_Cp l y cy ny rt hs d mc ms G lo hp As Post) (Y : ad_Y y cy ny rt hs) (hls : ls.size = nL)
    (hR : d + 1 ≤ R.frames ∧ (rest.map fun v => v.category).sum + (ny + 11) + 37 * d ≤ R.locals) (hcells : cells + mc ≤ R.cells) (hslots : slots + ms ≤ R.slots) {ig : Instr} (hdg : decode cc pc = .ok (ig, 3))
    (k1 : ∀ v : Option Value, Post (.inl v) → W p l e R s m args below meth c H locs cells slots Q (F0 m (pc + 3) ls (v.toList ++ rest)))
    (k2 : ∀ (C : String) (H1 : Heap) (x : Addr) (cell : Cell), Post (.inr C) → H.size ≤ H1.size → (∀ q : Nat, q < H.size → H1[q]? = H[q]?) → H1[x]? = some cell → cell.vm = .none → s.vm.findClass C = some cell.cls → ad_WT p l e R s m args below meth c H1 locs (cells + mc) (slots + ms) Q (F0 m pc ls rest) x) :
    W p l e R s m args below meth c H locs cells slots Q (F0 m pc ls st) := by
  obtain ⟨hx, hb, hml, hown, hts⟩ := S
  intro T hT X
  obtain ⟨vm₁, X₁, hstep⟩ := iv T hT X
  obtain ⟨mk, methk, T', r, hn, -, -, hq, hr⟩ := ad_callP X₁ (H := H) (show (T.setVm vm₁).heap = H from hT) I hx hts (g := F0 m pc ls rest) rfl (hls.trans hml.symm) (by rw [hb]; exact hdg) K Y ⟨hR.1, by show 2 * 0 + (rest.map fun v => v.category).sum + _ + _ ≤ _; omega⟩ hcells hslots
  cases r with
  | inl v =>
    obtain ⟨h1, XT, h2⟩ := hr
    obtain ⟨t, a1, b1⟩ := k1 v hq T' h1 XT
    exact ⟨t, hstep mk hn t (fun acts => (h2 acts).trans a1), b1⟩
  | inr C =>
    obtain ⟨z1, z2, XT, x, cell, g1, g2, g3, g4⟩ := hr
    obtain ⟨t, a1, b1⟩ := k2 C T'.heap x cell hq z1 z2 g1 g2 g3 T' rfl XT
    exact ⟨t, hstep mk hn t (fun acts => (g4 acts).trans a1), b1⟩
theorem ad_recv (I : ad_I G lo s hp H locs) {a ci : Nat} {fs : List Value} (he : hp a = some (.inr (ci, fs))) {C : String} {T : u_T} {N : Nat} {ty0 : Nat → FieldType} (K : ad_K ci C T N ty0) : ∃ cell : Cell, H[a]? = some cell ∧ cell.vm.isStatics = false ∧ s.vm.findClass C = some cell.cls :=
  va_recv (q := (C, T, N)) (ws := [(a, .inr (ci, fs))]) (q0 := 0) I.1.2.1 (I.2.1.one he) K.1 rfl
end ADV
end
section
section ADE
variable {p : Program} {l : Launch} {e : Env} {R : Room} {s : State} {m : MethodId} {args : Array Value} {below : List Frame} {meth : Method} {c : Code} {H : Heap} {locs : List Loc} {cells slots : Nat} {Q : State → Prop}
variable {cc : ByteArray} {nL pc : Nat} {ls : Array Slot} {rest st : List Value} {own : String} {G : ad_G} {lo : Nat} {hp : ad_H} {y : MethodName} {rt : Option FieldType} {hs : List (Nat × Nat × Nat × Nat)} {mc ms : Nat}
/-- the ends of a method that may write -/
theorem ad_iret {ty : FieldType} (M : ad_M y cc nL (some ty) hs p s m meth c) (I : ad_I G lo s hp H locs) {v : Int32} (hn : narrow ty (.int v) = .int v) (hc : cells ≤ mc) (hms : slots ≤ ms) {Post : ad_R → ad_H → Prop} (hq : Post (.inl (some (.int v))) hp) (hdg : decode cc pc = .ok (.ireturn, 1)) :
    W p l e R s m args below meth c H locs cells slots (ad_Z below G lo Post s mc ms) (F0 m pc ls [.int v]) := by
  obtain ⟨hexec, hb, -, -, hr, hlocks, -, -⟩ := M
  intro T hT X
  have X := stand_widen X hc hms
  obtain ⟨fs, hret, hrun, hended, hW, hframe⟩ := X.leave (v := some (.int v)) (hlocks := hlocks) (fun h => by rw [hr] at h; cases h)
  have hmeth' : T.vm.method? m = some meth := X.method'
  refine ⟨T.setFrames fs, ?_, .returned (some (.int v)), .inl (some (.int v)), hp, hrun, hended, hW, ⟨locs, hframe, I.2.2.2.2⟩, hq, rfl, by show ad_P G lo hp T.heap; rw [hT]; exact I.2.1, by show _ ≤ T.heap.size; rw [hT]; exact I.2.2.1, fun q h => by show T.heap[q]? = _; rw [hT]; exact I.2.2.2.1 q h⟩
  jvm_step X.here [X.here.top, hexec, hb, hdg, hmeth', hr, hn]
  (try refine ⟨rfl, ?_⟩); (try refine ⟨rfl, ?_⟩)
  first | (intro acts; rw [hret _ acts rfl rfl rfl]) | rw [hret _ _ rfl rfl rfl]
  exact Steps.refl _
theorem ad_vret (M : ad_M y cc nL none hs p s m meth c) (I : ad_I G lo s hp H locs) (hc : cells ≤ mc) (hms : slots ≤ ms) {Post : ad_R → ad_H → Prop} (hq : Post (.inl none) hp) (hdg : decode cc pc = .ok (.return_, 1)) :
    W p l e R s m args below meth c H locs cells slots (ad_Z below G lo Post s mc ms) (F0 m pc ls []) := by
  obtain ⟨hexec, hb, -, -, hr, hlocks, -, -⟩ := M
  intro T hT X
  have X := stand_widen X hc hms
  obtain ⟨fs, hret, hrun, hended, hW, hframe⟩ := X.leave (v := none) (hlocks := hlocks) (fun _ => rfl)
  have hmeth' : T.vm.method? m = some meth := X.method'
  refine ⟨T.setFrames fs, ?_, .returned none, .inl none, hp, hrun, hended, hW, ⟨locs, hframe, I.2.2.2.2⟩, hq, rfl, by show ad_P G lo hp T.heap; rw [hT]; exact I.2.1, by show _ ≤ T.heap.size; rw [hT]; exact I.2.2.1, fun q h => by show T.heap[q]? = _; rw [hT]; exact I.2.2.2.1 q h⟩
  jvm_step X.here [X.here.top, hexec, hb, hdg, hmeth', hr]
  (try refine ⟨rfl, ?_⟩); (try refine ⟨rfl, ?_⟩)
  first | (intro acts; rw [hret _ acts rfl rfl rfl]) | rw [hret _ _ rfl rfl rfl]
  exact Steps.refl _
theorem ad_aret {ty : FieldType} (M : ad_M y cc nL (some ty) hs p s m meth c) (I : ad_I G lo s hp H locs) (hty : (∃ n, ty = .object n) ∨ ∃ t, ty = .array t) {v : Value} (hv : v = .null ∨ ∃ a, v = .ref a) (hc : cells ≤ mc) (hms : slots ≤ ms) {Post : ad_R → ad_H → Prop} (hq : Post (.inl (some v)) hp) (hdg : decode cc pc = .ok (.areturn, 1)) :
    W p l e R s m args below meth c H locs cells slots (ad_Z below G lo Post s mc ms) (F0 m pc ls [v]) := by
  obtain ⟨hexec, hb, -, -, hr, hlocks, -, -⟩ := M
  intro T hT X
  have X := stand_widen X hc hms
  obtain ⟨fs, hret, hrun, hended, hW, hframe⟩ := X.leave (v := some v) (hlocks := hlocks) (fun h => by rw [hr] at h; cases h)
  have hmeth' : T.vm.method? m = some meth := X.method'
  refine ⟨T.setFrames fs, ?_, .returned (some v), .inl (some v), hp, hrun, hended, hW, ⟨locs, hframe, I.2.2.2.2⟩, hq, rfl, by show ad_P G lo hp T.heap; rw [hT]; exact I.2.1, by show _ ≤ T.heap.size; rw [hT]; exact I.2.2.1, fun q h => by show T.heap[q]? = _; rw [hT]; exact I.2.2.2.1 q h⟩
  rcases hty with ⟨n, rfl⟩ | ⟨t, rfl⟩ <;> rcases hv with rfl | ⟨a, rfl⟩ <;>
    (jvm_step X.here [X.here.top, hexec, hb, hdg, hmeth', hr]
     (try refine ⟨rfl, ?_⟩); (try refine ⟨rfl, ?_⟩)
     first | (intro acts; rw [hret _ acts rfl rfl rfl]) | rw [hret _ _ rfl rfl rfl]
     exact Steps.refl _)
/-- the ends of a method that writes nothing -/
theorem ad_iretP {ty : FieldType} (M : ad_M y cc nL (some ty) hs p s m meth c) {v : Int32} (hn : narrow ty (.int v) = .int v) {Post : ad_R → Prop} (hq : Post (.inl (some (.int v)))) (hdg : decode cc pc = .ok (.ireturn, 1)) :
    W p l e R s m args below meth c s.heap [] 0 0 (ad_Zp below Post s mc ms) (F0 m pc ls [.int v]) := by
  obtain ⟨hexec, hb, -, -, hr, hlocks, -, -⟩ := M
  intro T hT X
  obtain ⟨fs, hret, hrun, hended, hW, hframe⟩ := X.leave (v := some (.int v)) (hlocks := hlocks) (fun h => by rw [hr] at h; cases h)
  have hmeth' : T.vm.method? m = some meth := X.method'
  refine ⟨T.setFrames fs, ?_, .returned (some (.int v)), .inl (some (.int v)), hrun, hended, hW, hq, rfl, by show _ ≤ T.heap.size; rw [hT]; exact Nat.le_refl _, fun q _ => by show T.heap[q]? = _; rw [hT], hT, hframe⟩
  jvm_step X.here [X.here.top, hexec, hb, hdg, hmeth', hr, hn]
  (try refine ⟨rfl, ?_⟩); (try refine ⟨rfl, ?_⟩)
  first | (intro acts; rw [hret _ acts rfl rfl rfl]) | rw [hret _ _ rfl rfl rfl]
  exact Steps.refl _
theorem ad_vretP (M : ad_M y cc nL none hs p s m meth c) {Post : ad_R → Prop} (hq : Post (.inl none)) (hdg : decode cc pc = .ok (.return_, 1)) :
    W p l e R s m args below meth c s.heap [] 0 0 (ad_Zp below Post s mc ms) (F0 m pc ls []) := by
  obtain ⟨hexec, hb, -, -, hr, hlocks, -, -⟩ := M
  intro T hT X
  obtain ⟨fs, hret, hrun, hended, hW, hframe⟩ := X.leave (v := none) (hlocks := hlocks) (fun _ => rfl)
  have hmeth' : T.vm.method? m = some meth := X.method'
  refine ⟨T.setFrames fs, ?_, .returned none, .inl none, hrun, hended, hW, hq, rfl, by show _ ≤ T.heap.size; rw [hT]; exact Nat.le_refl _, fun q _ => by show T.heap[q]? = _; rw [hT], hT, hframe⟩
  jvm_step X.here [X.here.top, hexec, hb, hdg, hmeth', hr]
  (try refine ⟨rfl, ?_⟩); (try refine ⟨rfl, ?_⟩)
  first | (intro acts; rw [hret _ acts rfl rfl rfl]) | rw [hret _ _ rfl rfl rfl]
  exact Steps.refl _
theorem ad_lretP (M : ad_M y cc nL (some .long) hs p s m meth c) {v : Int64} {Post : ad_R → Prop} (hq : Post (.inl (some (.long v)))) (hdg : decode cc pc = .ok (.lreturn, 1)) :
    W p l e R s m args below meth c s.heap [] 0 0 (ad_Zp below Post s mc ms) (F0 m pc ls [.long v]) := by
  obtain ⟨hexec, hb, -, -, hr, hlocks, -, -⟩ := M
  intro T hT X
  obtain ⟨fs, hret, hrun, hended, hW, hframe⟩ := X.leave (v := some (.long v)) (hlocks := hlocks) (fun h => by rw [hr] at h; cases h)
  have hmeth' : T.vm.method? m = some meth := X.method'
  refine ⟨T.setFrames fs, ?_, .returned (some (.long v)), .inl (some (.long v)), hrun, hended, hW, hq, rfl, by show _ ≤ T.heap.size; rw [hT]; exact Nat.le_refl _, fun q _ => by show T.heap[q]? = _; rw [hT], hT, hframe⟩
  jvm_step X.here [X.here.top, hexec, hb, hdg, hmeth', hr, narrow]
  (try refine ⟨rfl, ?_⟩); (try refine ⟨rfl, ?_⟩)
  first | (intro acts; rw [hret _ acts rfl rfl rfl]) | rw [hret _ _ rfl rfl rfl]
  exact Steps.refl _
theorem ad_aretP {ty : FieldType} (M : ad_M y cc nL (some ty) hs p s m meth c) (hty : (∃ n, ty = .object n) ∨ ∃ t, ty = .array t) {v : Value} (hv : v = .null ∨ ∃ a, v = .ref a) {Post : ad_R → Prop} (hq : Post (.inl (some v))) (hdg : decode cc pc = .ok (.areturn, 1)) :
    W p l e R s m args below meth c s.heap [] 0 0 (ad_Zp below Post s mc ms) (F0 m pc ls [v]) := by
  obtain ⟨hexec, hb, -, -, hr, hlocks, -, -⟩ := M
  intro T hT X
  obtain ⟨fs, hret, hrun, hended, hW, hframe⟩ := X.leave (v := some v) (hlocks := hlocks) (fun h => by rw [hr] at h; cases h)
  have hmeth' : T.vm.method? m = some meth := X.method'
  refine ⟨T.setFrames fs, ?_, .returned (some v), .inl (some v), hrun, hended, hW, hq, rfl, by show _ ≤ T.heap.size; rw [hT]; exact Nat.le_refl _, fun q _ => by show T.heap[q]? = _; rw [hT], hT, hframe⟩
  rcases hty with ⟨n, rfl⟩ | ⟨t, rfl⟩ <;> rcases hv with rfl | ⟨a, rfl⟩ <;>
    (jvm_step X.here [X.here.top, hexec, hb, hdg, hmeth', hr]
     (try refine ⟨rfl, ?_⟩); (try refine ⟨rfl, ?_⟩)
     first | (intro acts; rw [hret _ acts rfl rfl rfl]) | rw [hret _ _ rfl rfl rfl]
     exact Steps.refl _)
/-- an exception that nobody in this method catches -/
theorem ad_out (M : ad_M y cc nL rt hs p s m meth c) (I : ad_I G lo s hp H locs) {x : Addr} {cell : Cell} {C : String} (hx : H[x]? = some cell) (hv : cell.vm = .none) (hC : s.vm.findClass C = some cell.cls) (hout : (tableOf hs).all (fun x => !covers x pc) = true) (hc : cells ≤ mc) (hms : slots ≤ ms) {Post : ad_R → ad_H → Prop} (hq : Post (.inr C) hp) :
    ad_WT p l e R s m args below meth c H locs cells slots (ad_Z below G lo Post s mc ms) (F0 m pc ls st) x := by
  obtain ⟨hexec, hb, -, -, hr, hlocks, htab, -⟩ := M
  intro T hT X
  have X := stand_widen X hc hms
  obtain ⟨h1, h2, h3, h4, h5⟩ := X.leaveThrown x (g := F0 m pc ls st) rfl rfl rfl (outside_of_table htab hout) hlocks
  exact ⟨_, h1, .threw x, .inr C, hp, h2, h3, h4, ⟨locs, h5, I.2.2.2.2⟩, hq, ⟨x, cell, rfl, by show T.heap[x]? = _; rw [hT]; exact hx, hv, by show T.vm.findClass C = _; rw [X.warmed.alike.findClass]; exact hC⟩, by show ad_P G lo hp T.heap; rw [hT]; exact I.2.1, by show _ ≤ T.heap.size; rw [hT]; exact I.2.2.1, fun q h => by show T.heap[q]? = _; rw [hT]; exact I.2.2.2.1 q h⟩
theorem ad_outP (M : ad_M y cc nL rt hs p s m meth c) {x : Addr} {cell : Cell} {C : String} (hz : s.heap.size ≤ H.size) (hk : ∀ q : Nat, q < s.heap.size → H[q]? = s.heap[q]?) (hx : H[x]? = some cell) (hv : cell.vm = .none) (hC : s.vm.findClass C = some cell.cls) (hout : (tableOf hs).all (fun x => !covers x pc) = true) (hc : cells ≤ mc) (hms : slots ≤ ms) {Post : ad_R → Prop} (hq : Post (.inr C)) :
    ad_WT p l e R s m args below meth c H [] cells slots (ad_Zp below Post s mc ms) (F0 m pc ls st) x := by
  obtain ⟨hexec, hb, -, -, hr, hlocks, htab, -⟩ := M
  intro T hT X
  have X := stand_widen X hc hms
  obtain ⟨h1, h2, h3, h4, h5⟩ := X.leaveThrown x (g := F0 m pc ls st) rfl rfl rfl (outside_of_table htab hout) hlocks
  exact ⟨_, h1, .threw x, .inr C, h2, h3, h4, hq, ⟨x, cell, rfl, by show T.heap[x]? = _; rw [hT]; exact hx, hv, by show T.vm.findClass C = _; rw [X.warmed.alike.findClass]; exact hC⟩, by show _ ≤ T.heap.size; rw [hT]; exact hz, fun q h => by show T.heap[q]? = _; rw [hT]; exact hk q h, h5⟩
end ADE
end
section
/-- which row of a table catches an object of the class k that flies at pc -/
def ad_fnd (pl : Platform) (s : State) (dc : ClassId) (pc : Nat) (k : ClassId) : List ExceptionTableEntry → Nat → Prop
  | [], _ => False
  | x :: t, h => (covers x pc = false ∧ ad_fnd pl s dc pc k t h) ∨ (covers x pc = true ∧ x.catchType ≠ 0 ∧ ∃ c, s.vm.ClassLinks pl dc x.catchType c ∧ ((s.vm.assignable k c = true ∧ x.handlerPc = h) ∨ (s.vm.assignable k c = false ∧ ad_fnd pl s dc pc k t h)))
theorem ad_go {e : Env} {s : State} {f : JFrame} {a : Addr} {cell : Cell} (hobj : ∀ k, cell.vm ≠ .statics k) (hk0 : ∃ k, s.vm.classes[cell.cls]? = some k) :
    ∀ (es : List ExceptionTableEntry) (h : Nat), ad_fnd e.platform s f.method.cls f.pc cell.cls es h → ∀ (U : State), s.WarmedH U.vm → U.heap[a]? = some cell →
      ∃ vm', s.WarmedH vm' ∧ ∀ (Q : Handler → Pre) (E : CtlPost) (d : Bool) (acts : List Action), wp (findHandler.go f a es) Q E e d acts U ↔ Q (.found h) d acts (U.setVm vm') := by
  intro es
  induction es with
  | nil => intro h hf; exact hf.elim
  | cons x t ih =>
    intro h hf U hW hcell
    rcases hf with ⟨hx, hf⟩ | ⟨hx, h0, c, hl, hf⟩
    · obtain ⟨vm', hW', hq⟩ := ih h hf U hW hcell
      exact ⟨vm', hW', fun Q E d acts => by rw [W.findHandler_go_skip hx]; exact hq Q E d acts⟩
    · obtain ⟨dk, _, _, kt, hd, _, _, _, _, hkt, _, hopen⟩ := hl.here
      have hW2 : s.WarmedH (U.vm.noted f.method.cls x.catchType (.cls c)) := hW.noted hd hopen (State.rightAt_cls hl)
      obtain ⟨k0, hk0⟩ := hk0
      obtain ⟨k1, hk1, -⟩ := hW2.alike.2.2 _ _ hk0
      obtain ⟨k2, hk2, -⟩ := hW2.alike.2.2 _ _ hkt
      obtain ⟨ha, ht⟩ := (resolveClass_links e.toSetting (hW.classLinks hl)).op (op := VmOp.resolveClass f.method.cls x.catchType) rfl
      have hx' := hx
      simp only [covers] at hx'
      rcases hf with ⟨hfit, rfl⟩ | ⟨hno, hf⟩
      · have hfit' : (U.vm.noted f.method.cls x.catchType (.cls c)).assignable cell.cls c = true := by rw [hW2.alike.assignable]; exact hfit
        refine ⟨_, hW2, fun Q E d acts => ?_⟩
        simp [findHandler.go, hx', h0, ha, ht, hcell, hobj, hk1, hk2, hfit', VmOp.dirties, VmOp.acts]
      · have hno' : (U.vm.noted f.method.cls x.catchType (.cls c)).assignable cell.cls c = false := by rw [hW2.alike.assignable]; exact hno
        obtain ⟨vm', hW', hq⟩ := ih h hf (U.setVm (U.vm.noted f.method.cls x.catchType (.cls c))) hW2 hcell
        refine ⟨vm', hW', fun Q E d acts => ?_⟩
        have h3 := hq Q E d acts
        simp [findHandler.go, hx', h0, ha, ht, hcell, hobj, hk1, hk2, hno', VmOp.dirties, VmOp.acts] at h3 ⊢
        exact h3
section ADT
variable {p : Program} {l : Launch} {e : Env} {R : Room} {s : State} {m : MethodId} {args : Array Value} {below : List Frame} {meth : Method} {c : Code} {H : Heap} {locs : List Loc} {cells slots : Nat} {Q : State → Prop}
variable {cc : ByteArray} {nL pc : Nat} {ls : Array Slot} {rest st : List Value} {own : String} {G : ad_G} {lo : Nat} {hp : ad_H} {y : MethodName} {rt : Option FieldType} {hs : List (Nat × Nat × Nat × Nat)} {mc ms : Nat}
/-- into a handler of this method -/
theorem ad_catch (M : ad_M y cc nL rt hs p s m meth c) {x : Addr} {cell : Cell} {C : String} (hx : H[x]? = some cell) (hv : cell.vm = .none) (hC : s.vm.findClass C = some cell.cls) {h : Nat} (hf : ad_fnd e.platform s m.cls pc cell.cls (tableOf hs) h)
    (kk : W p l e R s m args below meth c H locs cells slots Q (F0 m h ls [.ref x])) : ad_WT p l e R s m args below meth c H locs cells slots Q (F0 m pc ls st) x := by
  obtain ⟨hexec, hb, -, -, hr, hlocks, htab, -⟩ := M
  intro T hT X
  obtain ⟨k0, hk0, -⟩ := Vm.findClass_spec hC
  have hc0 : (((T.setTop (F0 m pc ls st)).pushFrame (.throwing x)) : State).heap[x]? = some cell := by rw [Stand.throwing_heap, hT]; exact hx
  obtain ⟨vm', hW', hq⟩ := ad_go (e := e) (s := s) (f := F0 m pc ls st) (a := x) (cell := cell) (fun k h => by rw [hv] at h; cases h) ⟨k0, hk0⟩ (tableOf hs) h hf ((T.setTop (F0 m pc ls st)).pushFrame (.throwing x)) (by rw [Stand.throwing_vm]; exact X.warmed) hc0
  obtain ⟨t, a1, b1⟩ := kk (T.setVm vm') hT (X.noted hW')
  refine ⟨t, ?_, b1⟩
  have hAt : At T (F0 m pc ls st).method c below := X.here
  obtain ⟨hgo, hw⟩ := hAt.throwing x
  refine Steps.head hgo hw ?_
  rw [stepThread_throwing (frames_entered hAt.top _)]
  have hstep : (stepThrowing e ((T.setTop (F0 m pc ls st)).pushFrame (.throwing x)) x (.java (F0 m pc ls st) :: T.frames.tail)).1 = (((T.setTop (F0 m pc ls st)).pushFrame (.throwing x)).setVm vm').setFrames (.java { F0 m pc ls st with pc := h, stack := [.ref x] } :: T.frames.tail) := by
    have hfind : ∀ (Q : Handler → Pre) (E : CtlPost) (d : Bool) (acts : List Action), wp (findHandler (F0 m pc ls st) x) Q E e d acts ((T.setTop (F0 m pc ls st)).pushFrame (.throwing x)) ↔ Q (.found h) d acts (((T.setTop (F0 m pc ls st)).pushFrame (.throwing x)).setVm vm') := by
      intro Q E d acts
      rw [W.findHandler_eq (meth := meth) (code := c) (by rw [Stand.throwing_vm]; exact X.method') X.code, htab]
      exact hq Q E d acts
    simp only [stepThrowing, searchFrame, vmDo]
    generalize hres : Sem.go _ e false [] _ = res
    obtain ⟨as, rfl, ha⟩ := Sem.eq_ok_of hres (a := Handler.found h) (s' := ((T.setTop (F0 m pc ls st)).pushFrame (.throwing x)).setVm vm') (acts' := []) (by simp [hfind])
    rfl
  rw [hstep]
  obtain ⟨g₀, hfr⟩ := X.frames_eq
  have e1 : ((((T.setTop (F0 m pc ls st)).pushFrame (.throwing x)).setVm vm').setFrames (.java { F0 m pc ls st with pc := h, stack := [.ref x] } :: T.frames.tail)) = (T.setVm vm').setTop (F0 m h ls [.ref x]) := by
    have hfr' : (T.setVm vm').frames = .java g₀ :: below := hfr
    rw [State.setTop_of_frames _ hfr', State.pushFrame, State.setTop_of_frames _ hfr, hfr]
    have z : ∀ (u : State) (F F2 : List Frame), ((u.setFrames F).setVm vm').setFrames F2 = (u.setVm vm').setFrames F2 := fun u F F2 => by
      have h1 : (u.setFrames F).setVm vm' = (u.setVm vm').setFrames F := rfl
      rw [h1, State.setFrames_setFrames]
    rw [z, z]
    rfl
  rw [e1]
  exact a1
/-- 'throw new X("..")' in a method that has written nothing: new at pc, dup, ldc, invokespecial, athrow -/
theorem ad_thrP (S : CallFix p m c cc nL s args ad_T own) (M : ad_M y cc nL rt hs p s m meth c) (hl : l.stackTraces = false) {X : String} {names : List String} {i0 i4 ic q : Nat} {tx : String}
    (hclk : Cond.classLink own i0 X ∈ ad_T) (hinst : Cond.instantiable X 6 ∈ ad_T) (hini : Cond.initialized X ∈ ad_T) (hstr : vk_R own i4 tx q s) (hat : ∀ a ∈ Bundle.ownAtoms own ic X names, a.before args s = true) (hcls : Bundle.fit X = true) (hnames : ∀ n ∈ names, Bundle.fit n = true) (hls : ls.size = nL)
    (d0 : decode cc pc = .ok (.new i0, 3)) (d3 : decode cc (pc + 3) = .ok (.dup, 1)) (d4 : decode cc (pc + 3 + 1) = .ok (.ldc i4, 2)) (d6 : decode cc (pc + 3 + 1 + 2) = .ok (.invokespecial ic, 3)) (d9 : decode cc (pc + 3 + 1 + 2 + 3) = .ok (.athrow, 1))
    (hout : (tableOf hs).all (fun x => !covers x (pc + 3 + 1 + 2 + 3)) = true) (hRf : names.length + 3 < R.frames) (hRl : (st.map fun v => v.category).sum + 1 + (13 * (names.length + 1) + 42) ≤ R.locals) (hRc : 1 ≤ R.cells) (hRs : 6 ≤ R.slots) (hc : 1 ≤ mc) (hms : 6 ≤ ms) {Post : ad_R → Prop} (hq : Post (.inr X)) :
    W p l e R s m args below meth c s.heap [] 0 0 (ad_Zp below Post s mc ms) (F0 m pc ls st) := by
  obtain ⟨hx, hb, hml, hown, hts⟩ := S
  obtain ⟨-, -, -, -, hr, hlocks, htab, -⟩ := M
  refine W.newc hx hb hown (hts _ hclk) (hts _ hinst) (hts _ hini) rfl d0 (by omega) (by omega) fun cX kX hfX hkX hord hn6 => ?_
  refine W.eq (g2 := F0 m (pc + 3) ls (.ref s.heap.size :: st)) rfl ?_
  refine lv_dup hx hb d3 rfl ?_
  refine va_ldcS hx hb hown hstr d4 ?_
  intro T hT X0
  have htr : e.platform.stackTraces = false := by
    have h := X0.admits.2.2.2.2.1
    rw [h]
    exact hl
  have hcell : T.heap[s.heap.size]? = some (freshCell cX kX) := by
    rw [hT]
    simp [freshCell]
  obtain ⟨U, hsteps, hrun, hend, hW, hsame, ce, hce, K⟩ := X0.ctorThrowS hx htr hown hcls hnames hat (fun y hy => by cases hy) hfX hkX hcell (Nat.le_refl _) (msg := .ref q) rfl (g := F0 m (pc + 3 + 1 + 2) ls (.ref q :: .ref s.heap.size :: .ref s.heap.size :: st)) rfl (hls.trans hml.symm) rfl rfl (rest := st) rfl (by rw [hb]; exact d6) (by rw [hb]; exact d9) (outside_of_table htab hout) hRf (by
      show 2 * 0 + ((Value.ref s.heap.size).category + (st.map fun v => v.category).sum) + _ ≤ _
      have : (Value.ref s.heap.size).category = 1 := rfl
      omega) hlocks
  have hsame2 := State.sameButNew.mono hsame (show 0 + 1 ≤ mc by omega) (show 0 + 6 ≤ ms by omega)
  refine ⟨U, hsteps, .threw s.heap.size, .inr X, hrun, hend, hW, hq, ⟨s.heap.size, ce, rfl, hce, K.vm, by rw [hW.alike.findClass]; exact K.cls⟩, hsame.2.1, fun q hq => ?_, hsame2⟩
  have h1 : s.heap[q]? = some s.heap[q] := Array.getElem?_eq_getElem hq
  rw [h1]
  exact State.sameButNew.old_cell hsame h1
end ADT
end
section
theorem i_Draw : ∀ w ∈ u_ws R_Draw F_Draw 1, w ∈ ad_T := by
  show ∀ w ∈ ([Cond.lays "AuditDraws$Draw" "AuditDraws$Draw" "state" "J"] : List Cond), w ∈ ad_T
  exact List.forall_mem_cons.mpr ⟨w_38, (fun _ h => by cases h)⟩
theorem K_Draw : ad_K 0 R_Draw F_Draw 1 t_Draw := ⟨rfl, i_Draw, by decide +kernel, by decide +kernel⟩
theorem i_Thing : ∀ w ∈ u_ws R_Thing F_Thing 6, w ∈ ad_T := by
  show ∀ w ∈ ([Cond.laysFinal "AuditDraws$Thing" "AuditDraws$Thing" "number" "I", Cond.laysFinal "AuditDraws$Thing" "AuditDraws$Thing" "stratum" "I", Cond.laysFinal "AuditDraws$Thing" "AuditDraws$Thing" "rows" "Ljava/util/ArrayList;", Cond.lays "AuditDraws$Thing" "AuditDraws$Thing" "place" "I", Cond.lays "AuditDraws$Thing" "AuditDraws$Thing" "state" "I", Cond.lays "AuditDraws$Thing" "AuditDraws$Thing" "grams" "I"] : List Cond), w ∈ ad_T
  exact List.forall_mem_cons.mpr ⟨w_211, List.forall_mem_cons.mpr ⟨w_213, List.forall_mem_cons.mpr ⟨w_215, List.forall_mem_cons.mpr ⟨w_217, List.forall_mem_cons.mpr ⟨w_219, List.forall_mem_cons.mpr ⟨w_221, (fun _ h => by cases h)⟩⟩⟩⟩⟩⟩
theorem K_Thing : ad_K 1 R_Thing F_Thing 6 t_Thing := ⟨rfl, i_Thing, by decide +kernel, by decide +kernel⟩
theorem i_Sight : ∀ w ∈ u_ws R_Sight F_Sight 3, w ∈ ad_T := by
  show ∀ w ∈ ([Cond.laysFinal "AuditDraws$Sighting" "AuditDraws$Sighting" "hour" "I", Cond.laysFinal "AuditDraws$Sighting" "AuditDraws$Sighting" "place" "I", Cond.laysFinal "AuditDraws$Sighting" "AuditDraws$Sighting" "told" "I"] : List Cond), w ∈ ad_T
  exact List.forall_mem_cons.mpr ⟨w_480, List.forall_mem_cons.mpr ⟨w_482, List.forall_mem_cons.mpr ⟨w_484, (fun _ h => by cases h)⟩⟩⟩
theorem K_Sight : ad_K 2 R_Sight F_Sight 3 t_Sight := ⟨rfl, i_Sight, by decide +kernel, by decide +kernel⟩
theorem i_AL : ∀ w ∈ u_ws R_AL F_AL 3, w ∈ ad_T := by
  show ∀ w ∈ ([Cond.lays "java/util/ArrayList" "java/util/ArrayList" "elementData" "[Ljava/lang/Object;", Cond.lays "java/util/ArrayList" "java/util/ArrayList" "size" "I", Cond.lays "java/util/ArrayList" "java/util/AbstractList" "modCount" "I"] : List Cond), w ∈ ad_T
  exact List.forall_mem_cons.mpr ⟨w_60, List.forall_mem_cons.mpr ⟨w_62, List.forall_mem_cons.mpr ⟨w_64, (fun _ h => by cases h)⟩⟩⟩
theorem K_AL : ad_K 3 R_AL F_AL 3 t_AL := ⟨rfl, i_AL, by decide +kernel, by decide +kernel⟩
theorem i_AD : ∀ w ∈ u_ws R_AD F_AD 6, w ∈ ad_T := by
  show ∀ w ∈ ([Cond.laysFinal "AuditDraws" "AuditDraws" "draw" "LAuditDraws$Draw;", Cond.laysFinal "AuditDraws" "AuditDraws" "things" "Ljava/util/ArrayList;", Cond.laysFinal "AuditDraws" "AuditDraws" "latest" "Ljava/util/ArrayList;", Cond.laysFinal "AuditDraws" "AuditDraws" "row" "Ljava/util/ArrayList;", Cond.laysFinal "AuditDraws" "AuditDraws" "given" "[I", Cond.laysFinal "AuditDraws" "AuditDraws" "rests" "[I"] : List Cond), w ∈ ad_T
  exact List.forall_mem_cons.mpr ⟨w_73, List.forall_mem_cons.mpr ⟨w_75, List.forall_mem_cons.mpr ⟨w_77, List.forall_mem_cons.mpr ⟨w_79, List.forall_mem_cons.mpr ⟨w_81, List.forall_mem_cons.mpr ⟨w_83, (fun _ h => by cases h)⟩⟩⟩⟩⟩⟩
theorem K_AD : ad_K 4 R_AD F_AD 6 t_AD := ⟨rfl, i_AD, by decide +kernel, by decide +kernel⟩
theorem i_Mod : ∀ w ∈ u_ws R_Mod F_Mod 15, w ∈ ad_T := by
  show ∀ w ∈ ([Cond.lays "AuditDrawsModel" "AuditDrawsModel" "thrown" "I", Cond.lays "AuditDrawsModel" "AuditDrawsModel" "state" "J", Cond.lays "AuditDrawsModel" "AuditDrawsModel" "things" "I", Cond.laysFinal "AuditDrawsModel" "AuditDrawsModel" "strata" "[I", Cond.laysFinal "AuditDrawsModel" "AuditDrawsModel" "places" "[I", Cond.laysFinal "AuditDrawsModel" "AuditDrawsModel" "weights" "[I", Cond.lays "AuditDrawsModel" "AuditDrawsModel" "drawnMany" "I", Cond.laysFinal "AuditDrawsModel" "AuditDrawsModel" "drawn" "[I", Cond.laysFinal "AuditDrawsModel" "AuditDrawsModel" "states" "[I", Cond.laysFinal "AuditDrawsModel" "AuditDrawsModel" "row" "[I", Cond.laysFinal "AuditDrawsModel" "AuditDrawsModel" "gives" "[I", Cond.laysFinal "AuditDrawsModel" "AuditDrawsModel" "rowMany" "[I", Cond.laysFinal "AuditDrawsModel" "AuditDrawsModel" "hours" "[I", Cond.laysFinal "AuditDrawsModel" "AuditDrawsModel" "seenAt" "[I", Cond.laysFinal "AuditDrawsModel" "AuditDrawsModel" "tolds" "[I"] : List Cond), w ∈ ad_T
  exact List.forall_mem_cons.mpr ⟨w_563, List.forall_mem_cons.mpr ⟨w_565, List.forall_mem_cons.mpr ⟨w_567, List.forall_mem_cons.mpr ⟨w_569, List.forall_mem_cons.mpr ⟨w_571, List.forall_mem_cons.mpr ⟨w_573, List.forall_mem_cons.mpr ⟨w_575, List.forall_mem_cons.mpr ⟨w_577, List.forall_mem_cons.mpr ⟨w_579, List.forall_mem_cons.mpr ⟨w_581, List.forall_mem_cons.mpr ⟨w_583, List.forall_mem_cons.mpr ⟨w_585, List.forall_mem_cons.mpr ⟨w_587, List.forall_mem_cons.mpr ⟨w_589, List.forall_mem_cons.mpr ⟨w_591, (fun _ h => by cases h)⟩⟩⟩⟩⟩⟩⟩⟩⟩⟩⟩⟩⟩⟩⟩
theorem K_Mod : ad_K 5 R_Mod F_Mod 15 t_Mod := ⟨rfl, i_Mod, by decide +kernel, by decide +kernel⟩
abbrev rt_A_init : Option FieldType := none
abbrev hs_A_init : List (Nat × Nat × Nat × Nat) := []
theorem Y_A_init : ad_Y y_A_init b_A_init 1 rt_A_init hs_A_init := ⟨by decide +kernel, Or.inl ⟨w_26, rfl⟩⟩
abbrev rt_D_init : Option FieldType := none
abbrev hs_D_init : List (Nat × Nat × Nat × Nat) := []
theorem Y_D_init : ad_Y y_D_init b_D_init 1 rt_D_init hs_D_init := ⟨by decide +kernel, Or.inl ⟨w_34, rfl⟩⟩
abbrev rt_AL_init : Option FieldType := none
abbrev hs_AL_init : List (Nat × Nat × Nat × Nat) := []
theorem Y_AL_init : ad_Y y_AL_init b_AL_init 1 rt_AL_init hs_AL_init := ⟨by decide +kernel, Or.inl ⟨w_45, rfl⟩⟩
abbrev rt_AB_init : Option FieldType := none
abbrev hs_AB_init : List (Nat × Nat × Nat × Nat) := []
theorem Y_AB_init : ad_Y y_AB_init b_AB_init 1 rt_AB_init hs_AB_init := ⟨by decide +kernel, Or.inl ⟨w_48, rfl⟩⟩
abbrev rt_AC_init : Option FieldType := none
abbrev hs_AC_init : List (Nat × Nat × Nat × Nat) := []
theorem Y_AC_init : ad_Y y_AC_init b_AC_init 1 rt_AC_init hs_AC_init := ⟨by decide +kernel, Or.inl ⟨w_51, rfl⟩⟩
abbrev rt_A_seed : Option FieldType := none
abbrev hs_A_seed : List (Nat × Nat × Nat × Nat) := []
theorem Y_A_seed : ad_Y y_A_seed b_A_seed 3 rt_A_seed hs_A_seed := ⟨by decide +kernel, Or.inl ⟨w_90, rfl⟩⟩
abbrev rt_L_thing : Option FieldType := (some .int)
abbrev hs_L_thing : List (Nat × Nat × Nat × Nat) := [(0, 10, 13, 13), (0, 10, 17, 15)]
theorem Y_L_thing : ad_Y y_L_thing b_L_thing 5 rt_L_thing hs_L_thing := ⟨by decide +kernel, Or.inr w_93⟩
abbrev rt_A_thing : Option FieldType := (some .int)
abbrev hs_A_thing : List (Nat × Nat × Nat × Nat) := []
theorem Y_A_thing : ad_Y y_A_thing b_A_thing 4 rt_A_thing hs_A_thing := ⟨by decide +kernel, Or.inl ⟨w_99, rfl⟩⟩
abbrev rt_A_needBelow : Option FieldType := none
abbrev hs_A_needBelow : List (Nat × Nat × Nat × Nat) := []
theorem Y_A_needBelow : ad_Y y_A_needBelow b_A_needBelow 2 rt_A_needBelow hs_A_needBelow := ⟨by decide +kernel, Or.inl ⟨w_102, rfl⟩⟩
abbrev rt_AL_size : Option FieldType := (some .int)
abbrev hs_AL_size : List (Nat × Nat × Nat × Nat) := []
theorem Y_AL_size : ad_Y y_AL_size b_AL_size 1 rt_AL_size hs_AL_size := ⟨by decide +kernel, Or.inl ⟨w_174, rfl⟩⟩
abbrev rt_T_init : Option FieldType := none
abbrev hs_T_init : List (Nat × Nat × Nat × Nat) := []
theorem Y_T_init : ad_Y y_T_init b_T_init 4 rt_T_init hs_T_init := ⟨by decide +kernel, Or.inl ⟨w_195, rfl⟩⟩
abbrev rt_AL_add : Option FieldType := (some .boolean)
abbrev hs_AL_add : List (Nat × Nat × Nat × Nat) := []
theorem Y_AL_add : ad_Y y_AL_add b_AL_add 2 rt_AL_add hs_AL_add := ⟨by decide +kernel, Or.inl ⟨w_227, rfl⟩⟩
abbrev rt_AL_add3 : Option FieldType := none
abbrev hs_AL_add3 : List (Nat × Nat × Nat × Nat) := []
theorem Y_AL_add3 : ad_Y y_AL_add3 b_AL_add3 4 rt_AL_add3 hs_AL_add3 := ⟨by decide +kernel, Or.inl ⟨w_231, rfl⟩⟩
abbrev rt_AL_grow : Option FieldType := (some (.array (.object "java/lang/Object")))
abbrev hs_AL_grow : List (Nat × Nat × Nat × Nat) := []
theorem Y_AL_grow : ad_Y y_AL_grow b_AL_grow 1 rt_AL_grow hs_AL_grow := ⟨by decide +kernel, Or.inl ⟨w_235, rfl⟩⟩
abbrev rt_AL_grow1 : Option FieldType := (some (.array (.object "java/lang/Object")))
abbrev hs_AL_grow1 : List (Nat × Nat × Nat × Nat) := []
theorem Y_AL_grow1 : ad_Y y_AL_grow1 b_AL_grow1 4 rt_AL_grow1 hs_AL_grow1 := ⟨by decide +kernel, Or.inl ⟨w_239, rfl⟩⟩
abbrev rt_AS_newLength : Option FieldType := (some .int)
abbrev hs_AS_newLength : List (Nat × Nat × Nat × Nat) := []
theorem Y_AS_newLength : ad_Y y_AS_newLength b_AS_newLength 4 rt_AS_newLength hs_AS_newLength := ⟨by decide +kernel, Or.inl ⟨w_242, rfl⟩⟩
abbrev rt_MA_max : Option FieldType := (some .int)
abbrev hs_MA_max : List (Nat × Nat × Nat × Nat) := []
abbrev rt_AS_hugeLength : Option FieldType := (some .int)
abbrev hs_AS_hugeLength : List (Nat × Nat × Nat × Nat) := []
theorem Y_AS_hugeLength : ad_Y y_AS_hugeLength b_AS_hugeLength 3 rt_AS_hugeLength hs_AS_hugeLength := ⟨by decide +kernel, Or.inl ⟨w_249, rfl⟩⟩
abbrev rt_AR_copyOf : Option FieldType := (some (.array (.object "java/lang/Object")))
abbrev hs_AR_copyOf : List (Nat × Nat × Nat × Nat) := []
theorem Y_AR_copyOf : ad_Y y_AR_copyOf b_AR_copyOf 2 rt_AR_copyOf hs_AR_copyOf := ⟨by decide +kernel, Or.inl ⟨w_252, rfl⟩⟩
abbrev rt_AR_copyOf3 : Option FieldType := (some (.array (.object "java/lang/Object")))
abbrev hs_AR_copyOf3 : List (Nat × Nat × Nat × Nat) := []
theorem Y_AR_copyOf3 : ad_Y y_AR_copyOf3 b_AR_copyOf3 4 rt_AR_copyOf3 hs_AR_copyOf3 := ⟨by decide +kernel, Or.inl ⟨w_268, rfl⟩⟩
abbrev rt_MA_min : Option FieldType := (some .int)
abbrev hs_MA_min : List (Nat × Nat × Nat × Nat) := []
abbrev rt_L_list : Option FieldType := (some .int)
abbrev hs_L_list : List (Nat × Nat × Nat × Nat) := [(0, 9, 12, 21)]
theorem Y_L_list : ad_Y y_L_list b_L_list 4 rt_L_list hs_L_list := ⟨by decide +kernel, Or.inr w_282⟩
abbrev rt_A_list : Option FieldType := (some .int)
abbrev hs_A_list : List (Nat × Nat × Nat × Nat) := []
theorem Y_A_list : ad_Y y_A_list b_A_list 3 rt_A_list hs_A_list := ⟨by decide +kernel, Or.inl ⟨w_287, rfl⟩⟩
abbrev rt_A_forgetLatest : Option FieldType := none
abbrev hs_A_forgetLatest : List (Nat × Nat × Nat × Nat) := []
theorem Y_A_forgetLatest : ad_Y y_A_forgetLatest b_A_forgetLatest 2 rt_A_forgetLatest hs_A_forgetLatest := ⟨by decide +kernel, Or.inl ⟨w_307, rfl⟩⟩
abbrev rt_AL_get : Option FieldType := (some (.object "java/lang/Object"))
abbrev hs_AL_get : List (Nat × Nat × Nat × Nat) := []
theorem Y_AL_get : ad_Y y_AL_get b_AL_get 2 rt_AL_get hs_AL_get := ⟨by decide +kernel, Or.inl ⟨w_311, rfl⟩⟩
abbrev rt_OB_checkIndex : Option FieldType := (some .int)
abbrev hs_OB_checkIndex : List (Nat × Nat × Nat × Nat) := []
theorem Y_OB_checkIndex : ad_Y y_OB_checkIndex b_OB_checkIndex 2 rt_OB_checkIndex hs_OB_checkIndex := ⟨by decide +kernel, Or.inl ⟨w_314, rfl⟩⟩
abbrev rt_PR_checkIndex : Option FieldType := (some .int)
abbrev hs_PR_checkIndex : List (Nat × Nat × Nat × Nat) := []
theorem Y_PR_checkIndex : ad_Y y_PR_checkIndex b_PR_checkIndex 3 rt_PR_checkIndex hs_PR_checkIndex := ⟨by decide +kernel, Or.inl ⟨w_317, rfl⟩⟩
abbrev rt_AL_elementData : Option FieldType := (some (.object "java/lang/Object"))
abbrev hs_AL_elementData : List (Nat × Nat × Nat × Nat) := []
theorem Y_AL_elementData : ad_Y y_AL_elementData b_AL_elementData 2 rt_AL_elementData hs_AL_elementData := ⟨by decide +kernel, Or.inl ⟨w_321, rfl⟩⟩
abbrev rt_AL_clear : Option FieldType := none
abbrev hs_AL_clear : List (Nat × Nat × Nat × Nat) := []
theorem Y_AL_clear : ad_Y y_AL_clear b_AL_clear 4 rt_AL_clear hs_AL_clear := ⟨by decide +kernel, Or.inl ⟨w_325, rfl⟩⟩
abbrev rt_A_shareOut : Option FieldType := none
abbrev hs_A_shareOut : List (Nat × Nat × Nat × Nat) := []
theorem Y_A_shareOut : ad_Y y_A_shareOut b_A_shareOut 4 rt_A_shareOut hs_A_shareOut := ⟨by decide +kernel, Or.inl ⟨w_329, rfl⟩⟩
abbrev rt_A_giveRoundedDown : Option FieldType := none
abbrev hs_A_giveRoundedDown : List (Nat × Nat × Nat × Nat) := []
theorem Y_A_giveRoundedDown : ad_Y y_A_giveRoundedDown b_A_giveRoundedDown 5 rt_A_giveRoundedDown hs_A_giveRoundedDown := ⟨by decide +kernel, Or.inl ⟨w_333, rfl⟩⟩
abbrev rt_A_countThings : Option FieldType := (some .int)
abbrev hs_A_countThings : List (Nat × Nat × Nat × Nat) := []
theorem Y_A_countThings : ad_Y y_A_countThings b_A_countThings 4 rt_A_countThings hs_A_countThings := ⟨by decide +kernel, Or.inl ⟨w_337, rfl⟩⟩
abbrev rt_A_giveOneByGreatestRest : Option FieldType := none
abbrev hs_A_giveOneByGreatestRest : List (Nat × Nat × Nat × Nat) := []
theorem Y_A_giveOneByGreatestRest : ad_Y y_A_giveOneByGreatestRest b_A_giveOneByGreatestRest 3 rt_A_giveOneByGreatestRest hs_A_giveOneByGreatestRest := ⟨by decide +kernel, Or.inl ⟨w_341, rfl⟩⟩
abbrev rt_A_layRow : Option FieldType := none
abbrev hs_A_layRow : List (Nat × Nat × Nat × Nat) := []
theorem Y_A_layRow : ad_Y y_A_layRow b_A_layRow 4 rt_A_layRow hs_A_layRow := ⟨by decide +kernel, Or.inl ⟨w_345, rfl⟩⟩
abbrev rt_A_takeFromRow : Option FieldType := none
abbrev hs_A_takeFromRow : List (Nat × Nat × Nat × Nat) := []
theorem Y_A_takeFromRow : ad_Y y_A_takeFromRow b_A_takeFromRow 5 rt_A_takeFromRow hs_A_takeFromRow := ⟨by decide +kernel, Or.inl ⟨w_349, rfl⟩⟩
abbrev rt_D_below : Option FieldType := (some .int)
abbrev hs_D_below : List (Nat × Nat × Nat × Nat) := []
theorem Y_D_below : ad_Y y_D_below b_D_below 2 rt_D_below hs_D_below := ⟨by decide +kernel, Or.inl ⟨w_353, rfl⟩⟩
abbrev rt_AL_set : Option FieldType := (some (.object "java/lang/Object"))
abbrev hs_AL_set : List (Nat × Nat × Nat × Nat) := []
theorem Y_AL_set : ad_Y y_AL_set b_AL_set 4 rt_AL_set hs_AL_set := ⟨by decide +kernel, Or.inl ⟨w_359, rfl⟩⟩
abbrev rt_L_drawn : Option FieldType := (some .int)
abbrev hs_L_drawn : List (Nat × Nat × Nat × Nat) := [(0, 9, 12, 13)]
theorem Y_L_drawn : ad_Y y_L_drawn b_L_drawn 4 rt_L_drawn hs_L_drawn := ⟨by decide +kernel, Or.inr w_362⟩
abbrev rt_A_drawn : Option FieldType := (some .int)
abbrev hs_A_drawn : List (Nat × Nat × Nat × Nat) := []
theorem Y_A_drawn : ad_Y y_A_drawn b_A_drawn 2 rt_A_drawn hs_A_drawn := ⟨by decide +kernel, Or.inl ⟨w_366, rfl⟩⟩
abbrev rt_L_check : Option FieldType := (some .int)
abbrev hs_L_check : List (Nat × Nat × Nat × Nat) := [(0, 14, 17, 13), (0, 14, 21, 15)]
theorem Y_L_check : ad_Y y_L_check b_L_check 7 rt_L_check hs_L_check := ⟨by decide +kernel, Or.inr w_369⟩
abbrev rt_A_check : Option FieldType := (some .int)
abbrev hs_A_check : List (Nat × Nat × Nat × Nat) := []
theorem Y_A_check : ad_Y y_A_check b_A_check 6 rt_A_check hs_A_check := ⟨by decide +kernel, Or.inl ⟨w_373, rfl⟩⟩
abbrev rt_A_existing : Option FieldType := (some (.object "AuditDraws$Thing"))
abbrev hs_A_existing : List (Nat × Nat × Nat × Nat) := []
theorem Y_A_existing : ad_Y y_A_existing b_A_existing 2 rt_A_existing hs_A_existing := ⟨by decide +kernel, Or.inl ⟨w_377, rfl⟩⟩
abbrev rt_A_needListed : Option FieldType := none
abbrev hs_A_needListed : List (Nat × Nat × Nat × Nat) := []
theorem Y_A_needListed : ad_Y y_A_needListed b_A_needListed 1 rt_A_needListed hs_A_needListed := ⟨by decide +kernel, Or.inl ⟨w_380, rfl⟩⟩
abbrev rt_L_gone : Option FieldType := (some .int)
abbrev hs_L_gone : List (Nat × Nat × Nat × Nat) := [(0, 16, 19, 13), (0, 16, 22, 15)]
theorem Y_L_gone : ad_Y y_L_gone b_L_gone 4 rt_L_gone hs_L_gone := ⟨by decide +kernel, Or.inr w_384⟩
abbrev rt_A_gone : Option FieldType := (some .boolean)
abbrev hs_A_gone : List (Nat × Nat × Nat × Nat) := []
theorem Y_A_gone : ad_Y y_A_gone b_A_gone 4 rt_A_gone hs_A_gone := ⟨by decide +kernel, Or.inl ⟨w_388, rfl⟩⟩
abbrev rt_L_share : Option FieldType := (some .int)
abbrev hs_L_share : List (Nat × Nat × Nat × Nat) := [(0, 10, 13, 13)]
theorem Y_L_share : ad_Y y_L_share b_L_share 5 rt_L_share hs_L_share := ⟨by decide +kernel, Or.inr w_391⟩
abbrev rt_A_share : Option FieldType := (some .int)
abbrev hs_A_share : List (Nat × Nat × Nat × Nat) := []
theorem Y_A_share : ad_Y y_A_share b_A_share 6 rt_A_share hs_A_share := ⟨by decide +kernel, Or.inl ⟨w_395, rfl⟩⟩
abbrev rt_A_countChecked : Option FieldType := (some .int)
abbrev hs_A_countChecked : List (Nat × Nat × Nat × Nat) := []
theorem Y_A_countChecked : ad_Y y_A_countChecked b_A_countChecked 2 rt_A_countChecked hs_A_countChecked := ⟨by decide +kernel, Or.inl ⟨w_399, rfl⟩⟩
abbrev rt_A_countListed : Option FieldType := (some .int)
abbrev hs_A_countListed : List (Nat × Nat × Nat × Nat) := []
theorem Y_A_countListed : ad_Y y_A_countListed b_A_countListed 6 rt_A_countListed hs_A_countListed := ⟨by decide +kernel, Or.inl ⟨w_403, rfl⟩⟩
abbrev rt_A_countMissed : Option FieldType := (some .int)
abbrev hs_A_countMissed : List (Nat × Nat × Nat × Nat) := []
theorem Y_A_countMissed : ad_Y y_A_countMissed b_A_countMissed 2 rt_A_countMissed hs_A_countMissed := ⟨by decide +kernel, Or.inl ⟨w_407, rfl⟩⟩
abbrev rt_A_commonDivisor : Option FieldType := (some .int)
abbrev hs_A_commonDivisor : List (Nat × Nat × Nat × Nat) := []
theorem Y_A_commonDivisor : ad_Y y_A_commonDivisor b_A_commonDivisor 3 rt_A_commonDivisor hs_A_commonDivisor := ⟨by decide +kernel, Or.inl ⟨w_410, rfl⟩⟩
abbrev rt_L_next : Option FieldType := (some .int)
abbrev hs_L_next : List (Nat × Nat × Nat × Nat) := [(0, 9, 12, 13)]
theorem Y_L_next : ad_Y y_L_next b_L_next 4 rt_L_next hs_L_next := ⟨by decide +kernel, Or.inr w_413⟩
abbrev rt_A_next : Option FieldType := (some .int)
abbrev hs_A_next : List (Nat × Nat × Nat × Nat) := []
theorem Y_A_next : ad_Y y_A_next b_A_next 4 rt_A_next hs_A_next := ⟨by decide +kernel, Or.inl ⟨w_417, rfl⟩⟩
abbrev rt_L_digit : Option FieldType := (some .int)
abbrev hs_L_digit : List (Nat × Nat × Nat × Nat) := [(0, 11, 14, 13), (0, 11, 18, 21)]
theorem Y_L_digit : ad_Y y_L_digit b_L_digit 6 rt_L_digit hs_L_digit := ⟨by decide +kernel, Or.inr w_420⟩
abbrev rt_A_digit : Option FieldType := (some .int)
abbrev hs_A_digit : List (Nat × Nat × Nat × Nat) := []
theorem Y_A_digit : ad_Y y_A_digit b_A_digit 4 rt_A_digit hs_A_digit := ⟨by decide +kernel, Or.inl ⟨w_424, rfl⟩⟩
abbrev rt_A_needNumber : Option FieldType := none
abbrev hs_A_needNumber : List (Nat × Nat × Nat × Nat) := []
theorem Y_A_needNumber : ad_Y y_A_needNumber b_A_needNumber 2 rt_A_needNumber hs_A_needNumber := ⟨by decide +kernel, Or.inl ⟨w_427, rfl⟩⟩
abbrev rt_C_of : Option FieldType := (some .int)
abbrev hs_C_of : List (Nat × Nat × Nat × Nat) := []
theorem Y_C_of : ad_Y y_C_of b_C_of 4 rt_C_of hs_C_of := ⟨by decide +kernel, Or.inl ⟨w_432, rfl⟩⟩
abbrev rt_C_weighedSum : Option FieldType := (some .int)
abbrev hs_C_weighedSum : List (Nat × Nat × Nat × Nat) := []
theorem Y_C_weighedSum : ad_Y y_C_weighedSum b_C_weighedSum 7 rt_C_weighedSum hs_C_weighedSum := ⟨by decide +kernel, Or.inl ⟨w_435, rfl⟩⟩
abbrev rt_C_weighed : Option FieldType := (some .int)
abbrev hs_C_weighed : List (Nat × Nat × Nat × Nat) := []
theorem Y_C_weighed : ad_Y y_C_weighed b_C_weighed 4 rt_C_weighed hs_C_weighed := ⟨by decide +kernel, Or.inl ⟨w_439, rfl⟩⟩
abbrev rt_C_doubled : Option FieldType := (some .int)
abbrev hs_C_doubled : List (Nat × Nat × Nat × Nat) := []
theorem Y_C_doubled : ad_Y y_C_doubled b_C_doubled 2 rt_C_doubled hs_C_doubled := ⟨by decide +kernel, Or.inl ⟨w_442, rfl⟩⟩
abbrev rt_L_good : Option FieldType := (some .int)
abbrev hs_L_good : List (Nat × Nat × Nat × Nat) := [(0, 18, 21, 13), (0, 18, 25, 21)]
theorem Y_L_good : ad_Y y_L_good b_L_good 6 rt_L_good hs_L_good := ⟨by decide +kernel, Or.inr w_445⟩
abbrev rt_A_good : Option FieldType := (some .boolean)
abbrev hs_A_good : List (Nat × Nat × Nat × Nat) := []
theorem Y_A_good : ad_Y y_A_good b_A_good 4 rt_A_good hs_A_good := ⟨by decide +kernel, Or.inl ⟨w_449, rfl⟩⟩
abbrev rt_C_closes : Option FieldType := (some .boolean)
abbrev hs_C_closes : List (Nat × Nat × Nat × Nat) := []
theorem Y_C_closes : ad_Y y_C_closes b_C_closes 4 rt_C_closes hs_C_closes := ⟨by decide +kernel, Or.inl ⟨w_452, rfl⟩⟩
abbrev rt_L_tag : Option FieldType := (some .int)
abbrev hs_L_tag : List (Nat × Nat × Nat × Nat) := [(0, 14, 17, 13), (0, 14, 21, 21), (0, 14, 25, 15)]
theorem Y_L_tag : ad_Y y_L_tag b_L_tag 7 rt_L_tag hs_L_tag := ⟨by decide +kernel, Or.inr w_456⟩
abbrev rt_A_tag : Option FieldType := (some .int)
abbrev hs_A_tag : List (Nat × Nat × Nat × Nat) := []
theorem Y_A_tag : ad_Y y_A_tag b_A_tag 6 rt_A_tag hs_A_tag := ⟨by decide +kernel, Or.inl ⟨w_460, rfl⟩⟩
abbrev rt_A_needHour : Option FieldType := none
abbrev hs_A_needHour : List (Nat × Nat × Nat × Nat) := []
theorem Y_A_needHour : ad_Y y_A_needHour b_A_needHour 1 rt_A_needHour hs_A_needHour := ⟨by decide +kernel, Or.inl ⟨w_463, rfl⟩⟩
abbrev rt_S_init : Option FieldType := none
abbrev hs_S_init : List (Nat × Nat × Nat × Nat) := []
theorem Y_S_init : ad_Y y_S_init b_S_init 4 rt_S_init hs_S_init := ⟨by decide +kernel, Or.inl ⟨w_472, rfl⟩⟩
abbrev rt_L_first : Option FieldType := (some .int)
abbrev hs_L_first : List (Nat × Nat × Nat × Nat) := [(0, 10, 13, 13), (0, 10, 17, 21)]
theorem Y_L_first : ad_Y y_L_first b_L_first 5 rt_L_first hs_L_first := ⟨by decide +kernel, Or.inr w_489⟩
abbrev rt_A_first : Option FieldType := (some .int)
abbrev hs_A_first : List (Nat × Nat × Nat × Nat) := []
theorem Y_A_first : ad_Y y_A_first b_A_first 5 rt_A_first hs_A_first := ⟨by decide +kernel, Or.inl ⟨w_493, rfl⟩⟩
abbrev rt_T_lastToldBy : Option FieldType := (some (.object "AuditDraws$Sighting"))
abbrev hs_T_lastToldBy : List (Nat × Nat × Nat × Nat) := []
theorem Y_T_lastToldBy : ad_Y y_T_lastToldBy b_T_lastToldBy 5 rt_T_lastToldBy hs_T_lastToldBy := ⟨by decide +kernel, Or.inl ⟨w_497, rfl⟩⟩
abbrev rt_S_replaces : Option FieldType := (some .boolean)
abbrev hs_S_replaces : List (Nat × Nat × Nat × Nat) := []
theorem Y_S_replaces : ad_Y y_S_replaces b_S_replaces 2 rt_S_replaces hs_S_replaces := ⟨by decide +kernel, Or.inl ⟨w_504, rfl⟩⟩
abbrev rt_L_seen : Option FieldType := (some .int)
abbrev hs_L_seen : List (Nat × Nat × Nat × Nat) := [(0, 10, 13, 13), (0, 10, 17, 21)]
theorem Y_L_seen : ad_Y y_L_seen b_L_seen 5 rt_L_seen hs_L_seen := ⟨by decide +kernel, Or.inr w_507⟩
abbrev rt_A_seen : Option FieldType := (some .int)
abbrev hs_A_seen : List (Nat × Nat × Nat × Nat) := []
theorem Y_A_seen : ad_Y y_A_seen b_A_seen 5 rt_A_seen hs_A_seen := ⟨by decide +kernel, Or.inl ⟨w_511, rfl⟩⟩
abbrev rt_L_weight : Option FieldType := (some .int)
abbrev hs_L_weight : List (Nat × Nat × Nat × Nat) := [(0, 10, 13, 13), (0, 10, 17, 21)]
theorem Y_L_weight : ad_Y y_L_weight b_L_weight 5 rt_L_weight hs_L_weight := ⟨by decide +kernel, Or.inr w_514⟩
abbrev rt_A_weight : Option FieldType := (some .int)
abbrev hs_A_weight : List (Nat × Nat × Nat × Nat) := []
theorem Y_A_weight : ad_Y y_A_weight b_A_weight 5 rt_A_weight hs_A_weight := ⟨by decide +kernel, Or.inl ⟨w_518, rfl⟩⟩
abbrev rt_MA_abs : Option FieldType := (some .int)
abbrev hs_MA_abs : List (Nat × Nat × Nat × Nat) := []
abbrev rt_L_report : Option FieldType := (some .int)
abbrev hs_L_report : List (Nat × Nat × Nat × Nat) := [(0, 10, 13, 13)]
theorem Y_L_report : ad_Y y_L_report b_L_report 5 rt_L_report hs_L_report := ⟨by decide +kernel, Or.inr w_526⟩
abbrev rt_A_report : Option FieldType := (some .int)
abbrev hs_A_report : List (Nat × Nat × Nat × Nat) := []
theorem Y_A_report : ad_Y y_A_report b_A_report 5 rt_A_report hs_A_report := ⟨by decide +kernel, Or.inl ⟨w_530, rfl⟩⟩
abbrev rt_A_needNotNegative : Option FieldType := none
abbrev hs_A_needNotNegative : List (Nat × Nat × Nat × Nat) := []
theorem Y_A_needNotNegative : ad_Y y_A_needNotNegative b_A_needNotNegative 1 rt_A_needNotNegative hs_A_needNotNegative := ⟨by decide +kernel, Or.inl ⟨w_533, rfl⟩⟩
abbrev rt_L_room : Option FieldType := (some .int)
abbrev hs_L_room : List (Nat × Nat × Nat × Nat) := [(0, 10, 13, 13)]
theorem Y_L_room : ad_Y y_L_room b_L_room 5 rt_L_room hs_L_room := ⟨by decide +kernel, Or.inr w_537⟩
abbrev rt_A_room : Option FieldType := (some .int)
abbrev hs_A_room : List (Nat × Nat × Nat × Nat) := []
theorem Y_A_room : ad_Y y_A_room b_A_room 5 rt_A_room hs_A_room := ⟨by decide +kernel, Or.inl ⟨w_541, rfl⟩⟩
abbrev rt_M_init : Option FieldType := none
abbrev hs_M_init : List (Nat × Nat × Nat × Nat) := []
theorem Y_M_init : ad_Y y_M_init b_M_init 1 rt_M_init hs_M_init := ⟨by decide +kernel, Or.inl ⟨w_546, rfl⟩⟩
abbrev rt_M_thrown : Option FieldType := (some .int)
abbrev hs_M_thrown : List (Nat × Nat × Nat × Nat) := []
theorem Y_M_thrown : ad_Y y_M_thrown b_M_thrown 1 rt_M_thrown hs_M_thrown := ⟨by decide +kernel, Or.inl ⟨w_597, rfl⟩⟩
abbrev rt_M_seed : Option FieldType := none
abbrev hs_M_seed : List (Nat × Nat × Nat × Nat) := []
theorem Y_M_seed : ad_Y y_M_seed b_M_seed 3 rt_M_seed hs_M_seed := ⟨by decide +kernel, Or.inl ⟨w_601, rfl⟩⟩
abbrev rt_M_thing : Option FieldType := (some .int)
abbrev hs_M_thing : List (Nat × Nat × Nat × Nat) := []
theorem Y_M_thing : ad_Y y_M_thing b_M_thing 3 rt_M_thing hs_M_thing := ⟨by decide +kernel, Or.inl ⟨w_605, rfl⟩⟩
abbrev rt_M_in : Option FieldType := (some .boolean)
abbrev hs_M_in : List (Nat × Nat × Nat × Nat) := []
theorem Y_M_in : ad_Y y_M_in b_M_in 6 rt_M_in hs_M_in := ⟨by decide +kernel, Or.inl ⟨w_609, rfl⟩⟩
abbrev rt_M_fails : Option FieldType := (some .boolean)
abbrev hs_M_fails : List (Nat × Nat × Nat × Nat) := []
theorem Y_M_fails : ad_Y y_M_fails b_M_fails 4 rt_M_fails hs_M_fails := ⟨by decide +kernel, Or.inl ⟨w_614, rfl⟩⟩
abbrev rt_M_list : Option FieldType := (some .int)
abbrev hs_M_list : List (Nat × Nat × Nat × Nat) := []
theorem Y_M_list : ad_Y y_M_list b_M_list 3 rt_M_list hs_M_list := ⟨by decide +kernel, Or.inl ⟨w_618, rfl⟩⟩
abbrev rt_M_divide : Option FieldType := none
abbrev hs_M_divide : List (Nat × Nat × Nat × Nat) := []
theorem Y_M_divide : ad_Y y_M_divide b_M_divide 7 rt_M_divide hs_M_divide := ⟨by decide +kernel, Or.inl ⟨w_622, rfl⟩⟩
abbrev rt_M_size : Option FieldType := (some .int)
abbrev hs_M_size : List (Nat × Nat × Nat × Nat) := []
theorem Y_M_size : ad_Y y_M_size b_M_size 4 rt_M_size hs_M_size := ⟨by decide +kernel, Or.inl ⟨w_626, rfl⟩⟩
abbrev rt_M_rest : Option FieldType := (some .int)
abbrev hs_M_rest : List (Nat × Nat × Nat × Nat) := []
theorem Y_M_rest : ad_Y y_M_rest b_M_rest 3 rt_M_rest hs_M_rest := ⟨by decide +kernel, Or.inl ⟨w_630, rfl⟩⟩
abbrev rt_M_drawFrom : Option FieldType := none
abbrev hs_M_drawFrom : List (Nat × Nat × Nat × Nat) := []
theorem Y_M_drawFrom : ad_Y y_M_drawFrom b_M_drawFrom 6 rt_M_drawFrom hs_M_drawFrom := ⟨by decide +kernel, Or.inl ⟨w_634, rfl⟩⟩
abbrev rt_M_draw : Option FieldType := (some .int)
abbrev hs_M_draw : List (Nat × Nat × Nat × Nat) := []
theorem Y_M_draw : ad_Y y_M_draw b_M_draw 2 rt_M_draw hs_M_draw := ⟨by decide +kernel, Or.inl ⟨w_638, rfl⟩⟩
abbrev rt_M_drawn : Option FieldType := (some .int)
abbrev hs_M_drawn : List (Nat × Nat × Nat × Nat) := []
theorem Y_M_drawn : ad_Y y_M_drawn b_M_drawn 2 rt_M_drawn hs_M_drawn := ⟨by decide +kernel, Or.inl ⟨w_644, rfl⟩⟩
abbrev rt_M_check : Option FieldType := (some .int)
abbrev hs_M_check : List (Nat × Nat × Nat × Nat) := []
theorem Y_M_check : ad_Y y_M_check b_M_check 8 rt_M_check hs_M_check := ⟨by decide +kernel, Or.inl ⟨w_648, rfl⟩⟩
abbrev rt_M_isThing : Option FieldType := (some .boolean)
abbrev hs_M_isThing : List (Nat × Nat × Nat × Nat) := []
theorem Y_M_isThing : ad_Y y_M_isThing b_M_isThing 2 rt_M_isThing hs_M_isThing := ⟨by decide +kernel, Or.inl ⟨w_652, rfl⟩⟩
abbrev rt_M_gone : Option FieldType := (some .boolean)
abbrev hs_M_gone : List (Nat × Nat × Nat × Nat) := []
theorem Y_M_gone : ad_Y y_M_gone b_M_gone 4 rt_M_gone hs_M_gone := ⟨by decide +kernel, Or.inl ⟨w_657, rfl⟩⟩
abbrev rt_M_share : Option FieldType := (some .int)
abbrev hs_M_share : List (Nat × Nat × Nat × Nat) := []
theorem Y_M_share : ad_Y y_M_share b_M_share 6 rt_M_share hs_M_share := ⟨by decide +kernel, Or.inl ⟨w_661, rfl⟩⟩
abbrev rt_M_many : Option FieldType := (some .int)
abbrev hs_M_many : List (Nat × Nat × Nat × Nat) := []
theorem Y_M_many : ad_Y y_M_many b_M_many 6 rt_M_many hs_M_many := ⟨by decide +kernel, Or.inl ⟨w_665, rfl⟩⟩
abbrev rt_M_next : Option FieldType := (some .int)
abbrev hs_M_next : List (Nat × Nat × Nat × Nat) := []
theorem Y_M_next : ad_Y y_M_next b_M_next 4 rt_M_next hs_M_next := ⟨by decide +kernel, Or.inl ⟨w_669, rfl⟩⟩
abbrev rt_M_digit : Option FieldType := (some .int)
abbrev hs_M_digit : List (Nat × Nat × Nat × Nat) := []
theorem Y_M_digit : ad_Y y_M_digit b_M_digit 4 rt_M_digit hs_M_digit := ⟨by decide +kernel, Or.inl ⟨w_673, rfl⟩⟩
abbrev rt_M_digitOf : Option FieldType := (some .int)
abbrev hs_M_digitOf : List (Nat × Nat × Nat × Nat) := []
theorem Y_M_digitOf : ad_Y y_M_digitOf b_M_digitOf 4 rt_M_digitOf hs_M_digitOf := ⟨by decide +kernel, Or.inl ⟨w_678, rfl⟩⟩
abbrev rt_M_sum : Option FieldType := (some .int)
abbrev hs_M_sum : List (Nat × Nat × Nat × Nat) := []
theorem Y_M_sum : ad_Y y_M_sum b_M_sum 7 rt_M_sum hs_M_sum := ⟨by decide +kernel, Or.inl ⟨w_681, rfl⟩⟩
abbrev rt_M_counts : Option FieldType := (some .int)
abbrev hs_M_counts : List (Nat × Nat × Nat × Nat) := []
theorem Y_M_counts : ad_Y y_M_counts b_M_counts 3 rt_M_counts hs_M_counts := ⟨by decide +kernel, Or.inl ⟨w_685, rfl⟩⟩
abbrev rt_M_good : Option FieldType := (some .boolean)
abbrev hs_M_good : List (Nat × Nat × Nat × Nat) := []
theorem Y_M_good : ad_Y y_M_good b_M_good 4 rt_M_good hs_M_good := ⟨by decide +kernel, Or.inl ⟨w_689, rfl⟩⟩
abbrev rt_M_tag : Option FieldType := (some .int)
abbrev hs_M_tag : List (Nat × Nat × Nat × Nat) := []
theorem Y_M_tag : ad_Y y_M_tag b_M_tag 8 rt_M_tag hs_M_tag := ⟨by decide +kernel, Or.inl ⟨w_693, rfl⟩⟩
abbrev rt_M_first : Option FieldType := (some .int)
abbrev hs_M_first : List (Nat × Nat × Nat × Nat) := []
theorem Y_M_first : ad_Y y_M_first b_M_first 4 rt_M_first hs_M_first := ⟨by decide +kernel, Or.inl ⟨w_698, rfl⟩⟩
abbrev rt_M_best : Option FieldType := (some .int)
abbrev hs_M_best : List (Nat × Nat × Nat × Nat) := []
theorem Y_M_best : ad_Y y_M_best b_M_best 6 rt_M_best hs_M_best := ⟨by decide +kernel, Or.inl ⟨w_702, rfl⟩⟩
abbrev rt_M_seen : Option FieldType := (some .int)
abbrev hs_M_seen : List (Nat × Nat × Nat × Nat) := []
theorem Y_M_seen : ad_Y y_M_seen b_M_seen 4 rt_M_seen hs_M_seen := ⟨by decide +kernel, Or.inl ⟨w_706, rfl⟩⟩
abbrev rt_M_weight : Option FieldType := (some .int)
abbrev hs_M_weight : List (Nat × Nat × Nat × Nat) := []
theorem Y_M_weight : ad_Y y_M_weight b_M_weight 4 rt_M_weight hs_M_weight := ⟨by decide +kernel, Or.inl ⟨w_710, rfl⟩⟩
abbrev rt_M_report : Option FieldType := (some .int)
abbrev hs_M_report : List (Nat × Nat × Nat × Nat) := []
theorem Y_M_report : ad_Y y_M_report b_M_report 5 rt_M_report hs_M_report := ⟨by decide +kernel, Or.inl ⟨w_715, rfl⟩⟩
abbrev rt_M_room : Option FieldType := (some .int)
abbrev hs_M_room : List (Nat × Nat × Nat × Nat) := []
theorem Y_M_room : ad_Y y_M_room b_M_room 5 rt_M_room hs_M_room := ⟨by decide +kernel, Or.inl ⟨w_720, rfl⟩⟩
end
section
/-- what the constructor 'X(String)' asks of the tables, where X's first link is not the bundle's own -/
def ad_oA (own : String) (ic : Nat) (X Y : String) (ix : Nat) (bx : ByteArray) (names : List String) : List Cond :=
  Bundle.throwableAtoms ++ Bundle.throwableSAtoms ++ Bundle.passSAtoms X Y ix bx ++ Bundle.chainSAtoms Y names ++
  [.methodLink own ic (Bundle.initS X), .instantiable X 6, .selects X Bundle.tFill0 Bundle.tFill0, .selects X Bundle.tFill Bundle.tFill,
   .lays X Bundle.tN "cause" "Ljava/lang/Throwable;", .lays X Bundle.tN "stackTrace" Bundle.steD, .lays X Bundle.tN "suppressedExceptions" Bundle.listD, .lays X Bundle.tN "detailMessage" "Ljava/lang/String;",
   .isRef (.static Bundle.tN "UNASSIGNED_STACK" Bundle.steD), .isRef (.static Bundle.tN "SUPPRESSED_SENTINEL" Bundle.listD),
   .fieldLink Bundle.tN 198 Bundle.tN "backtrace" "Ljava/lang/Object;", .lays Bundle.tN Bundle.tN "backtrace" "Ljava/lang/Object;", .lays X Bundle.tN "backtrace" "Ljava/lang/Object;"]
section ADN
variable {p : Program} {l : Launch} {e : Env} {R : Room} {s : State} {m : MethodId} {args : Array Value} {below : List Frame} {meth : Method} {c : Code} {H : Heap} {locs : List Loc} {cells slots : Nat} {Q : State → Prop}
set_option maxHeartbeats 4000000 in
theorem ad_ctorS {T' : State} (X : Stand p l e R s m args below meth c T' locs cells slots) (hexec : p.tables.exec = Jvm.exec) (htr : e.platform.stackTraces = false) {own cls Yn : String} {names : List String} {ic ix : Nat} {bx : ByteArray}
    (hown : s.vm.findClass own = some m.cls) (hcls : Bundle.fit cls = true) (hYn : Bundle.fit Yn = true) (hnames : ∀ n ∈ names, Bundle.fit n = true)
    (k0 : decode bx 0 = .ok (.aload_n 0, 1)) (k1 : decode bx 1 = .ok (.aload_n 1, 1)) (k2 : decode bx 2 = .ok (.invokespecial ix, 3)) (k5 : decode bx 5 = .ok (.return_, 1))
    (h : ∀ a ∈ ad_oA own ic cls Yn ix bx names, a.before args s = true) (hlocs : ∀ x ∈ locs, ∀ cell, s.heap[x.base]? = some cell → cell.vm.isStatics = false)
    {a : Addr} {cX : ClassId} {kX : Class} (hfoundX : s.vm.findClass cls = some cX) (hkX : s.vm.classes[cX]? = some kX) (hcell : T'.heap[a]? = some (freshCell cX kX)) (hnew : s.heap.size ≤ a)
    {msg : Value} (hmsg : msg.isRef = true) {g : JFrame} (hg : g.method = m) (hsize : g.locals.size = c.maxLocals) {rest : List Value} (hstack : g.stack = msg :: .ref a :: rest) (hd6 : decode c.code g.pc = .ok (.invokespecial ic, 3))
    (hRframes : names.length + 4 < R.frames) (hRlocals : 2 * g.monitorRoom + (rest.map fun v => v.category).sum + (13 * (names.length + 2) + 42) ≤ R.locals) :
    ∃ (vm' : Vm) (ce : Cell) (L : List Loc), ce.cls = cX ∧ ce.vm = .none ∧ (∀ x ∈ L, x.base = a) ∧ Stand p l e R s m args below meth c ((T'.setVm vm').setCell a ce) (locs ++ L) cells slots ∧
      ∀ target, Steps p.tables e below (((T'.setVm vm').setCell a ce).setTop { g with pc := g.pc + 3, stack := rest }) target → Steps p.tables e below (T'.setTop g) target := by
  have howns : e.platform.frameOwnsMonitors = true := by rw [X.admits.platform]
  have hfin : e.platform.finalization = false := by rw [X.admits.platform]
  have hpl : e.platform.magicAccessors = ({} : Platform).magicAccessors := by rw [X.admits.platform]
  have a' : ∀ x, x ∈ ad_oA own ic cls Yn ix bx names → x.holds args s none s [] = true := fun x hx => h x hx
  obtain ⟨T, Z0, L, -, Y⟩ := ThrowableC.of_atoms (args := args) howns hfin hpl (fun x hx => h x (by simp [ad_oA, hx]))
  obtain ⟨Z, M, LZ, LM, hnZ⟩ := Init0T.ofS_atoms (args := args) hpl L Y (fun x hx => h x (by simp [ad_oA, hx]))
  obtain ⟨P1, L1, hP1m, hP1s⟩ := PassC.ofS_atoms (args := args) (s := s) hpl (X := cls) (Y := Yn) (Bundle.fit_spec hcls).1 (Bundle.fit_spec hYn).2 k0 k1 k2 k5 (fun x hx => h x (by simp [ad_oA, hx]))
  obtain ⟨P2, Ps, hlen, L2, hL, hP2m, hlink2, hlink⟩ := Bundle.chainS (args := args) hpl hnZ names Yn hYn hnames (fun x hx => h x (by simp [ad_oA, hx]))
  have h12 : P1.sup = P2.m := Option.some.inj (hP1s.symm.trans hP2m)
  have hfound : s.vm.findClass cls = some P1.m.cls := findClass_of_methodNamed hP1m
  cases Option.some.inj (hfoundX.symm.trans hfound)
  obtain ⟨c1, kX', hc1, hk, hord, -, -, hn6⟩ := Cond.instantiable_spec (a' (.instantiable cls 6) (by simp [ad_oA]))
  cases Option.some.inj (hc1.symm.trans hfound)
  cases Option.some.inj (hkX.symm.trans hk)
  have hsel0 : selectMethod e.platform s.vm P1.m.cls T.fill0 = .method T.fill0 := by
    obtain ⟨c2, r2, m2, q1, q2, q3, q4, -⟩ := Cond.selects_spec (a' (.selects cls Bundle.tFill0 Bundle.tFill0) (by simp [ad_oA]))
    cases Option.some.inj (q1.symm.trans hfound)
    cases Option.some.inj (q2.symm.trans (State.methodFound?_of_named Y.fill0 (by decide)))
    cases Option.some.inj (q3.symm.trans Y.fill0)
    rw [Launch.admits_selectMethod X.admits]; exact q4
  have hselF : selectMethod e.platform s.vm P1.m.cls T.fill = .method T.fill := by
    obtain ⟨c2, r2, m2, q1, q2, q3, q4, -⟩ := Cond.selects_spec (a' (.selects cls Bundle.tFill Bundle.tFill) (by simp [ad_oA]))
    cases Option.some.inj (q1.symm.trans hfound)
    cases Option.some.inj (q2.symm.trans (State.methodFound?_of_named Y.fill (by decide)))
    cases Option.some.inj (q3.symm.trans Y.fill)
    rw [Launch.admits_selectMethod X.admits]; exact q4
  obtain ⟨cellS0, hcS0, hiss⟩ := Y.statics
  obtain ⟨u0, hu0⟩ := Cond.staticRefV Y.unassigned L.unassignedStatic L.statics hcS0 hiss (a' (.isRef (.static Bundle.tN "UNASSIGNED_STACK" Bundle.steD)) (by simp [ad_oA]))
  obtain ⟨sen, hsen⟩ := Cond.staticRefV Y.sentinel L.sentinelStatic L.statics hcS0 hiss (a' (.isRef (.static Bundle.tN "SUPPRESSED_SENTINEL" Bundle.listD)) (by simp [ad_oA]))
  obtain ⟨ci198, i198, fB, hk198, hg198, ha198, hsB, -, hnB, htB, hffB⟩ := Cond.ownField (t := .object "java/lang/Object") Y.found L.cls (by decide +kernel) (a' (.fieldLink Bundle.tN 198 Bundle.tN "backtrace" "Ljava/lang/Object;") (by simp [ad_oA])) (a' (.lays Bundle.tN Bundle.tN "backtrace" "Ljava/lang/Object;") (by simp [ad_oA])) e.platform hpl
  obtain ⟨cellS, hcS', heS, -, hkeep⟩ := X.same.2.2.2.2.2 T.aS cellS0 hcS0
  have hcellS : T'.heap[T.aS]? = some cellS := hcS'
  have hout' : ∀ i, (⟨T.aS, i⟩ : Loc) ∉ locs := fun i hmem => by
    have := hlocs _ hmem cellS0 hcS0
    rw [hiss] at this; cases this
  have hknownS : cellS.vm ≠ .unknown := by
    rw [heS]; intro hu
    rw [show cellS0.vm = .unknown from hu] at hiss
    cases hiss
  have hneS : T.aS ≠ a := Nat.ne_of_lt (Nat.lt_of_lt_of_le (Array.getElem?_eq_some_iff.mp hcS0).1 hnew)
  obtain ⟨iM, hffM⟩ := Y.msg
  obtain ⟨tyC, dC, hdC, hdnC⟩ := Cond.laysAt hfound hk Y.cause (a' (.lays cls Bundle.tN "cause" "Ljava/lang/Throwable;") (by simp [ad_oA]))
  obtain ⟨tyS, dS, hdS, hdnS⟩ := Cond.laysAt hfound hk Y.stack (a' (.lays cls Bundle.tN "stackTrace" Bundle.steD) (by simp [ad_oA]))
  obtain ⟨tyP, dP, hdP, hdnP⟩ := Cond.laysAt hfound hk Y.supp (a' (.lays cls Bundle.tN "suppressedExceptions" Bundle.listD) (by simp [ad_oA]))
  obtain ⟨tyM, dM, hdM, hdnM⟩ := Cond.laysAt hfound hk hffM (a' (.lays cls Bundle.tN "detailMessage" "Ljava/lang/String;") (by simp [ad_oA]))
  obtain ⟨tyB, dB, hdB, hdnB⟩ := Cond.laysAt hfound hk hffB (a' (.lays cls Bundle.tN "backtrace" "Ljava/lang/Object;") (by simp [ad_oA]))
  have bC := Cond.laysApart hdB hdC hdnB hdnC (by rw [hnB, Y.causeName]; decide)
  have bS := Cond.laysApart hdB hdS hdnB hdnS (by rw [hnB, Y.stackName]; decide)
  have bP := Cond.laysApart hdB hdP hdnB hdnP (by rw [hnB, Y.suppName]; decide)
  have hskip : SkipFacts T e.platform s (fun u => u) u0 ((preparedCellV T.toThrowableT (freshCell P1.m.cls kX) a u0 sen).withEntry T'.cur) :=
    ⟨{ ci198 := ci198, i198 := i198, fBack := fB }, ⟨hk198, hg198, ha198, hsB⟩, by
      have := fresh_default (c := P1.m.cls) tyB
      rw [htB] at this
      simpa [preparedCellV, Cell.setSlot, Cell.withEntry, Array.getElem?_setIfInBounds, bC, bS, bP, bC.symm, bS.symm, bP.symm, defaultValue] using this, fun _ _ => rfl⟩
  obtain ⟨tm, methC, cdC, kC, vm₁, hnC, -, -, -, -, -, -, -, hW₁, st1⟩ := Steps.initColdS (tb := p.tables) (e := e) (below := below) (s := s) (U := T') X.here hexec X.warmed hpl hown (t := Bundle.initS cls) rfl rfl (Bundle.fit_spec hcls).2
    (a' (.methodLink own ic (Bundle.initS cls)) (by simp [ad_oA])) (h (.instanceMethod (Bundle.initS cls)) (by simp [ad_oA, Bundle.passSAtoms])) (bytes := bx) (maxL := 2) (h (.code (Bundle.initS cls) bx 2 none) (by simp [ad_oA, Bundle.passSAtoms]))
    (f := g) hg (a := a) (msg := msg) (rest := rest) hstack hd6
  cases Option.some.inj (hnC.symm.trans hP1m)
  have X₁ := X.noted hW₁
  obtain ⟨vm₂, X₂, st2⟩ := X₁.ctorMessageOffV hexec (g := { g with stack := rest }) hg hsize T L Z LZ M LM (P1 :: P2 :: Ps)
    (fun P hP => by rcases List.mem_cons.mp hP with rfl | hP; exact L1; rcases List.mem_cons.mp hP with rfl | hP; exact L2; exact hL P hP) ⟨h12, hlink2, hlink⟩ (u0 := u0) (sen := sen) (self := a) hmsg (cell := freshCell P1.m.cls kX) (cellS := cellS)
    hcell (fun _ => by simp) (by simp) rfl rfl hsel0 hselF hcellS hneS hknownS (by rw [hkeep _ (hout' _)]; exact hu0) (by rw [hkeep _ (hout' _)]; exact hsen)
    (Takes.of_laid hk hord tyC (by rw [Y.causeType]; rfl)) (Takes.of_laid hk hord tyS (by rw [Y.stackType]; exact fits_refV_array _ u0)) (Takes.of_laid hk hord tyP (by rw [Y.suppType]; exact fits_refV_object _ sen))
    (Takes.of_laid hk hord tyM (by rw [Y.msgType]; exact fits_refV_object _ ⟨msg, hmsg⟩)) Y.objLocals hskip htr [] hd6
    (by simp only [List.length_cons, hlen]; omega) (by simp only [List.length_cons, hlen]; omega)
  refine ⟨vm₂, plainBareV T.toThrowableT (freshCell P1.m.cls kX) a u0 sen msg, _, rfl, rfl, ?_, X₂, fun target ht => st1 target (fun acts => ?_)⟩
  · intro x hx
    simp only [List.mem_cons, List.not_mem_nil, or_false] at hx
    rcases hx with rfl | rfl | rfl | rfl | rfl <;> rfl
  · rw [doInvoke_state]
    exact st2 target ht
variable {cc : ByteArray} {nL pc : Nat} {ls : Array Slot} {rest st : List Value} {own : String} {y : MethodName} {rt : Option FieldType} {hs : List (Nat × Nat × Nat × Nat)} {mc ms : Nat}
theorem ad_athrow (hexec : p.tables.exec = Jvm.exec) (hb : c.code = cc) {a : Addr} (hdg : decode cc pc = .ok (.athrow, 1)) (k : ad_WT p l e R s m args below meth c H locs cells slots Q (F0 m pc ls rest) a) : W p l e R s m args below meth c H locs cells slots Q (F0 m pc ls (.ref a :: rest)) := by
  intro T hT X
  obtain ⟨t, a1, b1⟩ := k T hT X
  refine ⟨t, ?_, b1⟩
  subst hb
  jvm_step X.here [hexec, hdg, athrow.wp_sem]
  exact a1
/-- 'throw new X("..")' where nothing has been written yet: new at pc, dup, ldc, invokespecial, athrow -/
theorem ad_thr (S : CallFix p m c cc nL s args ad_T own) (hl : l.stackTraces = false) {X Yn : String} {names : List String} {i0 i4 ic ix q : Nat} {bx : ByteArray} {tx : String}
    (hclk : Cond.classLink own i0 X ∈ ad_T) (hinst : Cond.instantiable X 6 ∈ ad_T) (hini : Cond.initialized X ∈ ad_T) (hstr : vk_R own i4 tx q s) (hat : ∀ a ∈ ad_oA own ic X Yn ix bx names, a.before args s = true) (hcls : Bundle.fit X = true) (hYn : Bundle.fit Yn = true) (hnames : ∀ n ∈ names, Bundle.fit n = true)
    (k0 : decode bx 0 = .ok (.aload_n 0, 1)) (k1 : decode bx 1 = .ok (.aload_n 1, 1)) (k2 : decode bx 2 = .ok (.invokespecial ix, 3)) (k5 : decode bx 5 = .ok (.return_, 1)) (hls : ls.size = nL)
    (d0 : decode cc pc = .ok (.new i0, 3)) (d3 : decode cc (pc + 3) = .ok (.dup, 1)) (d4 : decode cc (pc + 3 + 1) = .ok (.ldc i4, 2)) (d6 : decode cc (pc + 3 + 1 + 2) = .ok (.invokespecial ic, 3)) (d9 : decode cc (pc + 3 + 1 + 2 + 3) = .ok (.athrow, 1))
    (hRf : names.length + 4 < R.frames) (hRl : (st.map fun v => v.category).sum + 1 + (13 * (names.length + 2) + 42) ≤ R.locals) (hRc : 1 ≤ R.cells) (hRs : 6 ≤ R.slots)
    (k : ∀ (H1 : Heap) (cell : Cell), s.heap.size ≤ H1.size → (∀ q : Nat, q < s.heap.size → H1[q]? = s.heap[q]?) → H1[s.heap.size]? = some cell → cell.vm = .none → s.vm.findClass X = some cell.cls → ad_WT p l e R s m args below meth c H1 [] 1 6 Q (F0 m (pc + 3 + 1 + 2 + 3) ls st) s.heap.size) :
    W p l e R s m args below meth c s.heap [] 0 0 Q (F0 m pc ls st) := by
  obtain ⟨hx, hb, hml, hown, hts⟩ := S
  refine W.newc hx hb hown (hts _ hclk) (hts _ hinst) (hts _ hini) rfl d0 (by omega) (by omega) fun cX kX hfX hkX hord hn6 => ?_
  refine W.eq (g2 := F0 m (pc + 3) ls (.ref s.heap.size :: st)) rfl ?_
  refine lv_dup hx hb d3 rfl ?_
  refine va_ldcS hx hb hown hstr d4 ?_
  intro T hT X0
  have htr : e.platform.stackTraces = false := by
    have h := X0.admits.2.2.2.2.1
    rw [h]
    exact hl
  have hcell : T.heap[s.heap.size]? = some (freshCell cX kX) := by
    rw [hT]
    simp [freshCell]
  obtain ⟨vm', ce, L, e1, e2, e3, X1, st1⟩ := ad_ctorS X0 hx htr hown hcls hYn hnames k0 k1 k2 k5 hat (fun y hy => by cases hy) hfX hkX hcell (Nat.le_refl _) (msg := .ref q) rfl (g := F0 m (pc + 3 + 1 + 2) ls (.ref q :: .ref s.heap.size :: .ref s.heap.size :: st)) rfl (hls.trans hml.symm) (rest := .ref s.heap.size :: st) rfl (by rw [hb]; exact d6) hRf (by
      show 2 * 0 + ((Value.ref s.heap.size).category + (st.map fun v => v.category).sum) + _ ≤ _
      have : (Value.ref s.heap.size).category = 1 := rfl
      omega)
  have hz : T.heap.size = s.heap.size + 1 := by rw [hT]; simp
  have X2 := Stand.forget (locs := []) X1 (fun q hq => by rw [e3 q hq]; exact Nat.le_refl _)
  obtain ⟨t, a1, b1⟩ := ad_athrow (rest := st) hx hb d9 (k ((T.setVm vm').setCell s.heap.size ce).heap ce (by rw [size_setCell]; show _ ≤ T.heap.size; omega) (fun q hq => by
      rw [heapAt_setCell_ne _ (Nat.ne_of_gt hq)]
      show T.heap[q]? = _
      rw [hT]
      simp [Array.getElem?_push, Nat.ne_of_lt hq]) (heapAt_setCell_self _ (by show _ < T.heap.size; omega)) e2 (by rw [e1]; exact hfX)) _ rfl X2
  exact ⟨t, st1 t a1, b1⟩
end ADN
def ad_ex : List Cond := [.laysStatic "java/lang/Throwable" "UNASSIGNED_STACK" "[Ljava/lang/StackTraceElement;", .laysStatic "java/lang/Throwable" "SUPPRESSED_SENTINEL" "Ljava/util/List;", .isRef (.static "java/lang/Throwable" "UNASSIGNED_STACK" "[Ljava/lang/StackTraceElement;"), .isRef (.static "java/lang/Throwable" "SUPPRESSED_SENTINEL" "Ljava/util/List;")]
theorem ad_lsA {o n d : String} {A : Array Value} {s : State} (h : (Cond.laysStatic o n d).before #[] s = true) : (Cond.laysStatic o n d).before A s = true := by
  simp only [Cond.before, Cond.holds, Cond.value] at h ⊢
  exact h
theorem ad_isr {o n d : String} {A : Array Value} {lo : Nat} {s : State} (h : va_Zq o n d (fun q => lo ≤ q) s s.heap) : (Cond.isRef (.static o n d)).before A s = true := by
  rcases h with ⟨cf, kf, fi, f, a, cell, e1, e2, e3, e4, e5, e6, e7, e8⟩ | ⟨t, cf, kf, fi, f, a, cell, e1, e2, e3, e4, e5, e6, e7, e8⟩
  · simp [Cond.before, Cond.holds, Cond.value, Term.eval, State.fieldNamed?, e1, e2, e4, e5, e6, e7]
  · simp [Cond.before, Cond.holds, Cond.value, Term.eval, State.fieldNamed?, e1, e2, e4, e5, e6, e7]
theorem ad_hat {G : ad_G} {lo : Nat} {s : State} {A : Array Value} (hB : ad_B G lo s) (hts : ∀ w ∈ ad_T, w.before A s = true) {L : List Cond} (h : ∀ a ∈ L, a ∈ ad_T ∨ a ∈ ad_ex) : ∀ a ∈ L, a.before A s = true := by
  intro a ha
  rcases h a ha with h1 | h1
  · exact hts a h1
  · obtain ⟨-, -, g1, g2, l1, l2, -⟩ := hB
    simp only [ad_ex, List.mem_cons, List.not_mem_nil, or_false] at h1
    rcases h1 with rfl | rfl | rfl | rfl
    · exact ad_lsA l1
    · exact ad_lsA l2
    · exact ad_isr g1
    · exact ad_isr g2
theorem at_NSE : ∀ a ∈ ad_oA "AuditDraws" 192 "java/util/NoSuchElementException" "java/lang/RuntimeException" 13 prog_25_method_4_code ["java/lang/Exception"], a ∈ ad_T ∨ a ∈ ad_ex := by decide +kernel
theorem at_ISE : ∀ a ∈ ad_oA "AuditDraws" 52 "java/lang/IllegalStateException" "java/lang/RuntimeException" 7 prog_12_method_2_code ["java/lang/Exception"], a ∈ ad_T ∨ a ∈ ad_ex := by decide +kernel
theorem at_IAE : ∀ a ∈ ad_oA "AuditDraws" 68 "java/lang/IllegalArgumentException" "java/lang/RuntimeException" 7 prog_11_method_2_code ["java/lang/Exception"], a ∈ ad_T ∨ a ∈ ad_ex := by decide +kernel
end
section
theorem d_A_init_0 : decode b_A_init 0 = .ok (.aload_n 0, 1) := by decide +kernel
theorem d_A_init_1 : decode b_A_init 1 = .ok (.invokespecial 1, 3) := by decide +kernel
theorem d_A_init_4 : decode b_A_init 4 = .ok (.aload_n 0, 1) := by decide +kernel
theorem d_A_init_5 : decode b_A_init 5 = .ok (.new 7, 3) := by decide +kernel
theorem d_A_init_8 : decode b_A_init 8 = .ok (.dup, 1) := by decide +kernel
theorem d_A_init_9 : decode b_A_init 9 = .ok (.invokespecial 9, 3) := by decide +kernel
theorem d_A_init_12 : decode b_A_init 12 = .ok (.putfield 10, 3) := by decide +kernel
theorem d_A_init_15 : decode b_A_init 15 = .ok (.aload_n 0, 1) := by decide +kernel
theorem d_A_init_16 : decode b_A_init 16 = .ok (.new 16, 3) := by decide +kernel
theorem d_A_init_19 : decode b_A_init 19 = .ok (.dup, 1) := by decide +kernel
theorem d_A_init_20 : decode b_A_init 20 = .ok (.invokespecial 18, 3) := by decide +kernel
theorem d_A_init_23 : decode b_A_init 23 = .ok (.putfield 19, 3) := by decide +kernel
theorem d_A_init_26 : decode b_A_init 26 = .ok (.aload_n 0, 1) := by decide +kernel
theorem d_A_init_27 : decode b_A_init 27 = .ok (.new 16, 3) := by decide +kernel
theorem d_A_init_30 : decode b_A_init 30 = .ok (.dup, 1) := by decide +kernel
theorem d_A_init_31 : decode b_A_init 31 = .ok (.invokespecial 18, 3) := by decide +kernel
theorem d_A_init_34 : decode b_A_init 34 = .ok (.putfield 23, 3) := by decide +kernel
theorem d_A_init_37 : decode b_A_init 37 = .ok (.aload_n 0, 1) := by decide +kernel
theorem d_A_init_38 : decode b_A_init 38 = .ok (.new 16, 3) := by decide +kernel
theorem d_A_init_41 : decode b_A_init 41 = .ok (.dup, 1) := by decide +kernel
theorem d_A_init_42 : decode b_A_init 42 = .ok (.invokespecial 18, 3) := by decide +kernel
theorem d_A_init_45 : decode b_A_init 45 = .ok (.putfield 26, 3) := by decide +kernel
theorem d_A_init_48 : decode b_A_init 48 = .ok (.aload_n 0, 1) := by decide +kernel
theorem d_A_init_49 : decode b_A_init 49 = .ok (.bipush 6, 2) := by decide +kernel
theorem d_A_init_51 : decode b_A_init 51 = .ok (.newarray .int, 2) := by decide +kernel
theorem d_A_init_53 : decode b_A_init 53 = .ok (.putfield 29, 3) := by decide +kernel
theorem d_A_init_56 : decode b_A_init 56 = .ok (.aload_n 0, 1) := by decide +kernel
theorem d_A_init_57 : decode b_A_init 57 = .ok (.bipush 6, 2) := by decide +kernel
theorem d_A_init_59 : decode b_A_init 59 = .ok (.newarray .int, 2) := by decide +kernel
theorem d_A_init_61 : decode b_A_init 61 = .ok (.putfield 33, 3) := by decide +kernel
theorem d_A_init_64 : decode b_A_init 64 = .ok (.return_, 1) := by decide +kernel
theorem d_D_init_0 : decode b_D_init 0 = .ok (.aload_n 0, 1) := by decide +kernel
theorem d_D_init_1 : decode b_D_init 1 = .ok (.invokespecial 1, 3) := by decide +kernel
theorem d_D_init_4 : decode b_D_init 4 = .ok (.aload_n 0, 1) := by decide +kernel
theorem d_D_init_5 : decode b_D_init 5 = .ok (.lconst 0, 1) := by decide +kernel
theorem d_D_init_6 : decode b_D_init 6 = .ok (.putfield 7, 3) := by decide +kernel
theorem d_D_init_9 : decode b_D_init 9 = .ok (.return_, 1) := by decide +kernel
theorem d_A_seed_0 : decode b_A_seed 0 = .ok (.aload_n 0, 1) := by decide +kernel
theorem d_A_seed_1 : decode b_A_seed 1 = .ok (.getfield 10, 3) := by decide +kernel
theorem d_A_seed_4 : decode b_A_seed 4 = .ok (.lload_n 1, 1) := by decide +kernel
theorem d_A_seed_5 : decode b_A_seed 5 = .ok (.putfield 36, 3) := by decide +kernel
theorem d_A_seed_8 : decode b_A_seed 8 = .ok (.return_, 1) := by decide +kernel
theorem d_A_thing_0 : decode b_A_thing 0 = .ok (.iload_n 1, 1) := by decide +kernel
theorem d_A_thing_1 : decode b_A_thing 1 = .ok (.bipush 6, 2) := by decide +kernel
theorem d_A_thing_3 : decode b_A_thing 3 = .ok (.invokestatic 40, 3) := by decide +kernel
theorem d_A_thing_6 : decode b_A_thing 6 = .ok (.iload_n 2, 1) := by decide +kernel
theorem d_A_thing_7 : decode b_A_thing 7 = .ok (.bipush 16, 2) := by decide +kernel
theorem d_A_thing_9 : decode b_A_thing 9 = .ok (.invokestatic 40, 3) := by decide +kernel
theorem d_A_thing_12 : decode b_A_thing 12 = .ok (.aload_n 0, 1) := by decide +kernel
theorem d_A_thing_13 : decode b_A_thing 13 = .ok (.getfield 19, 3) := by decide +kernel
theorem d_A_thing_16 : decode b_A_thing 16 = .ok (.invokevirtual 44, 3) := by decide +kernel
theorem d_A_thing_19 : decode b_A_thing 19 = .ok (.bipush 64, 2) := by decide +kernel
theorem d_A_thing_21 : decode b_A_thing 21 = .ok (.if_icmp .lt 13, 3) := by decide +kernel
theorem d_A_thing_24 : decode b_A_thing 24 = .ok (.new 48, 3) := by decide +kernel
theorem d_A_thing_27 : decode b_A_thing 27 = .ok (.dup, 1) := by decide +kernel
theorem d_A_thing_28 : decode b_A_thing 28 = .ok (.ldc 50, 2) := by decide +kernel
theorem d_A_thing_30 : decode b_A_thing 30 = .ok (.invokespecial 52, 3) := by decide +kernel
theorem d_A_thing_33 : decode b_A_thing 33 = .ok (.athrow, 1) := by decide +kernel
theorem d_A_thing_34 : decode b_A_thing 34 = .ok (.aload_n 0, 1) := by decide +kernel
theorem d_A_thing_35 : decode b_A_thing 35 = .ok (.getfield 19, 3) := by decide +kernel
theorem d_A_thing_38 : decode b_A_thing 38 = .ok (.invokevirtual 44, 3) := by decide +kernel
theorem d_A_thing_41 : decode b_A_thing 41 = .ok (.istore_n 3, 1) := by decide +kernel
theorem d_A_thing_42 : decode b_A_thing 42 = .ok (.aload_n 0, 1) := by decide +kernel
theorem d_A_thing_43 : decode b_A_thing 43 = .ok (.getfield 19, 3) := by decide +kernel
theorem d_A_thing_46 : decode b_A_thing 46 = .ok (.new 55, 3) := by decide +kernel
theorem d_A_thing_49 : decode b_A_thing 49 = .ok (.dup, 1) := by decide +kernel
theorem d_A_thing_50 : decode b_A_thing 50 = .ok (.iload_n 3, 1) := by decide +kernel
theorem d_A_thing_51 : decode b_A_thing 51 = .ok (.iload_n 1, 1) := by decide +kernel
theorem d_A_thing_52 : decode b_A_thing 52 = .ok (.iload_n 2, 1) := by decide +kernel
theorem d_A_thing_53 : decode b_A_thing 53 = .ok (.invokespecial 57, 3) := by decide +kernel
theorem d_A_thing_56 : decode b_A_thing 56 = .ok (.invokevirtual 60, 3) := by decide +kernel
theorem d_A_thing_59 : decode b_A_thing 59 = .ok (.pop, 1) := by decide +kernel
theorem d_A_thing_60 : decode b_A_thing 60 = .ok (.iload_n 3, 1) := by decide +kernel
theorem d_A_thing_61 : decode b_A_thing 61 = .ok (.ireturn, 1) := by decide +kernel
theorem d_A_needBelow_0 : decode b_A_needBelow 0 = .ok (.iload_n 0, 1) := by decide +kernel
theorem d_A_needBelow_1 : decode b_A_needBelow 1 = .ok (.ifCond .lt 8, 3) := by decide +kernel
theorem d_A_needBelow_4 : decode b_A_needBelow 4 = .ok (.iload_n 0, 1) := by decide +kernel
theorem d_A_needBelow_5 : decode b_A_needBelow 5 = .ok (.iload_n 1, 1) := by decide +kernel
theorem d_A_needBelow_6 : decode b_A_needBelow 6 = .ok (.if_icmp .lt 13, 3) := by decide +kernel
theorem d_A_needBelow_9 : decode b_A_needBelow 9 = .ok (.new 188, 3) := by decide +kernel
theorem d_A_needBelow_12 : decode b_A_needBelow 12 = .ok (.dup, 1) := by decide +kernel
theorem d_A_needBelow_13 : decode b_A_needBelow 13 = .ok (.ldc 190, 2) := by decide +kernel
theorem d_A_needBelow_15 : decode b_A_needBelow 15 = .ok (.invokespecial 192, 3) := by decide +kernel
theorem d_A_needBelow_18 : decode b_A_needBelow 18 = .ok (.athrow, 1) := by decide +kernel
theorem d_A_needBelow_19 : decode b_A_needBelow 19 = .ok (.return_, 1) := by decide +kernel
theorem d_T_init_0 : decode b_T_init 0 = .ok (.aload_n 0, 1) := by decide +kernel
theorem d_T_init_1 : decode b_T_init 1 = .ok (.invokespecial 3, 3) := by decide +kernel
theorem d_T_init_4 : decode b_T_init 4 = .ok (.aload_n 0, 1) := by decide +kernel
theorem d_T_init_5 : decode b_T_init 5 = .ok (.new 9, 3) := by decide +kernel
theorem d_T_init_8 : decode b_T_init 8 = .ok (.dup, 1) := by decide +kernel
theorem d_T_init_9 : decode b_T_init 9 = .ok (.invokespecial 11, 3) := by decide +kernel
theorem d_T_init_12 : decode b_T_init 12 = .ok (.putfield 12, 3) := by decide +kernel
theorem d_T_init_15 : decode b_T_init 15 = .ok (.aload_n 0, 1) := by decide +kernel
theorem d_T_init_16 : decode b_T_init 16 = .ok (.iconst (-1), 1) := by decide +kernel
theorem d_T_init_17 : decode b_T_init 17 = .ok (.putfield 18, 3) := by decide +kernel
theorem d_T_init_20 : decode b_T_init 20 = .ok (.aload_n 0, 1) := by decide +kernel
theorem d_T_init_21 : decode b_T_init 21 = .ok (.iconst 0, 1) := by decide +kernel
theorem d_T_init_22 : decode b_T_init 22 = .ok (.putfield 22, 3) := by decide +kernel
theorem d_T_init_25 : decode b_T_init 25 = .ok (.aload_n 0, 1) := by decide +kernel
theorem d_T_init_26 : decode b_T_init 26 = .ok (.iload_n 1, 1) := by decide +kernel
theorem d_T_init_27 : decode b_T_init 27 = .ok (.putfield 25, 3) := by decide +kernel
theorem d_T_init_30 : decode b_T_init 30 = .ok (.aload_n 0, 1) := by decide +kernel
theorem d_T_init_31 : decode b_T_init 31 = .ok (.iload_n 2, 1) := by decide +kernel
theorem d_T_init_32 : decode b_T_init 32 = .ok (.putfield 28, 3) := by decide +kernel
theorem d_T_init_35 : decode b_T_init 35 = .ok (.aload_n 0, 1) := by decide +kernel
theorem d_T_init_36 : decode b_T_init 36 = .ok (.iload_n 3, 1) := by decide +kernel
theorem d_T_init_37 : decode b_T_init 37 = .ok (.putfield 31, 3) := by decide +kernel
theorem d_T_init_40 : decode b_T_init 40 = .ok (.return_, 1) := by decide +kernel
theorem d_A_list_0 : decode b_A_list 0 = .ok (.iload_n 1, 1) := by decide +kernel
theorem d_A_list_1 : decode b_A_list 1 = .ok (.ifCond .lt 14, 3) := by decide +kernel
theorem d_A_list_4 : decode b_A_list 4 = .ok (.iload_n 1, 1) := by decide +kernel
theorem d_A_list_5 : decode b_A_list 5 = .ok (.aload_n 0, 1) := by decide +kernel
theorem d_A_list_6 : decode b_A_list 6 = .ok (.getfield 19, 3) := by decide +kernel
theorem d_A_list_9 : decode b_A_list 9 = .ok (.invokevirtual 44, 3) := by decide +kernel
theorem d_A_list_12 : decode b_A_list 12 = .ok (.if_icmp .le 13, 3) := by decide +kernel
theorem d_A_list_15 : decode b_A_list 15 = .ok (.new 64, 3) := by decide +kernel
theorem d_A_list_18 : decode b_A_list 18 = .ok (.dup, 1) := by decide +kernel
theorem d_A_list_19 : decode b_A_list 19 = .ok (.ldc 66, 2) := by decide +kernel
theorem d_A_list_21 : decode b_A_list 21 = .ok (.invokespecial 68, 3) := by decide +kernel
theorem d_A_list_24 : decode b_A_list 24 = .ok (.athrow, 1) := by decide +kernel
theorem d_A_list_25 : decode b_A_list 25 = .ok (.aload_n 0, 1) := by decide +kernel
theorem d_A_list_26 : decode b_A_list 26 = .ok (.invokevirtual 69, 3) := by decide +kernel
theorem d_A_list_29 : decode b_A_list 29 = .ok (.aload_n 0, 1) := by decide +kernel
theorem d_A_list_30 : decode b_A_list 30 = .ok (.iload_n 1, 1) := by decide +kernel
theorem d_A_list_31 : decode b_A_list 31 = .ok (.invokevirtual 72, 3) := by decide +kernel
theorem d_A_list_34 : decode b_A_list 34 = .ok (.iconst 0, 1) := by decide +kernel
theorem d_A_list_35 : decode b_A_list 35 = .ok (.istore_n 2, 1) := by decide +kernel
theorem d_A_list_36 : decode b_A_list 36 = .ok (.iload_n 2, 1) := by decide +kernel
theorem d_A_list_37 : decode b_A_list 37 = .ok (.bipush 6, 2) := by decide +kernel
theorem d_A_list_39 : decode b_A_list 39 = .ok (.if_icmp .ge 24, 3) := by decide +kernel
theorem d_A_list_42 : decode b_A_list 42 = .ok (.aload_n 0, 1) := by decide +kernel
theorem d_A_list_43 : decode b_A_list 43 = .ok (.iload_n 2, 1) := by decide +kernel
theorem d_A_list_44 : decode b_A_list 44 = .ok (.invokevirtual 76, 3) := by decide +kernel
theorem d_A_list_47 : decode b_A_list 47 = .ok (.aload_n 0, 1) := by decide +kernel
theorem d_A_list_48 : decode b_A_list 48 = .ok (.aload_n 0, 1) := by decide +kernel
theorem d_A_list_49 : decode b_A_list 49 = .ok (.getfield 29, 3) := by decide +kernel
theorem d_A_list_52 : decode b_A_list 52 = .ok (.iload_n 2, 1) := by decide +kernel
theorem d_A_list_53 : decode b_A_list 53 = .ok (.iaload, 1) := by decide +kernel
theorem d_A_list_54 : decode b_A_list 54 = .ok (.invokevirtual 79, 3) := by decide +kernel
theorem d_A_list_57 : decode b_A_list 57 = .ok (.iinc 2 1, 3) := by decide +kernel
theorem d_A_list_60 : decode b_A_list 60 = .ok (.goto (-24), 3) := by decide +kernel
theorem d_A_list_63 : decode b_A_list 63 = .ok (.aload_n 0, 1) := by decide +kernel
theorem d_A_list_64 : decode b_A_list 64 = .ok (.getfield 23, 3) := by decide +kernel
theorem d_A_list_67 : decode b_A_list 67 = .ok (.invokevirtual 44, 3) := by decide +kernel
theorem d_A_list_70 : decode b_A_list 70 = .ok (.ireturn, 1) := by decide +kernel
theorem d_A_forgetLatest_0 : decode b_A_forgetLatest 0 = .ok (.iconst 0, 1) := by decide +kernel
theorem d_A_forgetLatest_1 : decode b_A_forgetLatest 1 = .ok (.istore_n 1, 1) := by decide +kernel
theorem d_A_forgetLatest_2 : decode b_A_forgetLatest 2 = .ok (.iload_n 1, 1) := by decide +kernel
theorem d_A_forgetLatest_3 : decode b_A_forgetLatest 3 = .ok (.aload_n 0, 1) := by decide +kernel
theorem d_A_forgetLatest_4 : decode b_A_forgetLatest 4 = .ok (.getfield 23, 3) := by decide +kernel
theorem d_A_forgetLatest_7 : decode b_A_forgetLatest 7 = .ok (.invokevirtual 44, 3) := by decide +kernel
theorem d_A_forgetLatest_10 : decode b_A_forgetLatest 10 = .ok (.if_icmp .ge 24, 3) := by decide +kernel
theorem d_A_forgetLatest_13 : decode b_A_forgetLatest 13 = .ok (.aload_n 0, 1) := by decide +kernel
theorem d_A_forgetLatest_14 : decode b_A_forgetLatest 14 = .ok (.getfield 23, 3) := by decide +kernel
theorem d_A_forgetLatest_17 : decode b_A_forgetLatest 17 = .ok (.iload_n 1, 1) := by decide +kernel
theorem d_A_forgetLatest_18 : decode b_A_forgetLatest 18 = .ok (.invokevirtual 82, 3) := by decide +kernel
theorem d_A_forgetLatest_21 : decode b_A_forgetLatest 21 = .ok (.checkcast 55, 3) := by decide +kernel
theorem d_A_forgetLatest_24 : decode b_A_forgetLatest 24 = .ok (.iconst (-1), 1) := by decide +kernel
theorem d_A_forgetLatest_25 : decode b_A_forgetLatest 25 = .ok (.putfield 101, 3) := by decide +kernel
theorem d_A_forgetLatest_28 : decode b_A_forgetLatest 28 = .ok (.iinc 1 1, 3) := by decide +kernel
theorem d_A_forgetLatest_31 : decode b_A_forgetLatest 31 = .ok (.goto (-29), 3) := by decide +kernel
theorem d_A_forgetLatest_34 : decode b_A_forgetLatest 34 = .ok (.aload_n 0, 1) := by decide +kernel
theorem d_A_forgetLatest_35 : decode b_A_forgetLatest 35 = .ok (.getfield 23, 3) := by decide +kernel
theorem d_A_forgetLatest_38 : decode b_A_forgetLatest 38 = .ok (.invokevirtual 166, 3) := by decide +kernel
theorem d_A_forgetLatest_41 : decode b_A_forgetLatest 41 = .ok (.return_, 1) := by decide +kernel
theorem d_A_shareOut_0 : decode b_A_shareOut 0 = .ok (.iload_n 1, 1) := by decide +kernel
theorem d_A_shareOut_1 : decode b_A_shareOut 1 = .ok (.istore_n 2, 1) := by decide +kernel
theorem d_A_shareOut_2 : decode b_A_shareOut 2 = .ok (.iconst 0, 1) := by decide +kernel
theorem d_A_shareOut_3 : decode b_A_shareOut 3 = .ok (.istore_n 3, 1) := by decide +kernel
theorem d_A_shareOut_4 : decode b_A_shareOut 4 = .ok (.iload_n 3, 1) := by decide +kernel
theorem d_A_shareOut_5 : decode b_A_shareOut 5 = .ok (.bipush 6, 2) := by decide +kernel
theorem d_A_shareOut_7 : decode b_A_shareOut 7 = .ok (.if_icmp .ge 24, 3) := by decide +kernel
theorem d_A_shareOut_10 : decode b_A_shareOut 10 = .ok (.aload_n 0, 1) := by decide +kernel
theorem d_A_shareOut_11 : decode b_A_shareOut 11 = .ok (.iload_n 3, 1) := by decide +kernel
theorem d_A_shareOut_12 : decode b_A_shareOut 12 = .ok (.iload_n 1, 1) := by decide +kernel
theorem d_A_shareOut_13 : decode b_A_shareOut 13 = .ok (.invokevirtual 169, 3) := by decide +kernel
theorem d_A_shareOut_16 : decode b_A_shareOut 16 = .ok (.iload_n 2, 1) := by decide +kernel
theorem d_A_shareOut_17 : decode b_A_shareOut 17 = .ok (.aload_n 0, 1) := by decide +kernel
theorem d_A_shareOut_18 : decode b_A_shareOut 18 = .ok (.getfield 29, 3) := by decide +kernel
theorem d_A_shareOut_21 : decode b_A_shareOut 21 = .ok (.iload_n 3, 1) := by decide +kernel
theorem d_A_shareOut_22 : decode b_A_shareOut 22 = .ok (.iaload, 1) := by decide +kernel
theorem d_A_shareOut_23 : decode b_A_shareOut 23 = .ok (.isub, 1) := by decide +kernel
theorem d_A_shareOut_24 : decode b_A_shareOut 24 = .ok (.istore_n 2, 1) := by decide +kernel
theorem d_A_shareOut_25 : decode b_A_shareOut 25 = .ok (.iinc 3 1, 3) := by decide +kernel
theorem d_A_shareOut_28 : decode b_A_shareOut 28 = .ok (.goto (-24), 3) := by decide +kernel
theorem d_A_shareOut_31 : decode b_A_shareOut 31 = .ok (.iconst 0, 1) := by decide +kernel
theorem d_A_shareOut_32 : decode b_A_shareOut 32 = .ok (.istore_n 3, 1) := by decide +kernel
theorem d_A_shareOut_33 : decode b_A_shareOut 33 = .ok (.iload_n 3, 1) := by decide +kernel
theorem d_A_shareOut_34 : decode b_A_shareOut 34 = .ok (.iload_n 2, 1) := by decide +kernel
theorem d_A_shareOut_35 : decode b_A_shareOut 35 = .ok (.if_icmp .ge 19, 3) := by decide +kernel
theorem d_A_shareOut_38 : decode b_A_shareOut 38 = .ok (.iload_n 3, 1) := by decide +kernel
theorem d_A_shareOut_39 : decode b_A_shareOut 39 = .ok (.bipush 6, 2) := by decide +kernel
theorem d_A_shareOut_41 : decode b_A_shareOut 41 = .ok (.if_icmp .ge 13, 3) := by decide +kernel
theorem d_A_shareOut_44 : decode b_A_shareOut 44 = .ok (.aload_n 0, 1) := by decide +kernel
theorem d_A_shareOut_45 : decode b_A_shareOut 45 = .ok (.invokevirtual 172, 3) := by decide +kernel
theorem d_A_shareOut_48 : decode b_A_shareOut 48 = .ok (.iinc 3 1, 3) := by decide +kernel
theorem d_A_shareOut_51 : decode b_A_shareOut 51 = .ok (.goto (-18), 3) := by decide +kernel
theorem d_A_shareOut_54 : decode b_A_shareOut 54 = .ok (.return_, 1) := by decide +kernel
theorem d_A_giveRoundedDown_0 : decode b_A_giveRoundedDown 0 = .ok (.aload_n 0, 1) := by decide +kernel
theorem d_A_giveRoundedDown_1 : decode b_A_giveRoundedDown 1 = .ok (.getfield 19, 3) := by decide +kernel
theorem d_A_giveRoundedDown_4 : decode b_A_giveRoundedDown 4 = .ok (.invokevirtual 44, 3) := by decide +kernel
theorem d_A_giveRoundedDown_7 : decode b_A_giveRoundedDown 7 = .ok (.istore_n 3, 1) := by decide +kernel
theorem d_A_giveRoundedDown_8 : decode b_A_giveRoundedDown 8 = .ok (.iload_n 2, 1) := by decide +kernel
theorem d_A_giveRoundedDown_9 : decode b_A_giveRoundedDown 9 = .ok (.aload_n 0, 1) := by decide +kernel
theorem d_A_giveRoundedDown_10 : decode b_A_giveRoundedDown 10 = .ok (.iload_n 1, 1) := by decide +kernel
theorem d_A_giveRoundedDown_11 : decode b_A_giveRoundedDown 11 = .ok (.invokevirtual 175, 3) := by decide +kernel
theorem d_A_giveRoundedDown_14 : decode b_A_giveRoundedDown 14 = .ok (.imul, 1) := by decide +kernel
theorem d_A_giveRoundedDown_15 : decode b_A_giveRoundedDown 15 = .ok (.istore 4, 2) := by decide +kernel
theorem d_A_giveRoundedDown_17 : decode b_A_giveRoundedDown 17 = .ok (.aload_n 0, 1) := by decide +kernel
theorem d_A_giveRoundedDown_18 : decode b_A_giveRoundedDown 18 = .ok (.getfield 29, 3) := by decide +kernel
theorem d_A_giveRoundedDown_21 : decode b_A_giveRoundedDown 21 = .ok (.iload_n 1, 1) := by decide +kernel
theorem d_A_giveRoundedDown_22 : decode b_A_giveRoundedDown 22 = .ok (.iload_n 3, 1) := by decide +kernel
theorem d_A_giveRoundedDown_23 : decode b_A_giveRoundedDown 23 = .ok (.ifCond .ne 7, 3) := by decide +kernel
theorem d_A_giveRoundedDown_26 : decode b_A_giveRoundedDown 26 = .ok (.iconst 0, 1) := by decide +kernel
theorem d_A_giveRoundedDown_27 : decode b_A_giveRoundedDown 27 = .ok (.goto 7, 3) := by decide +kernel
theorem d_A_giveRoundedDown_30 : decode b_A_giveRoundedDown 30 = .ok (.iload 4, 2) := by decide +kernel
theorem d_A_giveRoundedDown_32 : decode b_A_giveRoundedDown 32 = .ok (.iload_n 3, 1) := by decide +kernel
theorem d_A_giveRoundedDown_33 : decode b_A_giveRoundedDown 33 = .ok (.idiv, 1) := by decide +kernel
theorem d_A_giveRoundedDown_34 : decode b_A_giveRoundedDown 34 = .ok (.iastore, 1) := by decide +kernel
theorem d_A_giveRoundedDown_35 : decode b_A_giveRoundedDown 35 = .ok (.aload_n 0, 1) := by decide +kernel
theorem d_A_giveRoundedDown_36 : decode b_A_giveRoundedDown 36 = .ok (.getfield 33, 3) := by decide +kernel
theorem d_A_giveRoundedDown_39 : decode b_A_giveRoundedDown 39 = .ok (.iload_n 1, 1) := by decide +kernel
theorem d_A_giveRoundedDown_40 : decode b_A_giveRoundedDown 40 = .ok (.iload_n 3, 1) := by decide +kernel
theorem d_A_giveRoundedDown_41 : decode b_A_giveRoundedDown 41 = .ok (.ifCond .ne 7, 3) := by decide +kernel
theorem d_A_giveRoundedDown_44 : decode b_A_giveRoundedDown 44 = .ok (.iconst 0, 1) := by decide +kernel
theorem d_A_giveRoundedDown_45 : decode b_A_giveRoundedDown 45 = .ok (.goto 7, 3) := by decide +kernel
theorem d_A_giveRoundedDown_48 : decode b_A_giveRoundedDown 48 = .ok (.iload 4, 2) := by decide +kernel
theorem d_A_giveRoundedDown_50 : decode b_A_giveRoundedDown 50 = .ok (.iload_n 3, 1) := by decide +kernel
theorem d_A_giveRoundedDown_51 : decode b_A_giveRoundedDown 51 = .ok (.irem, 1) := by decide +kernel
theorem d_A_giveRoundedDown_52 : decode b_A_giveRoundedDown 52 = .ok (.iastore, 1) := by decide +kernel
theorem d_A_giveRoundedDown_53 : decode b_A_giveRoundedDown 53 = .ok (.return_, 1) := by decide +kernel
theorem d_A_countThings_0 : decode b_A_countThings 0 = .ok (.iconst 0, 1) := by decide +kernel
theorem d_A_countThings_1 : decode b_A_countThings 1 = .ok (.istore_n 2, 1) := by decide +kernel
theorem d_A_countThings_2 : decode b_A_countThings 2 = .ok (.iconst 0, 1) := by decide +kernel
theorem d_A_countThings_3 : decode b_A_countThings 3 = .ok (.istore_n 3, 1) := by decide +kernel
theorem d_A_countThings_4 : decode b_A_countThings 4 = .ok (.iload_n 3, 1) := by decide +kernel
theorem d_A_countThings_5 : decode b_A_countThings 5 = .ok (.aload_n 0, 1) := by decide +kernel
theorem d_A_countThings_6 : decode b_A_countThings 6 = .ok (.getfield 19, 3) := by decide +kernel
theorem d_A_countThings_9 : decode b_A_countThings 9 = .ok (.invokevirtual 44, 3) := by decide +kernel
theorem d_A_countThings_12 : decode b_A_countThings 12 = .ok (.if_icmp .ge 30, 3) := by decide +kernel
theorem d_A_countThings_15 : decode b_A_countThings 15 = .ok (.aload_n 0, 1) := by decide +kernel
theorem d_A_countThings_16 : decode b_A_countThings 16 = .ok (.getfield 19, 3) := by decide +kernel
theorem d_A_countThings_19 : decode b_A_countThings 19 = .ok (.iload_n 3, 1) := by decide +kernel
theorem d_A_countThings_20 : decode b_A_countThings 20 = .ok (.invokevirtual 82, 3) := by decide +kernel
theorem d_A_countThings_23 : decode b_A_countThings 23 = .ok (.checkcast 55, 3) := by decide +kernel
theorem d_A_countThings_26 : decode b_A_countThings 26 = .ok (.getfield 178, 3) := by decide +kernel
theorem d_A_countThings_29 : decode b_A_countThings 29 = .ok (.iload_n 1, 1) := by decide +kernel
theorem d_A_countThings_30 : decode b_A_countThings 30 = .ok (.if_icmp .ne 6, 3) := by decide +kernel
theorem d_A_countThings_33 : decode b_A_countThings 33 = .ok (.iinc 2 1, 3) := by decide +kernel
theorem d_A_countThings_36 : decode b_A_countThings 36 = .ok (.iinc 3 1, 3) := by decide +kernel
theorem d_A_countThings_39 : decode b_A_countThings 39 = .ok (.goto (-35), 3) := by decide +kernel
theorem d_A_countThings_42 : decode b_A_countThings 42 = .ok (.iload_n 2, 1) := by decide +kernel
theorem d_A_countThings_43 : decode b_A_countThings 43 = .ok (.ireturn, 1) := by decide +kernel
theorem d_A_giveOneByGreatestRest_0 : decode b_A_giveOneByGreatestRest 0 = .ok (.iconst 0, 1) := by decide +kernel
theorem d_A_giveOneByGreatestRest_1 : decode b_A_giveOneByGreatestRest 1 = .ok (.istore_n 1, 1) := by decide +kernel
theorem d_A_giveOneByGreatestRest_2 : decode b_A_giveOneByGreatestRest 2 = .ok (.iconst 1, 1) := by decide +kernel
theorem d_A_giveOneByGreatestRest_3 : decode b_A_giveOneByGreatestRest 3 = .ok (.istore_n 2, 1) := by decide +kernel
theorem d_A_giveOneByGreatestRest_4 : decode b_A_giveOneByGreatestRest 4 = .ok (.iload_n 2, 1) := by decide +kernel
theorem d_A_giveOneByGreatestRest_5 : decode b_A_giveOneByGreatestRest 5 = .ok (.bipush 6, 2) := by decide +kernel
theorem d_A_giveOneByGreatestRest_7 : decode b_A_giveOneByGreatestRest 7 = .ok (.if_icmp .ge 26, 3) := by decide +kernel
theorem d_A_giveOneByGreatestRest_10 : decode b_A_giveOneByGreatestRest 10 = .ok (.aload_n 0, 1) := by decide +kernel
theorem d_A_giveOneByGreatestRest_11 : decode b_A_giveOneByGreatestRest 11 = .ok (.getfield 33, 3) := by decide +kernel
theorem d_A_giveOneByGreatestRest_14 : decode b_A_giveOneByGreatestRest 14 = .ok (.iload_n 2, 1) := by decide +kernel
theorem d_A_giveOneByGreatestRest_15 : decode b_A_giveOneByGreatestRest 15 = .ok (.iaload, 1) := by decide +kernel
theorem d_A_giveOneByGreatestRest_16 : decode b_A_giveOneByGreatestRest 16 = .ok (.aload_n 0, 1) := by decide +kernel
theorem d_A_giveOneByGreatestRest_17 : decode b_A_giveOneByGreatestRest 17 = .ok (.getfield 33, 3) := by decide +kernel
theorem d_A_giveOneByGreatestRest_20 : decode b_A_giveOneByGreatestRest 20 = .ok (.iload_n 1, 1) := by decide +kernel
theorem d_A_giveOneByGreatestRest_21 : decode b_A_giveOneByGreatestRest 21 = .ok (.iaload, 1) := by decide +kernel
theorem d_A_giveOneByGreatestRest_22 : decode b_A_giveOneByGreatestRest 22 = .ok (.if_icmp .le 5, 3) := by decide +kernel
theorem d_A_giveOneByGreatestRest_25 : decode b_A_giveOneByGreatestRest 25 = .ok (.iload_n 2, 1) := by decide +kernel
theorem d_A_giveOneByGreatestRest_26 : decode b_A_giveOneByGreatestRest 26 = .ok (.istore_n 1, 1) := by decide +kernel
theorem d_A_giveOneByGreatestRest_27 : decode b_A_giveOneByGreatestRest 27 = .ok (.iinc 2 1, 3) := by decide +kernel
theorem d_A_giveOneByGreatestRest_30 : decode b_A_giveOneByGreatestRest 30 = .ok (.goto (-26), 3) := by decide +kernel
theorem d_A_giveOneByGreatestRest_33 : decode b_A_giveOneByGreatestRest 33 = .ok (.aload_n 0, 1) := by decide +kernel
theorem d_A_giveOneByGreatestRest_34 : decode b_A_giveOneByGreatestRest 34 = .ok (.getfield 29, 3) := by decide +kernel
theorem d_A_giveOneByGreatestRest_37 : decode b_A_giveOneByGreatestRest 37 = .ok (.iload_n 1, 1) := by decide +kernel
theorem d_A_giveOneByGreatestRest_38 : decode b_A_giveOneByGreatestRest 38 = .ok (.dup2, 1) := by decide +kernel
theorem d_A_giveOneByGreatestRest_39 : decode b_A_giveOneByGreatestRest 39 = .ok (.iaload, 1) := by decide +kernel
theorem d_A_giveOneByGreatestRest_40 : decode b_A_giveOneByGreatestRest 40 = .ok (.iconst 1, 1) := by decide +kernel
theorem d_A_giveOneByGreatestRest_41 : decode b_A_giveOneByGreatestRest 41 = .ok (.iadd, 1) := by decide +kernel
theorem d_A_giveOneByGreatestRest_42 : decode b_A_giveOneByGreatestRest 42 = .ok (.iastore, 1) := by decide +kernel
theorem d_A_giveOneByGreatestRest_43 : decode b_A_giveOneByGreatestRest 43 = .ok (.aload_n 0, 1) := by decide +kernel
theorem d_A_giveOneByGreatestRest_44 : decode b_A_giveOneByGreatestRest 44 = .ok (.getfield 33, 3) := by decide +kernel
theorem d_A_giveOneByGreatestRest_47 : decode b_A_giveOneByGreatestRest 47 = .ok (.iload_n 1, 1) := by decide +kernel
theorem d_A_giveOneByGreatestRest_48 : decode b_A_giveOneByGreatestRest 48 = .ok (.iconst (-1), 1) := by decide +kernel
theorem d_A_giveOneByGreatestRest_49 : decode b_A_giveOneByGreatestRest 49 = .ok (.iastore, 1) := by decide +kernel
theorem d_A_giveOneByGreatestRest_50 : decode b_A_giveOneByGreatestRest 50 = .ok (.return_, 1) := by decide +kernel
theorem d_A_layRow_0 : decode b_A_layRow 0 = .ok (.aload_n 0, 1) := by decide +kernel
theorem d_A_layRow_1 : decode b_A_layRow 1 = .ok (.getfield 26, 3) := by decide +kernel
theorem d_A_layRow_4 : decode b_A_layRow 4 = .ok (.invokevirtual 166, 3) := by decide +kernel
theorem d_A_layRow_7 : decode b_A_layRow 7 = .ok (.iconst 0, 1) := by decide +kernel
theorem d_A_layRow_8 : decode b_A_layRow 8 = .ok (.istore_n 2, 1) := by decide +kernel
theorem d_A_layRow_9 : decode b_A_layRow 9 = .ok (.iload_n 2, 1) := by decide +kernel
theorem d_A_layRow_10 : decode b_A_layRow 10 = .ok (.aload_n 0, 1) := by decide +kernel
theorem d_A_layRow_11 : decode b_A_layRow 11 = .ok (.getfield 19, 3) := by decide +kernel
theorem d_A_layRow_14 : decode b_A_layRow 14 = .ok (.invokevirtual 44, 3) := by decide +kernel
theorem d_A_layRow_17 : decode b_A_layRow 17 = .ok (.if_icmp .ge 38, 3) := by decide +kernel
theorem d_A_layRow_20 : decode b_A_layRow 20 = .ok (.aload_n 0, 1) := by decide +kernel
theorem d_A_layRow_21 : decode b_A_layRow 21 = .ok (.getfield 19, 3) := by decide +kernel
theorem d_A_layRow_24 : decode b_A_layRow 24 = .ok (.iload_n 2, 1) := by decide +kernel
theorem d_A_layRow_25 : decode b_A_layRow 25 = .ok (.invokevirtual 82, 3) := by decide +kernel
theorem d_A_layRow_28 : decode b_A_layRow 28 = .ok (.checkcast 55, 3) := by decide +kernel
theorem d_A_layRow_31 : decode b_A_layRow 31 = .ok (.astore_n 3, 1) := by decide +kernel
theorem d_A_layRow_32 : decode b_A_layRow 32 = .ok (.aload_n 3, 1) := by decide +kernel
theorem d_A_layRow_33 : decode b_A_layRow 33 = .ok (.getfield 178, 3) := by decide +kernel
theorem d_A_layRow_36 : decode b_A_layRow 36 = .ok (.iload_n 1, 1) := by decide +kernel
theorem d_A_layRow_37 : decode b_A_layRow 37 = .ok (.if_icmp .ne 12, 3) := by decide +kernel
theorem d_A_layRow_40 : decode b_A_layRow 40 = .ok (.aload_n 0, 1) := by decide +kernel
theorem d_A_layRow_41 : decode b_A_layRow 41 = .ok (.getfield 26, 3) := by decide +kernel
theorem d_A_layRow_44 : decode b_A_layRow 44 = .ok (.aload_n 3, 1) := by decide +kernel
theorem d_A_layRow_45 : decode b_A_layRow 45 = .ok (.invokevirtual 60, 3) := by decide +kernel
theorem d_A_layRow_48 : decode b_A_layRow 48 = .ok (.pop, 1) := by decide +kernel
theorem d_A_layRow_49 : decode b_A_layRow 49 = .ok (.iinc 2 1, 3) := by decide +kernel
theorem d_A_layRow_52 : decode b_A_layRow 52 = .ok (.goto (-43), 3) := by decide +kernel
theorem d_A_layRow_55 : decode b_A_layRow 55 = .ok (.return_, 1) := by decide +kernel
theorem d_A_takeFromRow_0 : decode b_A_takeFromRow 0 = .ok (.iconst 0, 1) := by decide +kernel
theorem d_A_takeFromRow_1 : decode b_A_takeFromRow 1 = .ok (.istore_n 2, 1) := by decide +kernel
theorem d_A_takeFromRow_2 : decode b_A_takeFromRow 2 = .ok (.iload_n 2, 1) := by decide +kernel
theorem d_A_takeFromRow_3 : decode b_A_takeFromRow 3 = .ok (.iload_n 1, 1) := by decide +kernel
theorem d_A_takeFromRow_4 : decode b_A_takeFromRow 4 = .ok (.if_icmp .ge 99, 3) := by decide +kernel
theorem d_A_takeFromRow_7 : decode b_A_takeFromRow 7 = .ok (.iload_n 2, 1) := by decide +kernel
theorem d_A_takeFromRow_8 : decode b_A_takeFromRow 8 = .ok (.aload_n 0, 1) := by decide +kernel
theorem d_A_takeFromRow_9 : decode b_A_takeFromRow 9 = .ok (.getfield 26, 3) := by decide +kernel
theorem d_A_takeFromRow_12 : decode b_A_takeFromRow 12 = .ok (.invokevirtual 44, 3) := by decide +kernel
theorem d_A_takeFromRow_15 : decode b_A_takeFromRow 15 = .ok (.if_icmp .ge 88, 3) := by decide +kernel
theorem d_A_takeFromRow_18 : decode b_A_takeFromRow 18 = .ok (.iload_n 2, 1) := by decide +kernel
theorem d_A_takeFromRow_19 : decode b_A_takeFromRow 19 = .ok (.aload_n 0, 1) := by decide +kernel
theorem d_A_takeFromRow_20 : decode b_A_takeFromRow 20 = .ok (.getfield 10, 3) := by decide +kernel
theorem d_A_takeFromRow_23 : decode b_A_takeFromRow 23 = .ok (.aload_n 0, 1) := by decide +kernel
theorem d_A_takeFromRow_24 : decode b_A_takeFromRow 24 = .ok (.getfield 26, 3) := by decide +kernel
theorem d_A_takeFromRow_27 : decode b_A_takeFromRow 27 = .ok (.invokevirtual 44, 3) := by decide +kernel
theorem d_A_takeFromRow_30 : decode b_A_takeFromRow 30 = .ok (.iload_n 2, 1) := by decide +kernel
theorem d_A_takeFromRow_31 : decode b_A_takeFromRow 31 = .ok (.isub, 1) := by decide +kernel
theorem d_A_takeFromRow_32 : decode b_A_takeFromRow 32 = .ok (.invokevirtual 181, 3) := by decide +kernel
theorem d_A_takeFromRow_35 : decode b_A_takeFromRow 35 = .ok (.iadd, 1) := by decide +kernel
theorem d_A_takeFromRow_36 : decode b_A_takeFromRow 36 = .ok (.istore_n 3, 1) := by decide +kernel
theorem d_A_takeFromRow_37 : decode b_A_takeFromRow 37 = .ok (.aload_n 0, 1) := by decide +kernel
theorem d_A_takeFromRow_38 : decode b_A_takeFromRow 38 = .ok (.getfield 26, 3) := by decide +kernel
theorem d_A_takeFromRow_41 : decode b_A_takeFromRow 41 = .ok (.iload_n 3, 1) := by decide +kernel
theorem d_A_takeFromRow_42 : decode b_A_takeFromRow 42 = .ok (.invokevirtual 82, 3) := by decide +kernel
theorem d_A_takeFromRow_45 : decode b_A_takeFromRow 45 = .ok (.checkcast 55, 3) := by decide +kernel
theorem d_A_takeFromRow_48 : decode b_A_takeFromRow 48 = .ok (.astore 4, 2) := by decide +kernel
theorem d_A_takeFromRow_50 : decode b_A_takeFromRow 50 = .ok (.aload_n 0, 1) := by decide +kernel
theorem d_A_takeFromRow_51 : decode b_A_takeFromRow 51 = .ok (.getfield 26, 3) := by decide +kernel
theorem d_A_takeFromRow_54 : decode b_A_takeFromRow 54 = .ok (.iload_n 3, 1) := by decide +kernel
theorem d_A_takeFromRow_55 : decode b_A_takeFromRow 55 = .ok (.aload_n 0, 1) := by decide +kernel
theorem d_A_takeFromRow_56 : decode b_A_takeFromRow 56 = .ok (.getfield 26, 3) := by decide +kernel
theorem d_A_takeFromRow_59 : decode b_A_takeFromRow 59 = .ok (.iload_n 2, 1) := by decide +kernel
theorem d_A_takeFromRow_60 : decode b_A_takeFromRow 60 = .ok (.invokevirtual 82, 3) := by decide +kernel
theorem d_A_takeFromRow_63 : decode b_A_takeFromRow 63 = .ok (.checkcast 55, 3) := by decide +kernel
theorem d_A_takeFromRow_66 : decode b_A_takeFromRow 66 = .ok (.invokevirtual 184, 3) := by decide +kernel
theorem d_A_takeFromRow_69 : decode b_A_takeFromRow 69 = .ok (.pop, 1) := by decide +kernel
theorem d_A_takeFromRow_70 : decode b_A_takeFromRow 70 = .ok (.aload_n 0, 1) := by decide +kernel
theorem d_A_takeFromRow_71 : decode b_A_takeFromRow 71 = .ok (.getfield 26, 3) := by decide +kernel
theorem d_A_takeFromRow_74 : decode b_A_takeFromRow 74 = .ok (.iload_n 2, 1) := by decide +kernel
theorem d_A_takeFromRow_75 : decode b_A_takeFromRow 75 = .ok (.aload 4, 2) := by decide +kernel
theorem d_A_takeFromRow_77 : decode b_A_takeFromRow 77 = .ok (.invokevirtual 184, 3) := by decide +kernel
theorem d_A_takeFromRow_80 : decode b_A_takeFromRow 80 = .ok (.pop, 1) := by decide +kernel
theorem d_A_takeFromRow_81 : decode b_A_takeFromRow 81 = .ok (.aload 4, 2) := by decide +kernel
theorem d_A_takeFromRow_83 : decode b_A_takeFromRow 83 = .ok (.iconst 0, 1) := by decide +kernel
theorem d_A_takeFromRow_84 : decode b_A_takeFromRow 84 = .ok (.putfield 101, 3) := by decide +kernel
theorem d_A_takeFromRow_87 : decode b_A_takeFromRow 87 = .ok (.aload_n 0, 1) := by decide +kernel
theorem d_A_takeFromRow_88 : decode b_A_takeFromRow 88 = .ok (.getfield 23, 3) := by decide +kernel
theorem d_A_takeFromRow_91 : decode b_A_takeFromRow 91 = .ok (.aload 4, 2) := by decide +kernel
theorem d_A_takeFromRow_93 : decode b_A_takeFromRow 93 = .ok (.invokevirtual 60, 3) := by decide +kernel
theorem d_A_takeFromRow_96 : decode b_A_takeFromRow 96 = .ok (.pop, 1) := by decide +kernel
theorem d_A_takeFromRow_97 : decode b_A_takeFromRow 97 = .ok (.iinc 2 1, 3) := by decide +kernel
theorem d_A_takeFromRow_100 : decode b_A_takeFromRow 100 = .ok (.goto (-98), 3) := by decide +kernel
theorem d_A_takeFromRow_103 : decode b_A_takeFromRow 103 = .ok (.return_, 1) := by decide +kernel
theorem d_D_below_0 : decode b_D_below 0 = .ok (.aload_n 0, 1) := by decide +kernel
theorem d_D_below_1 : decode b_D_below 1 = .ok (.aload_n 0, 1) := by decide +kernel
theorem d_D_below_2 : decode b_D_below 2 = .ok (.getfield 7, 3) := by decide +kernel
theorem d_D_below_5 : decode b_D_below 5 = .ok (.ldc2_w 13, 3) := by decide +kernel
theorem d_D_below_8 : decode b_D_below 8 = .ok (.lmul, 1) := by decide +kernel
theorem d_D_below_9 : decode b_D_below 9 = .ok (.ldc2_w 15, 3) := by decide +kernel
theorem d_D_below_12 : decode b_D_below 12 = .ok (.ladd, 1) := by decide +kernel
theorem d_D_below_13 : decode b_D_below 13 = .ok (.putfield 7, 3) := by decide +kernel
theorem d_D_below_16 : decode b_D_below 16 = .ok (.iload_n 1, 1) := by decide +kernel
theorem d_D_below_17 : decode b_D_below 17 = .ok (.iconst 1, 1) := by decide +kernel
theorem d_D_below_18 : decode b_D_below 18 = .ok (.if_icmp .ge 7, 3) := by decide +kernel
theorem d_D_below_21 : decode b_D_below 21 = .ok (.iconst 0, 1) := by decide +kernel
theorem d_D_below_22 : decode b_D_below 22 = .ok (.goto 14, 3) := by decide +kernel
theorem d_D_below_25 : decode b_D_below 25 = .ok (.aload_n 0, 1) := by decide +kernel
theorem d_D_below_26 : decode b_D_below 26 = .ok (.getfield 7, 3) := by decide +kernel
theorem d_D_below_29 : decode b_D_below 29 = .ok (.bipush 33, 2) := by decide +kernel
theorem d_D_below_31 : decode b_D_below 31 = .ok (.lushr, 1) := by decide +kernel
theorem d_D_below_32 : decode b_D_below 32 = .ok (.iload_n 1, 1) := by decide +kernel
theorem d_D_below_33 : decode b_D_below 33 = .ok (.i2l, 1) := by decide +kernel
theorem d_D_below_34 : decode b_D_below 34 = .ok (.lrem, 1) := by decide +kernel
theorem d_D_below_35 : decode b_D_below 35 = .ok (.l2i, 1) := by decide +kernel
theorem d_D_below_36 : decode b_D_below 36 = .ok (.ireturn, 1) := by decide +kernel
theorem d_A_drawn_0 : decode b_A_drawn 0 = .ok (.iload_n 1, 1) := by decide +kernel
theorem d_A_drawn_1 : decode b_A_drawn 1 = .ok (.aload_n 0, 1) := by decide +kernel
theorem d_A_drawn_2 : decode b_A_drawn 2 = .ok (.getfield 23, 3) := by decide +kernel
theorem d_A_drawn_5 : decode b_A_drawn 5 = .ok (.invokevirtual 44, 3) := by decide +kernel
theorem d_A_drawn_8 : decode b_A_drawn 8 = .ok (.invokestatic 40, 3) := by decide +kernel
theorem d_A_drawn_11 : decode b_A_drawn 11 = .ok (.aload_n 0, 1) := by decide +kernel
theorem d_A_drawn_12 : decode b_A_drawn 12 = .ok (.getfield 23, 3) := by decide +kernel
theorem d_A_drawn_15 : decode b_A_drawn 15 = .ok (.iload_n 1, 1) := by decide +kernel
theorem d_A_drawn_16 : decode b_A_drawn 16 = .ok (.invokevirtual 82, 3) := by decide +kernel
theorem d_A_drawn_19 : decode b_A_drawn 19 = .ok (.checkcast 55, 3) := by decide +kernel
theorem d_A_drawn_22 : decode b_A_drawn 22 = .ok (.getfield 86, 3) := by decide +kernel
theorem d_A_drawn_25 : decode b_A_drawn 25 = .ok (.ireturn, 1) := by decide +kernel
theorem d_A_check_0 : decode b_A_check 0 = .ok (.aload_n 0, 1) := by decide +kernel
theorem d_A_check_1 : decode b_A_check 1 = .ok (.iload_n 1, 1) := by decide +kernel
theorem d_A_check_2 : decode b_A_check 2 = .ok (.invokevirtual 90, 3) := by decide +kernel
theorem d_A_check_5 : decode b_A_check 5 = .ok (.astore 5, 2) := by decide +kernel
theorem d_A_check_7 : decode b_A_check 7 = .ok (.iload_n 2, 1) := by decide +kernel
theorem d_A_check_8 : decode b_A_check 8 = .ok (.bipush 10, 2) := by decide +kernel
theorem d_A_check_10 : decode b_A_check 10 = .ok (.invokestatic 40, 3) := by decide +kernel
theorem d_A_check_13 : decode b_A_check 13 = .ok (.iload_n 3, 1) := by decide +kernel
theorem d_A_check_14 : decode b_A_check 14 = .ok (.bipush 10, 2) := by decide +kernel
theorem d_A_check_16 : decode b_A_check 16 = .ok (.invokestatic 40, 3) := by decide +kernel
theorem d_A_check_19 : decode b_A_check 19 = .ok (.iload 4, 2) := by decide +kernel
theorem d_A_check_21 : decode b_A_check 21 = .ok (.bipush 16, 2) := by decide +kernel
theorem d_A_check_23 : decode b_A_check 23 = .ok (.invokestatic 40, 3) := by decide +kernel
theorem d_A_check_26 : decode b_A_check 26 = .ok (.aload 5, 2) := by decide +kernel
theorem d_A_check_28 : decode b_A_check 28 = .ok (.invokestatic 94, 3) := by decide +kernel
theorem d_A_check_31 : decode b_A_check 31 = .ok (.iload_n 2, 1) := by decide +kernel
theorem d_A_check_32 : decode b_A_check 32 = .ok (.iload_n 3, 1) := by decide +kernel
theorem d_A_check_33 : decode b_A_check 33 = .ok (.if_icmp .ne 5, 3) := by decide +kernel
theorem d_A_check_36 : decode b_A_check 36 = .ok (.iconst 2, 1) := by decide +kernel
theorem d_A_check_37 : decode b_A_check 37 = .ok (.ireturn, 1) := by decide +kernel
theorem d_A_check_38 : decode b_A_check 38 = .ok (.aload 5, 2) := by decide +kernel
theorem d_A_check_40 : decode b_A_check 40 = .ok (.getfield 98, 3) := by decide +kernel
theorem d_A_check_43 : decode b_A_check 43 = .ok (.iload 4, 2) := by decide +kernel
theorem d_A_check_45 : decode b_A_check 45 = .ok (.if_icmp .ne 11, 3) := by decide +kernel
theorem d_A_check_48 : decode b_A_check 48 = .ok (.aload 5, 2) := by decide +kernel
theorem d_A_check_50 : decode b_A_check 50 = .ok (.iconst 1, 1) := by decide +kernel
theorem d_A_check_51 : decode b_A_check 51 = .ok (.putfield 101, 3) := by decide +kernel
theorem d_A_check_54 : decode b_A_check 54 = .ok (.iconst 0, 1) := by decide +kernel
theorem d_A_check_55 : decode b_A_check 55 = .ok (.ireturn, 1) := by decide +kernel
theorem d_A_check_56 : decode b_A_check 56 = .ok (.aload 5, 2) := by decide +kernel
theorem d_A_check_58 : decode b_A_check 58 = .ok (.iconst 2, 1) := by decide +kernel
theorem d_A_check_59 : decode b_A_check 59 = .ok (.putfield 101, 3) := by decide +kernel
theorem d_A_check_62 : decode b_A_check 62 = .ok (.aload 5, 2) := by decide +kernel
theorem d_A_check_64 : decode b_A_check 64 = .ok (.iload 4, 2) := by decide +kernel
theorem d_A_check_66 : decode b_A_check 66 = .ok (.putfield 98, 3) := by decide +kernel
theorem d_A_check_69 : decode b_A_check 69 = .ok (.iconst 1, 1) := by decide +kernel
theorem d_A_check_70 : decode b_A_check 70 = .ok (.ireturn, 1) := by decide +kernel
theorem d_A_existing_0 : decode b_A_existing 0 = .ok (.iload_n 1, 1) := by decide +kernel
theorem d_A_existing_1 : decode b_A_existing 1 = .ok (.aload_n 0, 1) := by decide +kernel
theorem d_A_existing_2 : decode b_A_existing 2 = .ok (.getfield 19, 3) := by decide +kernel
theorem d_A_existing_5 : decode b_A_existing 5 = .ok (.invokevirtual 44, 3) := by decide +kernel
theorem d_A_existing_8 : decode b_A_existing 8 = .ok (.invokestatic 40, 3) := by decide +kernel
theorem d_A_existing_11 : decode b_A_existing 11 = .ok (.aload_n 0, 1) := by decide +kernel
theorem d_A_existing_12 : decode b_A_existing 12 = .ok (.getfield 19, 3) := by decide +kernel
theorem d_A_existing_15 : decode b_A_existing 15 = .ok (.iload_n 1, 1) := by decide +kernel
theorem d_A_existing_16 : decode b_A_existing 16 = .ok (.invokevirtual 82, 3) := by decide +kernel
theorem d_A_existing_19 : decode b_A_existing 19 = .ok (.checkcast 55, 3) := by decide +kernel
theorem d_A_existing_22 : decode b_A_existing 22 = .ok (.areturn, 1) := by decide +kernel
theorem d_A_needListed_0 : decode b_A_needListed 0 = .ok (.aload_n 0, 1) := by decide +kernel
theorem d_A_needListed_1 : decode b_A_needListed 1 = .ok (.getfield 101, 3) := by decide +kernel
theorem d_A_needListed_4 : decode b_A_needListed 4 = .ok (.iconst (-1), 1) := by decide +kernel
theorem d_A_needListed_5 : decode b_A_needListed 5 = .ok (.if_icmp .ne 13, 3) := by decide +kernel
theorem d_A_needListed_8 : decode b_A_needListed 8 = .ok (.new 48, 3) := by decide +kernel
theorem d_A_needListed_11 : decode b_A_needListed 11 = .ok (.dup, 1) := by decide +kernel
theorem d_A_needListed_12 : decode b_A_needListed 12 = .ok (.ldc 195, 2) := by decide +kernel
theorem d_A_needListed_14 : decode b_A_needListed 14 = .ok (.invokespecial 52, 3) := by decide +kernel
theorem d_A_needListed_17 : decode b_A_needListed 17 = .ok (.athrow, 1) := by decide +kernel
theorem d_A_needListed_18 : decode b_A_needListed 18 = .ok (.return_, 1) := by decide +kernel
theorem d_A_gone_0 : decode b_A_gone 0 = .ok (.aload_n 0, 1) := by decide +kernel
theorem d_A_gone_1 : decode b_A_gone 1 = .ok (.iload_n 1, 1) := by decide +kernel
theorem d_A_gone_2 : decode b_A_gone 2 = .ok (.invokevirtual 90, 3) := by decide +kernel
theorem d_A_gone_5 : decode b_A_gone 5 = .ok (.astore_n 2, 1) := by decide +kernel
theorem d_A_gone_6 : decode b_A_gone 6 = .ok (.aload_n 2, 1) := by decide +kernel
theorem d_A_gone_7 : decode b_A_gone 7 = .ok (.invokestatic 94, 3) := by decide +kernel
theorem d_A_gone_10 : decode b_A_gone 10 = .ok (.aload_n 2, 1) := by decide +kernel
theorem d_A_gone_11 : decode b_A_gone 11 = .ok (.getfield 101, 3) := by decide +kernel
theorem d_A_gone_14 : decode b_A_gone 14 = .ok (.iconst 3, 1) := by decide +kernel
theorem d_A_gone_15 : decode b_A_gone 15 = .ok (.if_icmp .eq 7, 3) := by decide +kernel
theorem d_A_gone_18 : decode b_A_gone 18 = .ok (.iconst 1, 1) := by decide +kernel
theorem d_A_gone_19 : decode b_A_gone 19 = .ok (.goto 4, 3) := by decide +kernel
theorem d_A_gone_22 : decode b_A_gone 22 = .ok (.iconst 0, 1) := by decide +kernel
theorem d_A_gone_23 : decode b_A_gone 23 = .ok (.istore_n 3, 1) := by decide +kernel
theorem d_A_gone_24 : decode b_A_gone 24 = .ok (.aload_n 2, 1) := by decide +kernel
theorem d_A_gone_25 : decode b_A_gone 25 = .ok (.iconst 3, 1) := by decide +kernel
theorem d_A_gone_26 : decode b_A_gone 26 = .ok (.putfield 101, 3) := by decide +kernel
theorem d_A_gone_29 : decode b_A_gone 29 = .ok (.iload_n 3, 1) := by decide +kernel
theorem d_A_gone_30 : decode b_A_gone 30 = .ok (.ireturn, 1) := by decide +kernel
theorem d_A_share_0 : decode b_A_share 0 = .ok (.iload_n 1, 1) := by decide +kernel
theorem d_A_share_1 : decode b_A_share 1 = .ok (.bipush 6, 2) := by decide +kernel
theorem d_A_share_3 : decode b_A_share 3 = .ok (.invokestatic 40, 3) := by decide +kernel
theorem d_A_share_6 : decode b_A_share 6 = .ok (.iload_n 2, 1) := by decide +kernel
theorem d_A_share_7 : decode b_A_share 7 = .ok (.iconst 2, 1) := by decide +kernel
theorem d_A_share_8 : decode b_A_share 8 = .ok (.invokestatic 40, 3) := by decide +kernel
theorem d_A_share_11 : decode b_A_share 11 = .ok (.aload_n 0, 1) := by decide +kernel
theorem d_A_share_12 : decode b_A_share 12 = .ok (.iload_n 1, 1) := by decide +kernel
theorem d_A_share_13 : decode b_A_share 13 = .ok (.invokevirtual 103, 3) := by decide +kernel
theorem d_A_share_16 : decode b_A_share 16 = .ok (.istore_n 3, 1) := by decide +kernel
theorem d_A_share_17 : decode b_A_share 17 = .ok (.aload_n 0, 1) := by decide +kernel
theorem d_A_share_18 : decode b_A_share 18 = .ok (.iload_n 1, 1) := by decide +kernel
theorem d_A_share_19 : decode b_A_share 19 = .ok (.iconst 1, 1) := by decide +kernel
theorem d_A_share_20 : decode b_A_share 20 = .ok (.invokevirtual 107, 3) := by decide +kernel
theorem d_A_share_23 : decode b_A_share 23 = .ok (.istore 4, 2) := by decide +kernel
theorem d_A_share_25 : decode b_A_share 25 = .ok (.iload_n 3, 1) := by decide +kernel
theorem d_A_share_26 : decode b_A_share 26 = .ok (.ifCond .ne 5, 3) := by decide +kernel
theorem d_A_share_29 : decode b_A_share 29 = .ok (.iload_n 2, 1) := by decide +kernel
theorem d_A_share_30 : decode b_A_share 30 = .ok (.ireturn, 1) := by decide +kernel
theorem d_A_share_31 : decode b_A_share 31 = .ok (.iload 4, 2) := by decide +kernel
theorem d_A_share_33 : decode b_A_share 33 = .ok (.iload_n 3, 1) := by decide +kernel
theorem d_A_share_34 : decode b_A_share 34 = .ok (.invokestatic 111, 3) := by decide +kernel
theorem d_A_share_37 : decode b_A_share 37 = .ok (.istore 5, 2) := by decide +kernel
theorem d_A_share_39 : decode b_A_share 39 = .ok (.iload_n 2, 1) := by decide +kernel
theorem d_A_share_40 : decode b_A_share 40 = .ok (.ifCond .ne 11, 3) := by decide +kernel
theorem d_A_share_43 : decode b_A_share 43 = .ok (.iload 4, 2) := by decide +kernel
theorem d_A_share_45 : decode b_A_share 45 = .ok (.iload 5, 2) := by decide +kernel
theorem d_A_share_47 : decode b_A_share 47 = .ok (.idiv, 1) := by decide +kernel
theorem d_A_share_48 : decode b_A_share 48 = .ok (.goto 7, 3) := by decide +kernel
theorem d_A_share_51 : decode b_A_share 51 = .ok (.iload_n 3, 1) := by decide +kernel
theorem d_A_share_52 : decode b_A_share 52 = .ok (.iload 5, 2) := by decide +kernel
theorem d_A_share_54 : decode b_A_share 54 = .ok (.idiv, 1) := by decide +kernel
theorem d_A_share_55 : decode b_A_share 55 = .ok (.ireturn, 1) := by decide +kernel
theorem d_A_countChecked_0 : decode b_A_countChecked 0 = .ok (.aload_n 0, 1) := by decide +kernel
theorem d_A_countChecked_1 : decode b_A_countChecked 1 = .ok (.iload_n 1, 1) := by decide +kernel
theorem d_A_countChecked_2 : decode b_A_countChecked 2 = .ok (.iconst 1, 1) := by decide +kernel
theorem d_A_countChecked_3 : decode b_A_countChecked 3 = .ok (.invokevirtual 107, 3) := by decide +kernel
theorem d_A_countChecked_6 : decode b_A_countChecked 6 = .ok (.aload_n 0, 1) := by decide +kernel
theorem d_A_countChecked_7 : decode b_A_countChecked 7 = .ok (.iload_n 1, 1) := by decide +kernel
theorem d_A_countChecked_8 : decode b_A_countChecked 8 = .ok (.invokevirtual 114, 3) := by decide +kernel
theorem d_A_countChecked_11 : decode b_A_countChecked 11 = .ok (.iadd, 1) := by decide +kernel
theorem d_A_countChecked_12 : decode b_A_countChecked 12 = .ok (.ireturn, 1) := by decide +kernel
theorem d_A_countListed_0 : decode b_A_countListed 0 = .ok (.iconst 0, 1) := by decide +kernel
theorem d_A_countListed_1 : decode b_A_countListed 1 = .ok (.istore_n 3, 1) := by decide +kernel
theorem d_A_countListed_2 : decode b_A_countListed 2 = .ok (.iconst 0, 1) := by decide +kernel
theorem d_A_countListed_3 : decode b_A_countListed 3 = .ok (.istore 4, 2) := by decide +kernel
theorem d_A_countListed_5 : decode b_A_countListed 5 = .ok (.iload 4, 2) := by decide +kernel
theorem d_A_countListed_7 : decode b_A_countListed 7 = .ok (.aload_n 0, 1) := by decide +kernel
theorem d_A_countListed_8 : decode b_A_countListed 8 = .ok (.getfield 23, 3) := by decide +kernel
theorem d_A_countListed_11 : decode b_A_countListed 11 = .ok (.invokevirtual 44, 3) := by decide +kernel
theorem d_A_countListed_14 : decode b_A_countListed 14 = .ok (.if_icmp .ge 44, 3) := by decide +kernel
theorem d_A_countListed_17 : decode b_A_countListed 17 = .ok (.aload_n 0, 1) := by decide +kernel
theorem d_A_countListed_18 : decode b_A_countListed 18 = .ok (.getfield 23, 3) := by decide +kernel
theorem d_A_countListed_21 : decode b_A_countListed 21 = .ok (.iload 4, 2) := by decide +kernel
theorem d_A_countListed_23 : decode b_A_countListed 23 = .ok (.invokevirtual 82, 3) := by decide +kernel
theorem d_A_countListed_26 : decode b_A_countListed 26 = .ok (.checkcast 55, 3) := by decide +kernel
theorem d_A_countListed_29 : decode b_A_countListed 29 = .ok (.astore 5, 2) := by decide +kernel
theorem d_A_countListed_31 : decode b_A_countListed 31 = .ok (.aload 5, 2) := by decide +kernel
theorem d_A_countListed_33 : decode b_A_countListed 33 = .ok (.getfield 178, 3) := by decide +kernel
theorem d_A_countListed_36 : decode b_A_countListed 36 = .ok (.iload_n 1, 1) := by decide +kernel
theorem d_A_countListed_37 : decode b_A_countListed 37 = .ok (.if_icmp .ne 15, 3) := by decide +kernel
theorem d_A_countListed_40 : decode b_A_countListed 40 = .ok (.aload 5, 2) := by decide +kernel
theorem d_A_countListed_42 : decode b_A_countListed 42 = .ok (.getfield 101, 3) := by decide +kernel
theorem d_A_countListed_45 : decode b_A_countListed 45 = .ok (.iload_n 2, 1) := by decide +kernel
theorem d_A_countListed_46 : decode b_A_countListed 46 = .ok (.if_icmp .ne 6, 3) := by decide +kernel
theorem d_A_countListed_49 : decode b_A_countListed 49 = .ok (.iinc 3 1, 3) := by decide +kernel
theorem d_A_countListed_52 : decode b_A_countListed 52 = .ok (.iinc 4 1, 3) := by decide +kernel
theorem d_A_countListed_55 : decode b_A_countListed 55 = .ok (.goto (-50), 3) := by decide +kernel
theorem d_A_countListed_58 : decode b_A_countListed 58 = .ok (.iload_n 3, 1) := by decide +kernel
theorem d_A_countListed_59 : decode b_A_countListed 59 = .ok (.ireturn, 1) := by decide +kernel
theorem d_A_countMissed_0 : decode b_A_countMissed 0 = .ok (.aload_n 0, 1) := by decide +kernel
theorem d_A_countMissed_1 : decode b_A_countMissed 1 = .ok (.iload_n 1, 1) := by decide +kernel
theorem d_A_countMissed_2 : decode b_A_countMissed 2 = .ok (.iconst 2, 1) := by decide +kernel
theorem d_A_countMissed_3 : decode b_A_countMissed 3 = .ok (.invokevirtual 107, 3) := by decide +kernel
theorem d_A_countMissed_6 : decode b_A_countMissed 6 = .ok (.aload_n 0, 1) := by decide +kernel
theorem d_A_countMissed_7 : decode b_A_countMissed 7 = .ok (.iload_n 1, 1) := by decide +kernel
theorem d_A_countMissed_8 : decode b_A_countMissed 8 = .ok (.iconst 3, 1) := by decide +kernel
theorem d_A_countMissed_9 : decode b_A_countMissed 9 = .ok (.invokevirtual 107, 3) := by decide +kernel
theorem d_A_countMissed_12 : decode b_A_countMissed 12 = .ok (.iadd, 1) := by decide +kernel
theorem d_A_countMissed_13 : decode b_A_countMissed 13 = .ok (.ireturn, 1) := by decide +kernel
theorem d_A_commonDivisor_0 : decode b_A_commonDivisor 0 = .ok (.iload_n 1, 1) := by decide +kernel
theorem d_A_commonDivisor_1 : decode b_A_commonDivisor 1 = .ok (.istore_n 2, 1) := by decide +kernel
theorem d_A_commonDivisor_2 : decode b_A_commonDivisor 2 = .ok (.iload_n 2, 1) := by decide +kernel
theorem d_A_commonDivisor_3 : decode b_A_commonDivisor 3 = .ok (.iconst 1, 1) := by decide +kernel
theorem d_A_commonDivisor_4 : decode b_A_commonDivisor 4 = .ok (.if_icmp .le 23, 3) := by decide +kernel
theorem d_A_commonDivisor_7 : decode b_A_commonDivisor 7 = .ok (.iload_n 0, 1) := by decide +kernel
theorem d_A_commonDivisor_8 : decode b_A_commonDivisor 8 = .ok (.iload_n 2, 1) := by decide +kernel
theorem d_A_commonDivisor_9 : decode b_A_commonDivisor 9 = .ok (.irem, 1) := by decide +kernel
theorem d_A_commonDivisor_10 : decode b_A_commonDivisor 10 = .ok (.ifCond .ne 11, 3) := by decide +kernel
theorem d_A_commonDivisor_13 : decode b_A_commonDivisor 13 = .ok (.iload_n 1, 1) := by decide +kernel
theorem d_A_commonDivisor_14 : decode b_A_commonDivisor 14 = .ok (.iload_n 2, 1) := by decide +kernel
theorem d_A_commonDivisor_15 : decode b_A_commonDivisor 15 = .ok (.irem, 1) := by decide +kernel
theorem d_A_commonDivisor_16 : decode b_A_commonDivisor 16 = .ok (.ifCond .ne 5, 3) := by decide +kernel
theorem d_A_commonDivisor_19 : decode b_A_commonDivisor 19 = .ok (.iload_n 2, 1) := by decide +kernel
theorem d_A_commonDivisor_20 : decode b_A_commonDivisor 20 = .ok (.ireturn, 1) := by decide +kernel
theorem d_A_commonDivisor_21 : decode b_A_commonDivisor 21 = .ok (.iinc 2 (-1), 3) := by decide +kernel
theorem d_A_commonDivisor_24 : decode b_A_commonDivisor 24 = .ok (.goto (-22), 3) := by decide +kernel
theorem d_A_commonDivisor_27 : decode b_A_commonDivisor 27 = .ok (.iconst 1, 1) := by decide +kernel
theorem d_A_commonDivisor_28 : decode b_A_commonDivisor 28 = .ok (.ireturn, 1) := by decide +kernel
theorem d_A_next_0 : decode b_A_next 0 = .ok (.iload_n 1, 1) := by decide +kernel
theorem d_A_next_1 : decode b_A_next 1 = .ok (.bipush 6, 2) := by decide +kernel
theorem d_A_next_3 : decode b_A_next 3 = .ok (.invokestatic 40, 3) := by decide +kernel
theorem d_A_next_6 : decode b_A_next 6 = .ok (.aload_n 0, 1) := by decide +kernel
theorem d_A_next_7 : decode b_A_next 7 = .ok (.iload_n 1, 1) := by decide +kernel
theorem d_A_next_8 : decode b_A_next 8 = .ok (.invokevirtual 103, 3) := by decide +kernel
theorem d_A_next_11 : decode b_A_next 11 = .ok (.istore_n 2, 1) := by decide +kernel
theorem d_A_next_12 : decode b_A_next 12 = .ok (.iload_n 2, 1) := by decide +kernel
theorem d_A_next_13 : decode b_A_next 13 = .ok (.ifCond .ne 6, 3) := by decide +kernel
theorem d_A_next_16 : decode b_A_next 16 = .ok (.bipush 100, 2) := by decide +kernel
theorem d_A_next_18 : decode b_A_next 18 = .ok (.ireturn, 1) := by decide +kernel
theorem d_A_next_19 : decode b_A_next 19 = .ok (.aload_n 0, 1) := by decide +kernel
theorem d_A_next_20 : decode b_A_next 20 = .ok (.iload_n 1, 1) := by decide +kernel
theorem d_A_next_21 : decode b_A_next 21 = .ok (.invokevirtual 114, 3) := by decide +kernel
theorem d_A_next_24 : decode b_A_next 24 = .ok (.istore_n 3, 1) := by decide +kernel
theorem d_A_next_25 : decode b_A_next 25 = .ok (.bipush 50, 2) := by decide +kernel
theorem d_A_next_27 : decode b_A_next 27 = .ok (.sipush 950, 3) := by decide +kernel
theorem d_A_next_30 : decode b_A_next 30 = .ok (.iload_n 3, 1) := by decide +kernel
theorem d_A_next_31 : decode b_A_next 31 = .ok (.imul, 1) := by decide +kernel
theorem d_A_next_32 : decode b_A_next 32 = .ok (.iload_n 2, 1) := by decide +kernel
theorem d_A_next_33 : decode b_A_next 33 = .ok (.iadd, 1) := by decide +kernel
theorem d_A_next_34 : decode b_A_next 34 = .ok (.iconst 1, 1) := by decide +kernel
theorem d_A_next_35 : decode b_A_next 35 = .ok (.isub, 1) := by decide +kernel
theorem d_A_next_36 : decode b_A_next 36 = .ok (.iload_n 2, 1) := by decide +kernel
theorem d_A_next_37 : decode b_A_next 37 = .ok (.idiv, 1) := by decide +kernel
theorem d_A_next_38 : decode b_A_next 38 = .ok (.iadd, 1) := by decide +kernel
theorem d_A_next_39 : decode b_A_next 39 = .ok (.ireturn, 1) := by decide +kernel
theorem d_A_digit_0 : decode b_A_digit 0 = .ok (.iload_n 1, 1) := by decide +kernel
theorem d_A_digit_1 : decode b_A_digit 1 = .ok (.iconst 3, 1) := by decide +kernel
theorem d_A_digit_2 : decode b_A_digit 2 = .ok (.invokestatic 40, 3) := by decide +kernel
theorem d_A_digit_5 : decode b_A_digit 5 = .ok (.lload_n 2, 1) := by decide +kernel
theorem d_A_digit_6 : decode b_A_digit 6 = .ok (.invokestatic 119, 3) := by decide +kernel
theorem d_A_digit_9 : decode b_A_digit 9 = .ok (.iload_n 1, 1) := by decide +kernel
theorem d_A_digit_10 : decode b_A_digit 10 = .ok (.lload_n 2, 1) := by decide +kernel
theorem d_A_digit_11 : decode b_A_digit 11 = .ok (.invokestatic 123, 3) := by decide +kernel
theorem d_A_digit_14 : decode b_A_digit 14 = .ok (.ireturn, 1) := by decide +kernel
theorem d_A_needNumber_0 : decode b_A_needNumber 0 = .ok (.lload_n 0, 1) := by decide +kernel
theorem d_A_needNumber_1 : decode b_A_needNumber 1 = .ok (.lconst 0, 1) := by decide +kernel
theorem d_A_needNumber_2 : decode b_A_needNumber 2 = .ok (.lcmp, 1) := by decide +kernel
theorem d_A_needNumber_3 : decode b_A_needNumber 3 = .ok (.ifCond .lt 11, 3) := by decide +kernel
theorem d_A_needNumber_6 : decode b_A_needNumber 6 = .ok (.lload_n 0, 1) := by decide +kernel
theorem d_A_needNumber_7 : decode b_A_needNumber 7 = .ok (.ldc2_w 200, 3) := by decide +kernel
theorem d_A_needNumber_10 : decode b_A_needNumber 10 = .ok (.lcmp, 1) := by decide +kernel
theorem d_A_needNumber_11 : decode b_A_needNumber 11 = .ok (.ifCond .le 13, 3) := by decide +kernel
theorem d_A_needNumber_14 : decode b_A_needNumber 14 = .ok (.new 64, 3) := by decide +kernel
theorem d_A_needNumber_17 : decode b_A_needNumber 17 = .ok (.dup, 1) := by decide +kernel
theorem d_A_needNumber_18 : decode b_A_needNumber 18 = .ok (.ldc 202, 2) := by decide +kernel
theorem d_A_needNumber_20 : decode b_A_needNumber 20 = .ok (.invokespecial 68, 3) := by decide +kernel
theorem d_A_needNumber_23 : decode b_A_needNumber 23 = .ok (.athrow, 1) := by decide +kernel
theorem d_A_needNumber_24 : decode b_A_needNumber 24 = .ok (.return_, 1) := by decide +kernel
theorem d_C_of_0 : decode b_C_of 0 = .ok (.iload_n 0, 1) := by decide +kernel
theorem d_C_of_1 : decode b_C_of 1 = .ok (.lload_n 1, 1) := by decide +kernel
theorem d_C_of_2 : decode b_C_of 2 = .ok (.invokestatic 7, 3) := by decide +kernel
theorem d_C_of_5 : decode b_C_of 5 = .ok (.istore_n 3, 1) := by decide +kernel
theorem d_C_of_6 : decode b_C_of 6 = .ok (.iload_n 0, 1) := by decide +kernel
theorem d_C_of_7 : decode b_C_of 7 = .ok (.ifCond .eq 8, 3) := by decide +kernel
theorem d_C_of_10 : decode b_C_of 10 = .ok (.iload_n 0, 1) := by decide +kernel
theorem d_C_of_11 : decode b_C_of 11 = .ok (.iconst 1, 1) := by decide +kernel
theorem d_C_of_12 : decode b_C_of 12 = .ok (.if_icmp .ne 16, 3) := by decide +kernel
theorem d_C_of_15 : decode b_C_of 15 = .ok (.bipush 10, 2) := by decide +kernel
theorem d_C_of_17 : decode b_C_of 17 = .ok (.iload_n 3, 1) := by decide +kernel
theorem d_C_of_18 : decode b_C_of 18 = .ok (.bipush 10, 2) := by decide +kernel
theorem d_C_of_20 : decode b_C_of 20 = .ok (.irem, 1) := by decide +kernel
theorem d_C_of_21 : decode b_C_of 21 = .ok (.isub, 1) := by decide +kernel
theorem d_C_of_22 : decode b_C_of 22 = .ok (.bipush 10, 2) := by decide +kernel
theorem d_C_of_24 : decode b_C_of 24 = .ok (.irem, 1) := by decide +kernel
theorem d_C_of_25 : decode b_C_of 25 = .ok (.goto 13, 3) := by decide +kernel
theorem d_C_of_28 : decode b_C_of 28 = .ok (.bipush 11, 2) := by decide +kernel
theorem d_C_of_30 : decode b_C_of 30 = .ok (.iload_n 3, 1) := by decide +kernel
theorem d_C_of_31 : decode b_C_of 31 = .ok (.bipush 11, 2) := by decide +kernel
theorem d_C_of_33 : decode b_C_of 33 = .ok (.irem, 1) := by decide +kernel
theorem d_C_of_34 : decode b_C_of 34 = .ok (.isub, 1) := by decide +kernel
theorem d_C_of_35 : decode b_C_of 35 = .ok (.bipush 11, 2) := by decide +kernel
theorem d_C_of_37 : decode b_C_of 37 = .ok (.irem, 1) := by decide +kernel
theorem d_C_of_38 : decode b_C_of 38 = .ok (.ireturn, 1) := by decide +kernel
theorem d_C_weighedSum_0 : decode b_C_weighedSum 0 = .ok (.iconst 0, 1) := by decide +kernel
theorem d_C_weighedSum_1 : decode b_C_weighedSum 1 = .ok (.istore_n 3, 1) := by decide +kernel
theorem d_C_weighedSum_2 : decode b_C_weighedSum 2 = .ok (.lload_n 1, 1) := by decide +kernel
theorem d_C_weighedSum_3 : decode b_C_weighedSum 3 = .ok (.lstore 4, 2) := by decide +kernel
theorem d_C_weighedSum_5 : decode b_C_weighedSum 5 = .ok (.iconst 0, 1) := by decide +kernel
theorem d_C_weighedSum_6 : decode b_C_weighedSum 6 = .ok (.istore 6, 2) := by decide +kernel
theorem d_C_weighedSum_8 : decode b_C_weighedSum 8 = .ok (.iload 6, 2) := by decide +kernel
theorem d_C_weighedSum_10 : decode b_C_weighedSum 10 = .ok (.bipush 18, 2) := by decide +kernel
theorem d_C_weighedSum_12 : decode b_C_weighedSum 12 = .ok (.if_icmp .ge 33, 3) := by decide +kernel
theorem d_C_weighedSum_15 : decode b_C_weighedSum 15 = .ok (.iload_n 3, 1) := by decide +kernel
theorem d_C_weighedSum_16 : decode b_C_weighedSum 16 = .ok (.iload_n 0, 1) := by decide +kernel
theorem d_C_weighedSum_17 : decode b_C_weighedSum 17 = .ok (.iload 6, 2) := by decide +kernel
theorem d_C_weighedSum_19 : decode b_C_weighedSum 19 = .ok (.lload 4, 2) := by decide +kernel
theorem d_C_weighedSum_21 : decode b_C_weighedSum 21 = .ok (.ldc2_w 13, 3) := by decide +kernel
theorem d_C_weighedSum_24 : decode b_C_weighedSum 24 = .ok (.lrem, 1) := by decide +kernel
theorem d_C_weighedSum_25 : decode b_C_weighedSum 25 = .ok (.l2i, 1) := by decide +kernel
theorem d_C_weighedSum_26 : decode b_C_weighedSum 26 = .ok (.invokestatic 18, 3) := by decide +kernel
theorem d_C_weighedSum_29 : decode b_C_weighedSum 29 = .ok (.iadd, 1) := by decide +kernel
theorem d_C_weighedSum_30 : decode b_C_weighedSum 30 = .ok (.istore_n 3, 1) := by decide +kernel
theorem d_C_weighedSum_31 : decode b_C_weighedSum 31 = .ok (.lload 4, 2) := by decide +kernel
theorem d_C_weighedSum_33 : decode b_C_weighedSum 33 = .ok (.ldc2_w 13, 3) := by decide +kernel
theorem d_C_weighedSum_36 : decode b_C_weighedSum 36 = .ok (.ldiv, 1) := by decide +kernel
theorem d_C_weighedSum_37 : decode b_C_weighedSum 37 = .ok (.lstore 4, 2) := by decide +kernel
theorem d_C_weighedSum_39 : decode b_C_weighedSum 39 = .ok (.iinc 6 1, 3) := by decide +kernel
theorem d_C_weighedSum_42 : decode b_C_weighedSum 42 = .ok (.goto (-34), 3) := by decide +kernel
theorem d_C_weighedSum_45 : decode b_C_weighedSum 45 = .ok (.iload_n 3, 1) := by decide +kernel
theorem d_C_weighedSum_46 : decode b_C_weighedSum 46 = .ok (.ireturn, 1) := by decide +kernel
theorem d_C_weighed_0 : decode b_C_weighed 0 = .ok (.iload_n 1, 1) := by decide +kernel
theorem d_C_weighed_1 : decode b_C_weighed 1 = .ok (.iconst 2, 1) := by decide +kernel
theorem d_C_weighed_2 : decode b_C_weighed 2 = .ok (.irem, 1) := by decide +kernel
theorem d_C_weighed_3 : decode b_C_weighed 3 = .ok (.ifCond .ne 7, 3) := by decide +kernel
theorem d_C_weighed_6 : decode b_C_weighed 6 = .ok (.iconst 1, 1) := by decide +kernel
theorem d_C_weighed_7 : decode b_C_weighed 7 = .ok (.goto 4, 3) := by decide +kernel
theorem d_C_weighed_10 : decode b_C_weighed 10 = .ok (.iconst 0, 1) := by decide +kernel
theorem d_C_weighed_11 : decode b_C_weighed 11 = .ok (.istore_n 3, 1) := by decide +kernel
theorem d_C_weighed_12 : decode b_C_weighed 12 = .ok (.iload_n 0, 1) := by decide +kernel
theorem d_C_weighed_13 : decode b_C_weighed 13 = .ok (.ifCond .ne 16, 3) := by decide +kernel
theorem d_C_weighed_16 : decode b_C_weighed 16 = .ok (.iload_n 3, 1) := by decide +kernel
theorem d_C_weighed_17 : decode b_C_weighed 17 = .ok (.ifCond .eq 10, 3) := by decide +kernel
theorem d_C_weighed_20 : decode b_C_weighed 20 = .ok (.iload_n 2, 1) := by decide +kernel
theorem d_C_weighed_21 : decode b_C_weighed 21 = .ok (.invokestatic 22, 3) := by decide +kernel
theorem d_C_weighed_24 : decode b_C_weighed 24 = .ok (.goto 4, 3) := by decide +kernel
theorem d_C_weighed_27 : decode b_C_weighed 27 = .ok (.iload_n 2, 1) := by decide +kernel
theorem d_C_weighed_28 : decode b_C_weighed 28 = .ok (.ireturn, 1) := by decide +kernel
theorem d_C_weighed_29 : decode b_C_weighed 29 = .ok (.iload_n 0, 1) := by decide +kernel
theorem d_C_weighed_30 : decode b_C_weighed 30 = .ok (.iconst 1, 1) := by decide +kernel
theorem d_C_weighed_31 : decode b_C_weighed 31 = .ok (.if_icmp .ne 15, 3) := by decide +kernel
theorem d_C_weighed_34 : decode b_C_weighed 34 = .ok (.iload_n 3, 1) := by decide +kernel
theorem d_C_weighed_35 : decode b_C_weighed 35 = .ok (.ifCond .eq 9, 3) := by decide +kernel
theorem d_C_weighed_38 : decode b_C_weighed 38 = .ok (.iconst 3, 1) := by decide +kernel
theorem d_C_weighed_39 : decode b_C_weighed 39 = .ok (.iload_n 2, 1) := by decide +kernel
theorem d_C_weighed_40 : decode b_C_weighed 40 = .ok (.imul, 1) := by decide +kernel
theorem d_C_weighed_41 : decode b_C_weighed 41 = .ok (.goto 4, 3) := by decide +kernel
theorem d_C_weighed_44 : decode b_C_weighed 44 = .ok (.iload_n 2, 1) := by decide +kernel
theorem d_C_weighed_45 : decode b_C_weighed 45 = .ok (.ireturn, 1) := by decide +kernel
theorem d_C_weighed_46 : decode b_C_weighed 46 = .ok (.iload_n 2, 1) := by decide +kernel
theorem d_C_weighed_47 : decode b_C_weighed 47 = .ok (.iload_n 1, 1) := by decide +kernel
theorem d_C_weighed_48 : decode b_C_weighed 48 = .ok (.bipush 6, 2) := by decide +kernel
theorem d_C_weighed_50 : decode b_C_weighed 50 = .ok (.irem, 1) := by decide +kernel
theorem d_C_weighed_51 : decode b_C_weighed 51 = .ok (.iconst 2, 1) := by decide +kernel
theorem d_C_weighed_52 : decode b_C_weighed 52 = .ok (.iadd, 1) := by decide +kernel
theorem d_C_weighed_53 : decode b_C_weighed 53 = .ok (.imul, 1) := by decide +kernel
theorem d_C_weighed_54 : decode b_C_weighed 54 = .ok (.ireturn, 1) := by decide +kernel
theorem d_C_doubled_0 : decode b_C_doubled 0 = .ok (.iconst 2, 1) := by decide +kernel
theorem d_C_doubled_1 : decode b_C_doubled 1 = .ok (.iload_n 0, 1) := by decide +kernel
theorem d_C_doubled_2 : decode b_C_doubled 2 = .ok (.imul, 1) := by decide +kernel
theorem d_C_doubled_3 : decode b_C_doubled 3 = .ok (.istore_n 1, 1) := by decide +kernel
theorem d_C_doubled_4 : decode b_C_doubled 4 = .ok (.iload_n 1, 1) := by decide +kernel
theorem d_C_doubled_5 : decode b_C_doubled 5 = .ok (.bipush 9, 2) := by decide +kernel
theorem d_C_doubled_7 : decode b_C_doubled 7 = .ok (.if_icmp .le 10, 3) := by decide +kernel
theorem d_C_doubled_10 : decode b_C_doubled 10 = .ok (.iload_n 1, 1) := by decide +kernel
theorem d_C_doubled_11 : decode b_C_doubled 11 = .ok (.bipush 9, 2) := by decide +kernel
theorem d_C_doubled_13 : decode b_C_doubled 13 = .ok (.isub, 1) := by decide +kernel
theorem d_C_doubled_14 : decode b_C_doubled 14 = .ok (.goto 4, 3) := by decide +kernel
theorem d_C_doubled_17 : decode b_C_doubled 17 = .ok (.iload_n 1, 1) := by decide +kernel
theorem d_C_doubled_18 : decode b_C_doubled 18 = .ok (.ireturn, 1) := by decide +kernel
theorem d_A_good_0 : decode b_A_good 0 = .ok (.iload_n 1, 1) := by decide +kernel
theorem d_A_good_1 : decode b_A_good 1 = .ok (.iconst 3, 1) := by decide +kernel
theorem d_A_good_2 : decode b_A_good 2 = .ok (.invokestatic 40, 3) := by decide +kernel
theorem d_A_good_5 : decode b_A_good 5 = .ok (.lload_n 2, 1) := by decide +kernel
theorem d_A_good_6 : decode b_A_good 6 = .ok (.invokestatic 119, 3) := by decide +kernel
theorem d_A_good_9 : decode b_A_good 9 = .ok (.iload_n 1, 1) := by decide +kernel
theorem d_A_good_10 : decode b_A_good 10 = .ok (.lload_n 2, 1) := by decide +kernel
theorem d_A_good_11 : decode b_A_good 11 = .ok (.invokestatic 127, 3) := by decide +kernel
theorem d_A_good_14 : decode b_A_good 14 = .ok (.ireturn, 1) := by decide +kernel
theorem d_C_closes_0 : decode b_C_closes 0 = .ok (.lload_n 1, 1) := by decide +kernel
theorem d_C_closes_1 : decode b_C_closes 1 = .ok (.ldc2_w 13, 3) := by decide +kernel
theorem d_C_closes_4 : decode b_C_closes 4 = .ok (.lrem, 1) := by decide +kernel
theorem d_C_closes_5 : decode b_C_closes 5 = .ok (.l2i, 1) := by decide +kernel
theorem d_C_closes_6 : decode b_C_closes 6 = .ok (.istore_n 3, 1) := by decide +kernel
theorem d_C_closes_7 : decode b_C_closes 7 = .ok (.iload_n 0, 1) := by decide +kernel
theorem d_C_closes_8 : decode b_C_closes 8 = .ok (.lload_n 1, 1) := by decide +kernel
theorem d_C_closes_9 : decode b_C_closes 9 = .ok (.ldc2_w 13, 3) := by decide +kernel
theorem d_C_closes_12 : decode b_C_closes 12 = .ok (.ldiv, 1) := by decide +kernel
theorem d_C_closes_13 : decode b_C_closes 13 = .ok (.invokestatic 15, 3) := by decide +kernel
theorem d_C_closes_16 : decode b_C_closes 16 = .ok (.iload_n 3, 1) := by decide +kernel
theorem d_C_closes_17 : decode b_C_closes 17 = .ok (.if_icmp .ne 7, 3) := by decide +kernel
theorem d_C_closes_20 : decode b_C_closes 20 = .ok (.iconst 1, 1) := by decide +kernel
theorem d_C_closes_21 : decode b_C_closes 21 = .ok (.goto 4, 3) := by decide +kernel
theorem d_C_closes_24 : decode b_C_closes 24 = .ok (.iconst 0, 1) := by decide +kernel
theorem d_C_closes_25 : decode b_C_closes 25 = .ok (.ireturn, 1) := by decide +kernel
theorem d_A_tag_0 : decode b_A_tag 0 = .ok (.aload_n 0, 1) := by decide +kernel
theorem d_A_tag_1 : decode b_A_tag 1 = .ok (.iload_n 1, 1) := by decide +kernel
theorem d_A_tag_2 : decode b_A_tag 2 = .ok (.invokevirtual 90, 3) := by decide +kernel
theorem d_A_tag_5 : decode b_A_tag 5 = .ok (.astore 5, 2) := by decide +kernel
theorem d_A_tag_7 : decode b_A_tag 7 = .ok (.iload_n 3, 1) := by decide +kernel
theorem d_A_tag_8 : decode b_A_tag 8 = .ok (.bipush 16, 2) := by decide +kernel
theorem d_A_tag_10 : decode b_A_tag 10 = .ok (.invokestatic 40, 3) := by decide +kernel
theorem d_A_tag_13 : decode b_A_tag 13 = .ok (.iload_n 2, 1) := by decide +kernel
theorem d_A_tag_14 : decode b_A_tag 14 = .ok (.invokestatic 131, 3) := by decide +kernel
theorem d_A_tag_17 : decode b_A_tag 17 = .ok (.iload 4, 2) := by decide +kernel
theorem d_A_tag_19 : decode b_A_tag 19 = .ok (.invokestatic 131, 3) := by decide +kernel
theorem d_A_tag_22 : decode b_A_tag 22 = .ok (.iload 4, 2) := by decide +kernel
theorem d_A_tag_24 : decode b_A_tag 24 = .ok (.iload_n 2, 1) := by decide +kernel
theorem d_A_tag_25 : decode b_A_tag 25 = .ok (.if_icmp .ge 13, 3) := by decide +kernel
theorem d_A_tag_28 : decode b_A_tag 28 = .ok (.new 64, 3) := by decide +kernel
theorem d_A_tag_31 : decode b_A_tag 31 = .ok (.dup, 1) := by decide +kernel
theorem d_A_tag_32 : decode b_A_tag 32 = .ok (.ldc 134, 2) := by decide +kernel
theorem d_A_tag_34 : decode b_A_tag 34 = .ok (.invokespecial 68, 3) := by decide +kernel
theorem d_A_tag_37 : decode b_A_tag 37 = .ok (.athrow, 1) := by decide +kernel
theorem d_A_tag_38 : decode b_A_tag 38 = .ok (.aload 5, 2) := by decide +kernel
theorem d_A_tag_40 : decode b_A_tag 40 = .ok (.getfield 136, 3) := by decide +kernel
theorem d_A_tag_43 : decode b_A_tag 43 = .ok (.invokevirtual 44, 3) := by decide +kernel
theorem d_A_tag_46 : decode b_A_tag 46 = .ok (.bipush 24, 2) := by decide +kernel
theorem d_A_tag_48 : decode b_A_tag 48 = .ok (.if_icmp .lt 13, 3) := by decide +kernel
theorem d_A_tag_51 : decode b_A_tag 51 = .ok (.new 48, 3) := by decide +kernel
theorem d_A_tag_54 : decode b_A_tag 54 = .ok (.dup, 1) := by decide +kernel
theorem d_A_tag_55 : decode b_A_tag 55 = .ok (.ldc 139, 2) := by decide +kernel
theorem d_A_tag_57 : decode b_A_tag 57 = .ok (.invokespecial 52, 3) := by decide +kernel
theorem d_A_tag_60 : decode b_A_tag 60 = .ok (.athrow, 1) := by decide +kernel
theorem d_A_tag_61 : decode b_A_tag 61 = .ok (.aload 5, 2) := by decide +kernel
theorem d_A_tag_63 : decode b_A_tag 63 = .ok (.getfield 136, 3) := by decide +kernel
theorem d_A_tag_66 : decode b_A_tag 66 = .ok (.new 141, 3) := by decide +kernel
theorem d_A_tag_69 : decode b_A_tag 69 = .ok (.dup, 1) := by decide +kernel
theorem d_A_tag_70 : decode b_A_tag 70 = .ok (.iload_n 2, 1) := by decide +kernel
theorem d_A_tag_71 : decode b_A_tag 71 = .ok (.iload_n 3, 1) := by decide +kernel
theorem d_A_tag_72 : decode b_A_tag 72 = .ok (.iload 4, 2) := by decide +kernel
theorem d_A_tag_74 : decode b_A_tag 74 = .ok (.invokespecial 143, 3) := by decide +kernel
theorem d_A_tag_77 : decode b_A_tag 77 = .ok (.invokevirtual 60, 3) := by decide +kernel
theorem d_A_tag_80 : decode b_A_tag 80 = .ok (.pop, 1) := by decide +kernel
theorem d_A_tag_81 : decode b_A_tag 81 = .ok (.aload 5, 2) := by decide +kernel
theorem d_A_tag_83 : decode b_A_tag 83 = .ok (.getfield 136, 3) := by decide +kernel
theorem d_A_tag_86 : decode b_A_tag 86 = .ok (.invokevirtual 44, 3) := by decide +kernel
theorem d_A_tag_89 : decode b_A_tag 89 = .ok (.ireturn, 1) := by decide +kernel
theorem d_A_needHour_0 : decode b_A_needHour 0 = .ok (.iload_n 0, 1) := by decide +kernel
theorem d_A_needHour_1 : decode b_A_needHour 1 = .ok (.ifCond .lt 9, 3) := by decide +kernel
theorem d_A_needHour_4 : decode b_A_needHour 4 = .ok (.iload_n 0, 1) := by decide +kernel
theorem d_A_needHour_5 : decode b_A_needHour 5 = .ok (.ldc 197, 2) := by decide +kernel
theorem d_A_needHour_7 : decode b_A_needHour 7 = .ok (.if_icmp .le 13, 3) := by decide +kernel
theorem d_A_needHour_10 : decode b_A_needHour 10 = .ok (.new 64, 3) := by decide +kernel
theorem d_A_needHour_13 : decode b_A_needHour 13 = .ok (.dup, 1) := by decide +kernel
theorem d_A_needHour_14 : decode b_A_needHour 14 = .ok (.ldc 198, 2) := by decide +kernel
theorem d_A_needHour_16 : decode b_A_needHour 16 = .ok (.invokespecial 68, 3) := by decide +kernel
theorem d_A_needHour_19 : decode b_A_needHour 19 = .ok (.athrow, 1) := by decide +kernel
theorem d_A_needHour_20 : decode b_A_needHour 20 = .ok (.return_, 1) := by decide +kernel
theorem d_S_init_0 : decode b_S_init 0 = .ok (.aload_n 0, 1) := by decide +kernel
theorem d_S_init_1 : decode b_S_init 1 = .ok (.invokespecial 1, 3) := by decide +kernel
theorem d_S_init_4 : decode b_S_init 4 = .ok (.aload_n 0, 1) := by decide +kernel
theorem d_S_init_5 : decode b_S_init 5 = .ok (.iload_n 1, 1) := by decide +kernel
theorem d_S_init_6 : decode b_S_init 6 = .ok (.putfield 7, 3) := by decide +kernel
theorem d_S_init_9 : decode b_S_init 9 = .ok (.aload_n 0, 1) := by decide +kernel
theorem d_S_init_10 : decode b_S_init 10 = .ok (.iload_n 2, 1) := by decide +kernel
theorem d_S_init_11 : decode b_S_init 11 = .ok (.putfield 13, 3) := by decide +kernel
theorem d_S_init_14 : decode b_S_init 14 = .ok (.aload_n 0, 1) := by decide +kernel
theorem d_S_init_15 : decode b_S_init 15 = .ok (.iload_n 3, 1) := by decide +kernel
theorem d_S_init_16 : decode b_S_init 16 = .ok (.putfield 16, 3) := by decide +kernel
theorem d_S_init_19 : decode b_S_init 19 = .ok (.return_, 1) := by decide +kernel
theorem d_A_first_0 : decode b_A_first 0 = .ok (.aload_n 0, 1) := by decide +kernel
theorem d_A_first_1 : decode b_A_first 1 = .ok (.iload_n 1, 1) := by decide +kernel
theorem d_A_first_2 : decode b_A_first 2 = .ok (.invokevirtual 90, 3) := by decide +kernel
theorem d_A_first_5 : decode b_A_first 5 = .ok (.astore_n 3, 1) := by decide +kernel
theorem d_A_first_6 : decode b_A_first 6 = .ok (.iload_n 2, 1) := by decide +kernel
theorem d_A_first_7 : decode b_A_first 7 = .ok (.invokestatic 131, 3) := by decide +kernel
theorem d_A_first_10 : decode b_A_first 10 = .ok (.aload_n 3, 1) := by decide +kernel
theorem d_A_first_11 : decode b_A_first 11 = .ok (.iload_n 2, 1) := by decide +kernel
theorem d_A_first_12 : decode b_A_first 12 = .ok (.invokevirtual 144, 3) := by decide +kernel
theorem d_A_first_15 : decode b_A_first 15 = .ok (.astore 4, 2) := by decide +kernel
theorem d_A_first_17 : decode b_A_first 17 = .ok (.aload 4, 2) := by decide +kernel
theorem d_A_first_19 : decode b_A_first 19 = .ok (.ifnonnull 7, 3) := by decide +kernel
theorem d_A_first_22 : decode b_A_first 22 = .ok (.iconst 0, 1) := by decide +kernel
theorem d_A_first_23 : decode b_A_first 23 = .ok (.goto 10, 3) := by decide +kernel
theorem d_A_first_26 : decode b_A_first 26 = .ok (.aload 4, 2) := by decide +kernel
theorem d_A_first_28 : decode b_A_first 28 = .ok (.getfield 148, 3) := by decide +kernel
theorem d_A_first_31 : decode b_A_first 31 = .ok (.iconst 1, 1) := by decide +kernel
theorem d_A_first_32 : decode b_A_first 32 = .ok (.iadd, 1) := by decide +kernel
theorem d_A_first_33 : decode b_A_first 33 = .ok (.ireturn, 1) := by decide +kernel
theorem d_T_lastToldBy_0 : decode b_T_lastToldBy 0 = .ok (.aconst_null, 1) := by decide +kernel
theorem d_T_lastToldBy_1 : decode b_T_lastToldBy 1 = .ok (.astore_n 2, 1) := by decide +kernel
theorem d_T_lastToldBy_2 : decode b_T_lastToldBy 2 = .ok (.iconst 0, 1) := by decide +kernel
theorem d_T_lastToldBy_3 : decode b_T_lastToldBy 3 = .ok (.istore_n 3, 1) := by decide +kernel
theorem d_T_lastToldBy_4 : decode b_T_lastToldBy 4 = .ok (.iload_n 3, 1) := by decide +kernel
theorem d_T_lastToldBy_5 : decode b_T_lastToldBy 5 = .ok (.aload_n 0, 1) := by decide +kernel
theorem d_T_lastToldBy_6 : decode b_T_lastToldBy 6 = .ok (.getfield 12, 3) := by decide +kernel
theorem d_T_lastToldBy_9 : decode b_T_lastToldBy 9 = .ok (.invokevirtual 34, 3) := by decide +kernel
theorem d_T_lastToldBy_12 : decode b_T_lastToldBy 12 = .ok (.if_icmp .ge 47, 3) := by decide +kernel
theorem d_T_lastToldBy_15 : decode b_T_lastToldBy 15 = .ok (.aload_n 0, 1) := by decide +kernel
theorem d_T_lastToldBy_16 : decode b_T_lastToldBy 16 = .ok (.getfield 12, 3) := by decide +kernel
theorem d_T_lastToldBy_19 : decode b_T_lastToldBy 19 = .ok (.iload_n 3, 1) := by decide +kernel
theorem d_T_lastToldBy_20 : decode b_T_lastToldBy 20 = .ok (.invokevirtual 38, 3) := by decide +kernel
theorem d_T_lastToldBy_23 : decode b_T_lastToldBy 23 = .ok (.checkcast 42, 3) := by decide +kernel
theorem d_T_lastToldBy_26 : decode b_T_lastToldBy 26 = .ok (.astore 4, 2) := by decide +kernel
theorem d_T_lastToldBy_28 : decode b_T_lastToldBy 28 = .ok (.aload 4, 2) := by decide +kernel
theorem d_T_lastToldBy_30 : decode b_T_lastToldBy 30 = .ok (.getfield 44, 3) := by decide +kernel
theorem d_T_lastToldBy_33 : decode b_T_lastToldBy 33 = .ok (.iload_n 1, 1) := by decide +kernel
theorem d_T_lastToldBy_34 : decode b_T_lastToldBy 34 = .ok (.if_icmp .gt 19, 3) := by decide +kernel
theorem d_T_lastToldBy_37 : decode b_T_lastToldBy 37 = .ok (.aload_n 2, 1) := by decide +kernel
theorem d_T_lastToldBy_38 : decode b_T_lastToldBy 38 = .ok (.ifnull 12, 3) := by decide +kernel
theorem d_T_lastToldBy_41 : decode b_T_lastToldBy 41 = .ok (.aload 4, 2) := by decide +kernel
theorem d_T_lastToldBy_43 : decode b_T_lastToldBy 43 = .ok (.aload_n 2, 1) := by decide +kernel
theorem d_T_lastToldBy_44 : decode b_T_lastToldBy 44 = .ok (.invokevirtual 47, 3) := by decide +kernel
theorem d_T_lastToldBy_47 : decode b_T_lastToldBy 47 = .ok (.ifCond .eq 6, 3) := by decide +kernel
theorem d_T_lastToldBy_50 : decode b_T_lastToldBy 50 = .ok (.aload 4, 2) := by decide +kernel
theorem d_T_lastToldBy_52 : decode b_T_lastToldBy 52 = .ok (.astore_n 2, 1) := by decide +kernel
theorem d_T_lastToldBy_53 : decode b_T_lastToldBy 53 = .ok (.iinc 3 1, 3) := by decide +kernel
theorem d_T_lastToldBy_56 : decode b_T_lastToldBy 56 = .ok (.goto (-52), 3) := by decide +kernel
theorem d_T_lastToldBy_59 : decode b_T_lastToldBy 59 = .ok (.aload_n 2, 1) := by decide +kernel
theorem d_T_lastToldBy_60 : decode b_T_lastToldBy 60 = .ok (.areturn, 1) := by decide +kernel
theorem d_S_replaces_0 : decode b_S_replaces 0 = .ok (.aload_n 0, 1) := by decide +kernel
theorem d_S_replaces_1 : decode b_S_replaces 1 = .ok (.getfield 7, 3) := by decide +kernel
theorem d_S_replaces_4 : decode b_S_replaces 4 = .ok (.aload_n 1, 1) := by decide +kernel
theorem d_S_replaces_5 : decode b_S_replaces 5 = .ok (.getfield 7, 3) := by decide +kernel
theorem d_S_replaces_8 : decode b_S_replaces 8 = .ok (.if_icmp .eq 20, 3) := by decide +kernel
theorem d_S_replaces_11 : decode b_S_replaces 11 = .ok (.aload_n 0, 1) := by decide +kernel
theorem d_S_replaces_12 : decode b_S_replaces 12 = .ok (.getfield 7, 3) := by decide +kernel
theorem d_S_replaces_15 : decode b_S_replaces 15 = .ok (.aload_n 1, 1) := by decide +kernel
theorem d_S_replaces_16 : decode b_S_replaces 16 = .ok (.getfield 7, 3) := by decide +kernel
theorem d_S_replaces_19 : decode b_S_replaces 19 = .ok (.if_icmp .le 7, 3) := by decide +kernel
theorem d_S_replaces_22 : decode b_S_replaces 22 = .ok (.iconst 1, 1) := by decide +kernel
theorem d_S_replaces_23 : decode b_S_replaces 23 = .ok (.goto 4, 3) := by decide +kernel
theorem d_S_replaces_26 : decode b_S_replaces 26 = .ok (.iconst 0, 1) := by decide +kernel
theorem d_S_replaces_27 : decode b_S_replaces 27 = .ok (.ireturn, 1) := by decide +kernel
theorem d_S_replaces_28 : decode b_S_replaces 28 = .ok (.aload_n 0, 1) := by decide +kernel
theorem d_S_replaces_29 : decode b_S_replaces 29 = .ok (.getfield 16, 3) := by decide +kernel
theorem d_S_replaces_32 : decode b_S_replaces 32 = .ok (.aload_n 1, 1) := by decide +kernel
theorem d_S_replaces_33 : decode b_S_replaces 33 = .ok (.getfield 16, 3) := by decide +kernel
theorem d_S_replaces_36 : decode b_S_replaces 36 = .ok (.if_icmp .lt 7, 3) := by decide +kernel
theorem d_S_replaces_39 : decode b_S_replaces 39 = .ok (.iconst 1, 1) := by decide +kernel
theorem d_S_replaces_40 : decode b_S_replaces 40 = .ok (.goto 4, 3) := by decide +kernel
theorem d_S_replaces_43 : decode b_S_replaces 43 = .ok (.iconst 0, 1) := by decide +kernel
theorem d_S_replaces_44 : decode b_S_replaces 44 = .ok (.ireturn, 1) := by decide +kernel
theorem d_A_seen_0 : decode b_A_seen 0 = .ok (.aload_n 0, 1) := by decide +kernel
theorem d_A_seen_1 : decode b_A_seen 1 = .ok (.iload_n 1, 1) := by decide +kernel
theorem d_A_seen_2 : decode b_A_seen 2 = .ok (.invokevirtual 90, 3) := by decide +kernel
theorem d_A_seen_5 : decode b_A_seen 5 = .ok (.astore_n 3, 1) := by decide +kernel
theorem d_A_seen_6 : decode b_A_seen 6 = .ok (.iload_n 2, 1) := by decide +kernel
theorem d_A_seen_7 : decode b_A_seen 7 = .ok (.invokestatic 131, 3) := by decide +kernel
theorem d_A_seen_10 : decode b_A_seen 10 = .ok (.aload_n 3, 1) := by decide +kernel
theorem d_A_seen_11 : decode b_A_seen 11 = .ok (.iload_n 2, 1) := by decide +kernel
theorem d_A_seen_12 : decode b_A_seen 12 = .ok (.invokevirtual 144, 3) := by decide +kernel
theorem d_A_seen_15 : decode b_A_seen 15 = .ok (.astore 4, 2) := by decide +kernel
theorem d_A_seen_17 : decode b_A_seen 17 = .ok (.aload 4, 2) := by decide +kernel
theorem d_A_seen_19 : decode b_A_seen 19 = .ok (.ifnonnull 7, 3) := by decide +kernel
theorem d_A_seen_22 : decode b_A_seen 22 = .ok (.iconst (-1), 1) := by decide +kernel
theorem d_A_seen_23 : decode b_A_seen 23 = .ok (.goto 8, 3) := by decide +kernel
theorem d_A_seen_26 : decode b_A_seen 26 = .ok (.aload 4, 2) := by decide +kernel
theorem d_A_seen_28 : decode b_A_seen 28 = .ok (.getfield 151, 3) := by decide +kernel
theorem d_A_seen_31 : decode b_A_seen 31 = .ok (.ireturn, 1) := by decide +kernel
theorem d_A_weight_0 : decode b_A_weight 0 = .ok (.aload_n 0, 1) := by decide +kernel
theorem d_A_weight_1 : decode b_A_weight 1 = .ok (.iload_n 1, 1) := by decide +kernel
theorem d_A_weight_2 : decode b_A_weight 2 = .ok (.invokevirtual 90, 3) := by decide +kernel
theorem d_A_weight_5 : decode b_A_weight 5 = .ok (.astore_n 3, 1) := by decide +kernel
theorem d_A_weight_6 : decode b_A_weight 6 = .ok (.iload_n 2, 1) := by decide +kernel
theorem d_A_weight_7 : decode b_A_weight 7 = .ok (.iconst 1, 1) := by decide +kernel
theorem d_A_weight_8 : decode b_A_weight 8 = .ok (.if_icmp .lt 9, 3) := by decide +kernel
theorem d_A_weight_11 : decode b_A_weight 11 = .ok (.iload_n 2, 1) := by decide +kernel
theorem d_A_weight_12 : decode b_A_weight 12 = .ok (.ldc 152, 2) := by decide +kernel
theorem d_A_weight_14 : decode b_A_weight 14 = .ok (.if_icmp .le 13, 3) := by decide +kernel
theorem d_A_weight_17 : decode b_A_weight 17 = .ok (.new 64, 3) := by decide +kernel
theorem d_A_weight_20 : decode b_A_weight 20 = .ok (.dup, 1) := by decide +kernel
theorem d_A_weight_21 : decode b_A_weight 21 = .ok (.ldc 153, 2) := by decide +kernel
theorem d_A_weight_23 : decode b_A_weight 23 = .ok (.invokespecial 68, 3) := by decide +kernel
theorem d_A_weight_26 : decode b_A_weight 26 = .ok (.athrow, 1) := by decide +kernel
theorem d_A_weight_27 : decode b_A_weight 27 = .ok (.aload_n 3, 1) := by decide +kernel
theorem d_A_weight_28 : decode b_A_weight 28 = .ok (.getfield 155, 3) := by decide +kernel
theorem d_A_weight_31 : decode b_A_weight 31 = .ok (.ifCond .ne 7, 3) := by decide +kernel
theorem d_A_weight_34 : decode b_A_weight 34 = .ok (.iload_n 2, 1) := by decide +kernel
theorem d_A_weight_35 : decode b_A_weight 35 = .ok (.goto 7, 3) := by decide +kernel
theorem d_A_weight_38 : decode b_A_weight 38 = .ok (.aload_n 3, 1) := by decide +kernel
theorem d_A_weight_39 : decode b_A_weight 39 = .ok (.getfield 155, 3) := by decide +kernel
theorem d_A_weight_42 : decode b_A_weight 42 = .ok (.istore 4, 2) := by decide +kernel
theorem d_A_weight_44 : decode b_A_weight 44 = .ok (.aload_n 3, 1) := by decide +kernel
theorem d_A_weight_45 : decode b_A_weight 45 = .ok (.iload_n 2, 1) := by decide +kernel
theorem d_A_weight_46 : decode b_A_weight 46 = .ok (.putfield 155, 3) := by decide +kernel
theorem d_A_weight_49 : decode b_A_weight 49 = .ok (.iload_n 2, 1) := by decide +kernel
theorem d_A_weight_50 : decode b_A_weight 50 = .ok (.iload 4, 2) := by decide +kernel
theorem d_A_weight_52 : decode b_A_weight 52 = .ok (.isub, 1) := by decide +kernel
theorem d_A_weight_53 : decode b_A_weight 53 = .ok (.invokestatic 158, 3) := by decide +kernel
theorem d_A_weight_56 : decode b_A_weight 56 = .ok (.ireturn, 1) := by decide +kernel
theorem d_A_report_0 : decode b_A_report 0 = .ok (.iload_n 1, 1) := by decide +kernel
theorem d_A_report_1 : decode b_A_report 1 = .ok (.iconst 4, 1) := by decide +kernel
theorem d_A_report_2 : decode b_A_report 2 = .ok (.invokestatic 40, 3) := by decide +kernel
theorem d_A_report_5 : decode b_A_report 5 = .ok (.iload_n 2, 1) := by decide +kernel
theorem d_A_report_6 : decode b_A_report 6 = .ok (.invokestatic 163, 3) := by decide +kernel
theorem d_A_report_9 : decode b_A_report 9 = .ok (.iconst 0, 1) := by decide +kernel
theorem d_A_report_10 : decode b_A_report 10 = .ok (.istore_n 3, 1) := by decide +kernel
theorem d_A_report_11 : decode b_A_report 11 = .ok (.iconst 0, 1) := by decide +kernel
theorem d_A_report_12 : decode b_A_report 12 = .ok (.istore 4, 2) := by decide +kernel
theorem d_A_report_14 : decode b_A_report 14 = .ok (.iload 4, 2) := by decide +kernel
theorem d_A_report_16 : decode b_A_report 16 = .ok (.aload_n 0, 1) := by decide +kernel
theorem d_A_report_17 : decode b_A_report 17 = .ok (.getfield 19, 3) := by decide +kernel
theorem d_A_report_20 : decode b_A_report 20 = .ok (.invokevirtual 44, 3) := by decide +kernel
theorem d_A_report_23 : decode b_A_report 23 = .ok (.if_icmp .ge 39, 3) := by decide +kernel
theorem d_A_report_26 : decode b_A_report 26 = .ok (.aload_n 0, 1) := by decide +kernel
theorem d_A_report_27 : decode b_A_report 27 = .ok (.getfield 19, 3) := by decide +kernel
theorem d_A_report_30 : decode b_A_report 30 = .ok (.iload 4, 2) := by decide +kernel
theorem d_A_report_32 : decode b_A_report 32 = .ok (.invokevirtual 82, 3) := by decide +kernel
theorem d_A_report_35 : decode b_A_report 35 = .ok (.checkcast 55, 3) := by decide +kernel
theorem d_A_report_38 : decode b_A_report 38 = .ok (.getfield 101, 3) := by decide +kernel
theorem d_A_report_41 : decode b_A_report 41 = .ok (.iload_n 1, 1) := by decide +kernel
theorem d_A_report_42 : decode b_A_report 42 = .ok (.if_icmp .ne 14, 3) := by decide +kernel
theorem d_A_report_45 : decode b_A_report 45 = .ok (.iload_n 3, 1) := by decide +kernel
theorem d_A_report_46 : decode b_A_report 46 = .ok (.iload_n 2, 1) := by decide +kernel
theorem d_A_report_47 : decode b_A_report 47 = .ok (.if_icmp .ne 6, 3) := by decide +kernel
theorem d_A_report_50 : decode b_A_report 50 = .ok (.iload 4, 2) := by decide +kernel
theorem d_A_report_52 : decode b_A_report 52 = .ok (.ireturn, 1) := by decide +kernel
theorem d_A_report_53 : decode b_A_report 53 = .ok (.iinc 3 1, 3) := by decide +kernel
theorem d_A_report_56 : decode b_A_report 56 = .ok (.iinc 4 1, 3) := by decide +kernel
theorem d_A_report_59 : decode b_A_report 59 = .ok (.goto (-45), 3) := by decide +kernel
theorem d_A_report_62 : decode b_A_report 62 = .ok (.iconst (-1), 1) := by decide +kernel
theorem d_A_report_63 : decode b_A_report 63 = .ok (.ireturn, 1) := by decide +kernel
theorem d_A_needNotNegative_0 : decode b_A_needNotNegative 0 = .ok (.iload_n 0, 1) := by decide +kernel
theorem d_A_needNotNegative_1 : decode b_A_needNotNegative 1 = .ok (.ifCond .ge 13, 3) := by decide +kernel
theorem d_A_needNotNegative_4 : decode b_A_needNotNegative 4 = .ok (.new 188, 3) := by decide +kernel
theorem d_A_needNotNegative_7 : decode b_A_needNotNegative 7 = .ok (.dup, 1) := by decide +kernel
theorem d_A_needNotNegative_8 : decode b_A_needNotNegative 8 = .ok (.ldc 193, 2) := by decide +kernel
theorem d_A_needNotNegative_10 : decode b_A_needNotNegative 10 = .ok (.invokespecial 192, 3) := by decide +kernel
theorem d_A_needNotNegative_13 : decode b_A_needNotNegative 13 = .ok (.athrow, 1) := by decide +kernel
theorem d_A_needNotNegative_14 : decode b_A_needNotNegative 14 = .ok (.return_, 1) := by decide +kernel
theorem d_A_room_0 : decode b_A_room 0 = .ok (.iload_n 1, 1) := by decide +kernel
theorem d_A_room_1 : decode b_A_room 1 = .ok (.bipush 16, 2) := by decide +kernel
theorem d_A_room_3 : decode b_A_room 3 = .ok (.invokestatic 40, 3) := by decide +kernel
theorem d_A_room_6 : decode b_A_room 6 = .ok (.iload_n 2, 1) := by decide +kernel
theorem d_A_room_7 : decode b_A_room 7 = .ok (.invokestatic 163, 3) := by decide +kernel
theorem d_A_room_10 : decode b_A_room 10 = .ok (.iconst 0, 1) := by decide +kernel
theorem d_A_room_11 : decode b_A_room 11 = .ok (.istore_n 3, 1) := by decide +kernel
theorem d_A_room_12 : decode b_A_room 12 = .ok (.iconst 0, 1) := by decide +kernel
theorem d_A_room_13 : decode b_A_room 13 = .ok (.istore 4, 2) := by decide +kernel
theorem d_A_room_15 : decode b_A_room 15 = .ok (.iload 4, 2) := by decide +kernel
theorem d_A_room_17 : decode b_A_room 17 = .ok (.aload_n 0, 1) := by decide +kernel
theorem d_A_room_18 : decode b_A_room 18 = .ok (.getfield 19, 3) := by decide +kernel
theorem d_A_room_21 : decode b_A_room 21 = .ok (.invokevirtual 44, 3) := by decide +kernel
theorem d_A_room_24 : decode b_A_room 24 = .ok (.if_icmp .ge 39, 3) := by decide +kernel
theorem d_A_room_27 : decode b_A_room 27 = .ok (.aload_n 0, 1) := by decide +kernel
theorem d_A_room_28 : decode b_A_room 28 = .ok (.getfield 19, 3) := by decide +kernel
theorem d_A_room_31 : decode b_A_room 31 = .ok (.iload 4, 2) := by decide +kernel
theorem d_A_room_33 : decode b_A_room 33 = .ok (.invokevirtual 82, 3) := by decide +kernel
theorem d_A_room_36 : decode b_A_room 36 = .ok (.checkcast 55, 3) := by decide +kernel
theorem d_A_room_39 : decode b_A_room 39 = .ok (.getfield 98, 3) := by decide +kernel
theorem d_A_room_42 : decode b_A_room 42 = .ok (.iload_n 1, 1) := by decide +kernel
theorem d_A_room_43 : decode b_A_room 43 = .ok (.if_icmp .ne 14, 3) := by decide +kernel
theorem d_A_room_46 : decode b_A_room 46 = .ok (.iload_n 3, 1) := by decide +kernel
theorem d_A_room_47 : decode b_A_room 47 = .ok (.iload_n 2, 1) := by decide +kernel
theorem d_A_room_48 : decode b_A_room 48 = .ok (.if_icmp .ne 6, 3) := by decide +kernel
theorem d_A_room_51 : decode b_A_room 51 = .ok (.iload 4, 2) := by decide +kernel
theorem d_A_room_53 : decode b_A_room 53 = .ok (.ireturn, 1) := by decide +kernel
theorem d_A_room_54 : decode b_A_room 54 = .ok (.iinc 3 1, 3) := by decide +kernel
theorem d_A_room_57 : decode b_A_room 57 = .ok (.iinc 4 1, 3) := by decide +kernel
theorem d_A_room_60 : decode b_A_room 60 = .ok (.goto (-45), 3) := by decide +kernel
theorem d_A_room_63 : decode b_A_room 63 = .ok (.iconst (-1), 1) := by decide +kernel
theorem d_A_room_64 : decode b_A_room 64 = .ok (.ireturn, 1) := by decide +kernel
end
section
theorem d_AL_init_0 : decode b_AL_init 0 = .ok (.aload_n 0, 1) := by decide +kernel
theorem d_AL_init_1 : decode b_AL_init 1 = .ok (.invokespecial 1, 3) := by decide +kernel
theorem d_AL_init_4 : decode b_AL_init 4 = .ok (.aload_n 0, 1) := by decide +kernel
theorem d_AL_init_5 : decode b_AL_init 5 = .ok (.getstatic 39, 3) := by decide +kernel
theorem d_AL_init_8 : decode b_AL_init 8 = .ok (.putfield 9, 3) := by decide +kernel
theorem d_AL_init_11 : decode b_AL_init 11 = .ok (.return_, 1) := by decide +kernel
theorem d_AB_init_0 : decode b_AB_init 0 = .ok (.aload_n 0, 1) := by decide +kernel
theorem d_AB_init_1 : decode b_AB_init 1 = .ok (.invokespecial 1, 3) := by decide +kernel
theorem d_AB_init_4 : decode b_AB_init 4 = .ok (.aload_n 0, 1) := by decide +kernel
theorem d_AB_init_5 : decode b_AB_init 5 = .ok (.iconst 0, 1) := by decide +kernel
theorem d_AB_init_6 : decode b_AB_init 6 = .ok (.putfield 7, 3) := by decide +kernel
theorem d_AB_init_9 : decode b_AB_init 9 = .ok (.return_, 1) := by decide +kernel
theorem d_AC_init_0 : decode b_AC_init 0 = .ok (.aload_n 0, 1) := by decide +kernel
theorem d_AC_init_1 : decode b_AC_init 1 = .ok (.invokespecial 1, 3) := by decide +kernel
theorem d_AC_init_4 : decode b_AC_init 4 = .ok (.return_, 1) := by decide +kernel
theorem d_AL_size_0 : decode b_AL_size 0 = .ok (.aload_n 0, 1) := by decide +kernel
theorem d_AL_size_1 : decode b_AL_size 1 = .ok (.getfield 48, 3) := by decide +kernel
theorem d_AL_size_4 : decode b_AL_size 4 = .ok (.ireturn, 1) := by decide +kernel
theorem d_AL_add_0 : decode b_AL_add 0 = .ok (.aload_n 0, 1) := by decide +kernel
theorem d_AL_add_1 : decode b_AL_add 1 = .ok (.dup, 1) := by decide +kernel
theorem d_AL_add_2 : decode b_AL_add 2 = .ok (.getfield 63, 3) := by decide +kernel
theorem d_AL_add_5 : decode b_AL_add 5 = .ok (.iconst 1, 1) := by decide +kernel
theorem d_AL_add_6 : decode b_AL_add 6 = .ok (.iadd, 1) := by decide +kernel
theorem d_AL_add_7 : decode b_AL_add 7 = .ok (.putfield 63, 3) := by decide +kernel
theorem d_AL_add_10 : decode b_AL_add 10 = .ok (.aload_n 0, 1) := by decide +kernel
theorem d_AL_add_11 : decode b_AL_add 11 = .ok (.aload_n 1, 1) := by decide +kernel
theorem d_AL_add_12 : decode b_AL_add 12 = .ok (.aload_n 0, 1) := by decide +kernel
theorem d_AL_add_13 : decode b_AL_add 13 = .ok (.getfield 9, 3) := by decide +kernel
theorem d_AL_add_16 : decode b_AL_add 16 = .ok (.aload_n 0, 1) := by decide +kernel
theorem d_AL_add_17 : decode b_AL_add 17 = .ok (.getfield 48, 3) := by decide +kernel
theorem d_AL_add_20 : decode b_AL_add 20 = .ok (.invokevirtual 131, 3) := by decide +kernel
theorem d_AL_add_23 : decode b_AL_add 23 = .ok (.iconst 1, 1) := by decide +kernel
theorem d_AL_add_24 : decode b_AL_add 24 = .ok (.ireturn, 1) := by decide +kernel
theorem d_AL_add3_0 : decode b_AL_add3 0 = .ok (.iload_n 3, 1) := by decide +kernel
theorem d_AL_add3_1 : decode b_AL_add3 1 = .ok (.aload_n 2, 1) := by decide +kernel
theorem d_AL_add3_2 : decode b_AL_add3 2 = .ok (.arraylength, 1) := by decide +kernel
theorem d_AL_add3_3 : decode b_AL_add3 3 = .ok (.if_icmp .ne 8, 3) := by decide +kernel
theorem d_AL_add3_6 : decode b_AL_add3 6 = .ok (.aload_n 0, 1) := by decide +kernel
theorem d_AL_add3_7 : decode b_AL_add3 7 = .ok (.invokevirtual 129, 3) := by decide +kernel
theorem d_AL_add3_10 : decode b_AL_add3 10 = .ok (.astore_n 2, 1) := by decide +kernel
theorem d_AL_add3_11 : decode b_AL_add3 11 = .ok (.aload_n 2, 1) := by decide +kernel
theorem d_AL_add3_12 : decode b_AL_add3 12 = .ok (.iload_n 3, 1) := by decide +kernel
theorem d_AL_add3_13 : decode b_AL_add3 13 = .ok (.aload_n 1, 1) := by decide +kernel
theorem d_AL_add3_14 : decode b_AL_add3 14 = .ok (.aastore, 1) := by decide +kernel
theorem d_AL_add3_15 : decode b_AL_add3 15 = .ok (.aload_n 0, 1) := by decide +kernel
theorem d_AL_add3_16 : decode b_AL_add3 16 = .ok (.iload_n 3, 1) := by decide +kernel
theorem d_AL_add3_17 : decode b_AL_add3 17 = .ok (.iconst 1, 1) := by decide +kernel
theorem d_AL_add3_18 : decode b_AL_add3 18 = .ok (.iadd, 1) := by decide +kernel
theorem d_AL_add3_19 : decode b_AL_add3 19 = .ok (.putfield 48, 3) := by decide +kernel
theorem d_AL_add3_22 : decode b_AL_add3 22 = .ok (.return_, 1) := by decide +kernel
theorem d_AL_grow_0 : decode b_AL_grow 0 = .ok (.aload_n 0, 1) := by decide +kernel
theorem d_AL_grow_1 : decode b_AL_grow 1 = .ok (.aload_n 0, 1) := by decide +kernel
theorem d_AL_grow_2 : decode b_AL_grow 2 = .ok (.getfield 48, 3) := by decide +kernel
theorem d_AL_grow_5 : decode b_AL_grow 5 = .ok (.iconst 1, 1) := by decide +kernel
theorem d_AL_grow_6 : decode b_AL_grow 6 = .ok (.iadd, 1) := by decide +kernel
theorem d_AL_grow_7 : decode b_AL_grow 7 = .ok (.invokevirtual 69, 3) := by decide +kernel
theorem d_AL_grow_10 : decode b_AL_grow 10 = .ok (.areturn, 1) := by decide +kernel
theorem d_AL_grow1_0 : decode b_AL_grow1 0 = .ok (.aload_n 0, 1) := by decide +kernel
theorem d_AL_grow1_1 : decode b_AL_grow1 1 = .ok (.getfield 9, 3) := by decide +kernel
theorem d_AL_grow1_4 : decode b_AL_grow1 4 = .ok (.arraylength, 1) := by decide +kernel
theorem d_AL_grow1_5 : decode b_AL_grow1 5 = .ok (.istore_n 2, 1) := by decide +kernel
theorem d_AL_grow1_6 : decode b_AL_grow1 6 = .ok (.iload_n 2, 1) := by decide +kernel
theorem d_AL_grow1_7 : decode b_AL_grow1 7 = .ok (.ifCond .gt 13, 3) := by decide +kernel
theorem d_AL_grow1_10 : decode b_AL_grow1 10 = .ok (.aload_n 0, 1) := by decide +kernel
theorem d_AL_grow1_11 : decode b_AL_grow1 11 = .ok (.getfield 9, 3) := by decide +kernel
theorem d_AL_grow1_14 : decode b_AL_grow1 14 = .ok (.getstatic 39, 3) := by decide +kernel
theorem d_AL_grow1_17 : decode b_AL_grow1 17 = .ok (.if_acmp .eq 28, 3) := by decide +kernel
theorem d_AL_grow1_20 : decode b_AL_grow1 20 = .ok (.iload_n 2, 1) := by decide +kernel
theorem d_AL_grow1_21 : decode b_AL_grow1 21 = .ok (.iload_n 1, 1) := by decide +kernel
theorem d_AL_grow1_22 : decode b_AL_grow1 22 = .ok (.iload_n 2, 1) := by decide +kernel
theorem d_AL_grow1_23 : decode b_AL_grow1 23 = .ok (.isub, 1) := by decide +kernel
theorem d_AL_grow1_24 : decode b_AL_grow1 24 = .ok (.iload_n 2, 1) := by decide +kernel
theorem d_AL_grow1_25 : decode b_AL_grow1 25 = .ok (.iconst 1, 1) := by decide +kernel
theorem d_AL_grow1_26 : decode b_AL_grow1 26 = .ok (.ishr, 1) := by decide +kernel
theorem d_AL_grow1_27 : decode b_AL_grow1 27 = .ok (.invokestatic 73, 3) := by decide +kernel
theorem d_AL_grow1_30 : decode b_AL_grow1 30 = .ok (.istore_n 3, 1) := by decide +kernel
theorem d_AL_grow1_31 : decode b_AL_grow1 31 = .ok (.aload_n 0, 1) := by decide +kernel
theorem d_AL_grow1_32 : decode b_AL_grow1 32 = .ok (.aload_n 0, 1) := by decide +kernel
theorem d_AL_grow1_33 : decode b_AL_grow1 33 = .ok (.getfield 9, 3) := by decide +kernel
theorem d_AL_grow1_36 : decode b_AL_grow1 36 = .ok (.iload_n 3, 1) := by decide +kernel
theorem d_AL_grow1_37 : decode b_AL_grow1 37 = .ok (.invokestatic 66, 3) := by decide +kernel
theorem d_AL_grow1_40 : decode b_AL_grow1 40 = .ok (.dup_x1, 1) := by decide +kernel
theorem d_AL_grow1_41 : decode b_AL_grow1 41 = .ok (.putfield 9, 3) := by decide +kernel
theorem d_AL_grow1_44 : decode b_AL_grow1 44 = .ok (.areturn, 1) := by decide +kernel
theorem d_AL_grow1_45 : decode b_AL_grow1 45 = .ok (.aload_n 0, 1) := by decide +kernel
theorem d_AL_grow1_46 : decode b_AL_grow1 46 = .ok (.bipush 10, 2) := by decide +kernel
theorem d_AL_grow1_48 : decode b_AL_grow1 48 = .ok (.iload_n 1, 1) := by decide +kernel
theorem d_AL_grow1_49 : decode b_AL_grow1 49 = .ok (.invokestatic 79, 3) := by decide +kernel
theorem d_AL_grow1_52 : decode b_AL_grow1 52 = .ok (.anewarray 7, 3) := by decide +kernel
theorem d_AL_grow1_55 : decode b_AL_grow1 55 = .ok (.dup_x1, 1) := by decide +kernel
theorem d_AL_grow1_56 : decode b_AL_grow1 56 = .ok (.putfield 9, 3) := by decide +kernel
theorem d_AL_grow1_59 : decode b_AL_grow1 59 = .ok (.areturn, 1) := by decide +kernel
theorem d_AS_newLength_0 : decode b_AS_newLength 0 = .ok (.iload_n 0, 1) := by decide +kernel
theorem d_AS_newLength_1 : decode b_AS_newLength 1 = .ok (.iload_n 1, 1) := by decide +kernel
theorem d_AS_newLength_2 : decode b_AS_newLength 2 = .ok (.iload_n 2, 1) := by decide +kernel
theorem d_AS_newLength_3 : decode b_AS_newLength 3 = .ok (.invokestatic 194, 3) := by decide +kernel
theorem d_AS_newLength_6 : decode b_AS_newLength 6 = .ok (.iadd, 1) := by decide +kernel
theorem d_AS_newLength_7 : decode b_AS_newLength 7 = .ok (.istore_n 3, 1) := by decide +kernel
theorem d_AS_newLength_8 : decode b_AS_newLength 8 = .ok (.iconst 0, 1) := by decide +kernel
theorem d_AS_newLength_9 : decode b_AS_newLength 9 = .ok (.iload_n 3, 1) := by decide +kernel
theorem d_AS_newLength_10 : decode b_AS_newLength 10 = .ok (.if_icmp .ge 11, 3) := by decide +kernel
theorem d_AS_newLength_13 : decode b_AS_newLength 13 = .ok (.iload_n 3, 1) := by decide +kernel
theorem d_AS_newLength_14 : decode b_AS_newLength 14 = .ok (.ldc 200, 2) := by decide +kernel
theorem d_AS_newLength_16 : decode b_AS_newLength 16 = .ok (.if_icmp .gt 5, 3) := by decide +kernel
theorem d_AS_newLength_19 : decode b_AS_newLength 19 = .ok (.iload_n 3, 1) := by decide +kernel
theorem d_AS_newLength_20 : decode b_AS_newLength 20 = .ok (.ireturn, 1) := by decide +kernel
theorem d_AS_newLength_21 : decode b_AS_newLength 21 = .ok (.iload_n 0, 1) := by decide +kernel
theorem d_AS_newLength_22 : decode b_AS_newLength 22 = .ok (.iload_n 1, 1) := by decide +kernel
theorem d_AS_newLength_23 : decode b_AS_newLength 23 = .ok (.invokestatic 201, 3) := by decide +kernel
theorem d_AS_newLength_26 : decode b_AS_newLength 26 = .ok (.ireturn, 1) := by decide +kernel
theorem d_MA_max_0 : decode b_MA_max 0 = .ok (.iload_n 0, 1) := by decide +kernel
theorem d_MA_max_1 : decode b_MA_max 1 = .ok (.iload_n 1, 1) := by decide +kernel
theorem d_MA_max_2 : decode b_MA_max 2 = .ok (.if_icmp .lt 7, 3) := by decide +kernel
theorem d_MA_max_5 : decode b_MA_max 5 = .ok (.iload_n 0, 1) := by decide +kernel
theorem d_MA_max_6 : decode b_MA_max 6 = .ok (.goto 4, 3) := by decide +kernel
theorem d_MA_max_9 : decode b_MA_max 9 = .ok (.iload_n 1, 1) := by decide +kernel
theorem d_MA_max_10 : decode b_MA_max 10 = .ok (.ireturn, 1) := by decide +kernel
theorem d_AS_hugeLength_0 : decode b_AS_hugeLength 0 = .ok (.iload_n 0, 1) := by decide +kernel
theorem d_AS_hugeLength_1 : decode b_AS_hugeLength 1 = .ok (.iload_n 1, 1) := by decide +kernel
theorem d_AS_hugeLength_2 : decode b_AS_hugeLength 2 = .ok (.iadd, 1) := by decide +kernel
theorem d_AS_hugeLength_3 : decode b_AS_hugeLength 3 = .ok (.istore_n 2, 1) := by decide +kernel
theorem d_AS_hugeLength_4 : decode b_AS_hugeLength 4 = .ok (.iload_n 2, 1) := by decide +kernel
theorem d_AS_hugeLength_5 : decode b_AS_hugeLength 5 = .ok (.ifCond .ge 44, 3) := by decide +kernel
theorem d_AS_hugeLength_8 : decode b_AS_hugeLength 8 = .ok (.new 204, 3) := by decide +kernel
theorem d_AS_hugeLength_11 : decode b_AS_hugeLength 11 = .ok (.dup, 1) := by decide +kernel
theorem d_AS_hugeLength_12 : decode b_AS_hugeLength 12 = .ok (.new 89, 3) := by decide +kernel
theorem d_AS_hugeLength_15 : decode b_AS_hugeLength 15 = .ok (.dup, 1) := by decide +kernel
theorem d_AS_hugeLength_16 : decode b_AS_hugeLength 16 = .ok (.invokespecial 91, 3) := by decide +kernel
theorem d_AS_hugeLength_19 : decode b_AS_hugeLength 19 = .ok (.ldc 206, 2) := by decide +kernel
theorem d_AS_hugeLength_21 : decode b_AS_hugeLength 21 = .ok (.invokevirtual 94, 3) := by decide +kernel
theorem d_AS_hugeLength_24 : decode b_AS_hugeLength 24 = .ok (.iload_n 0, 1) := by decide +kernel
theorem d_AS_hugeLength_25 : decode b_AS_hugeLength 25 = .ok (.invokevirtual 98, 3) := by decide +kernel
theorem d_AS_hugeLength_28 : decode b_AS_hugeLength 28 = .ok (.ldc 208, 2) := by decide +kernel
theorem d_AS_hugeLength_30 : decode b_AS_hugeLength 30 = .ok (.invokevirtual 94, 3) := by decide +kernel
theorem d_AS_hugeLength_33 : decode b_AS_hugeLength 33 = .ok (.iload_n 1, 1) := by decide +kernel
theorem d_AS_hugeLength_34 : decode b_AS_hugeLength 34 = .ok (.invokevirtual 98, 3) := by decide +kernel
theorem d_AS_hugeLength_37 : decode b_AS_hugeLength 37 = .ok (.ldc 210, 2) := by decide +kernel
theorem d_AS_hugeLength_39 : decode b_AS_hugeLength 39 = .ok (.invokevirtual 94, 3) := by decide +kernel
theorem d_AS_hugeLength_42 : decode b_AS_hugeLength 42 = .ok (.invokevirtual 101, 3) := by decide +kernel
theorem d_AS_hugeLength_45 : decode b_AS_hugeLength 45 = .ok (.invokespecial 212, 3) := by decide +kernel
theorem d_AS_hugeLength_48 : decode b_AS_hugeLength 48 = .ok (.athrow, 1) := by decide +kernel
theorem d_AS_hugeLength_49 : decode b_AS_hugeLength 49 = .ok (.iload_n 2, 1) := by decide +kernel
theorem d_AS_hugeLength_50 : decode b_AS_hugeLength 50 = .ok (.ldc 200, 2) := by decide +kernel
theorem d_AS_hugeLength_52 : decode b_AS_hugeLength 52 = .ok (.if_icmp .gt 6, 3) := by decide +kernel
theorem d_AS_hugeLength_55 : decode b_AS_hugeLength 55 = .ok (.ldc 200, 2) := by decide +kernel
theorem d_AS_hugeLength_57 : decode b_AS_hugeLength 57 = .ok (.ireturn, 1) := by decide +kernel
theorem d_AS_hugeLength_58 : decode b_AS_hugeLength 58 = .ok (.iload_n 2, 1) := by decide +kernel
theorem d_AS_hugeLength_59 : decode b_AS_hugeLength 59 = .ok (.ireturn, 1) := by decide +kernel
theorem d_AR_copyOf_0 : decode b_AR_copyOf 0 = .ok (.aload_n 0, 1) := by decide +kernel
theorem d_AR_copyOf_1 : decode b_AR_copyOf 1 = .ok (.iload_n 1, 1) := by decide +kernel
theorem d_AR_copyOf_2 : decode b_AR_copyOf 2 = .ok (.aload_n 0, 1) := by decide +kernel
theorem d_AR_copyOf_3 : decode b_AR_copyOf 3 = .ok (.invokevirtual 86, 3) := by decide +kernel
theorem d_AR_copyOf_6 : decode b_AR_copyOf 6 = .ok (.invokestatic 300, 3) := by decide +kernel
theorem d_AR_copyOf_9 : decode b_AR_copyOf 9 = .ok (.areturn, 1) := by decide +kernel
theorem d_AR_copyOf3_0 : decode b_AR_copyOf3 0 = .ok (.aload_n 2, 1) := by decide +kernel
theorem d_AR_copyOf3_1 : decode b_AR_copyOf3 1 = .ok (.ldc 110, 2) := by decide +kernel
theorem d_AR_copyOf3_3 : decode b_AR_copyOf3 3 = .ok (.if_acmp .ne 10, 3) := by decide +kernel
theorem d_AR_copyOf3_6 : decode b_AR_copyOf3 6 = .ok (.iload_n 1, 1) := by decide +kernel
theorem d_AR_copyOf3_7 : decode b_AR_copyOf3 7 = .ok (.anewarray 2, 3) := by decide +kernel
theorem d_AR_copyOf3_10 : decode b_AR_copyOf3 10 = .ok (.goto 14, 3) := by decide +kernel
theorem d_AR_copyOf3_13 : decode b_AR_copyOf3 13 = .ok (.aload_n 2, 1) := by decide +kernel
theorem d_AR_copyOf3_14 : decode b_AR_copyOf3 14 = .ok (.invokevirtual 90, 3) := by decide +kernel
theorem d_AR_copyOf3_17 : decode b_AR_copyOf3 17 = .ok (.iload_n 1, 1) := by decide +kernel
theorem d_AR_copyOf3_18 : decode b_AR_copyOf3 18 = .ok (.invokestatic 95, 3) := by decide +kernel
theorem d_AR_copyOf3_21 : decode b_AR_copyOf3 21 = .ok (.checkcast 110, 3) := by decide +kernel
theorem d_AR_copyOf3_24 : decode b_AR_copyOf3 24 = .ok (.astore_n 3, 1) := by decide +kernel
theorem d_AR_copyOf3_25 : decode b_AR_copyOf3 25 = .ok (.aload_n 0, 1) := by decide +kernel
theorem d_AR_copyOf3_26 : decode b_AR_copyOf3 26 = .ok (.iconst 0, 1) := by decide +kernel
theorem d_AR_copyOf3_27 : decode b_AR_copyOf3 27 = .ok (.aload_n 3, 1) := by decide +kernel
theorem d_AR_copyOf3_28 : decode b_AR_copyOf3 28 = .ok (.iconst 0, 1) := by decide +kernel
theorem d_AR_copyOf3_29 : decode b_AR_copyOf3 29 = .ok (.aload_n 0, 1) := by decide +kernel
theorem d_AR_copyOf3_30 : decode b_AR_copyOf3 30 = .ok (.arraylength, 1) := by decide +kernel
theorem d_AR_copyOf3_31 : decode b_AR_copyOf3 31 = .ok (.iload_n 1, 1) := by decide +kernel
theorem d_AR_copyOf3_32 : decode b_AR_copyOf3 32 = .ok (.invokestatic 304, 3) := by decide +kernel
theorem d_AR_copyOf3_35 : decode b_AR_copyOf3 35 = .ok (.invokestatic 150, 3) := by decide +kernel
theorem d_AR_copyOf3_38 : decode b_AR_copyOf3 38 = .ok (.aload_n 3, 1) := by decide +kernel
theorem d_AR_copyOf3_39 : decode b_AR_copyOf3 39 = .ok (.areturn, 1) := by decide +kernel
theorem d_MA_min_0 : decode b_MA_min 0 = .ok (.iload_n 0, 1) := by decide +kernel
theorem d_MA_min_1 : decode b_MA_min 1 = .ok (.iload_n 1, 1) := by decide +kernel
theorem d_MA_min_2 : decode b_MA_min 2 = .ok (.if_icmp .gt 7, 3) := by decide +kernel
theorem d_MA_min_5 : decode b_MA_min 5 = .ok (.iload_n 0, 1) := by decide +kernel
theorem d_MA_min_6 : decode b_MA_min 6 = .ok (.goto 4, 3) := by decide +kernel
theorem d_MA_min_9 : decode b_MA_min 9 = .ok (.iload_n 1, 1) := by decide +kernel
theorem d_MA_min_10 : decode b_MA_min 10 = .ok (.ireturn, 1) := by decide +kernel
theorem d_AL_get_0 : decode b_AL_get 0 = .ok (.iload_n 1, 1) := by decide +kernel
theorem d_AL_get_1 : decode b_AL_get 1 = .ok (.aload_n 0, 1) := by decide +kernel
theorem d_AL_get_2 : decode b_AL_get 2 = .ok (.getfield 48, 3) := by decide +kernel
theorem d_AL_get_5 : decode b_AL_get 5 = .ok (.invokestatic 118, 3) := by decide +kernel
theorem d_AL_get_8 : decode b_AL_get 8 = .ok (.pop, 1) := by decide +kernel
theorem d_AL_get_9 : decode b_AL_get 9 = .ok (.aload_n 0, 1) := by decide +kernel
theorem d_AL_get_10 : decode b_AL_get 10 = .ok (.iload_n 1, 1) := by decide +kernel
theorem d_AL_get_11 : decode b_AL_get 11 = .ok (.invokevirtual 123, 3) := by decide +kernel
theorem d_AL_get_14 : decode b_AL_get 14 = .ok (.areturn, 1) := by decide +kernel
theorem d_OB_checkIndex_0 : decode b_OB_checkIndex 0 = .ok (.iload_n 0, 1) := by decide +kernel
theorem d_OB_checkIndex_1 : decode b_OB_checkIndex 1 = .ok (.iload_n 1, 1) := by decide +kernel
theorem d_OB_checkIndex_2 : decode b_OB_checkIndex 2 = .ok (.aconst_null, 1) := by decide +kernel
theorem d_OB_checkIndex_3 : decode b_OB_checkIndex 3 = .ok (.invokestatic 105, 3) := by decide +kernel
theorem d_OB_checkIndex_6 : decode b_OB_checkIndex 6 = .ok (.ireturn, 1) := by decide +kernel
theorem d_PR_checkIndex_0 : decode b_PR_checkIndex 0 = .ok (.iload_n 0, 1) := by decide +kernel
theorem d_PR_checkIndex_1 : decode b_PR_checkIndex 1 = .ok (.ifCond .lt 8, 3) := by decide +kernel
theorem d_PR_checkIndex_4 : decode b_PR_checkIndex 4 = .ok (.iload_n 0, 1) := by decide +kernel
theorem d_PR_checkIndex_5 : decode b_PR_checkIndex 5 = .ok (.iload_n 1, 1) := by decide +kernel
theorem d_PR_checkIndex_6 : decode b_PR_checkIndex 6 = .ok (.if_icmp .lt 10, 3) := by decide +kernel
theorem d_PR_checkIndex_9 : decode b_PR_checkIndex 9 = .ok (.aload_n 2, 1) := by decide +kernel
theorem d_PR_checkIndex_10 : decode b_PR_checkIndex 10 = .ok (.iload_n 0, 1) := by decide +kernel
theorem d_PR_checkIndex_11 : decode b_PR_checkIndex 11 = .ok (.iload_n 1, 1) := by decide +kernel
theorem d_PR_checkIndex_12 : decode b_PR_checkIndex 12 = .ok (.invokestatic 95, 3) := by decide +kernel
theorem d_PR_checkIndex_15 : decode b_PR_checkIndex 15 = .ok (.athrow, 1) := by decide +kernel
theorem d_PR_checkIndex_16 : decode b_PR_checkIndex 16 = .ok (.iload_n 0, 1) := by decide +kernel
theorem d_PR_checkIndex_17 : decode b_PR_checkIndex 17 = .ok (.ireturn, 1) := by decide +kernel
theorem d_AL_elementData_0 : decode b_AL_elementData 0 = .ok (.aload_n 0, 1) := by decide +kernel
theorem d_AL_elementData_1 : decode b_AL_elementData 1 = .ok (.getfield 9, 3) := by decide +kernel
theorem d_AL_elementData_4 : decode b_AL_elementData 4 = .ok (.iload_n 1, 1) := by decide +kernel
theorem d_AL_elementData_5 : decode b_AL_elementData 5 = .ok (.aaload, 1) := by decide +kernel
theorem d_AL_elementData_6 : decode b_AL_elementData 6 = .ok (.areturn, 1) := by decide +kernel
theorem d_AL_clear_0 : decode b_AL_clear 0 = .ok (.aload_n 0, 1) := by decide +kernel
theorem d_AL_clear_1 : decode b_AL_clear 1 = .ok (.dup, 1) := by decide +kernel
theorem d_AL_clear_2 : decode b_AL_clear 2 = .ok (.getfield 63, 3) := by decide +kernel
theorem d_AL_clear_5 : decode b_AL_clear 5 = .ok (.iconst 1, 1) := by decide +kernel
theorem d_AL_clear_6 : decode b_AL_clear 6 = .ok (.iadd, 1) := by decide +kernel
theorem d_AL_clear_7 : decode b_AL_clear 7 = .ok (.putfield 63, 3) := by decide +kernel
theorem d_AL_clear_10 : decode b_AL_clear 10 = .ok (.aload_n 0, 1) := by decide +kernel
theorem d_AL_clear_11 : decode b_AL_clear 11 = .ok (.getfield 9, 3) := by decide +kernel
theorem d_AL_clear_14 : decode b_AL_clear 14 = .ok (.astore_n 1, 1) := by decide +kernel
theorem d_AL_clear_15 : decode b_AL_clear 15 = .ok (.aload_n 0, 1) := by decide +kernel
theorem d_AL_clear_16 : decode b_AL_clear 16 = .ok (.getfield 48, 3) := by decide +kernel
theorem d_AL_clear_19 : decode b_AL_clear 19 = .ok (.istore_n 2, 1) := by decide +kernel
theorem d_AL_clear_20 : decode b_AL_clear 20 = .ok (.aload_n 0, 1) := by decide +kernel
theorem d_AL_clear_21 : decode b_AL_clear 21 = .ok (.iconst 0, 1) := by decide +kernel
theorem d_AL_clear_22 : decode b_AL_clear 22 = .ok (.dup_x1, 1) := by decide +kernel
theorem d_AL_clear_23 : decode b_AL_clear 23 = .ok (.putfield 48, 3) := by decide +kernel
theorem d_AL_clear_26 : decode b_AL_clear 26 = .ok (.istore_n 3, 1) := by decide +kernel
theorem d_AL_clear_27 : decode b_AL_clear 27 = .ok (.iload_n 3, 1) := by decide +kernel
theorem d_AL_clear_28 : decode b_AL_clear 28 = .ok (.iload_n 2, 1) := by decide +kernel
theorem d_AL_clear_29 : decode b_AL_clear 29 = .ok (.if_icmp .ge 13, 3) := by decide +kernel
theorem d_AL_clear_32 : decode b_AL_clear 32 = .ok (.aload_n 1, 1) := by decide +kernel
theorem d_AL_clear_33 : decode b_AL_clear 33 = .ok (.iload_n 3, 1) := by decide +kernel
theorem d_AL_clear_34 : decode b_AL_clear 34 = .ok (.aconst_null, 1) := by decide +kernel
theorem d_AL_clear_35 : decode b_AL_clear 35 = .ok (.aastore, 1) := by decide +kernel
theorem d_AL_clear_36 : decode b_AL_clear 36 = .ok (.iinc 3 1, 3) := by decide +kernel
theorem d_AL_clear_39 : decode b_AL_clear 39 = .ok (.goto (-12), 3) := by decide +kernel
theorem d_AL_clear_42 : decode b_AL_clear 42 = .ok (.return_, 1) := by decide +kernel
theorem d_AL_set_0 : decode b_AL_set 0 = .ok (.iload_n 1, 1) := by decide +kernel
theorem d_AL_set_1 : decode b_AL_set 1 = .ok (.aload_n 0, 1) := by decide +kernel
theorem d_AL_set_2 : decode b_AL_set 2 = .ok (.getfield 48, 3) := by decide +kernel
theorem d_AL_set_5 : decode b_AL_set 5 = .ok (.invokestatic 118, 3) := by decide +kernel
theorem d_AL_set_8 : decode b_AL_set 8 = .ok (.pop, 1) := by decide +kernel
theorem d_AL_set_9 : decode b_AL_set 9 = .ok (.aload_n 0, 1) := by decide +kernel
theorem d_AL_set_10 : decode b_AL_set 10 = .ok (.iload_n 1, 1) := by decide +kernel
theorem d_AL_set_11 : decode b_AL_set 11 = .ok (.invokevirtual 123, 3) := by decide +kernel
theorem d_AL_set_14 : decode b_AL_set 14 = .ok (.astore_n 3, 1) := by decide +kernel
theorem d_AL_set_15 : decode b_AL_set 15 = .ok (.aload_n 0, 1) := by decide +kernel
theorem d_AL_set_16 : decode b_AL_set 16 = .ok (.getfield 9, 3) := by decide +kernel
theorem d_AL_set_19 : decode b_AL_set 19 = .ok (.iload_n 1, 1) := by decide +kernel
theorem d_AL_set_20 : decode b_AL_set 20 = .ok (.aload_n 2, 1) := by decide +kernel
theorem d_AL_set_21 : decode b_AL_set 21 = .ok (.aastore, 1) := by decide +kernel
theorem d_AL_set_22 : decode b_AL_set 22 = .ok (.aload_n 3, 1) := by decide +kernel
theorem d_AL_set_23 : decode b_AL_set 23 = .ok (.areturn, 1) := by decide +kernel
theorem d_MA_abs_0 : decode b_MA_abs 0 = .ok (.iload_n 0, 1) := by decide +kernel
theorem d_MA_abs_1 : decode b_MA_abs 1 = .ok (.ifCond .ge 8, 3) := by decide +kernel
theorem d_MA_abs_4 : decode b_MA_abs 4 = .ok (.iload_n 0, 1) := by decide +kernel
theorem d_MA_abs_5 : decode b_MA_abs 5 = .ok (.ineg, 1) := by decide +kernel
theorem d_MA_abs_6 : decode b_MA_abs 6 = .ok (.goto 4, 3) := by decide +kernel
theorem d_MA_abs_9 : decode b_MA_abs 9 = .ok (.iload_n 0, 1) := by decide +kernel
theorem d_MA_abs_10 : decode b_MA_abs 10 = .ok (.ireturn, 1) := by decide +kernel
end
section
theorem d_M_init_0 : decode b_M_init 0 = .ok (.aload_n 0, 1) := by decide +kernel
theorem d_M_init_1 : decode b_M_init 1 = .ok (.invokespecial 1, 3) := by decide +kernel
theorem d_M_init_4 : decode b_M_init 4 = .ok (.aload_n 0, 1) := by decide +kernel
theorem d_M_init_5 : decode b_M_init 5 = .ok (.bipush 64, 2) := by decide +kernel
theorem d_M_init_7 : decode b_M_init 7 = .ok (.newarray .int, 2) := by decide +kernel
theorem d_M_init_9 : decode b_M_init 9 = .ok (.putfield 7, 3) := by decide +kernel
theorem d_M_init_12 : decode b_M_init 12 = .ok (.aload_n 0, 1) := by decide +kernel
theorem d_M_init_13 : decode b_M_init 13 = .ok (.bipush 64, 2) := by decide +kernel
theorem d_M_init_15 : decode b_M_init 15 = .ok (.newarray .int, 2) := by decide +kernel
theorem d_M_init_17 : decode b_M_init 17 = .ok (.putfield 13, 3) := by decide +kernel
theorem d_M_init_20 : decode b_M_init 20 = .ok (.aload_n 0, 1) := by decide +kernel
theorem d_M_init_21 : decode b_M_init 21 = .ok (.bipush 64, 2) := by decide +kernel
theorem d_M_init_23 : decode b_M_init 23 = .ok (.newarray .int, 2) := by decide +kernel
theorem d_M_init_25 : decode b_M_init 25 = .ok (.putfield 16, 3) := by decide +kernel
theorem d_M_init_28 : decode b_M_init 28 = .ok (.aload_n 0, 1) := by decide +kernel
theorem d_M_init_29 : decode b_M_init 29 = .ok (.bipush 64, 2) := by decide +kernel
theorem d_M_init_31 : decode b_M_init 31 = .ok (.newarray .int, 2) := by decide +kernel
theorem d_M_init_33 : decode b_M_init 33 = .ok (.putfield 19, 3) := by decide +kernel
theorem d_M_init_36 : decode b_M_init 36 = .ok (.aload_n 0, 1) := by decide +kernel
theorem d_M_init_37 : decode b_M_init 37 = .ok (.bipush 64, 2) := by decide +kernel
theorem d_M_init_39 : decode b_M_init 39 = .ok (.newarray .int, 2) := by decide +kernel
theorem d_M_init_41 : decode b_M_init 41 = .ok (.putfield 22, 3) := by decide +kernel
theorem d_M_init_44 : decode b_M_init 44 = .ok (.aload_n 0, 1) := by decide +kernel
theorem d_M_init_45 : decode b_M_init 45 = .ok (.bipush 64, 2) := by decide +kernel
theorem d_M_init_47 : decode b_M_init 47 = .ok (.newarray .int, 2) := by decide +kernel
theorem d_M_init_49 : decode b_M_init 49 = .ok (.putfield 25, 3) := by decide +kernel
theorem d_M_init_52 : decode b_M_init 52 = .ok (.aload_n 0, 1) := by decide +kernel
theorem d_M_init_53 : decode b_M_init 53 = .ok (.bipush 6, 2) := by decide +kernel
theorem d_M_init_55 : decode b_M_init 55 = .ok (.newarray .int, 2) := by decide +kernel
theorem d_M_init_57 : decode b_M_init 57 = .ok (.putfield 28, 3) := by decide +kernel
theorem d_M_init_60 : decode b_M_init 60 = .ok (.aload_n 0, 1) := by decide +kernel
theorem d_M_init_61 : decode b_M_init 61 = .ok (.bipush 64, 2) := by decide +kernel
theorem d_M_init_63 : decode b_M_init 63 = .ok (.newarray .int, 2) := by decide +kernel
theorem d_M_init_65 : decode b_M_init 65 = .ok (.putfield 31, 3) := by decide +kernel
theorem d_M_init_68 : decode b_M_init 68 = .ok (.aload_n 0, 1) := by decide +kernel
theorem d_M_init_69 : decode b_M_init 69 = .ok (.sipush 1536, 3) := by decide +kernel
theorem d_M_init_72 : decode b_M_init 72 = .ok (.newarray .int, 2) := by decide +kernel
theorem d_M_init_74 : decode b_M_init 74 = .ok (.putfield 34, 3) := by decide +kernel
theorem d_M_init_77 : decode b_M_init 77 = .ok (.aload_n 0, 1) := by decide +kernel
theorem d_M_init_78 : decode b_M_init 78 = .ok (.sipush 1536, 3) := by decide +kernel
theorem d_M_init_81 : decode b_M_init 81 = .ok (.newarray .int, 2) := by decide +kernel
theorem d_M_init_83 : decode b_M_init 83 = .ok (.putfield 37, 3) := by decide +kernel
theorem d_M_init_86 : decode b_M_init 86 = .ok (.aload_n 0, 1) := by decide +kernel
theorem d_M_init_87 : decode b_M_init 87 = .ok (.sipush 1536, 3) := by decide +kernel
theorem d_M_init_90 : decode b_M_init 90 = .ok (.newarray .int, 2) := by decide +kernel
theorem d_M_init_92 : decode b_M_init 92 = .ok (.putfield 40, 3) := by decide +kernel
theorem d_M_init_95 : decode b_M_init 95 = .ok (.return_, 1) := by decide +kernel
theorem d_M_thrown_0 : decode b_M_thrown 0 = .ok (.aload_n 0, 1) := by decide +kernel
theorem d_M_thrown_1 : decode b_M_thrown 1 = .ok (.getfield 43, 3) := by decide +kernel
theorem d_M_thrown_4 : decode b_M_thrown 4 = .ok (.ireturn, 1) := by decide +kernel
theorem d_M_seed_0 : decode b_M_seed 0 = .ok (.aload_n 0, 1) := by decide +kernel
theorem d_M_seed_1 : decode b_M_seed 1 = .ok (.iconst 0, 1) := by decide +kernel
theorem d_M_seed_2 : decode b_M_seed 2 = .ok (.putfield 43, 3) := by decide +kernel
theorem d_M_seed_5 : decode b_M_seed 5 = .ok (.aload_n 0, 1) := by decide +kernel
theorem d_M_seed_6 : decode b_M_seed 6 = .ok (.lload_n 1, 1) := by decide +kernel
theorem d_M_seed_7 : decode b_M_seed 7 = .ok (.putfield 54, 3) := by decide +kernel
theorem d_M_seed_10 : decode b_M_seed 10 = .ok (.return_, 1) := by decide +kernel
theorem d_M_thing_0 : decode b_M_thing 0 = .ok (.aload_n 0, 1) := by decide +kernel
theorem d_M_thing_1 : decode b_M_thing 1 = .ok (.iload_n 1, 1) := by decide +kernel
theorem d_M_thing_2 : decode b_M_thing 2 = .ok (.i2l, 1) := by decide +kernel
theorem d_M_thing_3 : decode b_M_thing 3 = .ok (.lconst 0, 1) := by decide +kernel
theorem d_M_thing_4 : decode b_M_thing 4 = .ok (.ldc2_w 58, 3) := by decide +kernel
theorem d_M_thing_7 : decode b_M_thing 7 = .ok (.invokestatic 50, 3) := by decide +kernel
theorem d_M_thing_10 : decode b_M_thing 10 = .ok (.ifCond .eq 15, 3) := by decide +kernel
theorem d_M_thing_13 : decode b_M_thing 13 = .ok (.iload_n 2, 1) := by decide +kernel
theorem d_M_thing_14 : decode b_M_thing 14 = .ok (.i2l, 1) := by decide +kernel
theorem d_M_thing_15 : decode b_M_thing 15 = .ok (.lconst 0, 1) := by decide +kernel
theorem d_M_thing_16 : decode b_M_thing 16 = .ok (.ldc2_w 60, 3) := by decide +kernel
theorem d_M_thing_19 : decode b_M_thing 19 = .ok (.invokestatic 50, 3) := by decide +kernel
theorem d_M_thing_22 : decode b_M_thing 22 = .ok (.ifCond .ne 7, 3) := by decide +kernel
theorem d_M_thing_25 : decode b_M_thing 25 = .ok (.iconst 1, 1) := by decide +kernel
theorem d_M_thing_26 : decode b_M_thing 26 = .ok (.goto 4, 3) := by decide +kernel
theorem d_M_thing_29 : decode b_M_thing 29 = .ok (.iconst 0, 1) := by decide +kernel
theorem d_M_thing_30 : decode b_M_thing 30 = .ok (.aload_n 0, 1) := by decide +kernel
theorem d_M_thing_31 : decode b_M_thing 31 = .ok (.getfield 47, 3) := by decide +kernel
theorem d_M_thing_34 : decode b_M_thing 34 = .ok (.bipush 64, 2) := by decide +kernel
theorem d_M_thing_36 : decode b_M_thing 36 = .ok (.if_icmp .ne 7, 3) := by decide +kernel
theorem d_M_thing_39 : decode b_M_thing 39 = .ok (.iconst 1, 1) := by decide +kernel
theorem d_M_thing_40 : decode b_M_thing 40 = .ok (.goto 4, 3) := by decide +kernel
theorem d_M_thing_43 : decode b_M_thing 43 = .ok (.iconst 0, 1) := by decide +kernel
theorem d_M_thing_44 : decode b_M_thing 44 = .ok (.iconst 0, 1) := by decide +kernel
theorem d_M_thing_45 : decode b_M_thing 45 = .ok (.invokevirtual 62, 3) := by decide +kernel
theorem d_M_thing_48 : decode b_M_thing 48 = .ok (.ifCond .eq 5, 3) := by decide +kernel
theorem d_M_thing_51 : decode b_M_thing 51 = .ok (.iconst 0, 1) := by decide +kernel
theorem d_M_thing_52 : decode b_M_thing 52 = .ok (.ireturn, 1) := by decide +kernel
theorem d_M_thing_53 : decode b_M_thing 53 = .ok (.aload_n 0, 1) := by decide +kernel
theorem d_M_thing_54 : decode b_M_thing 54 = .ok (.getfield 7, 3) := by decide +kernel
theorem d_M_thing_57 : decode b_M_thing 57 = .ok (.aload_n 0, 1) := by decide +kernel
theorem d_M_thing_58 : decode b_M_thing 58 = .ok (.getfield 47, 3) := by decide +kernel
theorem d_M_thing_61 : decode b_M_thing 61 = .ok (.iload_n 1, 1) := by decide +kernel
theorem d_M_thing_62 : decode b_M_thing 62 = .ok (.iastore, 1) := by decide +kernel
theorem d_M_thing_63 : decode b_M_thing 63 = .ok (.aload_n 0, 1) := by decide +kernel
theorem d_M_thing_64 : decode b_M_thing 64 = .ok (.getfield 13, 3) := by decide +kernel
theorem d_M_thing_67 : decode b_M_thing 67 = .ok (.aload_n 0, 1) := by decide +kernel
theorem d_M_thing_68 : decode b_M_thing 68 = .ok (.getfield 47, 3) := by decide +kernel
theorem d_M_thing_71 : decode b_M_thing 71 = .ok (.iload_n 2, 1) := by decide +kernel
theorem d_M_thing_72 : decode b_M_thing 72 = .ok (.iastore, 1) := by decide +kernel
theorem d_M_thing_73 : decode b_M_thing 73 = .ok (.aload_n 0, 1) := by decide +kernel
theorem d_M_thing_74 : decode b_M_thing 74 = .ok (.getfield 22, 3) := by decide +kernel
theorem d_M_thing_77 : decode b_M_thing 77 = .ok (.aload_n 0, 1) := by decide +kernel
theorem d_M_thing_78 : decode b_M_thing 78 = .ok (.getfield 47, 3) := by decide +kernel
theorem d_M_thing_81 : decode b_M_thing 81 = .ok (.iconst (-1), 1) := by decide +kernel
theorem d_M_thing_82 : decode b_M_thing 82 = .ok (.iastore, 1) := by decide +kernel
theorem d_M_thing_83 : decode b_M_thing 83 = .ok (.aload_n 0, 1) := by decide +kernel
theorem d_M_thing_84 : decode b_M_thing 84 = .ok (.dup, 1) := by decide +kernel
theorem d_M_thing_85 : decode b_M_thing 85 = .ok (.getfield 47, 3) := by decide +kernel
theorem d_M_thing_88 : decode b_M_thing 88 = .ok (.iconst 1, 1) := by decide +kernel
theorem d_M_thing_89 : decode b_M_thing 89 = .ok (.iadd, 1) := by decide +kernel
theorem d_M_thing_90 : decode b_M_thing 90 = .ok (.putfield 47, 3) := by decide +kernel
theorem d_M_thing_93 : decode b_M_thing 93 = .ok (.aload_n 0, 1) := by decide +kernel
theorem d_M_thing_94 : decode b_M_thing 94 = .ok (.getfield 47, 3) := by decide +kernel
theorem d_M_thing_97 : decode b_M_thing 97 = .ok (.iconst 1, 1) := by decide +kernel
theorem d_M_thing_98 : decode b_M_thing 98 = .ok (.isub, 1) := by decide +kernel
theorem d_M_thing_99 : decode b_M_thing 99 = .ok (.ireturn, 1) := by decide +kernel
theorem d_M_in_0 : decode b_M_in 0 = .ok (.lload_n 0, 1) := by decide +kernel
theorem d_M_in_1 : decode b_M_in 1 = .ok (.lload_n 2, 1) := by decide +kernel
theorem d_M_in_2 : decode b_M_in 2 = .ok (.lcmp, 1) := by decide +kernel
theorem d_M_in_3 : decode b_M_in 3 = .ok (.ifCond .lt 14, 3) := by decide +kernel
theorem d_M_in_6 : decode b_M_in 6 = .ok (.lload_n 0, 1) := by decide +kernel
theorem d_M_in_7 : decode b_M_in 7 = .ok (.lload 4, 2) := by decide +kernel
theorem d_M_in_9 : decode b_M_in 9 = .ok (.lcmp, 1) := by decide +kernel
theorem d_M_in_10 : decode b_M_in 10 = .ok (.ifCond .gt 7, 3) := by decide +kernel
theorem d_M_in_13 : decode b_M_in 13 = .ok (.iconst 1, 1) := by decide +kernel
theorem d_M_in_14 : decode b_M_in 14 = .ok (.goto 4, 3) := by decide +kernel
theorem d_M_in_17 : decode b_M_in 17 = .ok (.iconst 0, 1) := by decide +kernel
theorem d_M_in_18 : decode b_M_in 18 = .ok (.ireturn, 1) := by decide +kernel
theorem d_M_fails_0 : decode b_M_fails 0 = .ok (.aload_n 0, 1) := by decide +kernel
theorem d_M_fails_1 : decode b_M_fails 1 = .ok (.iload_n 1, 1) := by decide +kernel
theorem d_M_fails_2 : decode b_M_fails 2 = .ok (.ifCond .eq 7, 3) := by decide +kernel
theorem d_M_fails_5 : decode b_M_fails 5 = .ok (.iconst 1, 1) := by decide +kernel
theorem d_M_fails_6 : decode b_M_fails 6 = .ok (.goto 20, 3) := by decide +kernel
theorem d_M_fails_9 : decode b_M_fails 9 = .ok (.iload_n 2, 1) := by decide +kernel
theorem d_M_fails_10 : decode b_M_fails 10 = .ok (.ifCond .eq 7, 3) := by decide +kernel
theorem d_M_fails_13 : decode b_M_fails 13 = .ok (.iconst 2, 1) := by decide +kernel
theorem d_M_fails_14 : decode b_M_fails 14 = .ok (.goto 12, 3) := by decide +kernel
theorem d_M_fails_17 : decode b_M_fails 17 = .ok (.iload_n 3, 1) := by decide +kernel
theorem d_M_fails_18 : decode b_M_fails 18 = .ok (.ifCond .eq 7, 3) := by decide +kernel
theorem d_M_fails_21 : decode b_M_fails 21 = .ok (.iconst 3, 1) := by decide +kernel
theorem d_M_fails_22 : decode b_M_fails 22 = .ok (.goto 4, 3) := by decide +kernel
theorem d_M_fails_25 : decode b_M_fails 25 = .ok (.iconst 0, 1) := by decide +kernel
theorem d_M_fails_26 : decode b_M_fails 26 = .ok (.putfield 43, 3) := by decide +kernel
theorem d_M_fails_29 : decode b_M_fails 29 = .ok (.aload_n 0, 1) := by decide +kernel
theorem d_M_fails_30 : decode b_M_fails 30 = .ok (.getfield 43, 3) := by decide +kernel
theorem d_M_fails_33 : decode b_M_fails 33 = .ok (.ifCond .le 7, 3) := by decide +kernel
theorem d_M_fails_36 : decode b_M_fails 36 = .ok (.iconst 1, 1) := by decide +kernel
theorem d_M_fails_37 : decode b_M_fails 37 = .ok (.goto 4, 3) := by decide +kernel
theorem d_M_fails_40 : decode b_M_fails 40 = .ok (.iconst 0, 1) := by decide +kernel
theorem d_M_fails_41 : decode b_M_fails 41 = .ok (.ireturn, 1) := by decide +kernel
theorem d_M_list_0 : decode b_M_list 0 = .ok (.aload_n 0, 1) := by decide +kernel
theorem d_M_list_1 : decode b_M_list 1 = .ok (.iload_n 1, 1) := by decide +kernel
theorem d_M_list_2 : decode b_M_list 2 = .ok (.i2l, 1) := by decide +kernel
theorem d_M_list_3 : decode b_M_list 3 = .ok (.lconst 0, 1) := by decide +kernel
theorem d_M_list_4 : decode b_M_list 4 = .ok (.aload_n 0, 1) := by decide +kernel
theorem d_M_list_5 : decode b_M_list 5 = .ok (.getfield 47, 3) := by decide +kernel
theorem d_M_list_8 : decode b_M_list 8 = .ok (.i2l, 1) := by decide +kernel
theorem d_M_list_9 : decode b_M_list 9 = .ok (.invokestatic 50, 3) := by decide +kernel
theorem d_M_list_12 : decode b_M_list 12 = .ok (.ifCond .ne 7, 3) := by decide +kernel
theorem d_M_list_15 : decode b_M_list 15 = .ok (.iconst 1, 1) := by decide +kernel
theorem d_M_list_16 : decode b_M_list 16 = .ok (.goto 4, 3) := by decide +kernel
theorem d_M_list_19 : decode b_M_list 19 = .ok (.iconst 0, 1) := by decide +kernel
theorem d_M_list_20 : decode b_M_list 20 = .ok (.iconst 0, 1) := by decide +kernel
theorem d_M_list_21 : decode b_M_list 21 = .ok (.iconst 0, 1) := by decide +kernel
theorem d_M_list_22 : decode b_M_list 22 = .ok (.invokevirtual 62, 3) := by decide +kernel
theorem d_M_list_25 : decode b_M_list 25 = .ok (.ifCond .eq 5, 3) := by decide +kernel
theorem d_M_list_28 : decode b_M_list 28 = .ok (.iconst 0, 1) := by decide +kernel
theorem d_M_list_29 : decode b_M_list 29 = .ok (.ireturn, 1) := by decide +kernel
theorem d_M_list_30 : decode b_M_list 30 = .ok (.aload_n 0, 1) := by decide +kernel
theorem d_M_list_31 : decode b_M_list 31 = .ok (.iconst 0, 1) := by decide +kernel
theorem d_M_list_32 : decode b_M_list 32 = .ok (.putfield 81, 3) := by decide +kernel
theorem d_M_list_35 : decode b_M_list 35 = .ok (.iconst 0, 1) := by decide +kernel
theorem d_M_list_36 : decode b_M_list 36 = .ok (.istore_n 2, 1) := by decide +kernel
theorem d_M_list_37 : decode b_M_list 37 = .ok (.iload_n 2, 1) := by decide +kernel
theorem d_M_list_38 : decode b_M_list 38 = .ok (.aload_n 0, 1) := by decide +kernel
theorem d_M_list_39 : decode b_M_list 39 = .ok (.getfield 47, 3) := by decide +kernel
theorem d_M_list_42 : decode b_M_list 42 = .ok (.if_icmp .ge 16, 3) := by decide +kernel
theorem d_M_list_45 : decode b_M_list 45 = .ok (.aload_n 0, 1) := by decide +kernel
theorem d_M_list_46 : decode b_M_list 46 = .ok (.getfield 22, 3) := by decide +kernel
theorem d_M_list_49 : decode b_M_list 49 = .ok (.iload_n 2, 1) := by decide +kernel
theorem d_M_list_50 : decode b_M_list 50 = .ok (.iconst (-1), 1) := by decide +kernel
theorem d_M_list_51 : decode b_M_list 51 = .ok (.iastore, 1) := by decide +kernel
theorem d_M_list_52 : decode b_M_list 52 = .ok (.iinc 2 1, 3) := by decide +kernel
theorem d_M_list_55 : decode b_M_list 55 = .ok (.goto (-18), 3) := by decide +kernel
theorem d_M_list_58 : decode b_M_list 58 = .ok (.iload_n 1, 1) := by decide +kernel
theorem d_M_list_59 : decode b_M_list 59 = .ok (.ifCond .le 27, 3) := by decide +kernel
theorem d_M_list_62 : decode b_M_list 62 = .ok (.aload_n 0, 1) := by decide +kernel
theorem d_M_list_63 : decode b_M_list 63 = .ok (.iload_n 1, 1) := by decide +kernel
theorem d_M_list_64 : decode b_M_list 64 = .ok (.invokevirtual 84, 3) := by decide +kernel
theorem d_M_list_67 : decode b_M_list 67 = .ok (.iconst 0, 1) := by decide +kernel
theorem d_M_list_68 : decode b_M_list 68 = .ok (.istore_n 2, 1) := by decide +kernel
theorem d_M_list_69 : decode b_M_list 69 = .ok (.iload_n 2, 1) := by decide +kernel
theorem d_M_list_70 : decode b_M_list 70 = .ok (.bipush 6, 2) := by decide +kernel
theorem d_M_list_72 : decode b_M_list 72 = .ok (.if_icmp .ge 14, 3) := by decide +kernel
theorem d_M_list_75 : decode b_M_list 75 = .ok (.aload_n 0, 1) := by decide +kernel
theorem d_M_list_76 : decode b_M_list 76 = .ok (.iload_n 2, 1) := by decide +kernel
theorem d_M_list_77 : decode b_M_list 77 = .ok (.invokevirtual 88, 3) := by decide +kernel
theorem d_M_list_80 : decode b_M_list 80 = .ok (.iinc 2 1, 3) := by decide +kernel
theorem d_M_list_83 : decode b_M_list 83 = .ok (.goto (-14), 3) := by decide +kernel
theorem d_M_list_86 : decode b_M_list 86 = .ok (.iload_n 1, 1) := by decide +kernel
theorem d_M_list_87 : decode b_M_list 87 = .ok (.ireturn, 1) := by decide +kernel
theorem d_M_divide_0 : decode b_M_divide 0 = .ok (.iload_n 1, 1) := by decide +kernel
theorem d_M_divide_1 : decode b_M_divide 1 = .ok (.istore_n 2, 1) := by decide +kernel
theorem d_M_divide_2 : decode b_M_divide 2 = .ok (.iconst 0, 1) := by decide +kernel
theorem d_M_divide_3 : decode b_M_divide 3 = .ok (.istore_n 3, 1) := by decide +kernel
theorem d_M_divide_4 : decode b_M_divide 4 = .ok (.iload_n 3, 1) := by decide +kernel
theorem d_M_divide_5 : decode b_M_divide 5 = .ok (.bipush 6, 2) := by decide +kernel
theorem d_M_divide_7 : decode b_M_divide 7 = .ok (.if_icmp .ge 24, 3) := by decide +kernel
theorem d_M_divide_10 : decode b_M_divide 10 = .ok (.iload_n 2, 1) := by decide +kernel
theorem d_M_divide_11 : decode b_M_divide 11 = .ok (.iload_n 1, 1) := by decide +kernel
theorem d_M_divide_12 : decode b_M_divide 12 = .ok (.aload_n 0, 1) := by decide +kernel
theorem d_M_divide_13 : decode b_M_divide 13 = .ok (.iload_n 3, 1) := by decide +kernel
theorem d_M_divide_14 : decode b_M_divide 14 = .ok (.invokevirtual 70, 3) := by decide +kernel
theorem d_M_divide_17 : decode b_M_divide 17 = .ok (.imul, 1) := by decide +kernel
theorem d_M_divide_18 : decode b_M_divide 18 = .ok (.aload_n 0, 1) := by decide +kernel
theorem d_M_divide_19 : decode b_M_divide 19 = .ok (.getfield 47, 3) := by decide +kernel
theorem d_M_divide_22 : decode b_M_divide 22 = .ok (.idiv, 1) := by decide +kernel
theorem d_M_divide_23 : decode b_M_divide 23 = .ok (.isub, 1) := by decide +kernel
theorem d_M_divide_24 : decode b_M_divide 24 = .ok (.istore_n 2, 1) := by decide +kernel
theorem d_M_divide_25 : decode b_M_divide 25 = .ok (.iinc 3 1, 3) := by decide +kernel
theorem d_M_divide_28 : decode b_M_divide 28 = .ok (.goto (-24), 3) := by decide +kernel
theorem d_M_divide_31 : decode b_M_divide 31 = .ok (.iconst 0, 1) := by decide +kernel
theorem d_M_divide_32 : decode b_M_divide 32 = .ok (.istore_n 3, 1) := by decide +kernel
theorem d_M_divide_33 : decode b_M_divide 33 = .ok (.iload_n 3, 1) := by decide +kernel
theorem d_M_divide_34 : decode b_M_divide 34 = .ok (.bipush 6, 2) := by decide +kernel
theorem d_M_divide_36 : decode b_M_divide 36 = .ok (.if_icmp .ge 118, 3) := by decide +kernel
theorem d_M_divide_39 : decode b_M_divide 39 = .ok (.iconst 0, 1) := by decide +kernel
theorem d_M_divide_40 : decode b_M_divide 40 = .ok (.istore 4, 2) := by decide +kernel
theorem d_M_divide_42 : decode b_M_divide 42 = .ok (.iconst 0, 1) := by decide +kernel
theorem d_M_divide_43 : decode b_M_divide 43 = .ok (.istore 5, 2) := by decide +kernel
theorem d_M_divide_45 : decode b_M_divide 45 = .ok (.iload 5, 2) := by decide +kernel
theorem d_M_divide_47 : decode b_M_divide 47 = .ok (.bipush 6, 2) := by decide +kernel
theorem d_M_divide_49 : decode b_M_divide 49 = .ok (.if_icmp .ge 69, 3) := by decide +kernel
theorem d_M_divide_52 : decode b_M_divide 52 = .ok (.aload_n 0, 1) := by decide +kernel
theorem d_M_divide_53 : decode b_M_divide 53 = .ok (.iload 5, 2) := by decide +kernel
theorem d_M_divide_55 : decode b_M_divide 55 = .ok (.iload_n 1, 1) := by decide +kernel
theorem d_M_divide_56 : decode b_M_divide 56 = .ok (.invokevirtual 74, 3) := by decide +kernel
theorem d_M_divide_59 : decode b_M_divide 59 = .ok (.aload_n 0, 1) := by decide +kernel
theorem d_M_divide_60 : decode b_M_divide 60 = .ok (.iload_n 3, 1) := by decide +kernel
theorem d_M_divide_61 : decode b_M_divide 61 = .ok (.iload_n 1, 1) := by decide +kernel
theorem d_M_divide_62 : decode b_M_divide 62 = .ok (.invokevirtual 74, 3) := by decide +kernel
theorem d_M_divide_65 : decode b_M_divide 65 = .ok (.if_icmp .gt 25, 3) := by decide +kernel
theorem d_M_divide_68 : decode b_M_divide 68 = .ok (.aload_n 0, 1) := by decide +kernel
theorem d_M_divide_69 : decode b_M_divide 69 = .ok (.iload 5, 2) := by decide +kernel
theorem d_M_divide_71 : decode b_M_divide 71 = .ok (.iload_n 1, 1) := by decide +kernel
theorem d_M_divide_72 : decode b_M_divide 72 = .ok (.invokevirtual 74, 3) := by decide +kernel
theorem d_M_divide_75 : decode b_M_divide 75 = .ok (.aload_n 0, 1) := by decide +kernel
theorem d_M_divide_76 : decode b_M_divide 76 = .ok (.iload_n 3, 1) := by decide +kernel
theorem d_M_divide_77 : decode b_M_divide 77 = .ok (.iload_n 1, 1) := by decide +kernel
theorem d_M_divide_78 : decode b_M_divide 78 = .ok (.invokevirtual 74, 3) := by decide +kernel
theorem d_M_divide_81 : decode b_M_divide 81 = .ok (.if_icmp .ne 13, 3) := by decide +kernel
theorem d_M_divide_84 : decode b_M_divide 84 = .ok (.iload 5, 2) := by decide +kernel
theorem d_M_divide_86 : decode b_M_divide 86 = .ok (.iload_n 3, 1) := by decide +kernel
theorem d_M_divide_87 : decode b_M_divide 87 = .ok (.if_icmp .ge 7, 3) := by decide +kernel
theorem d_M_divide_90 : decode b_M_divide 90 = .ok (.iconst 1, 1) := by decide +kernel
theorem d_M_divide_91 : decode b_M_divide 91 = .ok (.goto 4, 3) := by decide +kernel
theorem d_M_divide_94 : decode b_M_divide 94 = .ok (.iconst 0, 1) := by decide +kernel
theorem d_M_divide_95 : decode b_M_divide 95 = .ok (.istore 6, 2) := by decide +kernel
theorem d_M_divide_97 : decode b_M_divide 97 = .ok (.iload 4, 2) := by decide +kernel
theorem d_M_divide_99 : decode b_M_divide 99 = .ok (.iload 6, 2) := by decide +kernel
theorem d_M_divide_101 : decode b_M_divide 101 = .ok (.ifCond .eq 7, 3) := by decide +kernel
theorem d_M_divide_104 : decode b_M_divide 104 = .ok (.iconst 1, 1) := by decide +kernel
theorem d_M_divide_105 : decode b_M_divide 105 = .ok (.goto 4, 3) := by decide +kernel
theorem d_M_divide_108 : decode b_M_divide 108 = .ok (.iconst 0, 1) := by decide +kernel
theorem d_M_divide_109 : decode b_M_divide 109 = .ok (.iadd, 1) := by decide +kernel
theorem d_M_divide_110 : decode b_M_divide 110 = .ok (.istore 4, 2) := by decide +kernel
theorem d_M_divide_112 : decode b_M_divide 112 = .ok (.iinc 5 1, 3) := by decide +kernel
theorem d_M_divide_115 : decode b_M_divide 115 = .ok (.goto (-70), 3) := by decide +kernel
theorem d_M_divide_118 : decode b_M_divide 118 = .ok (.aload_n 0, 1) := by decide +kernel
theorem d_M_divide_119 : decode b_M_divide 119 = .ok (.getfield 28, 3) := by decide +kernel
theorem d_M_divide_122 : decode b_M_divide 122 = .ok (.iload_n 3, 1) := by decide +kernel
theorem d_M_divide_123 : decode b_M_divide 123 = .ok (.iload_n 1, 1) := by decide +kernel
theorem d_M_divide_124 : decode b_M_divide 124 = .ok (.aload_n 0, 1) := by decide +kernel
theorem d_M_divide_125 : decode b_M_divide 125 = .ok (.iload_n 3, 1) := by decide +kernel
theorem d_M_divide_126 : decode b_M_divide 126 = .ok (.invokevirtual 70, 3) := by decide +kernel
theorem d_M_divide_129 : decode b_M_divide 129 = .ok (.imul, 1) := by decide +kernel
theorem d_M_divide_130 : decode b_M_divide 130 = .ok (.aload_n 0, 1) := by decide +kernel
theorem d_M_divide_131 : decode b_M_divide 131 = .ok (.getfield 47, 3) := by decide +kernel
theorem d_M_divide_134 : decode b_M_divide 134 = .ok (.idiv, 1) := by decide +kernel
theorem d_M_divide_135 : decode b_M_divide 135 = .ok (.iload 4, 2) := by decide +kernel
theorem d_M_divide_137 : decode b_M_divide 137 = .ok (.iload_n 2, 1) := by decide +kernel
theorem d_M_divide_138 : decode b_M_divide 138 = .ok (.if_icmp .ge 7, 3) := by decide +kernel
theorem d_M_divide_141 : decode b_M_divide 141 = .ok (.iconst 1, 1) := by decide +kernel
theorem d_M_divide_142 : decode b_M_divide 142 = .ok (.goto 4, 3) := by decide +kernel
theorem d_M_divide_145 : decode b_M_divide 145 = .ok (.iconst 0, 1) := by decide +kernel
theorem d_M_divide_146 : decode b_M_divide 146 = .ok (.iadd, 1) := by decide +kernel
theorem d_M_divide_147 : decode b_M_divide 147 = .ok (.iastore, 1) := by decide +kernel
theorem d_M_divide_148 : decode b_M_divide 148 = .ok (.iinc 3 1, 3) := by decide +kernel
theorem d_M_divide_151 : decode b_M_divide 151 = .ok (.goto (-118), 3) := by decide +kernel
theorem d_M_divide_154 : decode b_M_divide 154 = .ok (.return_, 1) := by decide +kernel
theorem d_M_size_0 : decode b_M_size 0 = .ok (.iconst 0, 1) := by decide +kernel
theorem d_M_size_1 : decode b_M_size 1 = .ok (.istore_n 2, 1) := by decide +kernel
theorem d_M_size_2 : decode b_M_size 2 = .ok (.iconst 0, 1) := by decide +kernel
theorem d_M_size_3 : decode b_M_size 3 = .ok (.istore_n 3, 1) := by decide +kernel
theorem d_M_size_4 : decode b_M_size 4 = .ok (.iload_n 3, 1) := by decide +kernel
theorem d_M_size_5 : decode b_M_size 5 = .ok (.aload_n 0, 1) := by decide +kernel
theorem d_M_size_6 : decode b_M_size 6 = .ok (.getfield 47, 3) := by decide +kernel
theorem d_M_size_9 : decode b_M_size 9 = .ok (.if_icmp .ge 27, 3) := by decide +kernel
theorem d_M_size_12 : decode b_M_size 12 = .ok (.iload_n 2, 1) := by decide +kernel
theorem d_M_size_13 : decode b_M_size 13 = .ok (.aload_n 0, 1) := by decide +kernel
theorem d_M_size_14 : decode b_M_size 14 = .ok (.getfield 7, 3) := by decide +kernel
theorem d_M_size_17 : decode b_M_size 17 = .ok (.iload_n 3, 1) := by decide +kernel
theorem d_M_size_18 : decode b_M_size 18 = .ok (.iaload, 1) := by decide +kernel
theorem d_M_size_19 : decode b_M_size 19 = .ok (.iload_n 1, 1) := by decide +kernel
theorem d_M_size_20 : decode b_M_size 20 = .ok (.if_icmp .ne 7, 3) := by decide +kernel
theorem d_M_size_23 : decode b_M_size 23 = .ok (.iconst 1, 1) := by decide +kernel
theorem d_M_size_24 : decode b_M_size 24 = .ok (.goto 4, 3) := by decide +kernel
theorem d_M_size_27 : decode b_M_size 27 = .ok (.iconst 0, 1) := by decide +kernel
theorem d_M_size_28 : decode b_M_size 28 = .ok (.iadd, 1) := by decide +kernel
theorem d_M_size_29 : decode b_M_size 29 = .ok (.istore_n 2, 1) := by decide +kernel
theorem d_M_size_30 : decode b_M_size 30 = .ok (.iinc 3 1, 3) := by decide +kernel
theorem d_M_size_33 : decode b_M_size 33 = .ok (.goto (-29), 3) := by decide +kernel
theorem d_M_size_36 : decode b_M_size 36 = .ok (.iload_n 2, 1) := by decide +kernel
theorem d_M_size_37 : decode b_M_size 37 = .ok (.ireturn, 1) := by decide +kernel
theorem d_M_rest_0 : decode b_M_rest 0 = .ok (.iload_n 2, 1) := by decide +kernel
theorem d_M_rest_1 : decode b_M_rest 1 = .ok (.aload_n 0, 1) := by decide +kernel
theorem d_M_rest_2 : decode b_M_rest 2 = .ok (.iload_n 1, 1) := by decide +kernel
theorem d_M_rest_3 : decode b_M_rest 3 = .ok (.invokevirtual 70, 3) := by decide +kernel
theorem d_M_rest_6 : decode b_M_rest 6 = .ok (.imul, 1) := by decide +kernel
theorem d_M_rest_7 : decode b_M_rest 7 = .ok (.aload_n 0, 1) := by decide +kernel
theorem d_M_rest_8 : decode b_M_rest 8 = .ok (.getfield 47, 3) := by decide +kernel
theorem d_M_rest_11 : decode b_M_rest 11 = .ok (.irem, 1) := by decide +kernel
theorem d_M_rest_12 : decode b_M_rest 12 = .ok (.ireturn, 1) := by decide +kernel
theorem d_M_drawFrom_0 : decode b_M_drawFrom 0 = .ok (.iconst 0, 1) := by decide +kernel
theorem d_M_drawFrom_1 : decode b_M_drawFrom 1 = .ok (.istore_n 2, 1) := by decide +kernel
theorem d_M_drawFrom_2 : decode b_M_drawFrom 2 = .ok (.iconst 0, 1) := by decide +kernel
theorem d_M_drawFrom_3 : decode b_M_drawFrom 3 = .ok (.istore_n 3, 1) := by decide +kernel
theorem d_M_drawFrom_4 : decode b_M_drawFrom 4 = .ok (.iload_n 3, 1) := by decide +kernel
theorem d_M_drawFrom_5 : decode b_M_drawFrom 5 = .ok (.aload_n 0, 1) := by decide +kernel
theorem d_M_drawFrom_6 : decode b_M_drawFrom 6 = .ok (.getfield 47, 3) := by decide +kernel
theorem d_M_drawFrom_9 : decode b_M_drawFrom 9 = .ok (.if_icmp .ge 29, 3) := by decide +kernel
theorem d_M_drawFrom_12 : decode b_M_drawFrom 12 = .ok (.aload_n 0, 1) := by decide +kernel
theorem d_M_drawFrom_13 : decode b_M_drawFrom 13 = .ok (.getfield 7, 3) := by decide +kernel
theorem d_M_drawFrom_16 : decode b_M_drawFrom 16 = .ok (.iload_n 3, 1) := by decide +kernel
theorem d_M_drawFrom_17 : decode b_M_drawFrom 17 = .ok (.iaload, 1) := by decide +kernel
theorem d_M_drawFrom_18 : decode b_M_drawFrom 18 = .ok (.iload_n 1, 1) := by decide +kernel
theorem d_M_drawFrom_19 : decode b_M_drawFrom 19 = .ok (.if_icmp .ne 13, 3) := by decide +kernel
theorem d_M_drawFrom_22 : decode b_M_drawFrom 22 = .ok (.aload_n 0, 1) := by decide +kernel
theorem d_M_drawFrom_23 : decode b_M_drawFrom 23 = .ok (.getfield 25, 3) := by decide +kernel
theorem d_M_drawFrom_26 : decode b_M_drawFrom 26 = .ok (.iload_n 2, 1) := by decide +kernel
theorem d_M_drawFrom_27 : decode b_M_drawFrom 27 = .ok (.iload_n 3, 1) := by decide +kernel
theorem d_M_drawFrom_28 : decode b_M_drawFrom 28 = .ok (.iastore, 1) := by decide +kernel
theorem d_M_drawFrom_29 : decode b_M_drawFrom 29 = .ok (.iinc 2 1, 3) := by decide +kernel
theorem d_M_drawFrom_32 : decode b_M_drawFrom 32 = .ok (.iinc 3 1, 3) := by decide +kernel
theorem d_M_drawFrom_35 : decode b_M_drawFrom 35 = .ok (.goto (-31), 3) := by decide +kernel
theorem d_M_drawFrom_38 : decode b_M_drawFrom 38 = .ok (.iconst 0, 1) := by decide +kernel
theorem d_M_drawFrom_39 : decode b_M_drawFrom 39 = .ok (.istore_n 3, 1) := by decide +kernel
theorem d_M_drawFrom_40 : decode b_M_drawFrom 40 = .ok (.iload_n 3, 1) := by decide +kernel
theorem d_M_drawFrom_41 : decode b_M_drawFrom 41 = .ok (.aload_n 0, 1) := by decide +kernel
theorem d_M_drawFrom_42 : decode b_M_drawFrom 42 = .ok (.getfield 28, 3) := by decide +kernel
theorem d_M_drawFrom_45 : decode b_M_drawFrom 45 = .ok (.iload_n 1, 1) := by decide +kernel
theorem d_M_drawFrom_46 : decode b_M_drawFrom 46 = .ok (.iaload, 1) := by decide +kernel
theorem d_M_drawFrom_47 : decode b_M_drawFrom 47 = .ok (.if_icmp .ge 79, 3) := by decide +kernel
theorem d_M_drawFrom_50 : decode b_M_drawFrom 50 = .ok (.iload_n 3, 1) := by decide +kernel
theorem d_M_drawFrom_51 : decode b_M_drawFrom 51 = .ok (.aload_n 0, 1) := by decide +kernel
theorem d_M_drawFrom_52 : decode b_M_drawFrom 52 = .ok (.iload_n 2, 1) := by decide +kernel
theorem d_M_drawFrom_53 : decode b_M_drawFrom 53 = .ok (.iload_n 3, 1) := by decide +kernel
theorem d_M_drawFrom_54 : decode b_M_drawFrom 54 = .ok (.isub, 1) := by decide +kernel
theorem d_M_drawFrom_55 : decode b_M_drawFrom 55 = .ok (.invokevirtual 78, 3) := by decide +kernel
theorem d_M_drawFrom_58 : decode b_M_drawFrom 58 = .ok (.iadd, 1) := by decide +kernel
theorem d_M_drawFrom_59 : decode b_M_drawFrom 59 = .ok (.istore 4, 2) := by decide +kernel
theorem d_M_drawFrom_61 : decode b_M_drawFrom 61 = .ok (.aload_n 0, 1) := by decide +kernel
theorem d_M_drawFrom_62 : decode b_M_drawFrom 62 = .ok (.getfield 25, 3) := by decide +kernel
theorem d_M_drawFrom_65 : decode b_M_drawFrom 65 = .ok (.iload 4, 2) := by decide +kernel
theorem d_M_drawFrom_67 : decode b_M_drawFrom 67 = .ok (.iaload, 1) := by decide +kernel
theorem d_M_drawFrom_68 : decode b_M_drawFrom 68 = .ok (.istore 5, 2) := by decide +kernel
theorem d_M_drawFrom_70 : decode b_M_drawFrom 70 = .ok (.aload_n 0, 1) := by decide +kernel
theorem d_M_drawFrom_71 : decode b_M_drawFrom 71 = .ok (.getfield 25, 3) := by decide +kernel
theorem d_M_drawFrom_74 : decode b_M_drawFrom 74 = .ok (.iload 4, 2) := by decide +kernel
theorem d_M_drawFrom_76 : decode b_M_drawFrom 76 = .ok (.aload_n 0, 1) := by decide +kernel
theorem d_M_drawFrom_77 : decode b_M_drawFrom 77 = .ok (.getfield 25, 3) := by decide +kernel
theorem d_M_drawFrom_80 : decode b_M_drawFrom 80 = .ok (.iload_n 3, 1) := by decide +kernel
theorem d_M_drawFrom_81 : decode b_M_drawFrom 81 = .ok (.iaload, 1) := by decide +kernel
theorem d_M_drawFrom_82 : decode b_M_drawFrom 82 = .ok (.iastore, 1) := by decide +kernel
theorem d_M_drawFrom_83 : decode b_M_drawFrom 83 = .ok (.aload_n 0, 1) := by decide +kernel
theorem d_M_drawFrom_84 : decode b_M_drawFrom 84 = .ok (.getfield 25, 3) := by decide +kernel
theorem d_M_drawFrom_87 : decode b_M_drawFrom 87 = .ok (.iload_n 3, 1) := by decide +kernel
theorem d_M_drawFrom_88 : decode b_M_drawFrom 88 = .ok (.iload 5, 2) := by decide +kernel
theorem d_M_drawFrom_90 : decode b_M_drawFrom 90 = .ok (.iastore, 1) := by decide +kernel
theorem d_M_drawFrom_91 : decode b_M_drawFrom 91 = .ok (.aload_n 0, 1) := by decide +kernel
theorem d_M_drawFrom_92 : decode b_M_drawFrom 92 = .ok (.getfield 19, 3) := by decide +kernel
theorem d_M_drawFrom_95 : decode b_M_drawFrom 95 = .ok (.aload_n 0, 1) := by decide +kernel
theorem d_M_drawFrom_96 : decode b_M_drawFrom 96 = .ok (.getfield 81, 3) := by decide +kernel
theorem d_M_drawFrom_99 : decode b_M_drawFrom 99 = .ok (.iload 5, 2) := by decide +kernel
theorem d_M_drawFrom_101 : decode b_M_drawFrom 101 = .ok (.iastore, 1) := by decide +kernel
theorem d_M_drawFrom_102 : decode b_M_drawFrom 102 = .ok (.aload_n 0, 1) := by decide +kernel
theorem d_M_drawFrom_103 : decode b_M_drawFrom 103 = .ok (.dup, 1) := by decide +kernel
theorem d_M_drawFrom_104 : decode b_M_drawFrom 104 = .ok (.getfield 81, 3) := by decide +kernel
theorem d_M_drawFrom_107 : decode b_M_drawFrom 107 = .ok (.iconst 1, 1) := by decide +kernel
theorem d_M_drawFrom_108 : decode b_M_drawFrom 108 = .ok (.iadd, 1) := by decide +kernel
theorem d_M_drawFrom_109 : decode b_M_drawFrom 109 = .ok (.putfield 81, 3) := by decide +kernel
theorem d_M_drawFrom_112 : decode b_M_drawFrom 112 = .ok (.aload_n 0, 1) := by decide +kernel
theorem d_M_drawFrom_113 : decode b_M_drawFrom 113 = .ok (.getfield 22, 3) := by decide +kernel
theorem d_M_drawFrom_116 : decode b_M_drawFrom 116 = .ok (.iload 5, 2) := by decide +kernel
theorem d_M_drawFrom_118 : decode b_M_drawFrom 118 = .ok (.iconst 0, 1) := by decide +kernel
theorem d_M_drawFrom_119 : decode b_M_drawFrom 119 = .ok (.iastore, 1) := by decide +kernel
theorem d_M_drawFrom_120 : decode b_M_drawFrom 120 = .ok (.iinc 3 1, 3) := by decide +kernel
theorem d_M_drawFrom_123 : decode b_M_drawFrom 123 = .ok (.goto (-83), 3) := by decide +kernel
theorem d_M_drawFrom_126 : decode b_M_drawFrom 126 = .ok (.return_, 1) := by decide +kernel
theorem d_M_draw_0 : decode b_M_draw 0 = .ok (.aload_n 0, 1) := by decide +kernel
theorem d_M_draw_1 : decode b_M_draw 1 = .ok (.aload_n 0, 1) := by decide +kernel
theorem d_M_draw_2 : decode b_M_draw 2 = .ok (.getfield 54, 3) := by decide +kernel
theorem d_M_draw_5 : decode b_M_draw 5 = .ok (.ldc2_w 66, 3) := by decide +kernel
theorem d_M_draw_8 : decode b_M_draw 8 = .ok (.lmul, 1) := by decide +kernel
theorem d_M_draw_9 : decode b_M_draw 9 = .ok (.ldc2_w 68, 3) := by decide +kernel
theorem d_M_draw_12 : decode b_M_draw 12 = .ok (.ladd, 1) := by decide +kernel
theorem d_M_draw_13 : decode b_M_draw 13 = .ok (.putfield 54, 3) := by decide +kernel
theorem d_M_draw_16 : decode b_M_draw 16 = .ok (.aload_n 0, 1) := by decide +kernel
theorem d_M_draw_17 : decode b_M_draw 17 = .ok (.getfield 54, 3) := by decide +kernel
theorem d_M_draw_20 : decode b_M_draw 20 = .ok (.bipush 33, 2) := by decide +kernel
theorem d_M_draw_22 : decode b_M_draw 22 = .ok (.lushr, 1) := by decide +kernel
theorem d_M_draw_23 : decode b_M_draw 23 = .ok (.iload_n 1, 1) := by decide +kernel
theorem d_M_draw_24 : decode b_M_draw 24 = .ok (.i2l, 1) := by decide +kernel
theorem d_M_draw_25 : decode b_M_draw 25 = .ok (.lrem, 1) := by decide +kernel
theorem d_M_draw_26 : decode b_M_draw 26 = .ok (.l2i, 1) := by decide +kernel
theorem d_M_draw_27 : decode b_M_draw 27 = .ok (.ireturn, 1) := by decide +kernel
theorem d_M_drawn_0 : decode b_M_drawn 0 = .ok (.aload_n 0, 1) := by decide +kernel
theorem d_M_drawn_1 : decode b_M_drawn 1 = .ok (.iload_n 1, 1) := by decide +kernel
theorem d_M_drawn_2 : decode b_M_drawn 2 = .ok (.i2l, 1) := by decide +kernel
theorem d_M_drawn_3 : decode b_M_drawn 3 = .ok (.lconst 0, 1) := by decide +kernel
theorem d_M_drawn_4 : decode b_M_drawn 4 = .ok (.aload_n 0, 1) := by decide +kernel
theorem d_M_drawn_5 : decode b_M_drawn 5 = .ok (.getfield 81, 3) := by decide +kernel
theorem d_M_drawn_8 : decode b_M_drawn 8 = .ok (.iconst 1, 1) := by decide +kernel
theorem d_M_drawn_9 : decode b_M_drawn 9 = .ok (.isub, 1) := by decide +kernel
theorem d_M_drawn_10 : decode b_M_drawn 10 = .ok (.i2l, 1) := by decide +kernel
theorem d_M_drawn_11 : decode b_M_drawn 11 = .ok (.invokestatic 50, 3) := by decide +kernel
theorem d_M_drawn_14 : decode b_M_drawn 14 = .ok (.ifCond .ne 7, 3) := by decide +kernel
theorem d_M_drawn_17 : decode b_M_drawn 17 = .ok (.iconst 1, 1) := by decide +kernel
theorem d_M_drawn_18 : decode b_M_drawn 18 = .ok (.goto 4, 3) := by decide +kernel
theorem d_M_drawn_21 : decode b_M_drawn 21 = .ok (.iconst 0, 1) := by decide +kernel
theorem d_M_drawn_22 : decode b_M_drawn 22 = .ok (.iconst 0, 1) := by decide +kernel
theorem d_M_drawn_23 : decode b_M_drawn 23 = .ok (.iconst 0, 1) := by decide +kernel
theorem d_M_drawn_24 : decode b_M_drawn 24 = .ok (.invokevirtual 62, 3) := by decide +kernel
theorem d_M_drawn_27 : decode b_M_drawn 27 = .ok (.ifCond .eq 7, 3) := by decide +kernel
theorem d_M_drawn_30 : decode b_M_drawn 30 = .ok (.iconst 0, 1) := by decide +kernel
theorem d_M_drawn_31 : decode b_M_drawn 31 = .ok (.goto 9, 3) := by decide +kernel
theorem d_M_drawn_34 : decode b_M_drawn 34 = .ok (.aload_n 0, 1) := by decide +kernel
theorem d_M_drawn_35 : decode b_M_drawn 35 = .ok (.getfield 19, 3) := by decide +kernel
theorem d_M_drawn_38 : decode b_M_drawn 38 = .ok (.iload_n 1, 1) := by decide +kernel
theorem d_M_drawn_39 : decode b_M_drawn 39 = .ok (.iaload, 1) := by decide +kernel
theorem d_M_drawn_40 : decode b_M_drawn 40 = .ok (.ireturn, 1) := by decide +kernel
theorem d_M_check_0 : decode b_M_check 0 = .ok (.aload_n 0, 1) := by decide +kernel
theorem d_M_check_1 : decode b_M_check 1 = .ok (.iload_n 1, 1) := by decide +kernel
theorem d_M_check_2 : decode b_M_check 2 = .ok (.invokevirtual 91, 3) := by decide +kernel
theorem d_M_check_5 : decode b_M_check 5 = .ok (.istore 5, 2) := by decide +kernel
theorem d_M_check_7 : decode b_M_check 7 = .ok (.iload 5, 2) := by decide +kernel
theorem d_M_check_9 : decode b_M_check 9 = .ok (.ifCond .eq 40, 3) := by decide +kernel
theorem d_M_check_12 : decode b_M_check 12 = .ok (.iload_n 2, 1) := by decide +kernel
theorem d_M_check_13 : decode b_M_check 13 = .ok (.i2l, 1) := by decide +kernel
theorem d_M_check_14 : decode b_M_check 14 = .ok (.lconst 0, 1) := by decide +kernel
theorem d_M_check_15 : decode b_M_check 15 = .ok (.ldc2_w 95, 3) := by decide +kernel
theorem d_M_check_18 : decode b_M_check 18 = .ok (.invokestatic 50, 3) := by decide +kernel
theorem d_M_check_21 : decode b_M_check 21 = .ok (.ifCond .eq 28, 3) := by decide +kernel
theorem d_M_check_24 : decode b_M_check 24 = .ok (.iload_n 3, 1) := by decide +kernel
theorem d_M_check_25 : decode b_M_check 25 = .ok (.i2l, 1) := by decide +kernel
theorem d_M_check_26 : decode b_M_check 26 = .ok (.lconst 0, 1) := by decide +kernel
theorem d_M_check_27 : decode b_M_check 27 = .ok (.ldc2_w 95, 3) := by decide +kernel
theorem d_M_check_30 : decode b_M_check 30 = .ok (.invokestatic 50, 3) := by decide +kernel
theorem d_M_check_33 : decode b_M_check 33 = .ok (.ifCond .eq 16, 3) := by decide +kernel
theorem d_M_check_36 : decode b_M_check 36 = .ok (.iload 4, 2) := by decide +kernel
theorem d_M_check_38 : decode b_M_check 38 = .ok (.i2l, 1) := by decide +kernel
theorem d_M_check_39 : decode b_M_check 39 = .ok (.lconst 0, 1) := by decide +kernel
theorem d_M_check_40 : decode b_M_check 40 = .ok (.ldc2_w 60, 3) := by decide +kernel
theorem d_M_check_43 : decode b_M_check 43 = .ok (.invokestatic 50, 3) := by decide +kernel
theorem d_M_check_46 : decode b_M_check 46 = .ok (.ifCond .ne 7, 3) := by decide +kernel
theorem d_M_check_49 : decode b_M_check 49 = .ok (.iconst 1, 1) := by decide +kernel
theorem d_M_check_50 : decode b_M_check 50 = .ok (.goto 4, 3) := by decide +kernel
theorem d_M_check_53 : decode b_M_check 53 = .ok (.iconst 0, 1) := by decide +kernel
theorem d_M_check_54 : decode b_M_check 54 = .ok (.istore 6, 2) := by decide +kernel
theorem d_M_check_56 : decode b_M_check 56 = .ok (.aload_n 0, 1) := by decide +kernel
theorem d_M_check_57 : decode b_M_check 57 = .ok (.iload 6, 2) := by decide +kernel
theorem d_M_check_59 : decode b_M_check 59 = .ok (.iload 5, 2) := by decide +kernel
theorem d_M_check_61 : decode b_M_check 61 = .ok (.ifCond .eq 16, 3) := by decide +kernel
theorem d_M_check_64 : decode b_M_check 64 = .ok (.aload_n 0, 1) := by decide +kernel
theorem d_M_check_65 : decode b_M_check 65 = .ok (.getfield 22, 3) := by decide +kernel
theorem d_M_check_68 : decode b_M_check 68 = .ok (.iload_n 1, 1) := by decide +kernel
theorem d_M_check_69 : decode b_M_check 69 = .ok (.iaload, 1) := by decide +kernel
theorem d_M_check_70 : decode b_M_check 70 = .ok (.ifCond .ge 7, 3) := by decide +kernel
theorem d_M_check_73 : decode b_M_check 73 = .ok (.iconst 1, 1) := by decide +kernel
theorem d_M_check_74 : decode b_M_check 74 = .ok (.goto 4, 3) := by decide +kernel
theorem d_M_check_77 : decode b_M_check 77 = .ok (.iconst 0, 1) := by decide +kernel
theorem d_M_check_78 : decode b_M_check 78 = .ok (.iconst 0, 1) := by decide +kernel
theorem d_M_check_79 : decode b_M_check 79 = .ok (.invokevirtual 62, 3) := by decide +kernel
theorem d_M_check_82 : decode b_M_check 82 = .ok (.ifCond .eq 5, 3) := by decide +kernel
theorem d_M_check_85 : decode b_M_check 85 = .ok (.iconst 0, 1) := by decide +kernel
theorem d_M_check_86 : decode b_M_check 86 = .ok (.ireturn, 1) := by decide +kernel
theorem d_M_check_87 : decode b_M_check 87 = .ok (.iload_n 2, 1) := by decide +kernel
theorem d_M_check_88 : decode b_M_check 88 = .ok (.iload_n 3, 1) := by decide +kernel
theorem d_M_check_89 : decode b_M_check 89 = .ok (.if_icmp .ne 5, 3) := by decide +kernel
theorem d_M_check_92 : decode b_M_check 92 = .ok (.iconst 2, 1) := by decide +kernel
theorem d_M_check_93 : decode b_M_check 93 = .ok (.ireturn, 1) := by decide +kernel
theorem d_M_check_94 : decode b_M_check 94 = .ok (.aload_n 0, 1) := by decide +kernel
theorem d_M_check_95 : decode b_M_check 95 = .ok (.getfield 13, 3) := by decide +kernel
theorem d_M_check_98 : decode b_M_check 98 = .ok (.iload_n 1, 1) := by decide +kernel
theorem d_M_check_99 : decode b_M_check 99 = .ok (.iaload, 1) := by decide +kernel
theorem d_M_check_100 : decode b_M_check 100 = .ok (.iload 4, 2) := by decide +kernel
theorem d_M_check_102 : decode b_M_check 102 = .ok (.if_icmp .eq 7, 3) := by decide +kernel
theorem d_M_check_105 : decode b_M_check 105 = .ok (.iconst 1, 1) := by decide +kernel
theorem d_M_check_106 : decode b_M_check 106 = .ok (.goto 4, 3) := by decide +kernel
theorem d_M_check_109 : decode b_M_check 109 = .ok (.iconst 0, 1) := by decide +kernel
theorem d_M_check_110 : decode b_M_check 110 = .ok (.istore 7, 2) := by decide +kernel
theorem d_M_check_112 : decode b_M_check 112 = .ok (.aload_n 0, 1) := by decide +kernel
theorem d_M_check_113 : decode b_M_check 113 = .ok (.getfield 22, 3) := by decide +kernel
theorem d_M_check_116 : decode b_M_check 116 = .ok (.iload_n 1, 1) := by decide +kernel
theorem d_M_check_117 : decode b_M_check 117 = .ok (.iload 7, 2) := by decide +kernel
theorem d_M_check_119 : decode b_M_check 119 = .ok (.ifCond .eq 7, 3) := by decide +kernel
theorem d_M_check_122 : decode b_M_check 122 = .ok (.iconst 2, 1) := by decide +kernel
theorem d_M_check_123 : decode b_M_check 123 = .ok (.goto 4, 3) := by decide +kernel
theorem d_M_check_126 : decode b_M_check 126 = .ok (.iconst 1, 1) := by decide +kernel
theorem d_M_check_127 : decode b_M_check 127 = .ok (.iastore, 1) := by decide +kernel
theorem d_M_check_128 : decode b_M_check 128 = .ok (.aload_n 0, 1) := by decide +kernel
theorem d_M_check_129 : decode b_M_check 129 = .ok (.getfield 13, 3) := by decide +kernel
theorem d_M_check_132 : decode b_M_check 132 = .ok (.iload_n 1, 1) := by decide +kernel
theorem d_M_check_133 : decode b_M_check 133 = .ok (.iload 4, 2) := by decide +kernel
theorem d_M_check_135 : decode b_M_check 135 = .ok (.iastore, 1) := by decide +kernel
theorem d_M_check_136 : decode b_M_check 136 = .ok (.iload 7, 2) := by decide +kernel
theorem d_M_check_138 : decode b_M_check 138 = .ok (.ifCond .eq 7, 3) := by decide +kernel
theorem d_M_check_141 : decode b_M_check 141 = .ok (.iconst 1, 1) := by decide +kernel
theorem d_M_check_142 : decode b_M_check 142 = .ok (.goto 4, 3) := by decide +kernel
theorem d_M_check_145 : decode b_M_check 145 = .ok (.iconst 0, 1) := by decide +kernel
theorem d_M_check_146 : decode b_M_check 146 = .ok (.ireturn, 1) := by decide +kernel
theorem d_M_isThing_0 : decode b_M_isThing 0 = .ok (.iload_n 1, 1) := by decide +kernel
theorem d_M_isThing_1 : decode b_M_isThing 1 = .ok (.i2l, 1) := by decide +kernel
theorem d_M_isThing_2 : decode b_M_isThing 2 = .ok (.lconst 0, 1) := by decide +kernel
theorem d_M_isThing_3 : decode b_M_isThing 3 = .ok (.aload_n 0, 1) := by decide +kernel
theorem d_M_isThing_4 : decode b_M_isThing 4 = .ok (.getfield 47, 3) := by decide +kernel
theorem d_M_isThing_7 : decode b_M_isThing 7 = .ok (.iconst 1, 1) := by decide +kernel
theorem d_M_isThing_8 : decode b_M_isThing 8 = .ok (.isub, 1) := by decide +kernel
theorem d_M_isThing_9 : decode b_M_isThing 9 = .ok (.i2l, 1) := by decide +kernel
theorem d_M_isThing_10 : decode b_M_isThing 10 = .ok (.invokestatic 50, 3) := by decide +kernel
theorem d_M_isThing_13 : decode b_M_isThing 13 = .ok (.ireturn, 1) := by decide +kernel
theorem d_M_gone_0 : decode b_M_gone 0 = .ok (.aload_n 0, 1) := by decide +kernel
theorem d_M_gone_1 : decode b_M_gone 1 = .ok (.iload_n 1, 1) := by decide +kernel
theorem d_M_gone_2 : decode b_M_gone 2 = .ok (.invokevirtual 91, 3) := by decide +kernel
theorem d_M_gone_5 : decode b_M_gone 5 = .ok (.istore_n 2, 1) := by decide +kernel
theorem d_M_gone_6 : decode b_M_gone 6 = .ok (.aload_n 0, 1) := by decide +kernel
theorem d_M_gone_7 : decode b_M_gone 7 = .ok (.iload_n 2, 1) := by decide +kernel
theorem d_M_gone_8 : decode b_M_gone 8 = .ok (.ifCond .ne 7, 3) := by decide +kernel
theorem d_M_gone_11 : decode b_M_gone 11 = .ok (.iconst 1, 1) := by decide +kernel
theorem d_M_gone_12 : decode b_M_gone 12 = .ok (.goto 4, 3) := by decide +kernel
theorem d_M_gone_15 : decode b_M_gone 15 = .ok (.iconst 0, 1) := by decide +kernel
theorem d_M_gone_16 : decode b_M_gone 16 = .ok (.iload_n 2, 1) := by decide +kernel
theorem d_M_gone_17 : decode b_M_gone 17 = .ok (.ifCond .eq 16, 3) := by decide +kernel
theorem d_M_gone_20 : decode b_M_gone 20 = .ok (.aload_n 0, 1) := by decide +kernel
theorem d_M_gone_21 : decode b_M_gone 21 = .ok (.getfield 22, 3) := by decide +kernel
theorem d_M_gone_24 : decode b_M_gone 24 = .ok (.iload_n 1, 1) := by decide +kernel
theorem d_M_gone_25 : decode b_M_gone 25 = .ok (.iaload, 1) := by decide +kernel
theorem d_M_gone_26 : decode b_M_gone 26 = .ok (.ifCond .ge 7, 3) := by decide +kernel
theorem d_M_gone_29 : decode b_M_gone 29 = .ok (.iconst 1, 1) := by decide +kernel
theorem d_M_gone_30 : decode b_M_gone 30 = .ok (.goto 4, 3) := by decide +kernel
theorem d_M_gone_33 : decode b_M_gone 33 = .ok (.iconst 0, 1) := by decide +kernel
theorem d_M_gone_34 : decode b_M_gone 34 = .ok (.iconst 0, 1) := by decide +kernel
theorem d_M_gone_35 : decode b_M_gone 35 = .ok (.invokevirtual 62, 3) := by decide +kernel
theorem d_M_gone_38 : decode b_M_gone 38 = .ok (.ifCond .eq 5, 3) := by decide +kernel
theorem d_M_gone_41 : decode b_M_gone 41 = .ok (.iconst 0, 1) := by decide +kernel
theorem d_M_gone_42 : decode b_M_gone 42 = .ok (.ireturn, 1) := by decide +kernel
theorem d_M_gone_43 : decode b_M_gone 43 = .ok (.aload_n 0, 1) := by decide +kernel
theorem d_M_gone_44 : decode b_M_gone 44 = .ok (.getfield 22, 3) := by decide +kernel
theorem d_M_gone_47 : decode b_M_gone 47 = .ok (.iload_n 1, 1) := by decide +kernel
theorem d_M_gone_48 : decode b_M_gone 48 = .ok (.iaload, 1) := by decide +kernel
theorem d_M_gone_49 : decode b_M_gone 49 = .ok (.iconst 3, 1) := by decide +kernel
theorem d_M_gone_50 : decode b_M_gone 50 = .ok (.if_icmp .eq 7, 3) := by decide +kernel
theorem d_M_gone_53 : decode b_M_gone 53 = .ok (.iconst 1, 1) := by decide +kernel
theorem d_M_gone_54 : decode b_M_gone 54 = .ok (.goto 4, 3) := by decide +kernel
theorem d_M_gone_57 : decode b_M_gone 57 = .ok (.iconst 0, 1) := by decide +kernel
theorem d_M_gone_58 : decode b_M_gone 58 = .ok (.istore_n 3, 1) := by decide +kernel
theorem d_M_gone_59 : decode b_M_gone 59 = .ok (.aload_n 0, 1) := by decide +kernel
theorem d_M_gone_60 : decode b_M_gone 60 = .ok (.getfield 22, 3) := by decide +kernel
theorem d_M_gone_63 : decode b_M_gone 63 = .ok (.iload_n 1, 1) := by decide +kernel
theorem d_M_gone_64 : decode b_M_gone 64 = .ok (.iconst 3, 1) := by decide +kernel
theorem d_M_gone_65 : decode b_M_gone 65 = .ok (.iastore, 1) := by decide +kernel
theorem d_M_gone_66 : decode b_M_gone 66 = .ok (.iload_n 3, 1) := by decide +kernel
theorem d_M_gone_67 : decode b_M_gone 67 = .ok (.ireturn, 1) := by decide +kernel
theorem d_M_share_0 : decode b_M_share 0 = .ok (.aload_n 0, 1) := by decide +kernel
theorem d_M_share_1 : decode b_M_share 1 = .ok (.iload_n 1, 1) := by decide +kernel
theorem d_M_share_2 : decode b_M_share 2 = .ok (.i2l, 1) := by decide +kernel
theorem d_M_share_3 : decode b_M_share 3 = .ok (.lconst 0, 1) := by decide +kernel
theorem d_M_share_4 : decode b_M_share 4 = .ok (.ldc2_w 58, 3) := by decide +kernel
theorem d_M_share_7 : decode b_M_share 7 = .ok (.invokestatic 50, 3) := by decide +kernel
theorem d_M_share_10 : decode b_M_share 10 = .ok (.ifCond .eq 13, 3) := by decide +kernel
theorem d_M_share_13 : decode b_M_share 13 = .ok (.iload_n 2, 1) := by decide +kernel
theorem d_M_share_14 : decode b_M_share 14 = .ok (.i2l, 1) := by decide +kernel
theorem d_M_share_15 : decode b_M_share 15 = .ok (.lconst 0, 1) := by decide +kernel
theorem d_M_share_16 : decode b_M_share 16 = .ok (.lconst 1, 1) := by decide +kernel
theorem d_M_share_17 : decode b_M_share 17 = .ok (.invokestatic 50, 3) := by decide +kernel
theorem d_M_share_20 : decode b_M_share 20 = .ok (.ifCond .ne 7, 3) := by decide +kernel
theorem d_M_share_23 : decode b_M_share 23 = .ok (.iconst 1, 1) := by decide +kernel
theorem d_M_share_24 : decode b_M_share 24 = .ok (.goto 4, 3) := by decide +kernel
theorem d_M_share_27 : decode b_M_share 27 = .ok (.iconst 0, 1) := by decide +kernel
theorem d_M_share_28 : decode b_M_share 28 = .ok (.iconst 0, 1) := by decide +kernel
theorem d_M_share_29 : decode b_M_share 29 = .ok (.iconst 0, 1) := by decide +kernel
theorem d_M_share_30 : decode b_M_share 30 = .ok (.invokevirtual 62, 3) := by decide +kernel
theorem d_M_share_33 : decode b_M_share 33 = .ok (.ifCond .eq 5, 3) := by decide +kernel
theorem d_M_share_36 : decode b_M_share 36 = .ok (.iconst 0, 1) := by decide +kernel
theorem d_M_share_37 : decode b_M_share 37 = .ok (.ireturn, 1) := by decide +kernel
theorem d_M_share_38 : decode b_M_share 38 = .ok (.aload_n 0, 1) := by decide +kernel
theorem d_M_share_39 : decode b_M_share 39 = .ok (.iload_n 1, 1) := by decide +kernel
theorem d_M_share_40 : decode b_M_share 40 = .ok (.iconst 1, 1) := by decide +kernel
theorem d_M_share_41 : decode b_M_share 41 = .ok (.iconst 1, 1) := by decide +kernel
theorem d_M_share_42 : decode b_M_share 42 = .ok (.invokevirtual 97, 3) := by decide +kernel
theorem d_M_share_45 : decode b_M_share 45 = .ok (.istore_n 3, 1) := by decide +kernel
theorem d_M_share_46 : decode b_M_share 46 = .ok (.aload_n 0, 1) := by decide +kernel
theorem d_M_share_47 : decode b_M_share 47 = .ok (.iload_n 1, 1) := by decide +kernel
theorem d_M_share_48 : decode b_M_share 48 = .ok (.iconst 1, 1) := by decide +kernel
theorem d_M_share_49 : decode b_M_share 49 = .ok (.iconst 3, 1) := by decide +kernel
theorem d_M_share_50 : decode b_M_share 50 = .ok (.invokevirtual 97, 3) := by decide +kernel
theorem d_M_share_53 : decode b_M_share 53 = .ok (.istore 4, 2) := by decide +kernel
theorem d_M_share_55 : decode b_M_share 55 = .ok (.iload 4, 2) := by decide +kernel
theorem d_M_share_57 : decode b_M_share 57 = .ok (.ifCond .le 8, 3) := by decide +kernel
theorem d_M_share_60 : decode b_M_share 60 = .ok (.iload 4, 2) := by decide +kernel
theorem d_M_share_62 : decode b_M_share 62 = .ok (.goto 4, 3) := by decide +kernel
theorem d_M_share_65 : decode b_M_share 65 = .ok (.iconst 1, 1) := by decide +kernel
theorem d_M_share_66 : decode b_M_share 66 = .ok (.istore 5, 2) := by decide +kernel
theorem d_M_share_68 : decode b_M_share 68 = .ok (.iload_n 3, 1) := by decide +kernel
theorem d_M_share_69 : decode b_M_share 69 = .ok (.iload 5, 2) := by decide +kernel
theorem d_M_share_71 : decode b_M_share 71 = .ok (.irem, 1) := by decide +kernel
theorem d_M_share_72 : decode b_M_share 72 = .ok (.ifCond .ne 11, 3) := by decide +kernel
theorem d_M_share_75 : decode b_M_share 75 = .ok (.iload 4, 2) := by decide +kernel
theorem d_M_share_77 : decode b_M_share 77 = .ok (.iload 5, 2) := by decide +kernel
theorem d_M_share_79 : decode b_M_share 79 = .ok (.irem, 1) := by decide +kernel
theorem d_M_share_80 : decode b_M_share 80 = .ok (.ifCond .eq 9, 3) := by decide +kernel
theorem d_M_share_83 : decode b_M_share 83 = .ok (.iinc 5 (-1), 3) := by decide +kernel
theorem d_M_share_86 : decode b_M_share 86 = .ok (.goto (-18), 3) := by decide +kernel
theorem d_M_share_89 : decode b_M_share 89 = .ok (.iload 4, 2) := by decide +kernel
theorem d_M_share_91 : decode b_M_share 91 = .ok (.ifCond .ne 7, 3) := by decide +kernel
theorem d_M_share_94 : decode b_M_share 94 = .ok (.iload_n 2, 1) := by decide +kernel
theorem d_M_share_95 : decode b_M_share 95 = .ok (.goto 19, 3) := by decide +kernel
theorem d_M_share_98 : decode b_M_share 98 = .ok (.iload_n 2, 1) := by decide +kernel
theorem d_M_share_99 : decode b_M_share 99 = .ok (.ifCond .ne 10, 3) := by decide +kernel
theorem d_M_share_102 : decode b_M_share 102 = .ok (.iload_n 3, 1) := by decide +kernel
theorem d_M_share_103 : decode b_M_share 103 = .ok (.iload 5, 2) := by decide +kernel
theorem d_M_share_105 : decode b_M_share 105 = .ok (.idiv, 1) := by decide +kernel
theorem d_M_share_106 : decode b_M_share 106 = .ok (.goto 8, 3) := by decide +kernel
theorem d_M_share_109 : decode b_M_share 109 = .ok (.iload 4, 2) := by decide +kernel
theorem d_M_share_111 : decode b_M_share 111 = .ok (.iload 5, 2) := by decide +kernel
theorem d_M_share_113 : decode b_M_share 113 = .ok (.idiv, 1) := by decide +kernel
theorem d_M_share_114 : decode b_M_share 114 = .ok (.ireturn, 1) := by decide +kernel
theorem d_M_many_0 : decode b_M_many 0 = .ok (.iconst 0, 1) := by decide +kernel
theorem d_M_many_1 : decode b_M_many 1 = .ok (.istore 4, 2) := by decide +kernel
theorem d_M_many_3 : decode b_M_many 3 = .ok (.iconst 0, 1) := by decide +kernel
theorem d_M_many_4 : decode b_M_many 4 = .ok (.istore 5, 2) := by decide +kernel
theorem d_M_many_6 : decode b_M_many 6 = .ok (.iload 5, 2) := by decide +kernel
theorem d_M_many_8 : decode b_M_many 8 = .ok (.aload_n 0, 1) := by decide +kernel
theorem d_M_many_9 : decode b_M_many 9 = .ok (.getfield 47, 3) := by decide +kernel
theorem d_M_many_12 : decode b_M_many 12 = .ok (.if_icmp .ge 48, 3) := by decide +kernel
theorem d_M_many_15 : decode b_M_many 15 = .ok (.iload 4, 2) := by decide +kernel
theorem d_M_many_17 : decode b_M_many 17 = .ok (.aload_n 0, 1) := by decide +kernel
theorem d_M_many_18 : decode b_M_many 18 = .ok (.getfield 7, 3) := by decide +kernel
theorem d_M_many_21 : decode b_M_many 21 = .ok (.iload 5, 2) := by decide +kernel
theorem d_M_many_23 : decode b_M_many 23 = .ok (.iaload, 1) := by decide +kernel
theorem d_M_many_24 : decode b_M_many 24 = .ok (.iload_n 1, 1) := by decide +kernel
theorem d_M_many_25 : decode b_M_many 25 = .ok (.if_icmp .ne 25, 3) := by decide +kernel
theorem d_M_many_28 : decode b_M_many 28 = .ok (.aload_n 0, 1) := by decide +kernel
theorem d_M_many_29 : decode b_M_many 29 = .ok (.getfield 22, 3) := by decide +kernel
theorem d_M_many_32 : decode b_M_many 32 = .ok (.iload 5, 2) := by decide +kernel
theorem d_M_many_34 : decode b_M_many 34 = .ok (.iaload, 1) := by decide +kernel
theorem d_M_many_35 : decode b_M_many 35 = .ok (.i2l, 1) := by decide +kernel
theorem d_M_many_36 : decode b_M_many 36 = .ok (.iload_n 2, 1) := by decide +kernel
theorem d_M_many_37 : decode b_M_many 37 = .ok (.i2l, 1) := by decide +kernel
theorem d_M_many_38 : decode b_M_many 38 = .ok (.iload_n 3, 1) := by decide +kernel
theorem d_M_many_39 : decode b_M_many 39 = .ok (.i2l, 1) := by decide +kernel
theorem d_M_many_40 : decode b_M_many 40 = .ok (.invokestatic 50, 3) := by decide +kernel
theorem d_M_many_43 : decode b_M_many 43 = .ok (.ifCond .eq 7, 3) := by decide +kernel
theorem d_M_many_46 : decode b_M_many 46 = .ok (.iconst 1, 1) := by decide +kernel
theorem d_M_many_47 : decode b_M_many 47 = .ok (.goto 4, 3) := by decide +kernel
theorem d_M_many_50 : decode b_M_many 50 = .ok (.iconst 0, 1) := by decide +kernel
theorem d_M_many_51 : decode b_M_many 51 = .ok (.iadd, 1) := by decide +kernel
theorem d_M_many_52 : decode b_M_many 52 = .ok (.istore 4, 2) := by decide +kernel
theorem d_M_many_54 : decode b_M_many 54 = .ok (.iinc 5 1, 3) := by decide +kernel
theorem d_M_many_57 : decode b_M_many 57 = .ok (.goto (-51), 3) := by decide +kernel
theorem d_M_many_60 : decode b_M_many 60 = .ok (.iload 4, 2) := by decide +kernel
theorem d_M_many_62 : decode b_M_many 62 = .ok (.ireturn, 1) := by decide +kernel
theorem d_M_next_0 : decode b_M_next 0 = .ok (.aload_n 0, 1) := by decide +kernel
theorem d_M_next_1 : decode b_M_next 1 = .ok (.iload_n 1, 1) := by decide +kernel
theorem d_M_next_2 : decode b_M_next 2 = .ok (.i2l, 1) := by decide +kernel
theorem d_M_next_3 : decode b_M_next 3 = .ok (.lconst 0, 1) := by decide +kernel
theorem d_M_next_4 : decode b_M_next 4 = .ok (.ldc2_w 58, 3) := by decide +kernel
theorem d_M_next_7 : decode b_M_next 7 = .ok (.invokestatic 50, 3) := by decide +kernel
theorem d_M_next_10 : decode b_M_next 10 = .ok (.ifCond .ne 7, 3) := by decide +kernel
theorem d_M_next_13 : decode b_M_next 13 = .ok (.iconst 1, 1) := by decide +kernel
theorem d_M_next_14 : decode b_M_next 14 = .ok (.goto 4, 3) := by decide +kernel
theorem d_M_next_17 : decode b_M_next 17 = .ok (.iconst 0, 1) := by decide +kernel
theorem d_M_next_18 : decode b_M_next 18 = .ok (.iconst 0, 1) := by decide +kernel
theorem d_M_next_19 : decode b_M_next 19 = .ok (.iconst 0, 1) := by decide +kernel
theorem d_M_next_20 : decode b_M_next 20 = .ok (.invokevirtual 62, 3) := by decide +kernel
theorem d_M_next_23 : decode b_M_next 23 = .ok (.ifCond .eq 5, 3) := by decide +kernel
theorem d_M_next_26 : decode b_M_next 26 = .ok (.iconst 0, 1) := by decide +kernel
theorem d_M_next_27 : decode b_M_next 27 = .ok (.ireturn, 1) := by decide +kernel
theorem d_M_next_28 : decode b_M_next 28 = .ok (.aload_n 0, 1) := by decide +kernel
theorem d_M_next_29 : decode b_M_next 29 = .ok (.iload_n 1, 1) := by decide +kernel
theorem d_M_next_30 : decode b_M_next 30 = .ok (.iconst 1, 1) := by decide +kernel
theorem d_M_next_31 : decode b_M_next 31 = .ok (.iconst 3, 1) := by decide +kernel
theorem d_M_next_32 : decode b_M_next 32 = .ok (.invokevirtual 97, 3) := by decide +kernel
theorem d_M_next_35 : decode b_M_next 35 = .ok (.istore_n 2, 1) := by decide +kernel
theorem d_M_next_36 : decode b_M_next 36 = .ok (.aload_n 0, 1) := by decide +kernel
theorem d_M_next_37 : decode b_M_next 37 = .ok (.iload_n 1, 1) := by decide +kernel
theorem d_M_next_38 : decode b_M_next 38 = .ok (.iconst 2, 1) := by decide +kernel
theorem d_M_next_39 : decode b_M_next 39 = .ok (.iconst 3, 1) := by decide +kernel
theorem d_M_next_40 : decode b_M_next 40 = .ok (.invokevirtual 97, 3) := by decide +kernel
theorem d_M_next_43 : decode b_M_next 43 = .ok (.istore_n 3, 1) := by decide +kernel
theorem d_M_next_44 : decode b_M_next 44 = .ok (.iload_n 2, 1) := by decide +kernel
theorem d_M_next_45 : decode b_M_next 45 = .ok (.ifCond .ne 8, 3) := by decide +kernel
theorem d_M_next_48 : decode b_M_next 48 = .ok (.bipush 100, 2) := by decide +kernel
theorem d_M_next_50 : decode b_M_next 50 = .ok (.goto 17, 3) := by decide +kernel
theorem d_M_next_53 : decode b_M_next 53 = .ok (.bipush 50, 2) := by decide +kernel
theorem d_M_next_55 : decode b_M_next 55 = .ok (.sipush 950, 3) := by decide +kernel
theorem d_M_next_58 : decode b_M_next 58 = .ok (.iload_n 3, 1) := by decide +kernel
theorem d_M_next_59 : decode b_M_next 59 = .ok (.imul, 1) := by decide +kernel
theorem d_M_next_60 : decode b_M_next 60 = .ok (.iload_n 2, 1) := by decide +kernel
theorem d_M_next_61 : decode b_M_next 61 = .ok (.iadd, 1) := by decide +kernel
theorem d_M_next_62 : decode b_M_next 62 = .ok (.iconst 1, 1) := by decide +kernel
theorem d_M_next_63 : decode b_M_next 63 = .ok (.isub, 1) := by decide +kernel
theorem d_M_next_64 : decode b_M_next 64 = .ok (.iload_n 2, 1) := by decide +kernel
theorem d_M_next_65 : decode b_M_next 65 = .ok (.idiv, 1) := by decide +kernel
theorem d_M_next_66 : decode b_M_next 66 = .ok (.iadd, 1) := by decide +kernel
theorem d_M_next_67 : decode b_M_next 67 = .ok (.ireturn, 1) := by decide +kernel
theorem d_M_digit_0 : decode b_M_digit 0 = .ok (.aload_n 0, 1) := by decide +kernel
theorem d_M_digit_1 : decode b_M_digit 1 = .ok (.iload_n 1, 1) := by decide +kernel
theorem d_M_digit_2 : decode b_M_digit 2 = .ok (.i2l, 1) := by decide +kernel
theorem d_M_digit_3 : decode b_M_digit 3 = .ok (.lconst 0, 1) := by decide +kernel
theorem d_M_digit_4 : decode b_M_digit 4 = .ok (.ldc2_w 110, 3) := by decide +kernel
theorem d_M_digit_7 : decode b_M_digit 7 = .ok (.invokestatic 50, 3) := by decide +kernel
theorem d_M_digit_10 : decode b_M_digit 10 = .ok (.ifCond .ne 7, 3) := by decide +kernel
theorem d_M_digit_13 : decode b_M_digit 13 = .ok (.iconst 1, 1) := by decide +kernel
theorem d_M_digit_14 : decode b_M_digit 14 = .ok (.goto 4, 3) := by decide +kernel
theorem d_M_digit_17 : decode b_M_digit 17 = .ok (.iconst 0, 1) := by decide +kernel
theorem d_M_digit_18 : decode b_M_digit 18 = .ok (.lload_n 2, 1) := by decide +kernel
theorem d_M_digit_19 : decode b_M_digit 19 = .ok (.lconst 0, 1) := by decide +kernel
theorem d_M_digit_20 : decode b_M_digit 20 = .ok (.ldc2_w 112, 3) := by decide +kernel
theorem d_M_digit_23 : decode b_M_digit 23 = .ok (.invokestatic 50, 3) := by decide +kernel
theorem d_M_digit_26 : decode b_M_digit 26 = .ok (.ifCond .ne 7, 3) := by decide +kernel
theorem d_M_digit_29 : decode b_M_digit 29 = .ok (.iconst 1, 1) := by decide +kernel
theorem d_M_digit_30 : decode b_M_digit 30 = .ok (.goto 4, 3) := by decide +kernel
theorem d_M_digit_33 : decode b_M_digit 33 = .ok (.iconst 0, 1) := by decide +kernel
theorem d_M_digit_34 : decode b_M_digit 34 = .ok (.iconst 0, 1) := by decide +kernel
theorem d_M_digit_35 : decode b_M_digit 35 = .ok (.invokevirtual 62, 3) := by decide +kernel
theorem d_M_digit_38 : decode b_M_digit 38 = .ok (.ifCond .eq 7, 3) := by decide +kernel
theorem d_M_digit_41 : decode b_M_digit 41 = .ok (.iconst 0, 1) := by decide +kernel
theorem d_M_digit_42 : decode b_M_digit 42 = .ok (.goto 8, 3) := by decide +kernel
theorem d_M_digit_45 : decode b_M_digit 45 = .ok (.iload_n 1, 1) := by decide +kernel
theorem d_M_digit_46 : decode b_M_digit 46 = .ok (.lload_n 2, 1) := by decide +kernel
theorem d_M_digit_47 : decode b_M_digit 47 = .ok (.invokestatic 114, 3) := by decide +kernel
theorem d_M_digit_50 : decode b_M_digit 50 = .ok (.ireturn, 1) := by decide +kernel
theorem d_M_digitOf_0 : decode b_M_digitOf 0 = .ok (.iload_n 0, 1) := by decide +kernel
theorem d_M_digitOf_1 : decode b_M_digitOf 1 = .ok (.iconst 2, 1) := by decide +kernel
theorem d_M_digitOf_2 : decode b_M_digitOf 2 = .ok (.if_icmp .ne 8, 3) := by decide +kernel
theorem d_M_digitOf_5 : decode b_M_digitOf 5 = .ok (.bipush 11, 2) := by decide +kernel
theorem d_M_digitOf_7 : decode b_M_digitOf 7 = .ok (.goto 5, 3) := by decide +kernel
theorem d_M_digitOf_10 : decode b_M_digitOf 10 = .ok (.bipush 10, 2) := by decide +kernel
theorem d_M_digitOf_12 : decode b_M_digitOf 12 = .ok (.istore_n 3, 1) := by decide +kernel
theorem d_M_digitOf_13 : decode b_M_digitOf 13 = .ok (.iload_n 3, 1) := by decide +kernel
theorem d_M_digitOf_14 : decode b_M_digitOf 14 = .ok (.iload_n 0, 1) := by decide +kernel
theorem d_M_digitOf_15 : decode b_M_digitOf 15 = .ok (.lload_n 1, 1) := by decide +kernel
theorem d_M_digitOf_16 : decode b_M_digitOf 16 = .ok (.invokestatic 106, 3) := by decide +kernel
theorem d_M_digitOf_19 : decode b_M_digitOf 19 = .ok (.iload_n 3, 1) := by decide +kernel
theorem d_M_digitOf_20 : decode b_M_digitOf 20 = .ok (.irem, 1) := by decide +kernel
theorem d_M_digitOf_21 : decode b_M_digitOf 21 = .ok (.isub, 1) := by decide +kernel
theorem d_M_digitOf_22 : decode b_M_digitOf 22 = .ok (.iload_n 3, 1) := by decide +kernel
theorem d_M_digitOf_23 : decode b_M_digitOf 23 = .ok (.irem, 1) := by decide +kernel
theorem d_M_digitOf_24 : decode b_M_digitOf 24 = .ok (.ireturn, 1) := by decide +kernel
theorem d_M_sum_0 : decode b_M_sum 0 = .ok (.iconst 0, 1) := by decide +kernel
theorem d_M_sum_1 : decode b_M_sum 1 = .ok (.istore_n 3, 1) := by decide +kernel
theorem d_M_sum_2 : decode b_M_sum 2 = .ok (.lload_n 1, 1) := by decide +kernel
theorem d_M_sum_3 : decode b_M_sum 3 = .ok (.lstore 4, 2) := by decide +kernel
theorem d_M_sum_5 : decode b_M_sum 5 = .ok (.iconst 0, 1) := by decide +kernel
theorem d_M_sum_6 : decode b_M_sum 6 = .ok (.istore 6, 2) := by decide +kernel
theorem d_M_sum_8 : decode b_M_sum 8 = .ok (.iload 6, 2) := by decide +kernel
theorem d_M_sum_10 : decode b_M_sum 10 = .ok (.bipush 18, 2) := by decide +kernel
theorem d_M_sum_12 : decode b_M_sum 12 = .ok (.if_icmp .ge 33, 3) := by decide +kernel
theorem d_M_sum_15 : decode b_M_sum 15 = .ok (.iload_n 3, 1) := by decide +kernel
theorem d_M_sum_16 : decode b_M_sum 16 = .ok (.iload_n 0, 1) := by decide +kernel
theorem d_M_sum_17 : decode b_M_sum 17 = .ok (.lload 4, 2) := by decide +kernel
theorem d_M_sum_19 : decode b_M_sum 19 = .ok (.ldc2_w 101, 3) := by decide +kernel
theorem d_M_sum_22 : decode b_M_sum 22 = .ok (.lrem, 1) := by decide +kernel
theorem d_M_sum_23 : decode b_M_sum 23 = .ok (.l2i, 1) := by decide +kernel
theorem d_M_sum_24 : decode b_M_sum 24 = .ok (.iload 6, 2) := by decide +kernel
theorem d_M_sum_26 : decode b_M_sum 26 = .ok (.invokestatic 103, 3) := by decide +kernel
theorem d_M_sum_29 : decode b_M_sum 29 = .ok (.iadd, 1) := by decide +kernel
theorem d_M_sum_30 : decode b_M_sum 30 = .ok (.istore_n 3, 1) := by decide +kernel
theorem d_M_sum_31 : decode b_M_sum 31 = .ok (.lload 4, 2) := by decide +kernel
theorem d_M_sum_33 : decode b_M_sum 33 = .ok (.ldc2_w 101, 3) := by decide +kernel
theorem d_M_sum_36 : decode b_M_sum 36 = .ok (.ldiv, 1) := by decide +kernel
theorem d_M_sum_37 : decode b_M_sum 37 = .ok (.lstore 4, 2) := by decide +kernel
theorem d_M_sum_39 : decode b_M_sum 39 = .ok (.iinc 6 1, 3) := by decide +kernel
theorem d_M_sum_42 : decode b_M_sum 42 = .ok (.goto (-34), 3) := by decide +kernel
theorem d_M_sum_45 : decode b_M_sum 45 = .ok (.iload_n 3, 1) := by decide +kernel
theorem d_M_sum_46 : decode b_M_sum 46 = .ok (.ireturn, 1) := by decide +kernel
theorem d_M_counts_0 : decode b_M_counts 0 = .ok (.iload_n 0, 1) := by decide +kernel
theorem d_M_counts_1 : decode b_M_counts 1 = .ok (.iconst 2, 1) := by decide +kernel
theorem d_M_counts_2 : decode b_M_counts 2 = .ok (.if_icmp .ne 12, 3) := by decide +kernel
theorem d_M_counts_5 : decode b_M_counts 5 = .ok (.iload_n 1, 1) := by decide +kernel
theorem d_M_counts_6 : decode b_M_counts 6 = .ok (.iload_n 2, 1) := by decide +kernel
theorem d_M_counts_7 : decode b_M_counts 7 = .ok (.bipush 6, 2) := by decide +kernel
theorem d_M_counts_9 : decode b_M_counts 9 = .ok (.irem, 1) := by decide +kernel
theorem d_M_counts_10 : decode b_M_counts 10 = .ok (.iconst 2, 1) := by decide +kernel
theorem d_M_counts_11 : decode b_M_counts 11 = .ok (.iadd, 1) := by decide +kernel
theorem d_M_counts_12 : decode b_M_counts 12 = .ok (.imul, 1) := by decide +kernel
theorem d_M_counts_13 : decode b_M_counts 13 = .ok (.ireturn, 1) := by decide +kernel
theorem d_M_counts_14 : decode b_M_counts 14 = .ok (.iload_n 2, 1) := by decide +kernel
theorem d_M_counts_15 : decode b_M_counts 15 = .ok (.iconst 2, 1) := by decide +kernel
theorem d_M_counts_16 : decode b_M_counts 16 = .ok (.irem, 1) := by decide +kernel
theorem d_M_counts_17 : decode b_M_counts 17 = .ok (.iconst 1, 1) := by decide +kernel
theorem d_M_counts_18 : decode b_M_counts 18 = .ok (.if_icmp .ne 5, 3) := by decide +kernel
theorem d_M_counts_21 : decode b_M_counts 21 = .ok (.iload_n 1, 1) := by decide +kernel
theorem d_M_counts_22 : decode b_M_counts 22 = .ok (.ireturn, 1) := by decide +kernel
theorem d_M_counts_23 : decode b_M_counts 23 = .ok (.iload_n 0, 1) := by decide +kernel
theorem d_M_counts_24 : decode b_M_counts 24 = .ok (.iconst 1, 1) := by decide +kernel
theorem d_M_counts_25 : decode b_M_counts 25 = .ok (.if_icmp .ne 9, 3) := by decide +kernel
theorem d_M_counts_28 : decode b_M_counts 28 = .ok (.iconst 3, 1) := by decide +kernel
theorem d_M_counts_29 : decode b_M_counts 29 = .ok (.iload_n 1, 1) := by decide +kernel
theorem d_M_counts_30 : decode b_M_counts 30 = .ok (.imul, 1) := by decide +kernel
theorem d_M_counts_31 : decode b_M_counts 31 = .ok (.goto 23, 3) := by decide +kernel
theorem d_M_counts_34 : decode b_M_counts 34 = .ok (.iconst 2, 1) := by decide +kernel
theorem d_M_counts_35 : decode b_M_counts 35 = .ok (.iload_n 1, 1) := by decide +kernel
theorem d_M_counts_36 : decode b_M_counts 36 = .ok (.imul, 1) := by decide +kernel
theorem d_M_counts_37 : decode b_M_counts 37 = .ok (.bipush 9, 2) := by decide +kernel
theorem d_M_counts_39 : decode b_M_counts 39 = .ok (.if_icmp .le 12, 3) := by decide +kernel
theorem d_M_counts_42 : decode b_M_counts 42 = .ok (.iconst 2, 1) := by decide +kernel
theorem d_M_counts_43 : decode b_M_counts 43 = .ok (.iload_n 1, 1) := by decide +kernel
theorem d_M_counts_44 : decode b_M_counts 44 = .ok (.imul, 1) := by decide +kernel
theorem d_M_counts_45 : decode b_M_counts 45 = .ok (.bipush 9, 2) := by decide +kernel
theorem d_M_counts_47 : decode b_M_counts 47 = .ok (.isub, 1) := by decide +kernel
theorem d_M_counts_48 : decode b_M_counts 48 = .ok (.goto 6, 3) := by decide +kernel
theorem d_M_counts_51 : decode b_M_counts 51 = .ok (.iconst 2, 1) := by decide +kernel
theorem d_M_counts_52 : decode b_M_counts 52 = .ok (.iload_n 1, 1) := by decide +kernel
theorem d_M_counts_53 : decode b_M_counts 53 = .ok (.imul, 1) := by decide +kernel
theorem d_M_counts_54 : decode b_M_counts 54 = .ok (.ireturn, 1) := by decide +kernel
theorem d_M_good_0 : decode b_M_good 0 = .ok (.aload_n 0, 1) := by decide +kernel
theorem d_M_good_1 : decode b_M_good 1 = .ok (.iload_n 1, 1) := by decide +kernel
theorem d_M_good_2 : decode b_M_good 2 = .ok (.i2l, 1) := by decide +kernel
theorem d_M_good_3 : decode b_M_good 3 = .ok (.lconst 0, 1) := by decide +kernel
theorem d_M_good_4 : decode b_M_good 4 = .ok (.ldc2_w 110, 3) := by decide +kernel
theorem d_M_good_7 : decode b_M_good 7 = .ok (.invokestatic 50, 3) := by decide +kernel
theorem d_M_good_10 : decode b_M_good 10 = .ok (.ifCond .ne 7, 3) := by decide +kernel
theorem d_M_good_13 : decode b_M_good 13 = .ok (.iconst 1, 1) := by decide +kernel
theorem d_M_good_14 : decode b_M_good 14 = .ok (.goto 4, 3) := by decide +kernel
theorem d_M_good_17 : decode b_M_good 17 = .ok (.iconst 0, 1) := by decide +kernel
theorem d_M_good_18 : decode b_M_good 18 = .ok (.lload_n 2, 1) := by decide +kernel
theorem d_M_good_19 : decode b_M_good 19 = .ok (.lconst 0, 1) := by decide +kernel
theorem d_M_good_20 : decode b_M_good 20 = .ok (.ldc2_w 112, 3) := by decide +kernel
theorem d_M_good_23 : decode b_M_good 23 = .ok (.invokestatic 50, 3) := by decide +kernel
theorem d_M_good_26 : decode b_M_good 26 = .ok (.ifCond .ne 7, 3) := by decide +kernel
theorem d_M_good_29 : decode b_M_good 29 = .ok (.iconst 1, 1) := by decide +kernel
theorem d_M_good_30 : decode b_M_good 30 = .ok (.goto 4, 3) := by decide +kernel
theorem d_M_good_33 : decode b_M_good 33 = .ok (.iconst 0, 1) := by decide +kernel
theorem d_M_good_34 : decode b_M_good 34 = .ok (.iconst 0, 1) := by decide +kernel
theorem d_M_good_35 : decode b_M_good 35 = .ok (.invokevirtual 62, 3) := by decide +kernel
theorem d_M_good_38 : decode b_M_good 38 = .ok (.ifCond .eq 5, 3) := by decide +kernel
theorem d_M_good_41 : decode b_M_good 41 = .ok (.iconst 0, 1) := by decide +kernel
theorem d_M_good_42 : decode b_M_good 42 = .ok (.ireturn, 1) := by decide +kernel
theorem d_M_good_43 : decode b_M_good 43 = .ok (.lload_n 2, 1) := by decide +kernel
theorem d_M_good_44 : decode b_M_good 44 = .ok (.ldc2_w 101, 3) := by decide +kernel
theorem d_M_good_47 : decode b_M_good 47 = .ok (.lrem, 1) := by decide +kernel
theorem d_M_good_48 : decode b_M_good 48 = .ok (.iload_n 1, 1) := by decide +kernel
theorem d_M_good_49 : decode b_M_good 49 = .ok (.lload_n 2, 1) := by decide +kernel
theorem d_M_good_50 : decode b_M_good 50 = .ok (.ldc2_w 101, 3) := by decide +kernel
theorem d_M_good_53 : decode b_M_good 53 = .ok (.ldiv, 1) := by decide +kernel
theorem d_M_good_54 : decode b_M_good 54 = .ok (.invokestatic 114, 3) := by decide +kernel
theorem d_M_good_57 : decode b_M_good 57 = .ok (.i2l, 1) := by decide +kernel
theorem d_M_good_58 : decode b_M_good 58 = .ok (.lcmp, 1) := by decide +kernel
theorem d_M_good_59 : decode b_M_good 59 = .ok (.ifCond .ne 7, 3) := by decide +kernel
theorem d_M_good_62 : decode b_M_good 62 = .ok (.iconst 1, 1) := by decide +kernel
theorem d_M_good_63 : decode b_M_good 63 = .ok (.goto 4, 3) := by decide +kernel
theorem d_M_good_66 : decode b_M_good 66 = .ok (.iconst 0, 1) := by decide +kernel
theorem d_M_good_67 : decode b_M_good 67 = .ok (.ireturn, 1) := by decide +kernel
theorem d_M_tag_0 : decode b_M_tag 0 = .ok (.aload_n 0, 1) := by decide +kernel
theorem d_M_tag_1 : decode b_M_tag 1 = .ok (.iload_n 1, 1) := by decide +kernel
theorem d_M_tag_2 : decode b_M_tag 2 = .ok (.invokevirtual 91, 3) := by decide +kernel
theorem d_M_tag_5 : decode b_M_tag 5 = .ok (.ifCond .eq 15, 3) := by decide +kernel
theorem d_M_tag_8 : decode b_M_tag 8 = .ok (.iload_n 3, 1) := by decide +kernel
theorem d_M_tag_9 : decode b_M_tag 9 = .ok (.i2l, 1) := by decide +kernel
theorem d_M_tag_10 : decode b_M_tag 10 = .ok (.lconst 0, 1) := by decide +kernel
theorem d_M_tag_11 : decode b_M_tag 11 = .ok (.ldc2_w 60, 3) := by decide +kernel
theorem d_M_tag_14 : decode b_M_tag 14 = .ok (.invokestatic 50, 3) := by decide +kernel
theorem d_M_tag_17 : decode b_M_tag 17 = .ok (.ifCond .ne 7, 3) := by decide +kernel
theorem d_M_tag_20 : decode b_M_tag 20 = .ok (.iconst 1, 1) := by decide +kernel
theorem d_M_tag_21 : decode b_M_tag 21 = .ok (.goto 4, 3) := by decide +kernel
theorem d_M_tag_24 : decode b_M_tag 24 = .ok (.iconst 0, 1) := by decide +kernel
theorem d_M_tag_25 : decode b_M_tag 25 = .ok (.istore 5, 2) := by decide +kernel
theorem d_M_tag_27 : decode b_M_tag 27 = .ok (.iload_n 2, 1) := by decide +kernel
theorem d_M_tag_28 : decode b_M_tag 28 = .ok (.i2l, 1) := by decide +kernel
theorem d_M_tag_29 : decode b_M_tag 29 = .ok (.lconst 0, 1) := by decide +kernel
theorem d_M_tag_30 : decode b_M_tag 30 = .ok (.ldc2_w 117, 3) := by decide +kernel
theorem d_M_tag_33 : decode b_M_tag 33 = .ok (.invokestatic 50, 3) := by decide +kernel
theorem d_M_tag_36 : decode b_M_tag 36 = .ok (.ifCond .eq 22, 3) := by decide +kernel
theorem d_M_tag_39 : decode b_M_tag 39 = .ok (.iload 4, 2) := by decide +kernel
theorem d_M_tag_41 : decode b_M_tag 41 = .ok (.i2l, 1) := by decide +kernel
theorem d_M_tag_42 : decode b_M_tag 42 = .ok (.lconst 0, 1) := by decide +kernel
theorem d_M_tag_43 : decode b_M_tag 43 = .ok (.ldc2_w 117, 3) := by decide +kernel
theorem d_M_tag_46 : decode b_M_tag 46 = .ok (.invokestatic 50, 3) := by decide +kernel
theorem d_M_tag_49 : decode b_M_tag 49 = .ok (.ifCond .eq 9, 3) := by decide +kernel
theorem d_M_tag_52 : decode b_M_tag 52 = .ok (.iload 4, 2) := by decide +kernel
theorem d_M_tag_54 : decode b_M_tag 54 = .ok (.iload_n 2, 1) := by decide +kernel
theorem d_M_tag_55 : decode b_M_tag 55 = .ok (.if_icmp .ge 7, 3) := by decide +kernel
theorem d_M_tag_58 : decode b_M_tag 58 = .ok (.iconst 1, 1) := by decide +kernel
theorem d_M_tag_59 : decode b_M_tag 59 = .ok (.goto 4, 3) := by decide +kernel
theorem d_M_tag_62 : decode b_M_tag 62 = .ok (.iconst 0, 1) := by decide +kernel
theorem d_M_tag_63 : decode b_M_tag 63 = .ok (.istore 6, 2) := by decide +kernel
theorem d_M_tag_65 : decode b_M_tag 65 = .ok (.aload_n 0, 1) := by decide +kernel
theorem d_M_tag_66 : decode b_M_tag 66 = .ok (.iload 5, 2) := by decide +kernel
theorem d_M_tag_68 : decode b_M_tag 68 = .ok (.iload 6, 2) := by decide +kernel
theorem d_M_tag_70 : decode b_M_tag 70 = .ok (.iload 5, 2) := by decide +kernel
theorem d_M_tag_72 : decode b_M_tag 72 = .ok (.ifCond .ne 18, 3) := by decide +kernel
theorem d_M_tag_75 : decode b_M_tag 75 = .ok (.aload_n 0, 1) := by decide +kernel
theorem d_M_tag_76 : decode b_M_tag 76 = .ok (.getfield 31, 3) := by decide +kernel
theorem d_M_tag_79 : decode b_M_tag 79 = .ok (.iload_n 1, 1) := by decide +kernel
theorem d_M_tag_80 : decode b_M_tag 80 = .ok (.iaload, 1) := by decide +kernel
theorem d_M_tag_81 : decode b_M_tag 81 = .ok (.bipush 24, 2) := by decide +kernel
theorem d_M_tag_83 : decode b_M_tag 83 = .ok (.if_icmp .ne 7, 3) := by decide +kernel
theorem d_M_tag_86 : decode b_M_tag 86 = .ok (.iconst 1, 1) := by decide +kernel
theorem d_M_tag_87 : decode b_M_tag 87 = .ok (.goto 4, 3) := by decide +kernel
theorem d_M_tag_90 : decode b_M_tag 90 = .ok (.iconst 0, 1) := by decide +kernel
theorem d_M_tag_91 : decode b_M_tag 91 = .ok (.invokevirtual 62, 3) := by decide +kernel
theorem d_M_tag_94 : decode b_M_tag 94 = .ok (.ifCond .eq 5, 3) := by decide +kernel
theorem d_M_tag_97 : decode b_M_tag 97 = .ok (.iconst 0, 1) := by decide +kernel
theorem d_M_tag_98 : decode b_M_tag 98 = .ok (.ireturn, 1) := by decide +kernel
theorem d_M_tag_99 : decode b_M_tag 99 = .ok (.bipush 24, 2) := by decide +kernel
theorem d_M_tag_101 : decode b_M_tag 101 = .ok (.iload_n 1, 1) := by decide +kernel
theorem d_M_tag_102 : decode b_M_tag 102 = .ok (.imul, 1) := by decide +kernel
theorem d_M_tag_103 : decode b_M_tag 103 = .ok (.aload_n 0, 1) := by decide +kernel
theorem d_M_tag_104 : decode b_M_tag 104 = .ok (.getfield 31, 3) := by decide +kernel
theorem d_M_tag_107 : decode b_M_tag 107 = .ok (.iload_n 1, 1) := by decide +kernel
theorem d_M_tag_108 : decode b_M_tag 108 = .ok (.iaload, 1) := by decide +kernel
theorem d_M_tag_109 : decode b_M_tag 109 = .ok (.iadd, 1) := by decide +kernel
theorem d_M_tag_110 : decode b_M_tag 110 = .ok (.istore 7, 2) := by decide +kernel
theorem d_M_tag_112 : decode b_M_tag 112 = .ok (.aload_n 0, 1) := by decide +kernel
theorem d_M_tag_113 : decode b_M_tag 113 = .ok (.getfield 34, 3) := by decide +kernel
theorem d_M_tag_116 : decode b_M_tag 116 = .ok (.iload 7, 2) := by decide +kernel
theorem d_M_tag_118 : decode b_M_tag 118 = .ok (.iload_n 2, 1) := by decide +kernel
theorem d_M_tag_119 : decode b_M_tag 119 = .ok (.iastore, 1) := by decide +kernel
theorem d_M_tag_120 : decode b_M_tag 120 = .ok (.aload_n 0, 1) := by decide +kernel
theorem d_M_tag_121 : decode b_M_tag 121 = .ok (.getfield 37, 3) := by decide +kernel
theorem d_M_tag_124 : decode b_M_tag 124 = .ok (.iload 7, 2) := by decide +kernel
theorem d_M_tag_126 : decode b_M_tag 126 = .ok (.iload_n 3, 1) := by decide +kernel
theorem d_M_tag_127 : decode b_M_tag 127 = .ok (.iastore, 1) := by decide +kernel
theorem d_M_tag_128 : decode b_M_tag 128 = .ok (.aload_n 0, 1) := by decide +kernel
theorem d_M_tag_129 : decode b_M_tag 129 = .ok (.getfield 40, 3) := by decide +kernel
theorem d_M_tag_132 : decode b_M_tag 132 = .ok (.iload 7, 2) := by decide +kernel
theorem d_M_tag_134 : decode b_M_tag 134 = .ok (.iload 4, 2) := by decide +kernel
theorem d_M_tag_136 : decode b_M_tag 136 = .ok (.iastore, 1) := by decide +kernel
theorem d_M_tag_137 : decode b_M_tag 137 = .ok (.aload_n 0, 1) := by decide +kernel
theorem d_M_tag_138 : decode b_M_tag 138 = .ok (.getfield 31, 3) := by decide +kernel
theorem d_M_tag_141 : decode b_M_tag 141 = .ok (.iload_n 1, 1) := by decide +kernel
theorem d_M_tag_142 : decode b_M_tag 142 = .ok (.dup2, 1) := by decide +kernel
theorem d_M_tag_143 : decode b_M_tag 143 = .ok (.iaload, 1) := by decide +kernel
theorem d_M_tag_144 : decode b_M_tag 144 = .ok (.iconst 1, 1) := by decide +kernel
theorem d_M_tag_145 : decode b_M_tag 145 = .ok (.iadd, 1) := by decide +kernel
theorem d_M_tag_146 : decode b_M_tag 146 = .ok (.iastore, 1) := by decide +kernel
theorem d_M_tag_147 : decode b_M_tag 147 = .ok (.aload_n 0, 1) := by decide +kernel
theorem d_M_tag_148 : decode b_M_tag 148 = .ok (.getfield 31, 3) := by decide +kernel
theorem d_M_tag_151 : decode b_M_tag 151 = .ok (.iload_n 1, 1) := by decide +kernel
theorem d_M_tag_152 : decode b_M_tag 152 = .ok (.iaload, 1) := by decide +kernel
theorem d_M_tag_153 : decode b_M_tag 153 = .ok (.ireturn, 1) := by decide +kernel
theorem d_M_first_0 : decode b_M_first 0 = .ok (.aload_n 0, 1) := by decide +kernel
theorem d_M_first_1 : decode b_M_first 1 = .ok (.aload_n 0, 1) := by decide +kernel
theorem d_M_first_2 : decode b_M_first 2 = .ok (.iload_n 1, 1) := by decide +kernel
theorem d_M_first_3 : decode b_M_first 3 = .ok (.invokevirtual 91, 3) := by decide +kernel
theorem d_M_first_6 : decode b_M_first 6 = .ok (.ifCond .ne 7, 3) := by decide +kernel
theorem d_M_first_9 : decode b_M_first 9 = .ok (.iconst 1, 1) := by decide +kernel
theorem d_M_first_10 : decode b_M_first 10 = .ok (.goto 4, 3) := by decide +kernel
theorem d_M_first_13 : decode b_M_first 13 = .ok (.iconst 0, 1) := by decide +kernel
theorem d_M_first_14 : decode b_M_first 14 = .ok (.iload_n 2, 1) := by decide +kernel
theorem d_M_first_15 : decode b_M_first 15 = .ok (.i2l, 1) := by decide +kernel
theorem d_M_first_16 : decode b_M_first 16 = .ok (.lconst 0, 1) := by decide +kernel
theorem d_M_first_17 : decode b_M_first 17 = .ok (.ldc2_w 117, 3) := by decide +kernel
theorem d_M_first_20 : decode b_M_first 20 = .ok (.invokestatic 50, 3) := by decide +kernel
theorem d_M_first_23 : decode b_M_first 23 = .ok (.ifCond .ne 7, 3) := by decide +kernel
theorem d_M_first_26 : decode b_M_first 26 = .ok (.iconst 1, 1) := by decide +kernel
theorem d_M_first_27 : decode b_M_first 27 = .ok (.goto 4, 3) := by decide +kernel
theorem d_M_first_30 : decode b_M_first 30 = .ok (.iconst 0, 1) := by decide +kernel
theorem d_M_first_31 : decode b_M_first 31 = .ok (.iconst 0, 1) := by decide +kernel
theorem d_M_first_32 : decode b_M_first 32 = .ok (.invokevirtual 62, 3) := by decide +kernel
theorem d_M_first_35 : decode b_M_first 35 = .ok (.ifCond .eq 5, 3) := by decide +kernel
theorem d_M_first_38 : decode b_M_first 38 = .ok (.iconst 0, 1) := by decide +kernel
theorem d_M_first_39 : decode b_M_first 39 = .ok (.ireturn, 1) := by decide +kernel
theorem d_M_first_40 : decode b_M_first 40 = .ok (.aload_n 0, 1) := by decide +kernel
theorem d_M_first_41 : decode b_M_first 41 = .ok (.iload_n 1, 1) := by decide +kernel
theorem d_M_first_42 : decode b_M_first 42 = .ok (.iload_n 2, 1) := by decide +kernel
theorem d_M_first_43 : decode b_M_first 43 = .ok (.invokevirtual 119, 3) := by decide +kernel
theorem d_M_first_46 : decode b_M_first 46 = .ok (.istore_n 3, 1) := by decide +kernel
theorem d_M_first_47 : decode b_M_first 47 = .ok (.iload_n 3, 1) := by decide +kernel
theorem d_M_first_48 : decode b_M_first 48 = .ok (.ifCond .ge 7, 3) := by decide +kernel
theorem d_M_first_51 : decode b_M_first 51 = .ok (.iconst 0, 1) := by decide +kernel
theorem d_M_first_52 : decode b_M_first 52 = .ok (.goto 11, 3) := by decide +kernel
theorem d_M_first_55 : decode b_M_first 55 = .ok (.aload_n 0, 1) := by decide +kernel
theorem d_M_first_56 : decode b_M_first 56 = .ok (.getfield 34, 3) := by decide +kernel
theorem d_M_first_59 : decode b_M_first 59 = .ok (.iload_n 3, 1) := by decide +kernel
theorem d_M_first_60 : decode b_M_first 60 = .ok (.iaload, 1) := by decide +kernel
theorem d_M_first_61 : decode b_M_first 61 = .ok (.iconst 1, 1) := by decide +kernel
theorem d_M_first_62 : decode b_M_first 62 = .ok (.iadd, 1) := by decide +kernel
theorem d_M_first_63 : decode b_M_first 63 = .ok (.ireturn, 1) := by decide +kernel
theorem d_M_best_0 : decode b_M_best 0 = .ok (.iconst (-1), 1) := by decide +kernel
theorem d_M_best_1 : decode b_M_best 1 = .ok (.istore_n 3, 1) := by decide +kernel
theorem d_M_best_2 : decode b_M_best 2 = .ok (.bipush 24, 2) := by decide +kernel
theorem d_M_best_4 : decode b_M_best 4 = .ok (.iload_n 1, 1) := by decide +kernel
theorem d_M_best_5 : decode b_M_best 5 = .ok (.imul, 1) := by decide +kernel
theorem d_M_best_6 : decode b_M_best 6 = .ok (.istore 4, 2) := by decide +kernel
theorem d_M_best_8 : decode b_M_best 8 = .ok (.iload 4, 2) := by decide +kernel
theorem d_M_best_10 : decode b_M_best 10 = .ok (.bipush 24, 2) := by decide +kernel
theorem d_M_best_12 : decode b_M_best 12 = .ok (.iload_n 1, 1) := by decide +kernel
theorem d_M_best_13 : decode b_M_best 13 = .ok (.imul, 1) := by decide +kernel
theorem d_M_best_14 : decode b_M_best 14 = .ok (.aload_n 0, 1) := by decide +kernel
theorem d_M_best_15 : decode b_M_best 15 = .ok (.getfield 31, 3) := by decide +kernel
theorem d_M_best_18 : decode b_M_best 18 = .ok (.iload_n 1, 1) := by decide +kernel
theorem d_M_best_19 : decode b_M_best 19 = .ok (.iaload, 1) := by decide +kernel
theorem d_M_best_20 : decode b_M_best 20 = .ok (.iadd, 1) := by decide +kernel
theorem d_M_best_21 : decode b_M_best 21 = .ok (.if_icmp .ge 91, 3) := by decide +kernel
theorem d_M_best_24 : decode b_M_best 24 = .ok (.aload_n 0, 1) := by decide +kernel
theorem d_M_best_25 : decode b_M_best 25 = .ok (.getfield 40, 3) := by decide +kernel
theorem d_M_best_28 : decode b_M_best 28 = .ok (.iload 4, 2) := by decide +kernel
theorem d_M_best_30 : decode b_M_best 30 = .ok (.iaload, 1) := by decide +kernel
theorem d_M_best_31 : decode b_M_best 31 = .ok (.iload_n 2, 1) := by decide +kernel
theorem d_M_best_32 : decode b_M_best 32 = .ok (.if_icmp .gt 59, 3) := by decide +kernel
theorem d_M_best_35 : decode b_M_best 35 = .ok (.iload_n 3, 1) := by decide +kernel
theorem d_M_best_36 : decode b_M_best 36 = .ok (.ifCond .lt 51, 3) := by decide +kernel
theorem d_M_best_39 : decode b_M_best 39 = .ok (.aload_n 0, 1) := by decide +kernel
theorem d_M_best_40 : decode b_M_best 40 = .ok (.getfield 34, 3) := by decide +kernel
theorem d_M_best_43 : decode b_M_best 43 = .ok (.iload 4, 2) := by decide +kernel
theorem d_M_best_45 : decode b_M_best 45 = .ok (.iaload, 1) := by decide +kernel
theorem d_M_best_46 : decode b_M_best 46 = .ok (.aload_n 0, 1) := by decide +kernel
theorem d_M_best_47 : decode b_M_best 47 = .ok (.getfield 34, 3) := by decide +kernel
theorem d_M_best_50 : decode b_M_best 50 = .ok (.iload_n 3, 1) := by decide +kernel
theorem d_M_best_51 : decode b_M_best 51 = .ok (.iaload, 1) := by decide +kernel
theorem d_M_best_52 : decode b_M_best 52 = .ok (.if_icmp .gt 35, 3) := by decide +kernel
theorem d_M_best_55 : decode b_M_best 55 = .ok (.aload_n 0, 1) := by decide +kernel
theorem d_M_best_56 : decode b_M_best 56 = .ok (.getfield 34, 3) := by decide +kernel
theorem d_M_best_59 : decode b_M_best 59 = .ok (.iload 4, 2) := by decide +kernel
theorem d_M_best_61 : decode b_M_best 61 = .ok (.iaload, 1) := by decide +kernel
theorem d_M_best_62 : decode b_M_best 62 = .ok (.aload_n 0, 1) := by decide +kernel
theorem d_M_best_63 : decode b_M_best 63 = .ok (.getfield 34, 3) := by decide +kernel
theorem d_M_best_66 : decode b_M_best 66 = .ok (.iload_n 3, 1) := by decide +kernel
theorem d_M_best_67 : decode b_M_best 67 = .ok (.iaload, 1) := by decide +kernel
theorem d_M_best_68 : decode b_M_best 68 = .ok (.if_icmp .ne 23, 3) := by decide +kernel
theorem d_M_best_71 : decode b_M_best 71 = .ok (.aload_n 0, 1) := by decide +kernel
theorem d_M_best_72 : decode b_M_best 72 = .ok (.getfield 40, 3) := by decide +kernel
theorem d_M_best_75 : decode b_M_best 75 = .ok (.iload 4, 2) := by decide +kernel
theorem d_M_best_77 : decode b_M_best 77 = .ok (.iaload, 1) := by decide +kernel
theorem d_M_best_78 : decode b_M_best 78 = .ok (.aload_n 0, 1) := by decide +kernel
theorem d_M_best_79 : decode b_M_best 79 = .ok (.getfield 40, 3) := by decide +kernel
theorem d_M_best_82 : decode b_M_best 82 = .ok (.iload_n 3, 1) := by decide +kernel
theorem d_M_best_83 : decode b_M_best 83 = .ok (.iaload, 1) := by decide +kernel
theorem d_M_best_84 : decode b_M_best 84 = .ok (.if_icmp .lt 7, 3) := by decide +kernel
theorem d_M_best_87 : decode b_M_best 87 = .ok (.iconst 1, 1) := by decide +kernel
theorem d_M_best_88 : decode b_M_best 88 = .ok (.goto 4, 3) := by decide +kernel
theorem d_M_best_91 : decode b_M_best 91 = .ok (.iconst 0, 1) := by decide +kernel
theorem d_M_best_92 : decode b_M_best 92 = .ok (.istore 5, 2) := by decide +kernel
theorem d_M_best_94 : decode b_M_best 94 = .ok (.iload 5, 2) := by decide +kernel
theorem d_M_best_96 : decode b_M_best 96 = .ok (.ifCond .eq 8, 3) := by decide +kernel
theorem d_M_best_99 : decode b_M_best 99 = .ok (.iload 4, 2) := by decide +kernel
theorem d_M_best_101 : decode b_M_best 101 = .ok (.goto 4, 3) := by decide +kernel
theorem d_M_best_104 : decode b_M_best 104 = .ok (.iload_n 3, 1) := by decide +kernel
theorem d_M_best_105 : decode b_M_best 105 = .ok (.istore_n 3, 1) := by decide +kernel
theorem d_M_best_106 : decode b_M_best 106 = .ok (.iinc 4 1, 3) := by decide +kernel
theorem d_M_best_109 : decode b_M_best 109 = .ok (.goto (-101), 3) := by decide +kernel
theorem d_M_best_112 : decode b_M_best 112 = .ok (.iload_n 3, 1) := by decide +kernel
theorem d_M_best_113 : decode b_M_best 113 = .ok (.ireturn, 1) := by decide +kernel
theorem d_M_seen_0 : decode b_M_seen 0 = .ok (.aload_n 0, 1) := by decide +kernel
theorem d_M_seen_1 : decode b_M_seen 1 = .ok (.aload_n 0, 1) := by decide +kernel
theorem d_M_seen_2 : decode b_M_seen 2 = .ok (.iload_n 1, 1) := by decide +kernel
theorem d_M_seen_3 : decode b_M_seen 3 = .ok (.invokevirtual 91, 3) := by decide +kernel
theorem d_M_seen_6 : decode b_M_seen 6 = .ok (.ifCond .ne 7, 3) := by decide +kernel
theorem d_M_seen_9 : decode b_M_seen 9 = .ok (.iconst 1, 1) := by decide +kernel
theorem d_M_seen_10 : decode b_M_seen 10 = .ok (.goto 4, 3) := by decide +kernel
theorem d_M_seen_13 : decode b_M_seen 13 = .ok (.iconst 0, 1) := by decide +kernel
theorem d_M_seen_14 : decode b_M_seen 14 = .ok (.iload_n 2, 1) := by decide +kernel
theorem d_M_seen_15 : decode b_M_seen 15 = .ok (.i2l, 1) := by decide +kernel
theorem d_M_seen_16 : decode b_M_seen 16 = .ok (.lconst 0, 1) := by decide +kernel
theorem d_M_seen_17 : decode b_M_seen 17 = .ok (.ldc2_w 117, 3) := by decide +kernel
theorem d_M_seen_20 : decode b_M_seen 20 = .ok (.invokestatic 50, 3) := by decide +kernel
theorem d_M_seen_23 : decode b_M_seen 23 = .ok (.ifCond .ne 7, 3) := by decide +kernel
theorem d_M_seen_26 : decode b_M_seen 26 = .ok (.iconst 1, 1) := by decide +kernel
theorem d_M_seen_27 : decode b_M_seen 27 = .ok (.goto 4, 3) := by decide +kernel
theorem d_M_seen_30 : decode b_M_seen 30 = .ok (.iconst 0, 1) := by decide +kernel
theorem d_M_seen_31 : decode b_M_seen 31 = .ok (.iconst 0, 1) := by decide +kernel
theorem d_M_seen_32 : decode b_M_seen 32 = .ok (.invokevirtual 62, 3) := by decide +kernel
theorem d_M_seen_35 : decode b_M_seen 35 = .ok (.ifCond .eq 5, 3) := by decide +kernel
theorem d_M_seen_38 : decode b_M_seen 38 = .ok (.iconst 0, 1) := by decide +kernel
theorem d_M_seen_39 : decode b_M_seen 39 = .ok (.ireturn, 1) := by decide +kernel
theorem d_M_seen_40 : decode b_M_seen 40 = .ok (.aload_n 0, 1) := by decide +kernel
theorem d_M_seen_41 : decode b_M_seen 41 = .ok (.iload_n 1, 1) := by decide +kernel
theorem d_M_seen_42 : decode b_M_seen 42 = .ok (.iload_n 2, 1) := by decide +kernel
theorem d_M_seen_43 : decode b_M_seen 43 = .ok (.invokevirtual 119, 3) := by decide +kernel
theorem d_M_seen_46 : decode b_M_seen 46 = .ok (.istore_n 3, 1) := by decide +kernel
theorem d_M_seen_47 : decode b_M_seen 47 = .ok (.iload_n 3, 1) := by decide +kernel
theorem d_M_seen_48 : decode b_M_seen 48 = .ok (.ifCond .ge 7, 3) := by decide +kernel
theorem d_M_seen_51 : decode b_M_seen 51 = .ok (.iconst (-1), 1) := by decide +kernel
theorem d_M_seen_52 : decode b_M_seen 52 = .ok (.goto 9, 3) := by decide +kernel
theorem d_M_seen_55 : decode b_M_seen 55 = .ok (.aload_n 0, 1) := by decide +kernel
theorem d_M_seen_56 : decode b_M_seen 56 = .ok (.getfield 37, 3) := by decide +kernel
theorem d_M_seen_59 : decode b_M_seen 59 = .ok (.iload_n 3, 1) := by decide +kernel
theorem d_M_seen_60 : decode b_M_seen 60 = .ok (.iaload, 1) := by decide +kernel
theorem d_M_seen_61 : decode b_M_seen 61 = .ok (.ireturn, 1) := by decide +kernel
theorem d_M_weight_0 : decode b_M_weight 0 = .ok (.aload_n 0, 1) := by decide +kernel
theorem d_M_weight_1 : decode b_M_weight 1 = .ok (.aload_n 0, 1) := by decide +kernel
theorem d_M_weight_2 : decode b_M_weight 2 = .ok (.iload_n 1, 1) := by decide +kernel
theorem d_M_weight_3 : decode b_M_weight 3 = .ok (.invokevirtual 91, 3) := by decide +kernel
theorem d_M_weight_6 : decode b_M_weight 6 = .ok (.ifCond .ne 7, 3) := by decide +kernel
theorem d_M_weight_9 : decode b_M_weight 9 = .ok (.iconst 1, 1) := by decide +kernel
theorem d_M_weight_10 : decode b_M_weight 10 = .ok (.goto 4, 3) := by decide +kernel
theorem d_M_weight_13 : decode b_M_weight 13 = .ok (.iconst 0, 1) := by decide +kernel
theorem d_M_weight_14 : decode b_M_weight 14 = .ok (.iload_n 2, 1) := by decide +kernel
theorem d_M_weight_15 : decode b_M_weight 15 = .ok (.i2l, 1) := by decide +kernel
theorem d_M_weight_16 : decode b_M_weight 16 = .ok (.lconst 1, 1) := by decide +kernel
theorem d_M_weight_17 : decode b_M_weight 17 = .ok (.ldc2_w 122, 3) := by decide +kernel
theorem d_M_weight_20 : decode b_M_weight 20 = .ok (.invokestatic 50, 3) := by decide +kernel
theorem d_M_weight_23 : decode b_M_weight 23 = .ok (.ifCond .ne 7, 3) := by decide +kernel
theorem d_M_weight_26 : decode b_M_weight 26 = .ok (.iconst 1, 1) := by decide +kernel
theorem d_M_weight_27 : decode b_M_weight 27 = .ok (.goto 4, 3) := by decide +kernel
theorem d_M_weight_30 : decode b_M_weight 30 = .ok (.iconst 0, 1) := by decide +kernel
theorem d_M_weight_31 : decode b_M_weight 31 = .ok (.iconst 0, 1) := by decide +kernel
theorem d_M_weight_32 : decode b_M_weight 32 = .ok (.invokevirtual 62, 3) := by decide +kernel
theorem d_M_weight_35 : decode b_M_weight 35 = .ok (.ifCond .eq 5, 3) := by decide +kernel
theorem d_M_weight_38 : decode b_M_weight 38 = .ok (.iconst 0, 1) := by decide +kernel
theorem d_M_weight_39 : decode b_M_weight 39 = .ok (.ireturn, 1) := by decide +kernel
theorem d_M_weight_40 : decode b_M_weight 40 = .ok (.aload_n 0, 1) := by decide +kernel
theorem d_M_weight_41 : decode b_M_weight 41 = .ok (.getfield 16, 3) := by decide +kernel
theorem d_M_weight_44 : decode b_M_weight 44 = .ok (.iload_n 1, 1) := by decide +kernel
theorem d_M_weight_45 : decode b_M_weight 45 = .ok (.iaload, 1) := by decide +kernel
theorem d_M_weight_46 : decode b_M_weight 46 = .ok (.istore_n 3, 1) := by decide +kernel
theorem d_M_weight_47 : decode b_M_weight 47 = .ok (.aload_n 0, 1) := by decide +kernel
theorem d_M_weight_48 : decode b_M_weight 48 = .ok (.getfield 16, 3) := by decide +kernel
theorem d_M_weight_51 : decode b_M_weight 51 = .ok (.iload_n 1, 1) := by decide +kernel
theorem d_M_weight_52 : decode b_M_weight 52 = .ok (.iload_n 2, 1) := by decide +kernel
theorem d_M_weight_53 : decode b_M_weight 53 = .ok (.iastore, 1) := by decide +kernel
theorem d_M_weight_54 : decode b_M_weight 54 = .ok (.iload_n 3, 1) := by decide +kernel
theorem d_M_weight_55 : decode b_M_weight 55 = .ok (.ifCond .ne 7, 3) := by decide +kernel
theorem d_M_weight_58 : decode b_M_weight 58 = .ok (.iconst 0, 1) := by decide +kernel
theorem d_M_weight_59 : decode b_M_weight 59 = .ok (.goto 17, 3) := by decide +kernel
theorem d_M_weight_62 : decode b_M_weight 62 = .ok (.iload_n 3, 1) := by decide +kernel
theorem d_M_weight_63 : decode b_M_weight 63 = .ok (.iload_n 2, 1) := by decide +kernel
theorem d_M_weight_64 : decode b_M_weight 64 = .ok (.if_icmp .le 9, 3) := by decide +kernel
theorem d_M_weight_67 : decode b_M_weight 67 = .ok (.iload_n 3, 1) := by decide +kernel
theorem d_M_weight_68 : decode b_M_weight 68 = .ok (.iload_n 2, 1) := by decide +kernel
theorem d_M_weight_69 : decode b_M_weight 69 = .ok (.isub, 1) := by decide +kernel
theorem d_M_weight_70 : decode b_M_weight 70 = .ok (.goto 6, 3) := by decide +kernel
theorem d_M_weight_73 : decode b_M_weight 73 = .ok (.iload_n 2, 1) := by decide +kernel
theorem d_M_weight_74 : decode b_M_weight 74 = .ok (.iload_n 3, 1) := by decide +kernel
theorem d_M_weight_75 : decode b_M_weight 75 = .ok (.isub, 1) := by decide +kernel
theorem d_M_weight_76 : decode b_M_weight 76 = .ok (.ireturn, 1) := by decide +kernel
theorem d_M_report_0 : decode b_M_report 0 = .ok (.aload_n 0, 1) := by decide +kernel
theorem d_M_report_1 : decode b_M_report 1 = .ok (.iload_n 1, 1) := by decide +kernel
theorem d_M_report_2 : decode b_M_report 2 = .ok (.i2l, 1) := by decide +kernel
theorem d_M_report_3 : decode b_M_report 3 = .ok (.lconst 0, 1) := by decide +kernel
theorem d_M_report_4 : decode b_M_report 4 = .ok (.ldc2_w 124, 3) := by decide +kernel
theorem d_M_report_7 : decode b_M_report 7 = .ok (.invokestatic 50, 3) := by decide +kernel
theorem d_M_report_10 : decode b_M_report 10 = .ok (.ifCond .eq 7, 3) := by decide +kernel
theorem d_M_report_13 : decode b_M_report 13 = .ok (.iload_n 2, 1) := by decide +kernel
theorem d_M_report_14 : decode b_M_report 14 = .ok (.ifCond .ge 7, 3) := by decide +kernel
theorem d_M_report_17 : decode b_M_report 17 = .ok (.iconst 1, 1) := by decide +kernel
theorem d_M_report_18 : decode b_M_report 18 = .ok (.goto 4, 3) := by decide +kernel
theorem d_M_report_21 : decode b_M_report 21 = .ok (.iconst 0, 1) := by decide +kernel
theorem d_M_report_22 : decode b_M_report 22 = .ok (.iconst 0, 1) := by decide +kernel
theorem d_M_report_23 : decode b_M_report 23 = .ok (.iconst 0, 1) := by decide +kernel
theorem d_M_report_24 : decode b_M_report 24 = .ok (.invokevirtual 62, 3) := by decide +kernel
theorem d_M_report_27 : decode b_M_report 27 = .ok (.ifCond .eq 5, 3) := by decide +kernel
theorem d_M_report_30 : decode b_M_report 30 = .ok (.iconst 0, 1) := by decide +kernel
theorem d_M_report_31 : decode b_M_report 31 = .ok (.ireturn, 1) := by decide +kernel
theorem d_M_report_32 : decode b_M_report 32 = .ok (.iload_n 2, 1) := by decide +kernel
theorem d_M_report_33 : decode b_M_report 33 = .ok (.istore_n 3, 1) := by decide +kernel
theorem d_M_report_34 : decode b_M_report 34 = .ok (.iconst 0, 1) := by decide +kernel
theorem d_M_report_35 : decode b_M_report 35 = .ok (.istore 4, 2) := by decide +kernel
theorem d_M_report_37 : decode b_M_report 37 = .ok (.iload 4, 2) := by decide +kernel
theorem d_M_report_39 : decode b_M_report 39 = .ok (.aload_n 0, 1) := by decide +kernel
theorem d_M_report_40 : decode b_M_report 40 = .ok (.getfield 47, 3) := by decide +kernel
theorem d_M_report_43 : decode b_M_report 43 = .ok (.if_icmp .ge 30, 3) := by decide +kernel
theorem d_M_report_46 : decode b_M_report 46 = .ok (.aload_n 0, 1) := by decide +kernel
theorem d_M_report_47 : decode b_M_report 47 = .ok (.getfield 22, 3) := by decide +kernel
theorem d_M_report_50 : decode b_M_report 50 = .ok (.iload 4, 2) := by decide +kernel
theorem d_M_report_52 : decode b_M_report 52 = .ok (.iaload, 1) := by decide +kernel
theorem d_M_report_53 : decode b_M_report 53 = .ok (.iload_n 1, 1) := by decide +kernel
theorem d_M_report_54 : decode b_M_report 54 = .ok (.if_icmp .ne 13, 3) := by decide +kernel
theorem d_M_report_57 : decode b_M_report 57 = .ok (.iload_n 3, 1) := by decide +kernel
theorem d_M_report_58 : decode b_M_report 58 = .ok (.ifCond .ne 6, 3) := by decide +kernel
theorem d_M_report_61 : decode b_M_report 61 = .ok (.iload 4, 2) := by decide +kernel
theorem d_M_report_63 : decode b_M_report 63 = .ok (.ireturn, 1) := by decide +kernel
theorem d_M_report_64 : decode b_M_report 64 = .ok (.iinc 3 (-1), 3) := by decide +kernel
theorem d_M_report_67 : decode b_M_report 67 = .ok (.iinc 4 1, 3) := by decide +kernel
theorem d_M_report_70 : decode b_M_report 70 = .ok (.goto (-33), 3) := by decide +kernel
theorem d_M_report_73 : decode b_M_report 73 = .ok (.iconst (-1), 1) := by decide +kernel
theorem d_M_report_74 : decode b_M_report 74 = .ok (.ireturn, 1) := by decide +kernel
theorem d_M_room_0 : decode b_M_room 0 = .ok (.aload_n 0, 1) := by decide +kernel
theorem d_M_room_1 : decode b_M_room 1 = .ok (.iload_n 1, 1) := by decide +kernel
theorem d_M_room_2 : decode b_M_room 2 = .ok (.i2l, 1) := by decide +kernel
theorem d_M_room_3 : decode b_M_room 3 = .ok (.lconst 0, 1) := by decide +kernel
theorem d_M_room_4 : decode b_M_room 4 = .ok (.ldc2_w 60, 3) := by decide +kernel
theorem d_M_room_7 : decode b_M_room 7 = .ok (.invokestatic 50, 3) := by decide +kernel
theorem d_M_room_10 : decode b_M_room 10 = .ok (.ifCond .eq 7, 3) := by decide +kernel
theorem d_M_room_13 : decode b_M_room 13 = .ok (.iload_n 2, 1) := by decide +kernel
theorem d_M_room_14 : decode b_M_room 14 = .ok (.ifCond .ge 7, 3) := by decide +kernel
theorem d_M_room_17 : decode b_M_room 17 = .ok (.iconst 1, 1) := by decide +kernel
theorem d_M_room_18 : decode b_M_room 18 = .ok (.goto 4, 3) := by decide +kernel
theorem d_M_room_21 : decode b_M_room 21 = .ok (.iconst 0, 1) := by decide +kernel
theorem d_M_room_22 : decode b_M_room 22 = .ok (.iconst 0, 1) := by decide +kernel
theorem d_M_room_23 : decode b_M_room 23 = .ok (.iconst 0, 1) := by decide +kernel
theorem d_M_room_24 : decode b_M_room 24 = .ok (.invokevirtual 62, 3) := by decide +kernel
theorem d_M_room_27 : decode b_M_room 27 = .ok (.ifCond .eq 5, 3) := by decide +kernel
theorem d_M_room_30 : decode b_M_room 30 = .ok (.iconst 0, 1) := by decide +kernel
theorem d_M_room_31 : decode b_M_room 31 = .ok (.ireturn, 1) := by decide +kernel
theorem d_M_room_32 : decode b_M_room 32 = .ok (.iload_n 2, 1) := by decide +kernel
theorem d_M_room_33 : decode b_M_room 33 = .ok (.istore_n 3, 1) := by decide +kernel
theorem d_M_room_34 : decode b_M_room 34 = .ok (.iconst 0, 1) := by decide +kernel
theorem d_M_room_35 : decode b_M_room 35 = .ok (.istore 4, 2) := by decide +kernel
theorem d_M_room_37 : decode b_M_room 37 = .ok (.iload 4, 2) := by decide +kernel
theorem d_M_room_39 : decode b_M_room 39 = .ok (.aload_n 0, 1) := by decide +kernel
theorem d_M_room_40 : decode b_M_room 40 = .ok (.getfield 47, 3) := by decide +kernel
theorem d_M_room_43 : decode b_M_room 43 = .ok (.if_icmp .ge 30, 3) := by decide +kernel
theorem d_M_room_46 : decode b_M_room 46 = .ok (.aload_n 0, 1) := by decide +kernel
theorem d_M_room_47 : decode b_M_room 47 = .ok (.getfield 13, 3) := by decide +kernel
theorem d_M_room_50 : decode b_M_room 50 = .ok (.iload 4, 2) := by decide +kernel
theorem d_M_room_52 : decode b_M_room 52 = .ok (.iaload, 1) := by decide +kernel
theorem d_M_room_53 : decode b_M_room 53 = .ok (.iload_n 1, 1) := by decide +kernel
theorem d_M_room_54 : decode b_M_room 54 = .ok (.if_icmp .ne 13, 3) := by decide +kernel
theorem d_M_room_57 : decode b_M_room 57 = .ok (.iload_n 3, 1) := by decide +kernel
theorem d_M_room_58 : decode b_M_room 58 = .ok (.ifCond .ne 6, 3) := by decide +kernel
theorem d_M_room_61 : decode b_M_room 61 = .ok (.iload 4, 2) := by decide +kernel
theorem d_M_room_63 : decode b_M_room 63 = .ok (.ireturn, 1) := by decide +kernel
theorem d_M_room_64 : decode b_M_room 64 = .ok (.iinc 3 (-1), 3) := by decide +kernel
theorem d_M_room_67 : decode b_M_room 67 = .ok (.iinc 4 1, 3) := by decide +kernel
theorem d_M_room_70 : decode b_M_room 70 = .ok (.goto (-33), 3) := by decide +kernel
theorem d_M_room_73 : decode b_M_room 73 = .ok (.iconst (-1), 1) := by decide +kernel
theorem d_M_room_74 : decode b_M_room 74 = .ok (.ireturn, 1) := by decide +kernel
end
section
theorem d_L_thing_0 : decode b_L_thing 0 = .ok (.aload_n 3, 1) := by decide +kernel
theorem d_L_thing_1 : decode b_L_thing 1 = .ok (.iconst 0, 1) := by decide +kernel
theorem d_L_thing_2 : decode b_L_thing 2 = .ok (.aload_n 0, 1) := by decide +kernel
theorem d_L_thing_3 : decode b_L_thing 3 = .ok (.iload_n 1, 1) := by decide +kernel
theorem d_L_thing_4 : decode b_L_thing 4 = .ok (.iload_n 2, 1) := by decide +kernel
theorem d_L_thing_5 : decode b_L_thing 5 = .ok (.invokevirtual 7, 3) := by decide +kernel
theorem d_L_thing_8 : decode b_L_thing 8 = .ok (.i2l, 1) := by decide +kernel
theorem d_L_thing_9 : decode b_L_thing 9 = .ok (.lastore, 1) := by decide +kernel
theorem d_L_thing_10 : decode b_L_thing 10 = .ok (.goto 11, 3) := by decide +kernel
theorem d_L_thing_13 : decode b_L_thing 13 = .ok (.astore 4, 2) := by decide +kernel
theorem d_L_thing_15 : decode b_L_thing 15 = .ok (.iconst 1, 1) := by decide +kernel
theorem d_L_thing_16 : decode b_L_thing 16 = .ok (.ireturn, 1) := by decide +kernel
theorem d_L_thing_17 : decode b_L_thing 17 = .ok (.astore 4, 2) := by decide +kernel
theorem d_L_thing_19 : decode b_L_thing 19 = .ok (.iconst 2, 1) := by decide +kernel
theorem d_L_thing_20 : decode b_L_thing 20 = .ok (.ireturn, 1) := by decide +kernel
theorem d_L_thing_21 : decode b_L_thing 21 = .ok (.iconst 0, 1) := by decide +kernel
theorem d_L_thing_22 : decode b_L_thing 22 = .ok (.ireturn, 1) := by decide +kernel
theorem d_L_list_0 : decode b_L_list 0 = .ok (.aload_n 2, 1) := by decide +kernel
theorem d_L_list_1 : decode b_L_list 1 = .ok (.iconst 0, 1) := by decide +kernel
theorem d_L_list_2 : decode b_L_list 2 = .ok (.aload_n 0, 1) := by decide +kernel
theorem d_L_list_3 : decode b_L_list 3 = .ok (.iload_n 1, 1) := by decide +kernel
theorem d_L_list_4 : decode b_L_list 4 = .ok (.invokevirtual 17, 3) := by decide +kernel
theorem d_L_list_7 : decode b_L_list 7 = .ok (.i2l, 1) := by decide +kernel
theorem d_L_list_8 : decode b_L_list 8 = .ok (.lastore, 1) := by decide +kernel
theorem d_L_list_9 : decode b_L_list 9 = .ok (.goto 6, 3) := by decide +kernel
theorem d_L_list_12 : decode b_L_list 12 = .ok (.astore_n 3, 1) := by decide +kernel
theorem d_L_list_13 : decode b_L_list 13 = .ok (.iconst 1, 1) := by decide +kernel
theorem d_L_list_14 : decode b_L_list 14 = .ok (.ireturn, 1) := by decide +kernel
theorem d_L_list_15 : decode b_L_list 15 = .ok (.iconst 0, 1) := by decide +kernel
theorem d_L_list_16 : decode b_L_list 16 = .ok (.ireturn, 1) := by decide +kernel
theorem d_L_drawn_0 : decode b_L_drawn 0 = .ok (.aload_n 2, 1) := by decide +kernel
theorem d_L_drawn_1 : decode b_L_drawn 1 = .ok (.iconst 0, 1) := by decide +kernel
theorem d_L_drawn_2 : decode b_L_drawn 2 = .ok (.aload_n 0, 1) := by decide +kernel
theorem d_L_drawn_3 : decode b_L_drawn 3 = .ok (.iload_n 1, 1) := by decide +kernel
theorem d_L_drawn_4 : decode b_L_drawn 4 = .ok (.invokevirtual 23, 3) := by decide +kernel
theorem d_L_drawn_7 : decode b_L_drawn 7 = .ok (.i2l, 1) := by decide +kernel
theorem d_L_drawn_8 : decode b_L_drawn 8 = .ok (.lastore, 1) := by decide +kernel
theorem d_L_drawn_9 : decode b_L_drawn 9 = .ok (.goto 6, 3) := by decide +kernel
theorem d_L_drawn_12 : decode b_L_drawn 12 = .ok (.astore_n 3, 1) := by decide +kernel
theorem d_L_drawn_13 : decode b_L_drawn 13 = .ok (.iconst 1, 1) := by decide +kernel
theorem d_L_drawn_14 : decode b_L_drawn 14 = .ok (.ireturn, 1) := by decide +kernel
theorem d_L_drawn_15 : decode b_L_drawn 15 = .ok (.iconst 0, 1) := by decide +kernel
theorem d_L_drawn_16 : decode b_L_drawn 16 = .ok (.ireturn, 1) := by decide +kernel
theorem d_L_check_0 : decode b_L_check 0 = .ok (.aload 5, 2) := by decide +kernel
theorem d_L_check_2 : decode b_L_check 2 = .ok (.iconst 0, 1) := by decide +kernel
theorem d_L_check_3 : decode b_L_check 3 = .ok (.aload_n 0, 1) := by decide +kernel
theorem d_L_check_4 : decode b_L_check 4 = .ok (.iload_n 1, 1) := by decide +kernel
theorem d_L_check_5 : decode b_L_check 5 = .ok (.iload_n 2, 1) := by decide +kernel
theorem d_L_check_6 : decode b_L_check 6 = .ok (.iload_n 3, 1) := by decide +kernel
theorem d_L_check_7 : decode b_L_check 7 = .ok (.iload 4, 2) := by decide +kernel
theorem d_L_check_9 : decode b_L_check 9 = .ok (.invokevirtual 26, 3) := by decide +kernel
theorem d_L_check_12 : decode b_L_check 12 = .ok (.i2l, 1) := by decide +kernel
theorem d_L_check_13 : decode b_L_check 13 = .ok (.lastore, 1) := by decide +kernel
theorem d_L_check_14 : decode b_L_check 14 = .ok (.goto 11, 3) := by decide +kernel
theorem d_L_check_17 : decode b_L_check 17 = .ok (.astore 6, 2) := by decide +kernel
theorem d_L_check_19 : decode b_L_check 19 = .ok (.iconst 1, 1) := by decide +kernel
theorem d_L_check_20 : decode b_L_check 20 = .ok (.ireturn, 1) := by decide +kernel
theorem d_L_check_21 : decode b_L_check 21 = .ok (.astore 6, 2) := by decide +kernel
theorem d_L_check_23 : decode b_L_check 23 = .ok (.iconst 2, 1) := by decide +kernel
theorem d_L_check_24 : decode b_L_check 24 = .ok (.ireturn, 1) := by decide +kernel
theorem d_L_check_25 : decode b_L_check 25 = .ok (.iconst 0, 1) := by decide +kernel
theorem d_L_check_26 : decode b_L_check 26 = .ok (.ireturn, 1) := by decide +kernel
theorem d_L_gone_0 : decode b_L_gone 0 = .ok (.aload_n 2, 1) := by decide +kernel
theorem d_L_gone_1 : decode b_L_gone 1 = .ok (.iconst 0, 1) := by decide +kernel
theorem d_L_gone_2 : decode b_L_gone 2 = .ok (.aload_n 0, 1) := by decide +kernel
theorem d_L_gone_3 : decode b_L_gone 3 = .ok (.iload_n 1, 1) := by decide +kernel
theorem d_L_gone_4 : decode b_L_gone 4 = .ok (.invokevirtual 30, 3) := by decide +kernel
theorem d_L_gone_7 : decode b_L_gone 7 = .ok (.ifCond .eq 7, 3) := by decide +kernel
theorem d_L_gone_10 : decode b_L_gone 10 = .ok (.lconst 1, 1) := by decide +kernel
theorem d_L_gone_11 : decode b_L_gone 11 = .ok (.goto 4, 3) := by decide +kernel
theorem d_L_gone_14 : decode b_L_gone 14 = .ok (.lconst 0, 1) := by decide +kernel
theorem d_L_gone_15 : decode b_L_gone 15 = .ok (.lastore, 1) := by decide +kernel
theorem d_L_gone_16 : decode b_L_gone 16 = .ok (.goto 9, 3) := by decide +kernel
theorem d_L_gone_19 : decode b_L_gone 19 = .ok (.astore_n 3, 1) := by decide +kernel
theorem d_L_gone_20 : decode b_L_gone 20 = .ok (.iconst 1, 1) := by decide +kernel
theorem d_L_gone_21 : decode b_L_gone 21 = .ok (.ireturn, 1) := by decide +kernel
theorem d_L_gone_22 : decode b_L_gone 22 = .ok (.astore_n 3, 1) := by decide +kernel
theorem d_L_gone_23 : decode b_L_gone 23 = .ok (.iconst 2, 1) := by decide +kernel
theorem d_L_gone_24 : decode b_L_gone 24 = .ok (.ireturn, 1) := by decide +kernel
theorem d_L_gone_25 : decode b_L_gone 25 = .ok (.iconst 0, 1) := by decide +kernel
theorem d_L_gone_26 : decode b_L_gone 26 = .ok (.ireturn, 1) := by decide +kernel
theorem d_L_share_0 : decode b_L_share 0 = .ok (.aload_n 3, 1) := by decide +kernel
theorem d_L_share_1 : decode b_L_share 1 = .ok (.iconst 0, 1) := by decide +kernel
theorem d_L_share_2 : decode b_L_share 2 = .ok (.aload_n 0, 1) := by decide +kernel
theorem d_L_share_3 : decode b_L_share 3 = .ok (.iload_n 1, 1) := by decide +kernel
theorem d_L_share_4 : decode b_L_share 4 = .ok (.iload_n 2, 1) := by decide +kernel
theorem d_L_share_5 : decode b_L_share 5 = .ok (.invokevirtual 34, 3) := by decide +kernel
theorem d_L_share_8 : decode b_L_share 8 = .ok (.i2l, 1) := by decide +kernel
theorem d_L_share_9 : decode b_L_share 9 = .ok (.lastore, 1) := by decide +kernel
theorem d_L_share_10 : decode b_L_share 10 = .ok (.goto 7, 3) := by decide +kernel
theorem d_L_share_13 : decode b_L_share 13 = .ok (.astore 4, 2) := by decide +kernel
theorem d_L_share_15 : decode b_L_share 15 = .ok (.iconst 1, 1) := by decide +kernel
theorem d_L_share_16 : decode b_L_share 16 = .ok (.ireturn, 1) := by decide +kernel
theorem d_L_share_17 : decode b_L_share 17 = .ok (.iconst 0, 1) := by decide +kernel
theorem d_L_share_18 : decode b_L_share 18 = .ok (.ireturn, 1) := by decide +kernel
theorem d_L_next_0 : decode b_L_next 0 = .ok (.aload_n 2, 1) := by decide +kernel
theorem d_L_next_1 : decode b_L_next 1 = .ok (.iconst 0, 1) := by decide +kernel
theorem d_L_next_2 : decode b_L_next 2 = .ok (.aload_n 0, 1) := by decide +kernel
theorem d_L_next_3 : decode b_L_next 3 = .ok (.iload_n 1, 1) := by decide +kernel
theorem d_L_next_4 : decode b_L_next 4 = .ok (.invokevirtual 37, 3) := by decide +kernel
theorem d_L_next_7 : decode b_L_next 7 = .ok (.i2l, 1) := by decide +kernel
theorem d_L_next_8 : decode b_L_next 8 = .ok (.lastore, 1) := by decide +kernel
theorem d_L_next_9 : decode b_L_next 9 = .ok (.goto 6, 3) := by decide +kernel
theorem d_L_next_12 : decode b_L_next 12 = .ok (.astore_n 3, 1) := by decide +kernel
theorem d_L_next_13 : decode b_L_next 13 = .ok (.iconst 1, 1) := by decide +kernel
theorem d_L_next_14 : decode b_L_next 14 = .ok (.ireturn, 1) := by decide +kernel
theorem d_L_next_15 : decode b_L_next 15 = .ok (.iconst 0, 1) := by decide +kernel
theorem d_L_next_16 : decode b_L_next 16 = .ok (.ireturn, 1) := by decide +kernel
theorem d_L_digit_0 : decode b_L_digit 0 = .ok (.aload 4, 2) := by decide +kernel
theorem d_L_digit_2 : decode b_L_digit 2 = .ok (.iconst 0, 1) := by decide +kernel
theorem d_L_digit_3 : decode b_L_digit 3 = .ok (.aload_n 0, 1) := by decide +kernel
theorem d_L_digit_4 : decode b_L_digit 4 = .ok (.iload_n 1, 1) := by decide +kernel
theorem d_L_digit_5 : decode b_L_digit 5 = .ok (.lload_n 2, 1) := by decide +kernel
theorem d_L_digit_6 : decode b_L_digit 6 = .ok (.invokevirtual 40, 3) := by decide +kernel
theorem d_L_digit_9 : decode b_L_digit 9 = .ok (.i2l, 1) := by decide +kernel
theorem d_L_digit_10 : decode b_L_digit 10 = .ok (.lastore, 1) := by decide +kernel
theorem d_L_digit_11 : decode b_L_digit 11 = .ok (.goto 11, 3) := by decide +kernel
theorem d_L_digit_14 : decode b_L_digit 14 = .ok (.astore 5, 2) := by decide +kernel
theorem d_L_digit_16 : decode b_L_digit 16 = .ok (.iconst 1, 1) := by decide +kernel
theorem d_L_digit_17 : decode b_L_digit 17 = .ok (.ireturn, 1) := by decide +kernel
theorem d_L_digit_18 : decode b_L_digit 18 = .ok (.astore 5, 2) := by decide +kernel
theorem d_L_digit_20 : decode b_L_digit 20 = .ok (.iconst 2, 1) := by decide +kernel
theorem d_L_digit_21 : decode b_L_digit 21 = .ok (.ireturn, 1) := by decide +kernel
theorem d_L_digit_22 : decode b_L_digit 22 = .ok (.iconst 0, 1) := by decide +kernel
theorem d_L_digit_23 : decode b_L_digit 23 = .ok (.ireturn, 1) := by decide +kernel
theorem d_L_good_0 : decode b_L_good 0 = .ok (.aload 4, 2) := by decide +kernel
theorem d_L_good_2 : decode b_L_good 2 = .ok (.iconst 0, 1) := by decide +kernel
theorem d_L_good_3 : decode b_L_good 3 = .ok (.aload_n 0, 1) := by decide +kernel
theorem d_L_good_4 : decode b_L_good 4 = .ok (.iload_n 1, 1) := by decide +kernel
theorem d_L_good_5 : decode b_L_good 5 = .ok (.lload_n 2, 1) := by decide +kernel
theorem d_L_good_6 : decode b_L_good 6 = .ok (.invokevirtual 44, 3) := by decide +kernel
theorem d_L_good_9 : decode b_L_good 9 = .ok (.ifCond .eq 7, 3) := by decide +kernel
theorem d_L_good_12 : decode b_L_good 12 = .ok (.lconst 1, 1) := by decide +kernel
theorem d_L_good_13 : decode b_L_good 13 = .ok (.goto 4, 3) := by decide +kernel
theorem d_L_good_16 : decode b_L_good 16 = .ok (.lconst 0, 1) := by decide +kernel
theorem d_L_good_17 : decode b_L_good 17 = .ok (.lastore, 1) := by decide +kernel
theorem d_L_good_18 : decode b_L_good 18 = .ok (.goto 11, 3) := by decide +kernel
theorem d_L_good_21 : decode b_L_good 21 = .ok (.astore 5, 2) := by decide +kernel
theorem d_L_good_23 : decode b_L_good 23 = .ok (.iconst 1, 1) := by decide +kernel
theorem d_L_good_24 : decode b_L_good 24 = .ok (.ireturn, 1) := by decide +kernel
theorem d_L_good_25 : decode b_L_good 25 = .ok (.astore 5, 2) := by decide +kernel
theorem d_L_good_27 : decode b_L_good 27 = .ok (.iconst 2, 1) := by decide +kernel
theorem d_L_good_28 : decode b_L_good 28 = .ok (.ireturn, 1) := by decide +kernel
theorem d_L_good_29 : decode b_L_good 29 = .ok (.iconst 0, 1) := by decide +kernel
theorem d_L_good_30 : decode b_L_good 30 = .ok (.ireturn, 1) := by decide +kernel
theorem d_L_tag_0 : decode b_L_tag 0 = .ok (.aload 5, 2) := by decide +kernel
theorem d_L_tag_2 : decode b_L_tag 2 = .ok (.iconst 0, 1) := by decide +kernel
theorem d_L_tag_3 : decode b_L_tag 3 = .ok (.aload_n 0, 1) := by decide +kernel
theorem d_L_tag_4 : decode b_L_tag 4 = .ok (.iload_n 1, 1) := by decide +kernel
theorem d_L_tag_5 : decode b_L_tag 5 = .ok (.iload_n 2, 1) := by decide +kernel
theorem d_L_tag_6 : decode b_L_tag 6 = .ok (.iload_n 3, 1) := by decide +kernel
theorem d_L_tag_7 : decode b_L_tag 7 = .ok (.iload 4, 2) := by decide +kernel
theorem d_L_tag_9 : decode b_L_tag 9 = .ok (.invokevirtual 48, 3) := by decide +kernel
theorem d_L_tag_12 : decode b_L_tag 12 = .ok (.i2l, 1) := by decide +kernel
theorem d_L_tag_13 : decode b_L_tag 13 = .ok (.lastore, 1) := by decide +kernel
theorem d_L_tag_14 : decode b_L_tag 14 = .ok (.goto 15, 3) := by decide +kernel
theorem d_L_tag_17 : decode b_L_tag 17 = .ok (.astore 6, 2) := by decide +kernel
theorem d_L_tag_19 : decode b_L_tag 19 = .ok (.iconst 1, 1) := by decide +kernel
theorem d_L_tag_20 : decode b_L_tag 20 = .ok (.ireturn, 1) := by decide +kernel
theorem d_L_tag_21 : decode b_L_tag 21 = .ok (.astore 6, 2) := by decide +kernel
theorem d_L_tag_23 : decode b_L_tag 23 = .ok (.iconst 2, 1) := by decide +kernel
theorem d_L_tag_24 : decode b_L_tag 24 = .ok (.ireturn, 1) := by decide +kernel
theorem d_L_tag_25 : decode b_L_tag 25 = .ok (.astore 6, 2) := by decide +kernel
theorem d_L_tag_27 : decode b_L_tag 27 = .ok (.iconst 3, 1) := by decide +kernel
theorem d_L_tag_28 : decode b_L_tag 28 = .ok (.ireturn, 1) := by decide +kernel
theorem d_L_tag_29 : decode b_L_tag 29 = .ok (.iconst 0, 1) := by decide +kernel
theorem d_L_tag_30 : decode b_L_tag 30 = .ok (.ireturn, 1) := by decide +kernel
theorem d_L_first_0 : decode b_L_first 0 = .ok (.aload_n 3, 1) := by decide +kernel
theorem d_L_first_1 : decode b_L_first 1 = .ok (.iconst 0, 1) := by decide +kernel
theorem d_L_first_2 : decode b_L_first 2 = .ok (.aload_n 0, 1) := by decide +kernel
theorem d_L_first_3 : decode b_L_first 3 = .ok (.iload_n 1, 1) := by decide +kernel
theorem d_L_first_4 : decode b_L_first 4 = .ok (.iload_n 2, 1) := by decide +kernel
theorem d_L_first_5 : decode b_L_first 5 = .ok (.invokevirtual 51, 3) := by decide +kernel
theorem d_L_first_8 : decode b_L_first 8 = .ok (.i2l, 1) := by decide +kernel
theorem d_L_first_9 : decode b_L_first 9 = .ok (.lastore, 1) := by decide +kernel
theorem d_L_first_10 : decode b_L_first 10 = .ok (.goto 11, 3) := by decide +kernel
theorem d_L_first_13 : decode b_L_first 13 = .ok (.astore 4, 2) := by decide +kernel
theorem d_L_first_15 : decode b_L_first 15 = .ok (.iconst 1, 1) := by decide +kernel
theorem d_L_first_16 : decode b_L_first 16 = .ok (.ireturn, 1) := by decide +kernel
theorem d_L_first_17 : decode b_L_first 17 = .ok (.astore 4, 2) := by decide +kernel
theorem d_L_first_19 : decode b_L_first 19 = .ok (.iconst 2, 1) := by decide +kernel
theorem d_L_first_20 : decode b_L_first 20 = .ok (.ireturn, 1) := by decide +kernel
theorem d_L_first_21 : decode b_L_first 21 = .ok (.iconst 0, 1) := by decide +kernel
theorem d_L_first_22 : decode b_L_first 22 = .ok (.ireturn, 1) := by decide +kernel
theorem d_L_seen_0 : decode b_L_seen 0 = .ok (.aload_n 3, 1) := by decide +kernel
theorem d_L_seen_1 : decode b_L_seen 1 = .ok (.iconst 0, 1) := by decide +kernel
theorem d_L_seen_2 : decode b_L_seen 2 = .ok (.aload_n 0, 1) := by decide +kernel
theorem d_L_seen_3 : decode b_L_seen 3 = .ok (.iload_n 1, 1) := by decide +kernel
theorem d_L_seen_4 : decode b_L_seen 4 = .ok (.iload_n 2, 1) := by decide +kernel
theorem d_L_seen_5 : decode b_L_seen 5 = .ok (.invokevirtual 54, 3) := by decide +kernel
theorem d_L_seen_8 : decode b_L_seen 8 = .ok (.i2l, 1) := by decide +kernel
theorem d_L_seen_9 : decode b_L_seen 9 = .ok (.lastore, 1) := by decide +kernel
theorem d_L_seen_10 : decode b_L_seen 10 = .ok (.goto 11, 3) := by decide +kernel
theorem d_L_seen_13 : decode b_L_seen 13 = .ok (.astore 4, 2) := by decide +kernel
theorem d_L_seen_15 : decode b_L_seen 15 = .ok (.iconst 1, 1) := by decide +kernel
theorem d_L_seen_16 : decode b_L_seen 16 = .ok (.ireturn, 1) := by decide +kernel
theorem d_L_seen_17 : decode b_L_seen 17 = .ok (.astore 4, 2) := by decide +kernel
theorem d_L_seen_19 : decode b_L_seen 19 = .ok (.iconst 2, 1) := by decide +kernel
theorem d_L_seen_20 : decode b_L_seen 20 = .ok (.ireturn, 1) := by decide +kernel
theorem d_L_seen_21 : decode b_L_seen 21 = .ok (.iconst 0, 1) := by decide +kernel
theorem d_L_seen_22 : decode b_L_seen 22 = .ok (.ireturn, 1) := by decide +kernel
theorem d_L_weight_0 : decode b_L_weight 0 = .ok (.aload_n 3, 1) := by decide +kernel
theorem d_L_weight_1 : decode b_L_weight 1 = .ok (.iconst 0, 1) := by decide +kernel
theorem d_L_weight_2 : decode b_L_weight 2 = .ok (.aload_n 0, 1) := by decide +kernel
theorem d_L_weight_3 : decode b_L_weight 3 = .ok (.iload_n 1, 1) := by decide +kernel
theorem d_L_weight_4 : decode b_L_weight 4 = .ok (.iload_n 2, 1) := by decide +kernel
theorem d_L_weight_5 : decode b_L_weight 5 = .ok (.invokevirtual 57, 3) := by decide +kernel
theorem d_L_weight_8 : decode b_L_weight 8 = .ok (.i2l, 1) := by decide +kernel
theorem d_L_weight_9 : decode b_L_weight 9 = .ok (.lastore, 1) := by decide +kernel
theorem d_L_weight_10 : decode b_L_weight 10 = .ok (.goto 11, 3) := by decide +kernel
theorem d_L_weight_13 : decode b_L_weight 13 = .ok (.astore 4, 2) := by decide +kernel
theorem d_L_weight_15 : decode b_L_weight 15 = .ok (.iconst 1, 1) := by decide +kernel
theorem d_L_weight_16 : decode b_L_weight 16 = .ok (.ireturn, 1) := by decide +kernel
theorem d_L_weight_17 : decode b_L_weight 17 = .ok (.astore 4, 2) := by decide +kernel
theorem d_L_weight_19 : decode b_L_weight 19 = .ok (.iconst 2, 1) := by decide +kernel
theorem d_L_weight_20 : decode b_L_weight 20 = .ok (.ireturn, 1) := by decide +kernel
theorem d_L_weight_21 : decode b_L_weight 21 = .ok (.iconst 0, 1) := by decide +kernel
theorem d_L_weight_22 : decode b_L_weight 22 = .ok (.ireturn, 1) := by decide +kernel
theorem d_L_report_0 : decode b_L_report 0 = .ok (.aload_n 3, 1) := by decide +kernel
theorem d_L_report_1 : decode b_L_report 1 = .ok (.iconst 0, 1) := by decide +kernel
theorem d_L_report_2 : decode b_L_report 2 = .ok (.aload_n 0, 1) := by decide +kernel
theorem d_L_report_3 : decode b_L_report 3 = .ok (.iload_n 1, 1) := by decide +kernel
theorem d_L_report_4 : decode b_L_report 4 = .ok (.iload_n 2, 1) := by decide +kernel
theorem d_L_report_5 : decode b_L_report 5 = .ok (.invokevirtual 60, 3) := by decide +kernel
theorem d_L_report_8 : decode b_L_report 8 = .ok (.i2l, 1) := by decide +kernel
theorem d_L_report_9 : decode b_L_report 9 = .ok (.lastore, 1) := by decide +kernel
theorem d_L_report_10 : decode b_L_report 10 = .ok (.goto 7, 3) := by decide +kernel
theorem d_L_report_13 : decode b_L_report 13 = .ok (.astore 4, 2) := by decide +kernel
theorem d_L_report_15 : decode b_L_report 15 = .ok (.iconst 1, 1) := by decide +kernel
theorem d_L_report_16 : decode b_L_report 16 = .ok (.ireturn, 1) := by decide +kernel
theorem d_L_report_17 : decode b_L_report 17 = .ok (.iconst 0, 1) := by decide +kernel
theorem d_L_report_18 : decode b_L_report 18 = .ok (.ireturn, 1) := by decide +kernel
theorem d_L_room_0 : decode b_L_room 0 = .ok (.aload_n 3, 1) := by decide +kernel
theorem d_L_room_1 : decode b_L_room 1 = .ok (.iconst 0, 1) := by decide +kernel
theorem d_L_room_2 : decode b_L_room 2 = .ok (.aload_n 0, 1) := by decide +kernel
theorem d_L_room_3 : decode b_L_room 3 = .ok (.iload_n 1, 1) := by decide +kernel
theorem d_L_room_4 : decode b_L_room 4 = .ok (.iload_n 2, 1) := by decide +kernel
theorem d_L_room_5 : decode b_L_room 5 = .ok (.invokevirtual 63, 3) := by decide +kernel
theorem d_L_room_8 : decode b_L_room 8 = .ok (.i2l, 1) := by decide +kernel
theorem d_L_room_9 : decode b_L_room 9 = .ok (.lastore, 1) := by decide +kernel
theorem d_L_room_10 : decode b_L_room 10 = .ok (.goto 7, 3) := by decide +kernel
theorem d_L_room_13 : decode b_L_room 13 = .ok (.astore 4, 2) := by decide +kernel
theorem d_L_room_15 : decode b_L_room 15 = .ok (.iconst 1, 1) := by decide +kernel
theorem d_L_room_16 : decode b_L_room 16 = .ok (.ireturn, 1) := by decide +kernel
theorem d_L_room_17 : decode b_L_room 17 = .ok (.iconst 0, 1) := by decide +kernel
theorem d_L_room_18 : decode b_L_room 18 = .ok (.ireturn, 1) := by decide +kernel
end
section
section ADQ
variable {p : Program} {l : Launch} {e : Env} {R : Room} {s : State} {m : MethodId} {args : Array Value} {below : List Frame} {meth : Method} {c : Code} {H : Heap} {locs : List Loc} {cells slots : Nat} {Q : State → Prop}
variable {cc : ByteArray} {nL pc : Nat} {ls : Array Slot} {rest st : List Value} {own : String} {G : ad_G} {lo : Nat} {hp : ad_H}
variable {y : MethodName} {cy : ByteArray} {ny : Nat} {rt : Option FieldType} {hs : List (Nat × Nat × Nat × Nat)} {d mc ms : Nat} {As : List Value}
/-- a call that only answers v -/
theorem ad_cPi (S : CallFix p m c cc nL s args ad_T own) (I : ad_I G lo s hp H locs) (iv : ad_Iv p l e R s m args below meth c H locs cells slots pc ls st rest y As) {v : Value} (K : ad_Cp l y cy ny rt hs d mc ms G lo hp As (fun r => r = .inl (some v))) (Y : ad_Y y cy ny rt hs) (hls : ls.size = nL)
    (hR : d + 1 ≤ R.frames ∧ (rest.map fun v => v.category).sum + (ny + 11) + 37 * d ≤ R.locals) (hcells : cells + mc ≤ R.cells) (hslots : slots + ms ≤ R.slots) {ig : Instr} (hdg : decode cc pc = .ok (ig, 3))
    (k : W p l e R s m args below meth c H locs cells slots Q (F0 m (pc + 3) ls (v :: rest))) : W p l e R s m args below meth c H locs cells slots Q (F0 m pc ls st) :=
  ad_cP S I iv K Y hls hR hcells hslots hdg (fun v' hv => by cases hv; exact k) (fun C _ _ _ hv => by cases hv)
/-- a call that answers with an int of which something is said -/
theorem ad_cPx (S : CallFix p m c cc nL s args ad_T own) (I : ad_I G lo s hp H locs) (iv : ad_Iv p l e R s m args below meth c H locs cells slots pc ls st rest y As) {A : Value → Prop} (K : ad_Cp l y cy ny rt hs d mc ms G lo hp As (fun r => ∃ v, r = .inl (some v) ∧ A v)) (Y : ad_Y y cy ny rt hs) (hls : ls.size = nL)
    (hR : d + 1 ≤ R.frames ∧ (rest.map fun v => v.category).sum + (ny + 11) + 37 * d ≤ R.locals) (hcells : cells + mc ≤ R.cells) (hslots : slots + ms ≤ R.slots) {ig : Instr} (hdg : decode cc pc = .ok (ig, 3))
    (k : ∀ v : Value, A v → W p l e R s m args below meth c H locs cells slots Q (F0 m (pc + 3) ls (v :: rest))) : W p l e R s m args below meth c H locs cells slots Q (F0 m pc ls st) :=
  ad_cP S I iv K Y hls hR hcells hslots hdg (fun v' hv => by obtain ⟨v, h1, h2⟩ := hv; cases h1; exact k v h2) (fun C _ _ _ hv => by obtain ⟨v, h1, -⟩ := hv; cases h1)
/-- a call of a guard: it comes back, or it throws -/
theorem ad_cPg (S : CallFix p m c cc nL s args ad_T own) (I : ad_I G lo s hp H locs) (iv : ad_Iv p l e R s m args below meth c H locs cells slots pc ls st rest y As) {A : Prop} {v : Option Value} {X : String} (K : ad_Cp l y cy ny rt hs d mc ms G lo hp As (fun r => (A ∧ r = .inl v) ∨ (¬ A ∧ r = .inr X))) (Y : ad_Y y cy ny rt hs) (hls : ls.size = nL)
    (hR : d + 1 ≤ R.frames ∧ (rest.map fun v => v.category).sum + (ny + 11) + 37 * d ≤ R.locals) (hcells : cells + mc ≤ R.cells) (hslots : slots + ms ≤ R.slots) {ig : Instr} (hdg : decode cc pc = .ok (ig, 3))
    (k1 : A → W p l e R s m args below meth c H locs cells slots Q (F0 m (pc + 3) ls (v.toList ++ rest)))
    (k2 : ¬ A → ∀ (H1 : Heap) (x : Addr) (cell : Cell), H.size ≤ H1.size → (∀ q : Nat, q < H.size → H1[q]? = H[q]?) → H1[x]? = some cell → cell.vm = .none → s.vm.findClass X = some cell.cls → ad_WT p l e R s m args below meth c H1 locs (cells + mc) (slots + ms) Q (F0 m pc ls rest) x) :
    W p l e R s m args below meth c H locs cells slots Q (F0 m pc ls st) :=
  ad_cP S I iv K Y hls hR hcells hslots hdg (fun v' hv => by
    rcases hv with ⟨h1, h2⟩ | ⟨h1, h2⟩
    · cases h2; exact k1 h1
    · cases h2) (fun C H1 x cell hv h3 h4 h5 h6 h7 => by
    rcases hv with ⟨h1, h2⟩ | ⟨h1, h2⟩
    · cases h2
    · cases h2; exact k2 h1 H1 x cell h3 h4 h5 h6 h7)
/-- the heap has grown at its end: the world is the same -/
theorem ad_I.grown {H1 : Heap} (I : ad_I G lo s hp H locs) (h1 : H.size ≤ H1.size) (h2 : ∀ q : Nat, q < H.size → H1[q]? = H[q]?) : ad_I G lo s hp H1 locs :=
  ⟨I.1, I.2.1.kept h2, Nat.le_trans I.2.2.1 h1, fun q hq => (h2 q (Nat.lt_of_lt_of_le (Nat.lt_of_lt_of_le hq I.1.1) I.2.2.1)).trans (I.2.2.2.1 q hq), I.2.2.2.2⟩
theorem ad_top {x y : Value} (h : x = y) (k : W p l e R s m args below meth c H locs cells slots Q (F0 m pc ls (y :: rest))) : W p l e R s m args below meth c H locs cells slots Q (F0 m pc ls (x :: rest)) := h ▸ k
/-- the spelling of a call that writes and answers -/
theorem ad_cZi (S : CallFix p m c cc nL s args ad_T own) (I : ad_I G lo s hp H locs) (iv : ad_Iv p l e R s m args below meth c H locs cells slots pc ls st rest y As) {v : Option Value} {A : ad_H → Prop} (K : ad_Ct l y cy ny rt hs d mc ms G lo hp As (fun r hp' => r = .inl v ∧ A hp')) (Y : ad_Y y cy ny rt hs) (hls : ls.size = nL)
    (hR : d + 1 ≤ R.frames ∧ (rest.map fun v => v.category).sum + (ny + 11) + 37 * d ≤ R.locals) (hcells : cells + mc ≤ R.cells) (hslots : slots + ms ≤ R.slots) {ig : Instr} (hdg : decode cc pc = .ok (ig, 3))
    (k : ∀ (hp' : ad_H) (H1 : Heap) (locs1 : List Loc), A hp' → ad_I G lo s hp' H1 locs1 → W p l e R s m args below meth c H1 locs1 (cells + mc) (slots + ms) Q (F0 m (pc + 3) ls (v.toList ++ rest))) : W p l e R s m args below meth c H locs cells slots Q (F0 m pc ls st) :=
  ad_cZ S I iv K Y hls hR hcells hslots hdg (fun v' hp' H1 locs1 hv I' => by obtain ⟨h1, h2⟩ := hv; cases h1; exact k hp' H1 locs1 h2 I') (fun C hp' H1 locs1 x cell hv => by obtain ⟨h1, -⟩ := hv; cases h1)
end ADQ
theorem np_A_init : (parseMethodDescriptor y_A_init.desc).map (fun d => d.parameters.length) = some 0 := by decide +kernel
theorem np_D_init : (parseMethodDescriptor y_D_init.desc).map (fun d => d.parameters.length) = some 0 := by decide +kernel
theorem np_AL_init : (parseMethodDescriptor y_AL_init.desc).map (fun d => d.parameters.length) = some 0 := by decide +kernel
theorem np_AB_init : (parseMethodDescriptor y_AB_init.desc).map (fun d => d.parameters.length) = some 0 := by decide +kernel
theorem np_AC_init : (parseMethodDescriptor y_AC_init.desc).map (fun d => d.parameters.length) = some 0 := by decide +kernel
theorem np_A_seed : (parseMethodDescriptor y_A_seed.desc).map (fun d => d.parameters.length) = some 1 := by decide +kernel
theorem np_L_thing : (parseMethodDescriptor y_L_thing.desc).map (fun d => d.parameters.length) = some 4 := by decide +kernel
theorem np_A_thing : (parseMethodDescriptor y_A_thing.desc).map (fun d => d.parameters.length) = some 2 := by decide +kernel
theorem np_A_needBelow : (parseMethodDescriptor y_A_needBelow.desc).map (fun d => d.parameters.length) = some 2 := by decide +kernel
theorem np_AL_size : (parseMethodDescriptor y_AL_size.desc).map (fun d => d.parameters.length) = some 0 := by decide +kernel
theorem np_T_init : (parseMethodDescriptor y_T_init.desc).map (fun d => d.parameters.length) = some 3 := by decide +kernel
theorem np_AL_add : (parseMethodDescriptor y_AL_add.desc).map (fun d => d.parameters.length) = some 1 := by decide +kernel
theorem np_AL_add3 : (parseMethodDescriptor y_AL_add3.desc).map (fun d => d.parameters.length) = some 3 := by decide +kernel
theorem np_AL_grow : (parseMethodDescriptor y_AL_grow.desc).map (fun d => d.parameters.length) = some 0 := by decide +kernel
theorem np_AL_grow1 : (parseMethodDescriptor y_AL_grow1.desc).map (fun d => d.parameters.length) = some 1 := by decide +kernel
theorem np_AS_newLength : (parseMethodDescriptor y_AS_newLength.desc).map (fun d => d.parameters.length) = some 3 := by decide +kernel
theorem np_MA_max : (parseMethodDescriptor y_MA_max.desc).map (fun d => d.parameters.length) = some 2 := by decide +kernel
theorem np_AS_hugeLength : (parseMethodDescriptor y_AS_hugeLength.desc).map (fun d => d.parameters.length) = some 2 := by decide +kernel
theorem np_AR_copyOf : (parseMethodDescriptor y_AR_copyOf.desc).map (fun d => d.parameters.length) = some 2 := by decide +kernel
theorem np_AR_copyOf3 : (parseMethodDescriptor y_AR_copyOf3.desc).map (fun d => d.parameters.length) = some 3 := by decide +kernel
theorem np_MA_min : (parseMethodDescriptor y_MA_min.desc).map (fun d => d.parameters.length) = some 2 := by decide +kernel
theorem np_L_list : (parseMethodDescriptor y_L_list.desc).map (fun d => d.parameters.length) = some 3 := by decide +kernel
theorem np_A_list : (parseMethodDescriptor y_A_list.desc).map (fun d => d.parameters.length) = some 1 := by decide +kernel
theorem np_A_forgetLatest : (parseMethodDescriptor y_A_forgetLatest.desc).map (fun d => d.parameters.length) = some 0 := by decide +kernel
theorem np_AL_get : (parseMethodDescriptor y_AL_get.desc).map (fun d => d.parameters.length) = some 1 := by decide +kernel
theorem np_OB_checkIndex : (parseMethodDescriptor y_OB_checkIndex.desc).map (fun d => d.parameters.length) = some 2 := by decide +kernel
theorem np_PR_checkIndex : (parseMethodDescriptor y_PR_checkIndex.desc).map (fun d => d.parameters.length) = some 3 := by decide +kernel
theorem np_AL_elementData : (parseMethodDescriptor y_AL_elementData.desc).map (fun d => d.parameters.length) = some 1 := by decide +kernel
theorem np_AL_clear : (parseMethodDescriptor y_AL_clear.desc).map (fun d => d.parameters.length) = some 0 := by decide +kernel
theorem np_A_shareOut : (parseMethodDescriptor y_A_shareOut.desc).map (fun d => d.parameters.length) = some 1 := by decide +kernel
theorem np_A_giveRoundedDown : (parseMethodDescriptor y_A_giveRoundedDown.desc).map (fun d => d.parameters.length) = some 2 := by decide +kernel
theorem np_A_countThings : (parseMethodDescriptor y_A_countThings.desc).map (fun d => d.parameters.length) = some 1 := by decide +kernel
theorem np_A_giveOneByGreatestRest : (parseMethodDescriptor y_A_giveOneByGreatestRest.desc).map (fun d => d.parameters.length) = some 0 := by decide +kernel
theorem np_A_layRow : (parseMethodDescriptor y_A_layRow.desc).map (fun d => d.parameters.length) = some 1 := by decide +kernel
theorem np_A_takeFromRow : (parseMethodDescriptor y_A_takeFromRow.desc).map (fun d => d.parameters.length) = some 1 := by decide +kernel
theorem np_D_below : (parseMethodDescriptor y_D_below.desc).map (fun d => d.parameters.length) = some 1 := by decide +kernel
theorem np_AL_set : (parseMethodDescriptor y_AL_set.desc).map (fun d => d.parameters.length) = some 2 := by decide +kernel
theorem np_L_drawn : (parseMethodDescriptor y_L_drawn.desc).map (fun d => d.parameters.length) = some 3 := by decide +kernel
theorem np_A_drawn : (parseMethodDescriptor y_A_drawn.desc).map (fun d => d.parameters.length) = some 1 := by decide +kernel
theorem np_L_check : (parseMethodDescriptor y_L_check.desc).map (fun d => d.parameters.length) = some 6 := by decide +kernel
theorem np_A_check : (parseMethodDescriptor y_A_check.desc).map (fun d => d.parameters.length) = some 4 := by decide +kernel
theorem np_A_existing : (parseMethodDescriptor y_A_existing.desc).map (fun d => d.parameters.length) = some 1 := by decide +kernel
theorem np_A_needListed : (parseMethodDescriptor y_A_needListed.desc).map (fun d => d.parameters.length) = some 1 := by decide +kernel
theorem np_L_gone : (parseMethodDescriptor y_L_gone.desc).map (fun d => d.parameters.length) = some 3 := by decide +kernel
theorem np_A_gone : (parseMethodDescriptor y_A_gone.desc).map (fun d => d.parameters.length) = some 1 := by decide +kernel
theorem np_L_share : (parseMethodDescriptor y_L_share.desc).map (fun d => d.parameters.length) = some 4 := by decide +kernel
theorem np_A_share : (parseMethodDescriptor y_A_share.desc).map (fun d => d.parameters.length) = some 2 := by decide +kernel
theorem np_A_countChecked : (parseMethodDescriptor y_A_countChecked.desc).map (fun d => d.parameters.length) = some 1 := by decide +kernel
theorem np_A_countListed : (parseMethodDescriptor y_A_countListed.desc).map (fun d => d.parameters.length) = some 2 := by decide +kernel
theorem np_A_countMissed : (parseMethodDescriptor y_A_countMissed.desc).map (fun d => d.parameters.length) = some 1 := by decide +kernel
theorem np_A_commonDivisor : (parseMethodDescriptor y_A_commonDivisor.desc).map (fun d => d.parameters.length) = some 2 := by decide +kernel
theorem np_L_next : (parseMethodDescriptor y_L_next.desc).map (fun d => d.parameters.length) = some 3 := by decide +kernel
theorem np_A_next : (parseMethodDescriptor y_A_next.desc).map (fun d => d.parameters.length) = some 1 := by decide +kernel
theorem np_L_digit : (parseMethodDescriptor y_L_digit.desc).map (fun d => d.parameters.length) = some 4 := by decide +kernel
theorem np_A_digit : (parseMethodDescriptor y_A_digit.desc).map (fun d => d.parameters.length) = some 2 := by decide +kernel
theorem np_A_needNumber : (parseMethodDescriptor y_A_needNumber.desc).map (fun d => d.parameters.length) = some 1 := by decide +kernel
theorem np_C_of : (parseMethodDescriptor y_C_of.desc).map (fun d => d.parameters.length) = some 2 := by decide +kernel
theorem np_C_weighedSum : (parseMethodDescriptor y_C_weighedSum.desc).map (fun d => d.parameters.length) = some 2 := by decide +kernel
theorem np_C_weighed : (parseMethodDescriptor y_C_weighed.desc).map (fun d => d.parameters.length) = some 3 := by decide +kernel
theorem np_C_doubled : (parseMethodDescriptor y_C_doubled.desc).map (fun d => d.parameters.length) = some 1 := by decide +kernel
theorem np_L_good : (parseMethodDescriptor y_L_good.desc).map (fun d => d.parameters.length) = some 4 := by decide +kernel
theorem np_A_good : (parseMethodDescriptor y_A_good.desc).map (fun d => d.parameters.length) = some 2 := by decide +kernel
theorem np_C_closes : (parseMethodDescriptor y_C_closes.desc).map (fun d => d.parameters.length) = some 2 := by decide +kernel
theorem np_L_tag : (parseMethodDescriptor y_L_tag.desc).map (fun d => d.parameters.length) = some 6 := by decide +kernel
theorem np_A_tag : (parseMethodDescriptor y_A_tag.desc).map (fun d => d.parameters.length) = some 4 := by decide +kernel
theorem np_A_needHour : (parseMethodDescriptor y_A_needHour.desc).map (fun d => d.parameters.length) = some 1 := by decide +kernel
theorem np_S_init : (parseMethodDescriptor y_S_init.desc).map (fun d => d.parameters.length) = some 3 := by decide +kernel
theorem np_L_first : (parseMethodDescriptor y_L_first.desc).map (fun d => d.parameters.length) = some 4 := by decide +kernel
theorem np_A_first : (parseMethodDescriptor y_A_first.desc).map (fun d => d.parameters.length) = some 2 := by decide +kernel
theorem np_T_lastToldBy : (parseMethodDescriptor y_T_lastToldBy.desc).map (fun d => d.parameters.length) = some 1 := by decide +kernel
theorem np_S_replaces : (parseMethodDescriptor y_S_replaces.desc).map (fun d => d.parameters.length) = some 1 := by decide +kernel
theorem np_L_seen : (parseMethodDescriptor y_L_seen.desc).map (fun d => d.parameters.length) = some 4 := by decide +kernel
theorem np_A_seen : (parseMethodDescriptor y_A_seen.desc).map (fun d => d.parameters.length) = some 2 := by decide +kernel
theorem np_L_weight : (parseMethodDescriptor y_L_weight.desc).map (fun d => d.parameters.length) = some 4 := by decide +kernel
theorem np_A_weight : (parseMethodDescriptor y_A_weight.desc).map (fun d => d.parameters.length) = some 2 := by decide +kernel
theorem np_MA_abs : (parseMethodDescriptor y_MA_abs.desc).map (fun d => d.parameters.length) = some 1 := by decide +kernel
theorem np_L_report : (parseMethodDescriptor y_L_report.desc).map (fun d => d.parameters.length) = some 4 := by decide +kernel
theorem np_A_report : (parseMethodDescriptor y_A_report.desc).map (fun d => d.parameters.length) = some 2 := by decide +kernel
theorem np_A_needNotNegative : (parseMethodDescriptor y_A_needNotNegative.desc).map (fun d => d.parameters.length) = some 1 := by decide +kernel
theorem np_L_room : (parseMethodDescriptor y_L_room.desc).map (fun d => d.parameters.length) = some 4 := by decide +kernel
theorem np_A_room : (parseMethodDescriptor y_A_room.desc).map (fun d => d.parameters.length) = some 2 := by decide +kernel
theorem np_M_init : (parseMethodDescriptor y_M_init.desc).map (fun d => d.parameters.length) = some 0 := by decide +kernel
theorem np_M_thrown : (parseMethodDescriptor y_M_thrown.desc).map (fun d => d.parameters.length) = some 0 := by decide +kernel
theorem np_M_seed : (parseMethodDescriptor y_M_seed.desc).map (fun d => d.parameters.length) = some 1 := by decide +kernel
theorem np_M_thing : (parseMethodDescriptor y_M_thing.desc).map (fun d => d.parameters.length) = some 2 := by decide +kernel
theorem np_M_in : (parseMethodDescriptor y_M_in.desc).map (fun d => d.parameters.length) = some 3 := by decide +kernel
theorem np_M_fails : (parseMethodDescriptor y_M_fails.desc).map (fun d => d.parameters.length) = some 3 := by decide +kernel
theorem np_M_list : (parseMethodDescriptor y_M_list.desc).map (fun d => d.parameters.length) = some 1 := by decide +kernel
theorem np_M_divide : (parseMethodDescriptor y_M_divide.desc).map (fun d => d.parameters.length) = some 1 := by decide +kernel
theorem np_M_size : (parseMethodDescriptor y_M_size.desc).map (fun d => d.parameters.length) = some 1 := by decide +kernel
theorem np_M_rest : (parseMethodDescriptor y_M_rest.desc).map (fun d => d.parameters.length) = some 2 := by decide +kernel
theorem np_M_drawFrom : (parseMethodDescriptor y_M_drawFrom.desc).map (fun d => d.parameters.length) = some 1 := by decide +kernel
theorem np_M_draw : (parseMethodDescriptor y_M_draw.desc).map (fun d => d.parameters.length) = some 1 := by decide +kernel
theorem np_M_drawn : (parseMethodDescriptor y_M_drawn.desc).map (fun d => d.parameters.length) = some 1 := by decide +kernel
theorem np_M_check : (parseMethodDescriptor y_M_check.desc).map (fun d => d.parameters.length) = some 4 := by decide +kernel
theorem np_M_isThing : (parseMethodDescriptor y_M_isThing.desc).map (fun d => d.parameters.length) = some 1 := by decide +kernel
theorem np_M_gone : (parseMethodDescriptor y_M_gone.desc).map (fun d => d.parameters.length) = some 1 := by decide +kernel
theorem np_M_share : (parseMethodDescriptor y_M_share.desc).map (fun d => d.parameters.length) = some 2 := by decide +kernel
theorem np_M_many : (parseMethodDescriptor y_M_many.desc).map (fun d => d.parameters.length) = some 3 := by decide +kernel
theorem np_M_next : (parseMethodDescriptor y_M_next.desc).map (fun d => d.parameters.length) = some 1 := by decide +kernel
theorem np_M_digit : (parseMethodDescriptor y_M_digit.desc).map (fun d => d.parameters.length) = some 2 := by decide +kernel
theorem np_M_digitOf : (parseMethodDescriptor y_M_digitOf.desc).map (fun d => d.parameters.length) = some 2 := by decide +kernel
theorem np_M_sum : (parseMethodDescriptor y_M_sum.desc).map (fun d => d.parameters.length) = some 2 := by decide +kernel
theorem np_M_counts : (parseMethodDescriptor y_M_counts.desc).map (fun d => d.parameters.length) = some 3 := by decide +kernel
theorem np_M_good : (parseMethodDescriptor y_M_good.desc).map (fun d => d.parameters.length) = some 2 := by decide +kernel
theorem np_M_tag : (parseMethodDescriptor y_M_tag.desc).map (fun d => d.parameters.length) = some 4 := by decide +kernel
theorem np_M_first : (parseMethodDescriptor y_M_first.desc).map (fun d => d.parameters.length) = some 2 := by decide +kernel
theorem np_M_best : (parseMethodDescriptor y_M_best.desc).map (fun d => d.parameters.length) = some 2 := by decide +kernel
theorem np_M_seen : (parseMethodDescriptor y_M_seen.desc).map (fun d => d.parameters.length) = some 2 := by decide +kernel
theorem np_M_weight : (parseMethodDescriptor y_M_weight.desc).map (fun d => d.parameters.length) = some 2 := by decide +kernel
theorem np_M_report : (parseMethodDescriptor y_M_report.desc).map (fun d => d.parameters.length) = some 2 := by decide +kernel
theorem np_M_room : (parseMethodDescriptor y_M_room.desc).map (fun d => d.parameters.length) = some 2 := by decide +kernel
end
section
theorem ad_lcLt {x y : Int64} : lg_cmp x y < 0 ↔ x < y := by
  unfold lg_cmp
  by_cases h1 : y < x
  · rw [if_pos h1]
    exact ⟨fun h => absurd h (by decide), fun h => absurd (Int64.lt_trans h h1) (fun h => Int64.lt_irrefl h)⟩
  · rw [if_neg h1]
    by_cases h2 : x = y
    · rw [if_pos h2]
      exact ⟨fun h => absurd h (by decide), fun h => absurd h (by rw [h2]; exact fun h => Int64.lt_irrefl h)⟩
    · rw [if_neg h2]
      refine ⟨fun _ => ?_, fun _ => by decide⟩
      have a := Int64.not_lt.mp h1
      exact Int64.lt_of_le_of_ne a h2
theorem ad_lcGt {x y : Int64} : 0 < lg_cmp x y ↔ y < x := by
  unfold lg_cmp
  by_cases h1 : y < x
  · rw [if_pos h1]
    exact ⟨fun _ => h1, fun _ => by decide⟩
  · rw [if_neg h1]
    refine ⟨fun h => ?_, fun h => absurd h h1⟩
    by_cases h2 : x = y
    · rw [if_pos h2] at h
      exact absurd h (by decide)
    · rw [if_neg h2] at h
      exact absurd h (by decide)
theorem ad_lcEq {x y : Int64} : lg_cmp x y = 0 ↔ x = y := by
  unfold lg_cmp
  by_cases h1 : y < x
  · rw [if_pos h1]
    exact ⟨fun h => absurd h (by decide), fun h => absurd h1 (by rw [h]; exact fun h => Int64.lt_irrefl h)⟩
  · rw [if_neg h1]
    by_cases h2 : x = y
    · rw [if_pos h2]
      exact ⟨fun _ => h2, fun _ => rfl⟩
    · rw [if_neg h2]
      exact ⟨fun h => absurd h (by decide), fun h => absurd h h2⟩
theorem ad_lcLe {x y : Int64} : lg_cmp x y ≤ 0 ↔ x ≤ y := by
  rw [← Int64.not_lt, ← Int32.not_lt, ad_lcGt]
theorem ad_2 {x : Int32} {n : Nat} (h : ¬ x < 0) (h2 : x < nI n) (hn : n < 2 ^ 31) : ∃ j : Nat, j < n ∧ x = nI j := by
  obtain ⟨j, h3, rfl⟩ := nI_of h
  exact ⟨j, (nI_ltI h3 hn).mp h2, rfl⟩
theorem ad_rem {a d : Nat} (ha : a < 2 ^ 31) (h0 : 0 < d) (hd : d < 2 ^ 31) : nI a - nI a / nI d * nI d = nI (a % d) := pk_rem ha h0 hd
theorem ad_lt {j n : Nat} (hj : j < 2 ^ 31) (hn : n < 2 ^ 31) (h : ¬ nI n ≤ nI j) : j < n := by
  rcases Nat.lt_or_ge j n with q | q
  · exact q
  · exact absurd (nI_le q hj) h
theorem ad_ge {j n : Nat} (hj : j < 2 ^ 31) (hn : n < 2 ^ 31) (h : nI n ≤ nI j) : n ≤ j := (nI_leI hn hj).mp h
end
section
theorem w_sf : (Cond.sameField "java/util/ArrayList" "java/util/AbstractList" "modCount" "I" : Cond) ∈ ad_T := ad_in (List.mem_of_getElem? (i := 59) (by decide +kernel)) (by rfl)
/-- an array of references -/
abbrev ad_ra (G : ad_G) (n : Nat) (f : Nat → Option Nat) : va_E := .inl (G.2.1 1, n, .inr (.inr (.inr (.inr f))))
section ADR
variable {p : Program} {l : Launch} {e : Env} {R : Room} {s : State} {m : MethodId} {args : Array Value} {below : List Frame} {meth : Method} {c : Code} {H : Heap} {locs : List Loc} {cells slots : Nat} {Q : State → Prop}
variable {cc : ByteArray} {nL pc : Nat} {ls : Array Slot} {rest : List Value} {own : String} {G : ad_G} {lo : Nat} {hp : ad_H} {a : Nat}
theorem ad_I.S (I : ad_I G lo s hp H locs) : va_S (fun q => lo ≤ q) s.heap H locs := ⟨I.2.2.1, fun q _ h2 => I.2.2.2.1 q (Nat.not_le.mp h2), I.2.2.2.2⟩
/-- a field that javac spells by a class below its declarer -/
theorem ad_getU (S : CallFix p m c cc nL s args ad_T own) (I : ad_I G lo s hp H locs) {ci : Nat} {fs : List Value} (he : hp a = some (.inr (ci, fs))) {C : String} {T : u_T} {N : Nat} {ty0 : Nat → FieldType} (K : ad_K ci C T N ty0) (k : Nat) (hk : k < N) {ref : String} {index : Nat} (hlink : Cond.fieldLink own index ref (T k).2.1 (T k).2.2.1 ∈ ad_T) (hsf : Cond.sameField ref (T k).1 (T k).2.1 (T k).2.2.1 ∈ ad_T) {v : Value} (hv : fs[k]? = some v) (hdg : decode cc pc = .ok (.getfield index, 3))
    (kk : W p l e R s m args below meth c H locs cells slots Q (F0 m (pc + 3) ls (v :: rest))) : W p l e R s m args below meth c H locs cells slots Q (F0 m pc ls (.ref a :: rest)) := by
  obtain ⟨hx, hb, -, hown, hts⟩ := S
  exact va_get (D := G.1) (cl := vwCl) (ws := [(a, .inr (ci, fs))]) hx hb hts K.2.1 hown I.1.2.1 (I.2.1.one he) 0 rfl K.1 k hk (hts _ hlink) (fun x h => u_same (hts _ hsf) x h) hv hdg kk
theorem ad_putU (S : CallFix p m c cc nL s args ad_T own) (I : ad_I G lo s hp H locs) {ci : Nat} {fs : List Value} (he : hp a = some (.inr (ci, fs))) {C : String} {T : u_T} {N : Nat} {ty0 : Nat → FieldType} (K : ad_K ci C T N ty0) (k : Nat) (hk : k < N) {ref : String} {index : Nat} (hlink : Cond.fieldLink own index ref (T k).2.1 (T k).2.2.1 ∈ ad_T) (hsf : Cond.sameField ref (T k).1 (T k).2.1 (T k).2.2.1 ∈ ad_T) (hfin : (T k).2.2.2 = false) {v : Value} (hn : narrow (ty0 k) v = v) (hfit : fits (ty0 k) v = true) (hl : k < fs.length) (hdg : decode cc pc = .ok (.putfield index, 3))
    (kk : ∀ (H1 : Heap) (locs1 : List Loc), ad_I G lo s (ad_up hp a (.inr (ci, fs.set k v))) H1 locs1 → W p l e R s m args below meth c H1 locs1 cells slots Q (F0 m (pc + 3) ls rest)) : W p l e R s m args below meth c H locs cells slots Q (F0 m pc ls (v :: .ref a :: rest)) := by
  obtain ⟨hx, hb, -, hown, hts⟩ := S
  obtain ⟨hB, hP, hz, hlo, hL⟩ := I
  obtain ⟨hc, hin, hty, hnm⟩ := K
  have hap := va_apart (own := own) hts hin ty0 hty hnm hB.2.1 hc
  obtain ⟨hla, r, h1, cell, q1, q2, q3, q4⟩ := hP a _ he
  have hr : r = (C, T, N) := Option.some.inj (h1.symm.trans hc)
  subst hr
  obtain ⟨hS, hfc, kC, hkC, hkind⟩ := hB.2.1.1 ci _ hc
  obtain ⟨cf, kf, fi, f, hi, hsl⟩ := hS k hk
  have hlay := hts _ (hin _ (u_in_lay hk))
  unfold u_lay at hlay
  rw [if_neg (by rw [hfin]; decide)] at hlay
  have hst := (u_facts hfc hkC (u_lays hts hin hk) hi).1
  have h6 := u_store hfc hkC hkind hlay hi (hty k hk) hn hfit
  refine W.putK hx hb (f := f) ⟨hown, hts _ hlink, ⟨_, _, _, u_same (hts _ hsf) _ hi⟩, hst⟩ (by rw [q2]; exact h6) q1 q3 (by rw [hsl]; exact k2_hasslot (q4 k hk)) rfl rfl hdg fun H' e1 e2 e3 => ?_
  rw [hsl] at e1 ⊢
  exact kk H' _ ⟨hB, hP.set he ⟨_, hc, t_OB.to (V := updV (vp_V fs) k v) ⟨_, e1, q2, q3, t_set q4 hap hk v⟩ (fun j _ => vp_updV_set hl v j)⟩ e3, by rw [e2]; exact hz, fun q hq => (e3 q (Nat.ne_of_lt (Nat.lt_of_lt_of_le hq hla))).trans (hlo q hq), t_lc hL hla⟩
theorem ad_aald (S : CallFix p m c cc nL s args ad_T own) (I : ad_I G lo s hp H locs) {n : Nat} {f : Nat → Option Nat} (he : hp a = some (ad_ra G n f)) {i : Int32} (hin : vp_in i n) (hdg : decode cc pc = .ok (.aaload, 1))
    (kk : W p l e R s m args below meth c H locs cells slots Q (F0 m (pc + 1) ls (va_rf (f i.toNatClampNeg) :: rest))) : W p l e R s m args below meth c H locs cells slots Q (F0 m pc ls (.int i :: .ref a :: rest)) := by
  obtain ⟨hx, hb, -, hown, hts⟩ := S
  exact va_aldq (D := G.1) (cl := vwCl) (ws := [(a, _)]) hx hb I.1.2.1 (I.2.1.one he) 0 1 rfl rfl hin hdg kk
/-- an object goes into an array of Objects -/
theorem ad_aast (S : CallFix p m c cc nL s args ad_T own) (I : ad_I G lo s hp H locs) {n : Nat} {f : Nat → Option Nat} (he : hp a = some (ad_ra G n f)) {v ci : Nat} {vs : List Value} (hv : hp v = some (.inr (ci, vs))) {C : String} {T : u_T} {N : Nat} {ty0 : Nat → FieldType} (K : ad_K ci C T N ty0) (hca : Cond.castable C "java/lang/Object" ∈ ad_T) {i : Int32} (hin : vp_in i n) (hdg : decode cc pc = .ok (.aastore, 1))
    (kk : ∀ (H1 : Heap) (locs1 : List Loc), ad_I G lo s (ad_up hp a (ad_ra G n (va_up f i.toNatClampNeg (some v)))) H1 locs1 → W p l e R s m args below meth c H1 locs1 cells slots Q (F0 m (pc + 1) ls rest)) : W p l e R s m args below meth c H locs cells slots Q (F0 m pc ls (.ref v :: .int i :: .ref a :: rest)) := by
  obtain ⟨hx, hb, -, hown, hts⟩ := S
  obtain ⟨hB, hP, hz, hlo, hL⟩ := I
  obtain ⟨hla, hat⟩ := hP a _ he
  obtain ⟨-, r', hr', cellV, g1, g2, g3, -⟩ := hP v _ hv
  have hcls := (hB.2.1.1 ci _ K.1).2
  obtain ⟨kA, comp, k1, k2, k3, -⟩ := (hB.2.1.2 1 (G.2.1 1, .object "java/lang/Object") rfl).2
  obtain ⟨kc, hkc, -⟩ := Vm.findClass_spec k3
  obtain ⟨hfc, kV, hkV, -⟩ := hcls
  obtain ⟨c3, c4, hc3, hc4, hasg⟩ := Cond.castable_spec (hts _ hca)
  cases hc3.symm.trans hfc
  cases hc4.symm.trans k3
  have hlt : i.toNatClampNeg < n := Nat.not_le.mp fun q => hin (Or.inr q)
  refine W.aast hx hb (cell := arrV (G.2.1 1) n (fun j => va_rf (f j))) hat (fun q h => by cases h) (fun h => by cases h) k1 k2 rfl hkc ⟨fun q => hin (Or.inl q), by rw [arrV_size]; exact hlt⟩ g1 (fun q h => by rw [g3] at h; cases h) (by rw [g2]; exact hkV) (by rw [g2]; exact hasg) rfl rfl hdg fun H1 e1 e2 e3 => ?_
  refine kk H1 _ ⟨hB, hP.set he ?_ e3, by rw [e2]; exact hz, fun q hq => (e3 q (Nat.ne_of_lt (Nat.lt_of_lt_of_le hq hla))).trans (hlo q hq), t_lc hL hla⟩
  show H1[a]? = some (vp_cell _ _)
  rw [e1, vp_cell_q, arrV_store]
  congr 2
  funext q
  by_cases hq : q = i.toNatClampNeg
  · subst hq; simp [updV, va_up, va_rf]
  · simp [updV, va_up, hq]
/-- null goes into an array of Objects -/
theorem ad_aastN (S : CallFix p m c cc nL s args ad_T own) (I : ad_I G lo s hp H locs) {n : Nat} {f : Nat → Option Nat} (he : hp a = some (ad_ra G n f)) {i : Int32} (hin : vp_in i n) (hdg : decode cc pc = .ok (.aastore, 1))
    (kk : ∀ (H1 : Heap) (locs1 : List Loc), ad_I G lo s (ad_up hp a (ad_ra G n (va_up f i.toNatClampNeg none))) H1 locs1 → W p l e R s m args below meth c H1 locs1 cells slots Q (F0 m (pc + 1) ls rest)) : W p l e R s m args below meth c H locs cells slots Q (F0 m pc ls (.null :: .int i :: .ref a :: rest)) := by
  obtain ⟨hx, hb, -, hown, hts⟩ := S
  obtain ⟨hB, hP, hz, hlo, hL⟩ := I
  obtain ⟨hla, hat⟩ := hP a _ he
  refine va_WaastN hx hb (cell := arrV (G.2.1 1) n (fun j => va_rf (f j))) hat ((hB.2.1.2 1 (G.2.1 1, .object "java/lang/Object") rfl).1 n (fun j => va_rf (f j))) (fun h => by cases h) (by rw [arrV_size]; exact hin) rfl rfl hdg fun H1 e1 e2 e3 => ?_
  refine kk H1 _ ⟨hB, hP.set he ?_ e3, by rw [e2]; exact hz, fun q hq => (e3 q (Nat.ne_of_lt (Nat.lt_of_lt_of_le hq hla))).trans (hlo q hq), t_lc hL hla⟩
  show H1[a]? = some (vp_cell _ _)
  rw [e1, vp_cell_q, arrV_store]
  congr 2
  funext q
  by_cases hq : q = i.toNatClampNeg
  · subst hq; simp [updV, va_up, va_rf]
  · simp [updV, va_up, hq]
/-- a new array of Objects -/
theorem ad_anew (S : CallFix p m c cc nL s args ad_T own) (I : ad_I G lo s hp H locs) {index : Nat} (hcl : Cond.classLink own index "java/lang/Object" ∈ ad_T) {n : Nat} (hn : n < 100000) (hcells : cells + 1 ≤ R.cells) (hslots : slots + n ≤ R.slots) (hdg : decode cc pc = .ok (.anewarray index, 3))
    (kk : ∀ (q : Nat) (H1 : Heap), hp q = none → q = H.size → ad_I G lo s (ad_up hp q (ad_ra G n (fun _ => none))) H1 locs → W p l e R s m args below meth c H1 locs (cells + 1) (slots + n) Q (F0 m (pc + 3) ls (.ref q :: rest))) : W p l e R s m args below meth c H locs cells slots Q (F0 m pc ls (.int (nI n) :: rest)) := by
  obtain ⟨hx, hb, -, hown, hts⟩ := S
  obtain ⟨hB, hP, hz, hlo, hL⟩ := I
  have hlz : lo ≤ H.size := Nat.le_trans hB.1 hz
  have hcl2 : (nI n).toNatClampNeg = n := nI_clamp (by omega)
  refine W.anew hx hb hown (hts _ hcl) (hts _ w_270) rfl hdg rfl (nI_pos (by omega)) (by rw [hcl2]; omega) hcells (by rw [hcl2]; exact hslots) fun cA kA comp h1 h2 h3 h4 => ?_
  rw [hcl2]
  obtain ⟨-, -, -, -, -, h9⟩ := (hB.2.1.2 1 (G.2.1 1, .object "java/lang/Object") rfl).2
  cases h1.symm.trans h9
  refine kk H.size _ hP.fresh rfl ⟨hB, hP.new hlz ?_ (fun q hq => by rw [Array.getElem?_push, if_neg (Nat.ne_of_lt hq)]), by simp; omega, fun q hq => by rw [Array.getElem?_push, if_neg (Nat.ne_of_lt (Nat.lt_of_lt_of_le hq hlz))]; exact hlo q hq, hL⟩
  show (H.push _)[H.size]? = some (vp_cell _ _)
  rw [vp_cell_q, arrV_new]
  simp [va_rf]
/-- the shared empty array -/
theorem ad_gete (S : CallFix p m c cc nL s args ad_T own) (I : ad_I G lo s hp H locs) {index : Nat} (hlink : Cond.fieldLink own index "java/util/ArrayList" "DEFAULTCAPACITY_EMPTY_ELEMENTDATA" "[Ljava/lang/Object;" ∈ ad_T) (hdg : decode cc pc = .ok (.getstatic index, 3))
    (kk : W p l e R s m args below meth c H locs cells slots Q (F0 m (pc + 3) ls (.ref (G.2.2 0) :: rest))) : W p l e R s m args below meth c H locs cells slots Q (F0 m pc ls rest) := by
  obtain ⟨hx, hb, -, hown, hts⟩ := S
  exact va_gets hx hb I.1.2.2.2.2.2.2.2.2.2.1 I.S hown (hts _ hlink) (fun _ h => h) hdg kk
theorem ad_alenE (S : CallFix p m c cc nL s args ad_T own) (I : ad_I G lo s hp H locs) (hdg : decode cc pc = .ok (.arraylength, 1))
    (kk : W p l e R s m args below meth c H locs cells slots Q (F0 m (pc + 1) ls (.int 0 :: rest))) : W p l e R s m args below meth c H locs cells slots Q (F0 m pc ls (.ref (G.2.2 0) :: rest)) := by
  obtain ⟨hx, hb, -, hown, hts⟩ := S
  obtain ⟨g1, g2⟩ := I.1.2.2.2.2.2.2.2.2.2.2.1
  refine W.alen (ty := .object "java/lang/Object") hx hb (a := G.2.2 0) (cell := arrV (G.2.1 1) 0 (fun j => va_rf none)) (by rw [I.2.2.2.1 _ g1]; exact g2) ((I.1.2.1.2 1 (G.2.1 1, .object "java/lang/Object") rfl).1 0 _) (by rw [arrV_size]; rfl) rfl rfl hdg kk
end ADR
end
section
section ADS
variable {p : Program} {l : Launch} {e : Env} {R : Room} {s : State} {m : MethodId} {args : Array Value} {below : List Frame} {meth : Method} {c : Code} {H : Heap} {locs : List Loc} {cells slots : Nat} {Q : State → Prop}
variable {cc : ByteArray} {nL pc : Nat} {ls : Array Slot} {rest st : List Value} {own : String} {G : ad_G} {lo : Nat} {hp : ad_H} {a : Nat}
variable {y : MethodName} {cy : ByteArray} {ny : Nat} {rt : Option FieldType} {hs : List (Nat × Nat × Nat × Nat)} {d mc ms : Nat} {As : List Value}
/-- a call that answers nothing and writes nothing -/
theorem ad_cPn (S : CallFix p m c cc nL s args ad_T own) (I : ad_I G lo s hp H locs) (iv : ad_Iv p l e R s m args below meth c H locs cells slots pc ls st rest y As) (K : ad_Cp l y cy ny rt hs d mc ms G lo hp As (fun r => r = .inl none)) (Y : ad_Y y cy ny rt hs) (hls : ls.size = nL)
    (hR : d + 1 ≤ R.frames ∧ (rest.map fun v => v.category).sum + (ny + 11) + 37 * d ≤ R.locals) (hcells : cells + mc ≤ R.cells) (hslots : slots + ms ≤ R.slots) {ig : Instr} (hdg : decode cc pc = .ok (ig, 3))
    (k : W p l e R s m args below meth c H locs cells slots Q (F0 m (pc + 3) ls rest)) : W p l e R s m args below meth c H locs cells slots Q (F0 m pc ls st) :=
  ad_cP S I iv K Y hls hR hcells hslots hdg (fun v' hv => by cases hv; exact k) (fun C _ _ _ hv => by cases hv)
/-- a call that writes and answers a reference -/
theorem ad_cZq (S : CallFix p m c cc nL s args ad_T own) (I : ad_I G lo s hp H locs) (iv : ad_Iv p l e R s m args below meth c H locs cells slots pc ls st rest y As) {A : Nat → ad_H → Prop} (K : ad_Ct l y cy ny rt hs d mc ms G lo hp As (fun r hp' => ∃ q : Nat, r = .inl (some (.ref q)) ∧ A q hp')) (Y : ad_Y y cy ny rt hs) (hls : ls.size = nL)
    (hR : d + 1 ≤ R.frames ∧ (rest.map fun v => v.category).sum + (ny + 11) + 37 * d ≤ R.locals) (hcells : cells + mc ≤ R.cells) (hslots : slots + ms ≤ R.slots) {ig : Instr} (hdg : decode cc pc = .ok (ig, 3))
    (k : ∀ (q : Nat) (hp' : ad_H) (H1 : Heap) (locs1 : List Loc), A q hp' → ad_I G lo s hp' H1 locs1 → W p l e R s m args below meth c H1 locs1 (cells + mc) (slots + ms) Q (F0 m (pc + 3) ls (.ref q :: rest))) : W p l e R s m args below meth c H locs cells slots Q (F0 m pc ls st) :=
  ad_cZ S I iv K Y hls hR hcells hslots hdg (fun v' hp' H1 locs1 hv I' => by obtain ⟨q, h1, h2⟩ := hv; cases h1; exact k q hp' H1 locs1 h2 I') (fun C hp' H1 locs1 x cell hv => by obtain ⟨q, h1, -⟩ := hv; cases h1)
set_option maxHeartbeats 1000000 in
/-- System.arraycopy of references, from the start of one array to the start of another, where nothing was written yet -/
theorem ad_copyq (S : CallFix p m c cc nL s args ad_T own) (I : ad_I G lo s hp H []) (hls : ls.size = nL) {a0 n0 n1 : Nat} {f g : Nat → Option Nat} (ha0 : hp a0 = some (ad_ra G n0 f)) (ha1 : hp a = some (ad_ra G n1 g)) (hne : a0 ≠ a) {ci : Nat} {C : String} {T : u_T} {N : Nat} {ty0 : Nat → FieldType} (K : ad_K ci C T N ty0) (hca : Cond.castable C "java/lang/Object" ∈ ad_T)
    {n : Nat} (hn : n < 100000) (h4 : n ≤ n0) (h5 : n ≤ n1) (hel : ∀ i, i < n → ∀ y, f i = some y → ∃ vs, hp y = some (.inr (ci, vs))) {index : Nat} (hlink : Cond.methodLink own index ⟨"java/lang/System", "arraycopy", "(Ljava/lang/Object;ILjava/lang/Object;II)V"⟩ ∈ ad_T) (hnat : Cond.native ⟨"java/lang/System", "arraycopy", "(Ljava/lang/Object;ILjava/lang/Object;II)V"⟩ ∈ ad_T) (hstat : Cond.static ⟨"java/lang/System", "arraycopy", "(Ljava/lang/Object;ILjava/lang/Object;II)V"⟩ ∈ ad_T) (hini : Cond.initialized "java/lang/System" ∈ ad_T)
    (hframes : 1 ≤ R.frames) (hlocals : (rest.map fun v => v.category).sum + (nativeFrameWords "java/lang/System" "arraycopy" 5 + 11) ≤ R.locals) (hdg : decode cc pc = .ok (.invokestatic index, 3))
    (kk : ∀ (H1 : Heap) (locs1 : List Loc), ad_I G lo s (ad_up hp a (ad_ra G n1 (va_cpy f g 0 0 n))) H1 locs1 → W p l e R s m args below meth c H1 locs1 cells slots Q (F0 m (pc + 3) ls rest)) : W p l e R s m args below meth c H [] cells slots Q (F0 m pc ls (.int (nI n) :: .int 0 :: .ref a :: .int 0 :: .ref a0 :: rest)) := by
  obtain ⟨hx, hb, hml, hown, hts⟩ := S
  obtain ⟨hB, hP, hz, hlo, hL⟩ := id I
  have hcl : (nI n).toNatClampNeg = n := nI_clamp (by omega)
  have hP2 : va_P G.1 vwCl [(a0, ad_ra G n0 f), (a, ad_ra G n1 g)] H := by
    intro k q hk
    match k, hk with
    | 0, hk => cases hk; exact (hP _ _ ha0).2
    | 1, hk => cases hk; exact (hP _ _ ha1).2
    | k + 2, hk => simp at hk
  have hD2 : va_D (fun q => q = a ∨ q = a0) [(a0, ad_ra G n0 f), (a, ad_ra G n1 g)] := by
    refine ⟨fun i j x y hi hj hxy => ?_, fun k q hk => ?_⟩
    · match i, j, hi, hj with
      | 0, 0, _, _ => rfl
      | 0, 1, hi, hj => cases hi; cases hj; exact absurd hxy hne
      | 1, 0, hi, hj => cases hi; cases hj; exact absurd hxy.symm hne
      | 1, 1, _, _ => rfl
      | i + 2, _, hi, _ => simp at hi
      | 0, j + 2, _, hj => simp at hj
      | 1, j + 2, _, hj => simp at hj
    · match k, hk with
      | 0, hk => cases hk; exact Or.inr rfl
      | 1, hk => cases hk; exact Or.inl rfl
      | k + 2, hk => simp at hk
  refine va_copyq (D := G.1) (cl := vwCl) (A := fun q => q = a ∨ q = a0) (H0 := H) (E0 := "java/lang/Object") (E1 := "java/lang/Object") (C := C) hx hb (hml.trans hls.symm) hown (hts _ hlink) (hts _ hnat) (hts _ hstat) (hts _ hini) hB.2.1 hP2 hD2 va_S.rf 0 1 1 1 rfl rfl rfl rfl (by decide) (by decide) (nI_pos (by omega)) (by rw [hcl]; show 0 + n ≤ n0; omega) (by rw [hcl]; show 0 + n ≤ n1; omega) (fun i hi y hy => ?_) (fun comp c0 hc hc0 => ?_) hframes hlocals hdg (fun H1 locs1 hP1 hD1 hS1 => ?_)
  · rw [hcl] at hi
    have hy' : f i = some y := by
      have e0 : (0 : Int32).toNatClampNeg + i = i := by show 0 + i = i; omega
      rw [e0] at hy
      exact hy
    obtain ⟨vs, hv⟩ := hel i hi y hy'
    exact ad_recv I hv K
  · obtain ⟨c3, c4, hc3, hc4, hasg⟩ := Cond.castable_spec (hts _ hca)
    cases hc3.symm.trans hc0
    cases hc4.symm.trans hc
    exact hasg
  · rw [hcl] at hP1
    have hla := (hP _ _ ha1).1
    have hla0 := (hP _ _ ha0).1
    refine kk H1 locs1 ⟨hB, fun q e2 hq => ?_, Nat.le_trans hz hS1.1, fun q hq => ?_, fun q hq => ?_⟩
    · by_cases hqa : q = a
      · subst hqa
        rw [ad_up_s] at hq
        cases hq
        exact ⟨hla, hP1 1 _ rfl⟩
      · rw [ad_up_n _ hqa] at hq
        refine ⟨(hP q e2 hq).1, ?_⟩
        by_cases hq0 : q = a0
        · subst hq0
          cases ha0.symm.trans hq
          exact hP1 0 _ rfl
        · exact (hP q e2 hq).2.kept (hS1.2.1 q (hP.lt hq) (fun h => by rcases h with h | h; exact hqa h; exact hq0 h))
    · have hqz : q < H.size := Nat.lt_of_lt_of_le (Nat.lt_of_lt_of_le hq hB.1) hz
      exact (hS1.2.1 q hqz (fun h => by rcases h with h | h <;> omega)).trans (hlo q hq)
    · rcases hS1.2.2 q hq with h | h
      · rw [h]; exact hla
      · rw [h]; exact hla0
end ADS
end
section
abbrev ad_NSE : String := "java/util/NoSuchElementException"
abbrev ad_ISE : String := "java/lang/IllegalStateException"
abbrev ad_IAE : String := "java/lang/IllegalArgumentException"
set_option maxHeartbeats 4000000 in
set_option maxRecDepth 100000 in
theorem c_A_needBelow (l : Launch) (G : ad_G) (lo : Nat) (hp : ad_H) (v b : Int32) (hT : l.stackTraces = false) : ad_Cp l y_A_needBelow b_A_needBelow 2 rt_A_needBelow hs_A_needBelow 6 1 6 G lo hp [.int v, .int b] (fun r => ((¬ v < 0 ∧ v < b) ∧ r = .inl none) ∨ (¬ ((¬ v < 0 ∧ v < b)) ∧ r = .inr ad_NSE)) := by
  intro p e s m below meth c M hts hB hP
  have hx := M.1
  have hb := M.2.1
  have hml := M.2.2.1
  have hown : s.vm.findClass "AuditDraws" = some m.cls := M.2.2.2.1
  have S : CallFix p m c b_A_needBelow 2 s _ ad_T "AuditDraws" := ⟨hx, hb, hml, hown, hts⟩
  have I : ad_I G lo s hp s.heap [] := ad_I.rf hB hP
  have hl := lv_entry ([.int v, .int b]) (n := 2) (Nat.le_of_ble_eq_true rfl)
  rw [lg_entry_eq]
  generalize (lg_sl ([.int v, .int b]) ++ List.replicate (2 - (lg_sl ([.int v, .int b])).length) Slot.unset).toArray = ls at hl ⊢
  have hl : lv_has ls 2 [(0, .int v), (1, .int b)] := hl
  refine lv_iload_n hx hb d_A_needBelow_0 rfl (lv_at hl 0 rfl) ?_
  refine lv_if_lt (tgt := 9) hx hb d_A_needBelow_1 (by decide) (fun c1 => ?_) (fun c1 => ?_)
  · obtain ⟨q9, hq9⟩ := hB.2.2.2.2.2.2.1 (190, "there is no such number") (by decide)
    refine ad_thr S hT (X := "java/util/NoSuchElementException") (Yn := "java/lang/RuntimeException") (names := ["java/lang/Exception"]) (ix := 13) (bx := prog_25_method_4_code) (ic := 192) w_103 w_104 w_10 hq9 (ad_hat hB hts at_NSE) (by decide +kernel) (by decide +kernel) (by decide +kernel) (by decide +kernel) (by decide +kernel) (by decide +kernel) (by decide +kernel) hl.1 d_A_needBelow_9 d_A_needBelow_12 d_A_needBelow_13 d_A_needBelow_15 d_A_needBelow_18 (by decide) (by decide) (by decide) (by decide) (fun H1 cell h1 h2 h3 h4 h5 => ?_)
    exact ad_outP M h1 h2 h3 h4 h5 (by decide) (by decide) (by decide) (Or.inr ⟨fun h => h.1 c1, rfl⟩)
  · refine lv_iload_n hx hb d_A_needBelow_4 rfl (lv_at hl 0 rfl) ?_
    refine lv_iload_n hx hb d_A_needBelow_5 rfl (lv_at hl 1 rfl) ?_
    refine lv_icmp_lt (tgt := 19) hx hb d_A_needBelow_6 (by decide) (fun c6 => ?_) (fun c6 => ?_)
    · exact ad_vretP M (Or.inl ⟨⟨c1, c6⟩, rfl⟩) d_A_needBelow_19
    · obtain ⟨q9, hq9⟩ := hB.2.2.2.2.2.2.1 (190, "there is no such number") (by decide)
      refine ad_thr S hT (X := "java/util/NoSuchElementException") (Yn := "java/lang/RuntimeException") (names := ["java/lang/Exception"]) (ix := 13) (bx := prog_25_method_4_code) (ic := 192) w_103 w_104 w_10 hq9 (ad_hat hB hts at_NSE) (by decide +kernel) (by decide +kernel) (by decide +kernel) (by decide +kernel) (by decide +kernel) (by decide +kernel) (by decide +kernel) hl.1 d_A_needBelow_9 d_A_needBelow_12 d_A_needBelow_13 d_A_needBelow_15 d_A_needBelow_18 (by decide) (by decide) (by decide) (by decide) (fun H1 cell h1 h2 h3 h4 h5 => ?_)
      exact ad_outP M h1 h2 h3 h4 h5 (by decide) (by decide) (by decide) (Or.inr ⟨fun h => c6 h.2, rfl⟩)
set_option maxHeartbeats 4000000 in
set_option maxRecDepth 100000 in
theorem c_A_needNotNegative (l : Launch) (G : ad_G) (lo : Nat) (hp : ad_H) (v : Int32) (hT : l.stackTraces = false) : ad_Cp l y_A_needNotNegative b_A_needNotNegative 1 rt_A_needNotNegative hs_A_needNotNegative 6 1 6 G lo hp [.int v] (fun r => ((0 ≤ v) ∧ r = .inl none) ∨ (¬ ((0 ≤ v)) ∧ r = .inr ad_NSE)) := by
  intro p e s m below meth c M hts hB hP
  have hx := M.1
  have hb := M.2.1
  have hml := M.2.2.1
  have hown : s.vm.findClass "AuditDraws" = some m.cls := M.2.2.2.1
  have S : CallFix p m c b_A_needNotNegative 1 s _ ad_T "AuditDraws" := ⟨hx, hb, hml, hown, hts⟩
  have I : ad_I G lo s hp s.heap [] := ad_I.rf hB hP
  have hl := lv_entry ([.int v]) (n := 1) (Nat.le_of_ble_eq_true rfl)
  rw [lg_entry_eq]
  generalize (lg_sl ([.int v]) ++ List.replicate (1 - (lg_sl ([.int v])).length) Slot.unset).toArray = ls at hl ⊢
  have hl : lv_has ls 1 [(0, .int v)] := hl
  refine lv_iload_n hx hb d_A_needNotNegative_0 rfl (lv_at hl 0 rfl) ?_
  refine lv_if_ge (tgt := 14) hx hb d_A_needNotNegative_1 (by decide) (fun c1 => ?_) (fun c1 => ?_)
  · exact ad_vretP M (Or.inl ⟨c1, rfl⟩) d_A_needNotNegative_14
  · obtain ⟨q9, hq9⟩ := hB.2.2.2.2.2.2.1 (193, "k is below 0") (by decide)
    refine ad_thr S hT (X := "java/util/NoSuchElementException") (Yn := "java/lang/RuntimeException") (names := ["java/lang/Exception"]) (ix := 13) (bx := prog_25_method_4_code) (ic := 192) w_103 w_104 w_10 hq9 (ad_hat hB hts at_NSE) (by decide +kernel) (by decide +kernel) (by decide +kernel) (by decide +kernel) (by decide +kernel) (by decide +kernel) (by decide +kernel) hl.1 d_A_needNotNegative_4 d_A_needNotNegative_7 d_A_needNotNegative_8 d_A_needNotNegative_10 d_A_needNotNegative_13 (by decide) (by decide) (by decide) (by decide) (fun H1 cell h1 h2 h3 h4 h5 => ?_)
    exact ad_outP M h1 h2 h3 h4 h5 (by decide) (by decide) (by decide) (Or.inr ⟨c1, rfl⟩)
set_option maxHeartbeats 4000000 in
set_option maxRecDepth 100000 in
theorem c_A_needHour (l : Launch) (G : ad_G) (lo : Nat) (hp : ad_H) (v : Int32) (hT : l.stackTraces = false) : ad_Cp l y_A_needHour b_A_needHour 1 rt_A_needHour hs_A_needHour 6 1 6 G lo hp [.int v] (fun r => ((¬ v < 0 ∧ v ≤ 1000000) ∧ r = .inl none) ∨ (¬ ((¬ v < 0 ∧ v ≤ 1000000)) ∧ r = .inr ad_IAE)) := by
  intro p e s m below meth c M hts hB hP
  have hx := M.1
  have hb := M.2.1
  have hml := M.2.2.1
  have hown : s.vm.findClass "AuditDraws" = some m.cls := M.2.2.2.1
  have S : CallFix p m c b_A_needHour 1 s _ ad_T "AuditDraws" := ⟨hx, hb, hml, hown, hts⟩
  have I : ad_I G lo s hp s.heap [] := ad_I.rf hB hP
  have hl := lv_entry ([.int v]) (n := 1) (Nat.le_of_ble_eq_true rfl)
  rw [lg_entry_eq]
  generalize (lg_sl ([.int v]) ++ List.replicate (1 - (lg_sl ([.int v])).length) Slot.unset).toArray = ls at hl ⊢
  have hl : lv_has ls 1 [(0, .int v)] := hl
  refine lv_iload_n hx hb d_A_needHour_0 rfl (lv_at hl 0 rfl) ?_
  refine lv_if_lt (tgt := 10) hx hb d_A_needHour_1 (by decide) (fun c1 => ?_) (fun c1 => ?_)
  · obtain ⟨q9, hq9⟩ := hB.2.2.2.2.2.2.1 (198, "no hour") (by decide)
    refine ad_thr S hT (X := "java/lang/IllegalArgumentException") (Yn := "java/lang/RuntimeException") (names := ["java/lang/Exception"]) (ix := 7) (bx := prog_11_method_2_code) (ic := 68) w_288 w_289 w_17 hq9 (ad_hat hB hts at_IAE) (by decide +kernel) (by decide +kernel) (by decide +kernel) (by decide +kernel) (by decide +kernel) (by decide +kernel) (by decide +kernel) hl.1 d_A_needHour_10 d_A_needHour_13 d_A_needHour_14 d_A_needHour_16 d_A_needHour_19 (by decide) (by decide) (by decide) (by decide) (fun H1 cell h1 h2 h3 h4 h5 => ?_)
    exact ad_outP M h1 h2 h3 h4 h5 (by decide) (by decide) (by decide) (Or.inr ⟨fun h => h.1 c1, rfl⟩)
  · refine lv_iload_n hx hb d_A_needHour_4 rfl (lv_at hl 0 rfl) ?_
    refine lv_ldc (v := 1000000) hx hb hown (hts _ w_464) d_A_needHour_5 ?_
    refine lv_icmp_le (tgt := 20) hx hb d_A_needHour_7 (by decide) (fun c7 => ?_) (fun c7 => ?_)
    · exact ad_vretP M (Or.inl ⟨⟨c1, c7⟩, rfl⟩) d_A_needHour_20
    · obtain ⟨q9, hq9⟩ := hB.2.2.2.2.2.2.1 (198, "no hour") (by decide)
      refine ad_thr S hT (X := "java/lang/IllegalArgumentException") (Yn := "java/lang/RuntimeException") (names := ["java/lang/Exception"]) (ix := 7) (bx := prog_11_method_2_code) (ic := 68) w_288 w_289 w_17 hq9 (ad_hat hB hts at_IAE) (by decide +kernel) (by decide +kernel) (by decide +kernel) (by decide +kernel) (by decide +kernel) (by decide +kernel) (by decide +kernel) hl.1 d_A_needHour_10 d_A_needHour_13 d_A_needHour_14 d_A_needHour_16 d_A_needHour_19 (by decide) (by decide) (by decide) (by decide) (fun H1 cell h1 h2 h3 h4 h5 => ?_)
      exact ad_outP M h1 h2 h3 h4 h5 (by decide) (by decide) (by decide) (Or.inr ⟨fun h => c7 h.2, rfl⟩)
end
section
/-- a digit's weight by kind (k: its place) -/
def sp_dbl (v : Int32) : Int32 := if 2 * v ≤ 9 then 2 * v else 2 * v - 9
def sp_wd (kind k v : Int32) : Int32 := if kind = 0 then (if k - k / 2 * 2 = 0 then sp_dbl v else v) else if kind = 1 then (if k - k / 2 * 2 = 0 then 3 * v else v) else v * (k - k / 6 * 6 + 2)
/-- after j places: the sum, and what is left of the number -/
def sp_ws (kind : Int32) (number : Int64) : Nat → Int32 × Int64
  | 0 => (0, number)
  | j + 1 => ((sp_ws kind number j).1 + sp_wd kind (nI j) ((sp_ws kind number j).2 - (sp_ws kind number j).2 / 10 * 10).toInt32, (sp_ws kind number j).2 / 10)
def sp_of (kind : Int32) (number : Int64) : Int32 := let sm := (sp_ws kind number 18).1
  if kind = 0 ∨ kind = 1 then (10 - (sm - sm / 10 * 10)) - (10 - (sm - sm / 10 * 10)) / 10 * 10 else (11 - (sm - sm / 11 * 11)) - (11 - (sm - sm / 11 * 11)) / 11 * 11
set_option maxHeartbeats 4000000 in
set_option maxRecDepth 100000 in
theorem c_C_doubled (l : Launch) (G : ad_G) (lo : Nat) (hp : ad_H) (v : Int32) : ad_Cp l y_C_doubled b_C_doubled 2 rt_C_doubled hs_C_doubled 1 0 0 G lo hp [.int v] (fun r => r = .inl (some (.int (sp_dbl v)))) := by
  intro p e s m below meth c M hts hB hP
  have hx := M.1
  have hb := M.2.1
  have hml := M.2.2.1
  have hown : s.vm.findClass "AuditDraws$CheckDigits" = some m.cls := M.2.2.2.1
  have S : CallFix p m c b_C_doubled 2 s _ ad_T "AuditDraws$CheckDigits" := ⟨hx, hb, hml, hown, hts⟩
  have I : ad_I G lo s hp s.heap [] := ad_I.rf hB hP
  have hl := lv_entry ([.int v]) (n := 2) (Nat.le_of_ble_eq_true rfl)
  rw [lg_entry_eq]
  generalize (lg_sl ([.int v]) ++ List.replicate (2 - (lg_sl ([.int v])).length) Slot.unset).toArray = ls at hl ⊢
  have hl : lv_has ls 2 [(0, .int v)] := hl
  refine lv_iconst (v := 2) hx hb d_C_doubled_0 (by decide) ?_
  refine lv_iload_n hx hb d_C_doubled_1 rfl (lv_at hl 0 rfl) ?_
  refine lv_imul hx hb d_C_doubled_2 ?_
  refine lv_istore_n (lv' := [(1, .int (2 * v)), (0, .int v)]) hx hb d_C_doubled_3 rfl hl (by decide) rfl (fun ls hl => ?_)
  refine lv_iload_n hx hb d_C_doubled_4 rfl (lv_at hl 0 rfl) ?_
  refine lv_bipush (v := 9) hx hb d_C_doubled_5 (by decide) ?_
  refine lv_icmp_le (tgt := 17) hx hb d_C_doubled_7 (by decide) (fun c7 => ?_) (fun c7 => ?_)
  · refine lv_iload_n hx hb d_C_doubled_17 rfl (lv_at hl 0 rfl) ?_
    exact ad_iretP M rfl (by rw [show sp_dbl v = 2 * v from if_pos c7]) d_C_doubled_18
  · refine lv_iload_n hx hb d_C_doubled_10 rfl (lv_at hl 0 rfl) ?_
    refine lv_bipush (v := 9) hx hb d_C_doubled_11 (by decide) ?_
    refine lv_isub hx hb d_C_doubled_13 ?_
    refine lv_goto (tgt := 18) hx hb d_C_doubled_14 (by decide) ?_
    exact ad_iretP M rfl (by rw [show sp_dbl v = (2 * v) - 9 from if_neg c7]) d_C_doubled_18
set_option maxHeartbeats 4000000 in
set_option maxRecDepth 100000 in
theorem c_C_weighed (l : Launch) (G : ad_G) (lo : Nat) (hp : ad_H) (kind k v : Int32) : ad_Cp l y_C_weighed b_C_weighed 4 rt_C_weighed hs_C_weighed 2 0 0 G lo hp [.int kind, .int k, .int v] (fun r => r = .inl (some (.int (sp_wd kind k v)))) := by
  intro p e s m below meth c M hts hB hP
  have hx := M.1
  have hb := M.2.1
  have hml := M.2.2.1
  have hown : s.vm.findClass "AuditDraws$CheckDigits" = some m.cls := M.2.2.2.1
  have S : CallFix p m c b_C_weighed 4 s _ ad_T "AuditDraws$CheckDigits" := ⟨hx, hb, hml, hown, hts⟩
  have I : ad_I G lo s hp s.heap [] := ad_I.rf hB hP
  have hl := lv_entry ([.int kind, .int k, .int v]) (n := 4) (Nat.le_of_ble_eq_true rfl)
  rw [lg_entry_eq]
  generalize (lg_sl ([.int kind, .int k, .int v]) ++ List.replicate (4 - (lg_sl ([.int kind, .int k, .int v])).length) Slot.unset).toArray = ls at hl ⊢
  have hl : lv_has ls 4 [(0, .int kind), (1, .int k), (2, .int v)] := hl
  refine lv_iload_n hx hb d_C_weighed_0 rfl (lv_at hl 1 rfl) ?_
  refine lv_iconst (v := 2) hx hb d_C_weighed_1 (by decide) ?_
  refine lv_irem hx hb d_C_weighed_2 (by decide) ?_
  refine lv_if_ne (tgt := 10) hx hb d_C_weighed_3 (by decide) (fun c3 => ?_) (fun c3 => ?_)
  · refine lv_iconst (v := 0) hx hb d_C_weighed_10 (by decide) ?_
    refine lv_istore_n (lv' := [(3, .int 0), (0, .int kind), (1, .int k), (2, .int v)]) hx hb d_C_weighed_11 rfl hl (by decide) rfl (fun ls hl => ?_)
    refine lv_iload_n hx hb d_C_weighed_12 rfl (lv_at hl 1 rfl) ?_
    refine lv_if_ne (tgt := 29) hx hb d_C_weighed_13 (by decide) (fun c13 => ?_) (fun c13 => ?_)
    · refine lv_iload_n hx hb d_C_weighed_29 rfl (lv_at hl 1 rfl) ?_
      refine lv_iconst (v := 1) hx hb d_C_weighed_30 (by decide) ?_
      refine lv_icmp_ne (tgt := 46) hx hb d_C_weighed_31 (by decide) (fun c31 => ?_) (fun c31 => ?_)
      · refine lv_iload_n hx hb d_C_weighed_46 rfl (lv_at hl 3 rfl) ?_
        refine lv_iload_n hx hb d_C_weighed_47 rfl (lv_at hl 2 rfl) ?_
        refine lv_bipush (v := 6) hx hb d_C_weighed_48 (by decide) ?_
        refine lv_irem hx hb d_C_weighed_50 (by decide) ?_
        refine lv_iconst (v := 2) hx hb d_C_weighed_51 (by decide) ?_
        refine lv_iadd hx hb d_C_weighed_52 ?_
        refine lv_imul hx hb d_C_weighed_53 ?_
        exact ad_iretP M rfl (by simp [sp_wd, c3, c13, c31]) d_C_weighed_54
      · refine lv_iload_n hx hb d_C_weighed_34 rfl (lv_at hl 0 rfl) ?_
        refine lv_if_eq (tgt := 44) hx hb d_C_weighed_35 (by decide) (fun c => ?_) (fun c => ?_)
        · refine lv_iload_n hx hb d_C_weighed_44 rfl (lv_at hl 3 rfl) ?_
          exact ad_iretP M rfl (by simp [sp_wd, c3, c13, c31]) d_C_weighed_45
        · exact absurd rfl c
    · refine lv_iload_n hx hb d_C_weighed_16 rfl (lv_at hl 0 rfl) ?_
      refine lv_if_eq (tgt := 27) hx hb d_C_weighed_17 (by decide) (fun c => ?_) (fun c => ?_)
      · refine lv_iload_n hx hb d_C_weighed_27 rfl (lv_at hl 3 rfl) ?_
        exact ad_iretP M rfl (by simp [sp_wd, c3, c13]) d_C_weighed_28
      · exact absurd rfl c
  · refine lv_iconst (v := 1) hx hb d_C_weighed_6 (by decide) ?_
    refine lv_goto (tgt := 11) hx hb d_C_weighed_7 (by decide) ?_
    refine lv_istore_n (lv' := [(3, .int 1), (0, .int kind), (1, .int k), (2, .int v)]) hx hb d_C_weighed_11 rfl hl (by decide) rfl (fun ls hl => ?_)
    refine lv_iload_n hx hb d_C_weighed_12 rfl (lv_at hl 1 rfl) ?_
    refine lv_if_ne (tgt := 29) hx hb d_C_weighed_13 (by decide) (fun c13 => ?_) (fun c13 => ?_)
    · refine lv_iload_n hx hb d_C_weighed_29 rfl (lv_at hl 1 rfl) ?_
      refine lv_iconst (v := 1) hx hb d_C_weighed_30 (by decide) ?_
      refine lv_icmp_ne (tgt := 46) hx hb d_C_weighed_31 (by decide) (fun c31 => ?_) (fun c31 => ?_)
      · refine lv_iload_n hx hb d_C_weighed_46 rfl (lv_at hl 3 rfl) ?_
        refine lv_iload_n hx hb d_C_weighed_47 rfl (lv_at hl 2 rfl) ?_
        refine lv_bipush (v := 6) hx hb d_C_weighed_48 (by decide) ?_
        refine lv_irem hx hb d_C_weighed_50 (by decide) ?_
        refine lv_iconst (v := 2) hx hb d_C_weighed_51 (by decide) ?_
        refine lv_iadd hx hb d_C_weighed_52 ?_
        refine lv_imul hx hb d_C_weighed_53 ?_
        exact ad_iretP M rfl (by simp [sp_wd, c3, c13, c31]) d_C_weighed_54
      · refine lv_iload_n hx hb d_C_weighed_34 rfl (lv_at hl 0 rfl) ?_
        refine lv_if_eq (tgt := 44) hx hb d_C_weighed_35 (by decide) (fun c => ?_) (fun c => ?_)
        · exact absurd c (by decide)
        · refine lv_iconst (v := 3) hx hb d_C_weighed_38 (by decide) ?_
          refine lv_iload_n hx hb d_C_weighed_39 rfl (lv_at hl 3 rfl) ?_
          refine lv_imul hx hb d_C_weighed_40 ?_
          refine lv_goto (tgt := 45) hx hb d_C_weighed_41 (by decide) ?_
          exact ad_iretP M rfl (by simp [sp_wd, c3, c13, c31]) d_C_weighed_45
    · refine lv_iload_n hx hb d_C_weighed_16 rfl (lv_at hl 0 rfl) ?_
      refine lv_if_eq (tgt := 27) hx hb d_C_weighed_17 (by decide) (fun c => ?_) (fun c => ?_)
      · exact absurd c (by decide)
      · refine lv_iload_n hx hb d_C_weighed_20 rfl (lv_at hl 3 rfl) ?_
        refine ad_cPi S I (ad_ivS (As := [.int v]) (rest := []) S Y_C_doubled w_440 w_441 w_20 ⟨by decide, by decide, np_C_doubled⟩ rfl d_C_weighed_21) (c_C_doubled l G lo hp v) Y_C_doubled hl.1 ⟨Nat.le_of_ble_eq_true rfl, Nat.le_of_ble_eq_true rfl⟩ (Nat.le_of_ble_eq_true rfl) (Nat.le_of_ble_eq_true rfl) d_C_weighed_21 ?_
        refine lv_goto (tgt := 28) hx hb d_C_weighed_24 (by decide) ?_
        exact ad_iretP M rfl (by simp [sp_wd, c3, c13]) d_C_weighed_28
set_option maxHeartbeats 4000000 in
set_option maxRecDepth 100000 in
theorem c_C_weighedSum (l : Launch) (G : ad_G) (lo : Nat) (hp : ad_H) (kind : Int32) (number : Int64) : ad_Cp l y_C_weighedSum b_C_weighedSum 7 rt_C_weighedSum hs_C_weighedSum 3 0 0 G lo hp [.int kind, .long number] (fun r => r = .inl (some (.int (sp_ws kind number 18).1))) := by
  intro p e s m below meth c M hts hB hP
  have hx := M.1
  have hb := M.2.1
  have hml := M.2.2.1
  have hown : s.vm.findClass "AuditDraws$CheckDigits" = some m.cls := M.2.2.2.1
  have S : CallFix p m c b_C_weighedSum 7 s _ ad_T "AuditDraws$CheckDigits" := ⟨hx, hb, hml, hown, hts⟩
  have I : ad_I G lo s hp s.heap [] := ad_I.rf hB hP
  have hl := lv_entry ([.int kind, .long number]) (n := 7) (Nat.le_of_ble_eq_true rfl)
  rw [lg_entry_eq]
  generalize (lg_sl ([.int kind, .long number]) ++ List.replicate (7 - (lg_sl ([.int kind, .long number])).length) Slot.unset).toArray = ls at hl ⊢
  have hl : lv_has ls 7 [(0, .int kind), (1, .long number)] := hl
  have loop : ∀ (n : Nat) (j : Nat), 18 < j + n ∧ j ≤ 18 → ∀ ls : Array Slot, lv_has ls 7 [(0, .int kind), (3, .int ((sp_ws kind number j).1)), (4, .long ((sp_ws kind number j).2)), (6, .int (nI j))] → W p l e (ad_rm 3 0 0) s m ([.int kind, .long number] : List Value).toArray below meth c s.heap [] 0 0 (ad_Zp below (fun r => r = .inl (some (.int (sp_ws kind number 18).1))) s 0 0) (F0 m 8 ls []) := by
    intro n
    induction n with
    | zero => intro j h0 ls hl; exact absurd h0 (by omega)
    | succ n ih =>
      intro j h0 ls hl
      refine lv_iload hx hb d_C_weighedSum_8 (lv_at hl 3 rfl) ?_
      refine lv_bipush (v := 18) hx hb d_C_weighedSum_10 (by decide) ?_
      refine lv_icmp_ge (tgt := 45) hx hb d_C_weighedSum_12 (by decide) (fun c12 => ?_) (fun c12 => ?_)
      · obtain rfl : j = 18 := by have := (nI_leI (a := 18) (b := j) (by omega) (by omega)).mp c12; omega
        refine lv_iload_n hx hb d_C_weighedSum_45 rfl (lv_at hl 1 rfl) ?_
        exact ad_iretP M rfl rfl d_C_weighedSum_46
      · have hj : j < 18 := by
          rcases Nat.lt_or_ge j 18 with q | q
          · exact q
          · exact absurd (nI_le (a := 18) q (by omega)) c12
        refine lv_iload_n hx hb d_C_weighedSum_15 rfl (lv_at hl 1 rfl) ?_
        refine lv_iload_n hx hb d_C_weighedSum_16 rfl (lv_at hl 0 rfl) ?_
        refine lv_iload hx hb d_C_weighedSum_17 (lv_at hl 3 rfl) ?_
        refine lv_lload hx hb d_C_weighedSum_19 (lv_at hl 2 rfl) ?_
        refine lv_ldc2 (v := 10) hx hb hown (hts _ w_436) d_C_weighedSum_21 ?_
        refine lv_lrem hx hb d_C_weighedSum_24 (by decide) ?_
        refine lv_l2i (v := (((sp_ws kind number j).2) - ((sp_ws kind number j).2) / 10 * 10).toInt32) hx hb d_C_weighedSum_25 rfl ?_
        refine ad_cPi S I (ad_ivS (As := [.int kind, .int (nI j), .int ((((sp_ws kind number j).2) - ((sp_ws kind number j).2) / 10 * 10).toInt32)]) (rest := [.int ((sp_ws kind number j).1)]) S Y_C_weighed w_437 w_438 w_20 ⟨by decide, by decide, np_C_weighed⟩ rfl d_C_weighedSum_26) (c_C_weighed l G lo hp kind (nI j) ((((sp_ws kind number j).2) - ((sp_ws kind number j).2) / 10 * 10).toInt32)) Y_C_weighed hl.1 ⟨Nat.le_of_ble_eq_true rfl, Nat.le_of_ble_eq_true rfl⟩ (Nat.le_of_ble_eq_true rfl) (Nat.le_of_ble_eq_true rfl) d_C_weighedSum_26 ?_
        refine lv_iadd hx hb d_C_weighedSum_29 ?_
        refine lv_istore_n (lv' := [(3, .int (((sp_ws kind number j).1) + (sp_wd kind (nI j) ((((sp_ws kind number j).2) - ((sp_ws kind number j).2) / 10 * 10).toInt32)))), (0, .int kind), (4, .long ((sp_ws kind number j).2)), (6, .int (nI j))]) hx hb d_C_weighedSum_30 rfl hl (by decide) rfl (fun ls hl => ?_)
        refine lv_lload hx hb d_C_weighedSum_31 (lv_at hl 2 rfl) ?_
        refine lv_ldc2 (v := 10) hx hb hown (hts _ w_436) d_C_weighedSum_33 ?_
        refine lv_ldiv hx hb d_C_weighedSum_36 (by decide) ?_
        refine lv_lstore (lv' := [(4, .long (((sp_ws kind number j).2) / 10)), (3, .int (((sp_ws kind number j).1) + (sp_wd kind (nI j) ((((sp_ws kind number j).2) - ((sp_ws kind number j).2) / 10 * 10).toInt32)))), (0, .int kind), (6, .int (nI j))]) hx hb d_C_weighedSum_37 hl (by decide) rfl (fun ls hl => ?_)
        refine lv_iinc (v := (nI (j + 1))) (lv' := [(6, .int (nI (j + 1))), (4, .long (((sp_ws kind number j).2) / 10)), (3, .int (((sp_ws kind number j).1) + (sp_wd kind (nI j) ((((sp_ws kind number j).2) - ((sp_ws kind number j).2) / 10 * 10).toInt32)))), (0, .int kind)]) hx hb d_C_weighedSum_39 hl (k := 3) rfl (nI_1 j) (by decide) rfl (fun ls hl => ?_)
        refine lv_goto (tgt := 8) hx hb d_C_weighedSum_42 (by decide) ?_
        exact ih (j + 1) (by omega) ls (lv_sub hl [3, 2, 1, 0] rfl)
  refine lv_iconst (v := 0) hx hb d_C_weighedSum_0 (by decide) ?_
  refine lv_istore_n (lv' := [(3, .int 0), (0, .int kind), (1, .long number)]) hx hb d_C_weighedSum_1 rfl hl (by decide) rfl (fun ls hl => ?_)
  refine lv_lload_n hx hb d_C_weighedSum_2 rfl (lv_at hl 2 rfl) ?_
  refine lv_lstore (lv' := [(4, .long number), (3, .int 0), (0, .int kind), (1, .long number)]) hx hb d_C_weighedSum_3 hl (by decide) rfl (fun ls hl => ?_)
  refine lv_iconst (v := 0) hx hb d_C_weighedSum_5 (by decide) ?_
  refine lv_istore (lv' := [(6, .int 0), (4, .long number), (3, .int 0), (0, .int kind), (1, .long number)]) hx hb d_C_weighedSum_6 hl (by decide) rfl (fun ls hl => ?_)
  exact loop 19 0 (by omega) ls (lv_sub hl [3, 2, 1, 0] rfl)
set_option maxHeartbeats 4000000 in
set_option maxRecDepth 100000 in
theorem c_C_of (l : Launch) (G : ad_G) (lo : Nat) (hp : ad_H) (kind : Int32) (number : Int64) : ad_Cp l y_C_of b_C_of 4 rt_C_of hs_C_of 4 0 0 G lo hp [.int kind, .long number] (fun r => r = .inl (some (.int (sp_of kind number)))) := by
  intro p e s m below meth c M hts hB hP
  have hx := M.1
  have hb := M.2.1
  have hml := M.2.2.1
  have hown : s.vm.findClass "AuditDraws$CheckDigits" = some m.cls := M.2.2.2.1
  have S : CallFix p m c b_C_of 4 s _ ad_T "AuditDraws$CheckDigits" := ⟨hx, hb, hml, hown, hts⟩
  have I : ad_I G lo s hp s.heap [] := ad_I.rf hB hP
  have hl := lv_entry ([.int kind, .long number]) (n := 4) (Nat.le_of_ble_eq_true rfl)
  rw [lg_entry_eq]
  generalize (lg_sl ([.int kind, .long number]) ++ List.replicate (4 - (lg_sl ([.int kind, .long number])).length) Slot.unset).toArray = ls at hl ⊢
  have hl : lv_has ls 4 [(0, .int kind), (1, .long number)] := hl
  refine lv_iload_n hx hb d_C_of_0 rfl (lv_at hl 0 rfl) ?_
  refine lv_lload_n hx hb d_C_of_1 rfl (lv_at hl 1 rfl) ?_
  refine ad_cPi S I (ad_ivS (As := [.int kind, .long number]) (rest := []) S Y_C_weighedSum w_433 w_434 w_20 ⟨by decide, by decide, np_C_weighedSum⟩ rfl d_C_of_2) (c_C_weighedSum l G lo hp kind number) Y_C_weighedSum hl.1 ⟨Nat.le_of_ble_eq_true rfl, Nat.le_of_ble_eq_true rfl⟩ (Nat.le_of_ble_eq_true rfl) (Nat.le_of_ble_eq_true rfl) d_C_of_2 ?_
  refine lv_istore_n (lv' := [(3, .int ((sp_ws kind number 18).1)), (0, .int kind), (1, .long number)]) hx hb d_C_of_5 rfl hl (by decide) rfl (fun ls hl => ?_)
  refine lv_iload_n hx hb d_C_of_6 rfl (lv_at hl 1 rfl) ?_
  refine lv_if_eq (tgt := 15) hx hb d_C_of_7 (by decide) (fun c7 => ?_) (fun c7 => ?_)
  · refine lv_bipush (v := 10) hx hb d_C_of_15 (by decide) ?_
    refine lv_iload_n hx hb d_C_of_17 rfl (lv_at hl 0 rfl) ?_
    refine lv_bipush (v := 10) hx hb d_C_of_18 (by decide) ?_
    refine lv_irem hx hb d_C_of_20 (by decide) ?_
    refine lv_isub hx hb d_C_of_21 ?_
    refine lv_bipush (v := 10) hx hb d_C_of_22 (by decide) ?_
    refine lv_irem hx hb d_C_of_24 (by decide) ?_
    refine lv_goto (tgt := 38) hx hb d_C_of_25 (by decide) ?_
    exact ad_iretP M rfl (by simp [sp_of, c7]) d_C_of_38
  · refine lv_iload_n hx hb d_C_of_10 rfl (lv_at hl 1 rfl) ?_
    refine lv_iconst (v := 1) hx hb d_C_of_11 (by decide) ?_
    refine lv_icmp_ne (tgt := 28) hx hb d_C_of_12 (by decide) (fun c12 => ?_) (fun c12 => ?_)
    · refine lv_bipush (v := 11) hx hb d_C_of_28 (by decide) ?_
      refine lv_iload_n hx hb d_C_of_30 rfl (lv_at hl 0 rfl) ?_
      refine lv_bipush (v := 11) hx hb d_C_of_31 (by decide) ?_
      refine lv_irem hx hb d_C_of_33 (by decide) ?_
      refine lv_isub hx hb d_C_of_34 ?_
      refine lv_bipush (v := 11) hx hb d_C_of_35 (by decide) ?_
      refine lv_irem hx hb d_C_of_37 (by decide) ?_
      exact ad_iretP M rfl (by simp [sp_of, c7, c12]) d_C_of_38
    · refine lv_bipush (v := 10) hx hb d_C_of_15 (by decide) ?_
      refine lv_iload_n hx hb d_C_of_17 rfl (lv_at hl 0 rfl) ?_
      refine lv_bipush (v := 10) hx hb d_C_of_18 (by decide) ?_
      refine lv_irem hx hb d_C_of_20 (by decide) ?_
      refine lv_isub hx hb d_C_of_21 ?_
      refine lv_bipush (v := 10) hx hb d_C_of_22 (by decide) ?_
      refine lv_irem hx hb d_C_of_24 (by decide) ?_
      refine lv_goto (tgt := 38) hx hb d_C_of_25 (by decide) ?_
      exact ad_iretP M rfl (by simp [sp_of, c7, c12]) d_C_of_38
def sp_closes (kind : Int32) (number : Int64) : Int32 := if sp_of kind (number / 10) = (number - number / 10 * 10).toInt32 then 1 else 0
set_option maxHeartbeats 4000000 in
set_option maxRecDepth 100000 in
theorem c_C_closes (l : Launch) (G : ad_G) (lo : Nat) (hp : ad_H) (kind : Int32) (number : Int64) : ad_Cp l y_C_closes b_C_closes 4 rt_C_closes hs_C_closes 5 0 0 G lo hp [.int kind, .long number] (fun r => r = .inl (some (.int (sp_closes kind number)))) := by
  intro p e s m below meth c M hts hB hP
  have hx := M.1
  have hb := M.2.1
  have hml := M.2.2.1
  have hown : s.vm.findClass "AuditDraws$CheckDigits" = some m.cls := M.2.2.2.1
  have S : CallFix p m c b_C_closes 4 s _ ad_T "AuditDraws$CheckDigits" := ⟨hx, hb, hml, hown, hts⟩
  have I : ad_I G lo s hp s.heap [] := ad_I.rf hB hP
  have hl := lv_entry ([.int kind, .long number]) (n := 4) (Nat.le_of_ble_eq_true rfl)
  rw [lg_entry_eq]
  generalize (lg_sl ([.int kind, .long number]) ++ List.replicate (4 - (lg_sl ([.int kind, .long number])).length) Slot.unset).toArray = ls at hl ⊢
  have hl : lv_has ls 4 [(0, .int kind), (1, .long number)] := hl
  refine lv_lload_n hx hb d_C_closes_0 rfl (lv_at hl 1 rfl) ?_
  refine lv_ldc2 (v := 10) hx hb hown (hts _ w_436) d_C_closes_1 ?_
  refine lv_lrem hx hb d_C_closes_4 (by decide) ?_
  refine lv_l2i (v := (number - number / 10 * 10).toInt32) hx hb d_C_closes_5 rfl ?_
  refine lv_istore_n (lv' := [(3, .int ((number - number / 10 * 10).toInt32)), (0, .int kind), (1, .long number)]) hx hb d_C_closes_6 rfl hl (by decide) rfl (fun ls hl => ?_)
  refine lv_iload_n hx hb d_C_closes_7 rfl (lv_at hl 1 rfl) ?_
  refine lv_lload_n hx hb d_C_closes_8 rfl (lv_at hl 2 rfl) ?_
  refine lv_ldc2 (v := 10) hx hb hown (hts _ w_436) d_C_closes_9 ?_
  refine lv_ldiv hx hb d_C_closes_12 (by decide) ?_
  refine ad_cPi S I (ad_ivS (As := [.int kind, .long (number / 10)]) (rest := []) S Y_C_of w_453 w_431 w_20 ⟨by decide, by decide, np_C_of⟩ rfl d_C_closes_13) (c_C_of l G lo hp kind (number / 10)) Y_C_of hl.1 ⟨Nat.le_of_ble_eq_true rfl, Nat.le_of_ble_eq_true rfl⟩ (Nat.le_of_ble_eq_true rfl) (Nat.le_of_ble_eq_true rfl) d_C_closes_13 ?_
  refine lv_iload_n hx hb d_C_closes_16 rfl (lv_at hl 0 rfl) ?_
  refine lv_icmp_ne (tgt := 24) hx hb d_C_closes_17 (by decide) (fun c17 => ?_) (fun c17 => ?_)
  · refine lv_iconst (v := 0) hx hb d_C_closes_24 (by decide) ?_
    exact ad_iretP M rfl (by rw [show sp_closes kind number = 0 from if_neg c17]) d_C_closes_25
  · refine lv_iconst (v := 1) hx hb d_C_closes_20 (by decide) ?_
    refine lv_goto (tgt := 25) hx hb d_C_closes_21 (by decide) ?_
    exact ad_iretP M rfl (by rw [show sp_closes kind number = 1 from if_pos c17]) d_C_closes_25
def sp_in (v low high : Int64) : Int32 := if low ≤ v ∧ v ≤ high then 1 else 0
set_option maxHeartbeats 4000000 in
set_option maxRecDepth 100000 in
theorem c_M_in (l : Launch) (G : ad_G) (lo : Nat) (hp : ad_H) (v low high : Int64) : ad_Cp l y_M_in b_M_in 6 rt_M_in hs_M_in 1 0 0 G lo hp [.long v, .long low, .long high] (fun r => r = .inl (some (.int (sp_in v low high)))) := by
  intro p e s m below meth c M hts hB hP
  have hx := M.1
  have hb := M.2.1
  have hml := M.2.2.1
  have hown : s.vm.findClass "AuditDrawsModel" = some m.cls := M.2.2.2.1
  have S : CallFix p m c b_M_in 6 s _ ad_T "AuditDrawsModel" := ⟨hx, hb, hml, hown, hts⟩
  have I : ad_I G lo s hp s.heap [] := ad_I.rf hB hP
  have hl := lv_entry ([.long v, .long low, .long high]) (n := 6) (Nat.le_of_ble_eq_true rfl)
  rw [lg_entry_eq]
  generalize (lg_sl ([.long v, .long low, .long high]) ++ List.replicate (6 - (lg_sl ([.long v, .long low, .long high])).length) Slot.unset).toArray = ls at hl ⊢
  have hl : lv_has ls 6 [(0, .long v), (2, .long low), (4, .long high)] := hl
  refine lv_lload_n hx hb d_M_in_0 rfl (lv_at hl 0 rfl) ?_
  refine lv_lload_n hx hb d_M_in_1 rfl (lv_at hl 1 rfl) ?_
  refine W.lcmp hx hb d_M_in_2 ?_
  refine lv_if_lt (tgt := 17) hx hb d_M_in_3 (by decide) (fun c3 => ?_) (fun c3 => ?_)
  · refine lv_iconst (v := 0) hx hb d_M_in_17 (by decide) ?_
    exact ad_iretP M rfl (by rw [show sp_in v low high = 0 from if_neg (fun h => absurd (ad_lcLt.mp c3) (Int64.not_lt.mpr h.1))]) d_M_in_18
  · refine lv_lload_n hx hb d_M_in_6 rfl (lv_at hl 0 rfl) ?_
    refine lv_lload hx hb d_M_in_7 (lv_at hl 2 rfl) ?_
    refine W.lcmp hx hb d_M_in_9 ?_
    refine lv_if_gt (tgt := 17) hx hb d_M_in_10 (by decide) (fun c10 => ?_) (fun c10 => ?_)
    · refine lv_iconst (v := 0) hx hb d_M_in_17 (by decide) ?_
      exact ad_iretP M rfl (by rw [show sp_in v low high = 0 from if_neg (fun h => absurd (ad_lcGt.mp c10) (Int64.not_lt.mpr h.2))]) d_M_in_18
    · refine lv_iconst (v := 1) hx hb d_M_in_13 (by decide) ?_
      refine lv_goto (tgt := 18) hx hb d_M_in_14 (by decide) ?_
      exact ad_iretP M rfl (by rw [show sp_in v low high = 1 from if_pos ⟨Int64.not_lt.mp (fun h => c3 (ad_lcLt.mpr h)), Int64.not_lt.mp (fun h => c10 (ad_lcGt.mpr h))⟩]) d_M_in_18
def sp_ct (kind digit k : Int32) : Int32 := if kind = 2 then digit * (k - k / 6 * 6 + 2) else if k - k / 2 * 2 = 1 then digit else if kind = 1 then 3 * digit else sp_dbl digit
set_option maxHeartbeats 4000000 in
set_option maxRecDepth 100000 in
theorem c_M_counts (l : Launch) (G : ad_G) (lo : Nat) (hp : ad_H) (kind digit k : Int32) : ad_Cp l y_M_counts b_M_counts 3 rt_M_counts hs_M_counts 1 0 0 G lo hp [.int kind, .int digit, .int k] (fun r => r = .inl (some (.int (sp_ct kind digit k)))) := by
  intro p e s m below meth c M hts hB hP
  have hx := M.1
  have hb := M.2.1
  have hml := M.2.2.1
  have hown : s.vm.findClass "AuditDrawsModel" = some m.cls := M.2.2.2.1
  have S : CallFix p m c b_M_counts 3 s _ ad_T "AuditDrawsModel" := ⟨hx, hb, hml, hown, hts⟩
  have I : ad_I G lo s hp s.heap [] := ad_I.rf hB hP
  have hl := lv_entry ([.int kind, .int digit, .int k]) (n := 3) (Nat.le_of_ble_eq_true rfl)
  rw [lg_entry_eq]
  generalize (lg_sl ([.int kind, .int digit, .int k]) ++ List.replicate (3 - (lg_sl ([.int kind, .int digit, .int k])).length) Slot.unset).toArray = ls at hl ⊢
  have hl : lv_has ls 3 [(0, .int kind), (1, .int digit), (2, .int k)] := hl
  refine lv_iload_n hx hb d_M_counts_0 rfl (lv_at hl 0 rfl) ?_
  refine lv_iconst (v := 2) hx hb d_M_counts_1 (by decide) ?_
  refine lv_icmp_ne (tgt := 14) hx hb d_M_counts_2 (by decide) (fun c2 => ?_) (fun c2 => ?_)
  · refine lv_iload_n hx hb d_M_counts_14 rfl (lv_at hl 2 rfl) ?_
    refine lv_iconst (v := 2) hx hb d_M_counts_15 (by decide) ?_
    refine lv_irem hx hb d_M_counts_16 (by decide) ?_
    refine lv_iconst (v := 1) hx hb d_M_counts_17 (by decide) ?_
    refine lv_icmp_ne (tgt := 23) hx hb d_M_counts_18 (by decide) (fun c18 => ?_) (fun c18 => ?_)
    · refine lv_iload_n hx hb d_M_counts_23 rfl (lv_at hl 0 rfl) ?_
      refine lv_iconst (v := 1) hx hb d_M_counts_24 (by decide) ?_
      refine lv_icmp_ne (tgt := 34) hx hb d_M_counts_25 (by decide) (fun c25 => ?_) (fun c25 => ?_)
      · refine lv_iconst (v := 2) hx hb d_M_counts_34 (by decide) ?_
        refine lv_iload_n hx hb d_M_counts_35 rfl (lv_at hl 1 rfl) ?_
        refine lv_imul hx hb d_M_counts_36 ?_
        refine lv_bipush (v := 9) hx hb d_M_counts_37 (by decide) ?_
        refine lv_icmp_le (tgt := 51) hx hb d_M_counts_39 (by decide) (fun c39 => ?_) (fun c39 => ?_)
        · refine lv_iconst (v := 2) hx hb d_M_counts_51 (by decide) ?_
          refine lv_iload_n hx hb d_M_counts_52 rfl (lv_at hl 1 rfl) ?_
          refine lv_imul hx hb d_M_counts_53 ?_
          exact ad_iretP M rfl (by simp [sp_ct, sp_dbl, c2, c18, c25, c39]) d_M_counts_54
        · refine lv_iconst (v := 2) hx hb d_M_counts_42 (by decide) ?_
          refine lv_iload_n hx hb d_M_counts_43 rfl (lv_at hl 1 rfl) ?_
          refine lv_imul hx hb d_M_counts_44 ?_
          refine lv_bipush (v := 9) hx hb d_M_counts_45 (by decide) ?_
          refine lv_isub hx hb d_M_counts_47 ?_
          refine lv_goto (tgt := 54) hx hb d_M_counts_48 (by decide) ?_
          exact ad_iretP M rfl (by simp [sp_ct, sp_dbl, c2, c18, c25, c39]) d_M_counts_54
      · refine lv_iconst (v := 3) hx hb d_M_counts_28 (by decide) ?_
        refine lv_iload_n hx hb d_M_counts_29 rfl (lv_at hl 1 rfl) ?_
        refine lv_imul hx hb d_M_counts_30 ?_
        refine lv_goto (tgt := 54) hx hb d_M_counts_31 (by decide) ?_
        exact ad_iretP M rfl (by simp [sp_ct, sp_dbl, c2, c18, c25]) d_M_counts_54
    · refine lv_iload_n hx hb d_M_counts_21 rfl (lv_at hl 1 rfl) ?_
      exact ad_iretP M rfl (by simp [sp_ct, sp_dbl, c2, c18]) d_M_counts_22
  · refine lv_iload_n hx hb d_M_counts_5 rfl (lv_at hl 1 rfl) ?_
    refine lv_iload_n hx hb d_M_counts_6 rfl (lv_at hl 2 rfl) ?_
    refine lv_bipush (v := 6) hx hb d_M_counts_7 (by decide) ?_
    refine lv_irem hx hb d_M_counts_9 (by decide) ?_
    refine lv_iconst (v := 2) hx hb d_M_counts_10 (by decide) ?_
    refine lv_iadd hx hb d_M_counts_11 ?_
    refine lv_imul hx hb d_M_counts_12 ?_
    exact ad_iretP M rfl (by simp [sp_ct, sp_dbl, c2]) d_M_counts_13
def sp_ms (kind : Int32) (number : Int64) : Nat → Int32 × Int64
  | 0 => (0, number)
  | j + 1 => ((sp_ms kind number j).1 + sp_ct kind ((sp_ms kind number j).2 - (sp_ms kind number j).2 / 10 * 10).toInt32 (nI j), (sp_ms kind number j).2 / 10)
def sp_mo (kind : Int32) (number : Int64) : Int32 := let sm := (sp_ms kind number 18).1
  if kind = 2 then (11 - (sm - sm / 11 * 11)) - (11 - (sm - sm / 11 * 11)) / 11 * 11 else (10 - (sm - sm / 10 * 10)) - (10 - (sm - sm / 10 * 10)) / 10 * 10
set_option maxHeartbeats 4000000 in
set_option maxRecDepth 100000 in
theorem c_M_sum (l : Launch) (G : ad_G) (lo : Nat) (hp : ad_H) (kind : Int32) (number : Int64) : ad_Cp l y_M_sum b_M_sum 7 rt_M_sum hs_M_sum 2 0 0 G lo hp [.int kind, .long number] (fun r => r = .inl (some (.int (sp_ms kind number 18).1))) := by
  intro p e s m below meth c M hts hB hP
  have hx := M.1
  have hb := M.2.1
  have hml := M.2.2.1
  have hown : s.vm.findClass "AuditDrawsModel" = some m.cls := M.2.2.2.1
  have S : CallFix p m c b_M_sum 7 s _ ad_T "AuditDrawsModel" := ⟨hx, hb, hml, hown, hts⟩
  have I : ad_I G lo s hp s.heap [] := ad_I.rf hB hP
  have hl := lv_entry ([.int kind, .long number]) (n := 7) (Nat.le_of_ble_eq_true rfl)
  rw [lg_entry_eq]
  generalize (lg_sl ([.int kind, .long number]) ++ List.replicate (7 - (lg_sl ([.int kind, .long number])).length) Slot.unset).toArray = ls at hl ⊢
  have hl : lv_has ls 7 [(0, .int kind), (1, .long number)] := hl
  have loop : ∀ (n : Nat) (j : Nat), 18 < j + n ∧ j ≤ 18 → ∀ ls : Array Slot, lv_has ls 7 [(0, .int kind), (3, .int ((sp_ms kind number j).1)), (4, .long ((sp_ms kind number j).2)), (6, .int (nI j))] → W p l e (ad_rm 2 0 0) s m ([.int kind, .long number] : List Value).toArray below meth c s.heap [] 0 0 (ad_Zp below (fun r => r = .inl (some (.int (sp_ms kind number 18).1))) s 0 0) (F0 m 8 ls []) := by
    intro n
    induction n with
    | zero => intro j h0 ls hl; exact absurd h0 (by omega)
    | succ n ih =>
      intro j h0 ls hl
      refine lv_iload hx hb d_M_sum_8 (lv_at hl 3 rfl) ?_
      refine lv_bipush (v := 18) hx hb d_M_sum_10 (by decide) ?_
      refine lv_icmp_ge (tgt := 45) hx hb d_M_sum_12 (by decide) (fun c12 => ?_) (fun c12 => ?_)
      · obtain rfl : j = 18 := by have := (nI_leI (a := 18) (b := j) (by omega) (by omega)).mp c12; omega
        refine lv_iload_n hx hb d_M_sum_45 rfl (lv_at hl 1 rfl) ?_
        exact ad_iretP M rfl rfl d_M_sum_46
      · have hj : j < 18 := by
          rcases Nat.lt_or_ge j 18 with q | q
          · exact q
          · exact absurd (nI_le (a := 18) q (by omega)) c12
        refine lv_iload_n hx hb d_M_sum_15 rfl (lv_at hl 1 rfl) ?_
        refine lv_iload_n hx hb d_M_sum_16 rfl (lv_at hl 0 rfl) ?_
        refine lv_lload hx hb d_M_sum_17 (lv_at hl 2 rfl) ?_
        refine lv_ldc2 (v := 10) hx hb hown (hts _ w_682) d_M_sum_19 ?_
        refine lv_lrem hx hb d_M_sum_22 (by decide) ?_
        refine lv_l2i (v := (((sp_ms kind number j).2) - ((sp_ms kind number j).2) / 10 * 10).toInt32) hx hb d_M_sum_23 rfl ?_
        refine lv_iload hx hb d_M_sum_24 (lv_at hl 3 rfl) ?_
        refine ad_cPi S I (ad_ivS (As := [.int kind, .int ((((sp_ms kind number j).2) - ((sp_ms kind number j).2) / 10 * 10).toInt32), .int (nI j)]) (rest := [.int ((sp_ms kind number j).1)]) S Y_M_counts w_683 w_684 w_6 ⟨by decide, by decide, np_M_counts⟩ rfl d_M_sum_26) (c_M_counts l G lo hp kind ((((sp_ms kind number j).2) - ((sp_ms kind number j).2) / 10 * 10).toInt32) (nI j)) Y_M_counts hl.1 ⟨Nat.le_of_ble_eq_true rfl, Nat.le_of_ble_eq_true rfl⟩ (Nat.le_of_ble_eq_true rfl) (Nat.le_of_ble_eq_true rfl) d_M_sum_26 ?_
        refine lv_iadd hx hb d_M_sum_29 ?_
        refine lv_istore_n (lv' := [(3, .int (((sp_ms kind number j).1) + (sp_ct kind ((((sp_ms kind number j).2) - ((sp_ms kind number j).2) / 10 * 10).toInt32) (nI j)))), (0, .int kind), (4, .long ((sp_ms kind number j).2)), (6, .int (nI j))]) hx hb d_M_sum_30 rfl hl (by decide) rfl (fun ls hl => ?_)
        refine lv_lload hx hb d_M_sum_31 (lv_at hl 2 rfl) ?_
        refine lv_ldc2 (v := 10) hx hb hown (hts _ w_682) d_M_sum_33 ?_
        refine lv_ldiv hx hb d_M_sum_36 (by decide) ?_
        refine lv_lstore (lv' := [(4, .long (((sp_ms kind number j).2) / 10)), (3, .int (((sp_ms kind number j).1) + (sp_ct kind ((((sp_ms kind number j).2) - ((sp_ms kind number j).2) / 10 * 10).toInt32) (nI j)))), (0, .int kind), (6, .int (nI j))]) hx hb d_M_sum_37 hl (by decide) rfl (fun ls hl => ?_)
        refine lv_iinc (v := (nI (j + 1))) (lv' := [(6, .int (nI (j + 1))), (4, .long (((sp_ms kind number j).2) / 10)), (3, .int (((sp_ms kind number j).1) + (sp_ct kind ((((sp_ms kind number j).2) - ((sp_ms kind number j).2) / 10 * 10).toInt32) (nI j)))), (0, .int kind)]) hx hb d_M_sum_39 hl (k := 3) rfl (nI_1 j) (by decide) rfl (fun ls hl => ?_)
        refine lv_goto (tgt := 8) hx hb d_M_sum_42 (by decide) ?_
        exact ih (j + 1) (by omega) ls (lv_sub hl [3, 2, 1, 0] rfl)
  refine lv_iconst (v := 0) hx hb d_M_sum_0 (by decide) ?_
  refine lv_istore_n (lv' := [(3, .int 0), (0, .int kind), (1, .long number)]) hx hb d_M_sum_1 rfl hl (by decide) rfl (fun ls hl => ?_)
  refine lv_lload_n hx hb d_M_sum_2 rfl (lv_at hl 2 rfl) ?_
  refine lv_lstore (lv' := [(4, .long number), (3, .int 0), (0, .int kind), (1, .long number)]) hx hb d_M_sum_3 hl (by decide) rfl (fun ls hl => ?_)
  refine lv_iconst (v := 0) hx hb d_M_sum_5 (by decide) ?_
  refine lv_istore (lv' := [(6, .int 0), (4, .long number), (3, .int 0), (0, .int kind), (1, .long number)]) hx hb d_M_sum_6 hl (by decide) rfl (fun ls hl => ?_)
  exact loop 19 0 (by omega) ls (lv_sub hl [3, 2, 1, 0] rfl)
set_option maxHeartbeats 4000000 in
set_option maxRecDepth 100000 in
theorem c_M_digitOf (l : Launch) (G : ad_G) (lo : Nat) (hp : ad_H) (kind : Int32) (number : Int64) : ad_Cp l y_M_digitOf b_M_digitOf 4 rt_M_digitOf hs_M_digitOf 3 0 0 G lo hp [.int kind, .long number] (fun r => r = .inl (some (.int (sp_mo kind number)))) := by
  intro p e s m below meth c M hts hB hP
  have hx := M.1
  have hb := M.2.1
  have hml := M.2.2.1
  have hown : s.vm.findClass "AuditDrawsModel" = some m.cls := M.2.2.2.1
  have S : CallFix p m c b_M_digitOf 4 s _ ad_T "AuditDrawsModel" := ⟨hx, hb, hml, hown, hts⟩
  have I : ad_I G lo s hp s.heap [] := ad_I.rf hB hP
  have hl := lv_entry ([.int kind, .long number]) (n := 4) (Nat.le_of_ble_eq_true rfl)
  rw [lg_entry_eq]
  generalize (lg_sl ([.int kind, .long number]) ++ List.replicate (4 - (lg_sl ([.int kind, .long number])).length) Slot.unset).toArray = ls at hl ⊢
  have hl : lv_has ls 4 [(0, .int kind), (1, .long number)] := hl
  refine lv_iload_n hx hb d_M_digitOf_0 rfl (lv_at hl 0 rfl) ?_
  refine lv_iconst (v := 2) hx hb d_M_digitOf_1 (by decide) ?_
  refine lv_icmp_ne (tgt := 10) hx hb d_M_digitOf_2 (by decide) (fun c2 => ?_) (fun c2 => ?_)
  · refine lv_bipush (v := 10) hx hb d_M_digitOf_10 (by decide) ?_
    refine lv_istore_n (lv' := [(3, .int 10), (0, .int kind), (1, .long number)]) hx hb d_M_digitOf_12 rfl hl (by decide) rfl (fun ls hl => ?_)
    refine lv_iload_n hx hb d_M_digitOf_13 rfl (lv_at hl 0 rfl) ?_
    refine lv_iload_n hx hb d_M_digitOf_14 rfl (lv_at hl 1 rfl) ?_
    refine lv_lload_n hx hb d_M_digitOf_15 rfl (lv_at hl 2 rfl) ?_
    refine ad_cPi S I (ad_ivS (As := [.int kind, .long number]) (rest := [.int 10]) S Y_M_sum w_679 w_680 w_6 ⟨by decide, by decide, np_M_sum⟩ rfl d_M_digitOf_16) (c_M_sum l G lo hp kind number) Y_M_sum hl.1 ⟨Nat.le_of_ble_eq_true rfl, Nat.le_of_ble_eq_true rfl⟩ (Nat.le_of_ble_eq_true rfl) (Nat.le_of_ble_eq_true rfl) d_M_digitOf_16 ?_
    refine lv_iload_n hx hb d_M_digitOf_19 rfl (lv_at hl 0 rfl) ?_
    refine lv_irem hx hb d_M_digitOf_20 (by decide) ?_
    refine lv_isub hx hb d_M_digitOf_21 ?_
    refine lv_iload_n hx hb d_M_digitOf_22 rfl (lv_at hl 0 rfl) ?_
    refine lv_irem hx hb d_M_digitOf_23 (by decide) ?_
    exact ad_iretP M rfl (by simp [sp_mo, c2]) d_M_digitOf_24
  · refine lv_bipush (v := 11) hx hb d_M_digitOf_5 (by decide) ?_
    refine lv_goto (tgt := 12) hx hb d_M_digitOf_7 (by decide) ?_
    refine lv_istore_n (lv' := [(3, .int 11), (0, .int kind), (1, .long number)]) hx hb d_M_digitOf_12 rfl hl (by decide) rfl (fun ls hl => ?_)
    refine lv_iload_n hx hb d_M_digitOf_13 rfl (lv_at hl 0 rfl) ?_
    refine lv_iload_n hx hb d_M_digitOf_14 rfl (lv_at hl 1 rfl) ?_
    refine lv_lload_n hx hb d_M_digitOf_15 rfl (lv_at hl 2 rfl) ?_
    refine ad_cPi S I (ad_ivS (As := [.int kind, .long number]) (rest := [.int 11]) S Y_M_sum w_679 w_680 w_6 ⟨by decide, by decide, np_M_sum⟩ rfl d_M_digitOf_16) (c_M_sum l G lo hp kind number) Y_M_sum hl.1 ⟨Nat.le_of_ble_eq_true rfl, Nat.le_of_ble_eq_true rfl⟩ (Nat.le_of_ble_eq_true rfl) (Nat.le_of_ble_eq_true rfl) d_M_digitOf_16 ?_
    refine lv_iload_n hx hb d_M_digitOf_19 rfl (lv_at hl 0 rfl) ?_
    refine lv_irem hx hb d_M_digitOf_20 (by decide) ?_
    refine lv_isub hx hb d_M_digitOf_21 ?_
    refine lv_iload_n hx hb d_M_digitOf_22 rfl (lv_at hl 0 rfl) ?_
    refine lv_irem hx hb d_M_digitOf_23 (by decide) ?_
    exact ad_iretP M rfl (by simp [sp_mo, c2]) d_M_digitOf_24
end
section
theorem ad_ne {hp : ad_H} {a b : Nat} {e f : va_E} (h1 : hp a = some e) (h2 : hp b = some f) (h : e ≠ f) : a ≠ b := fun hab => h (Option.some.inj (h1.symm.trans (hab ▸ h2)))
set_option maxHeartbeats 4000000 in
set_option maxRecDepth 100000 in
theorem c_AL_size (l : Launch) (G : ad_G) (lo : Nat) (hp : ad_H) (a arr : Nat) (sz mv : Int32) (h : hp a = some (.inr (3, [.ref arr, .int sz, .int mv]))) : ad_Cp l y_AL_size b_AL_size 1 rt_AL_size hs_AL_size 1 0 0 G lo hp [.ref a] (fun r => r = .inl (some (.int sz))) := by
  intro p e s m below meth c M hts hB hP
  have hx := M.1
  have hb := M.2.1
  have hml := M.2.2.1
  have hown : s.vm.findClass "java/util/ArrayList" = some m.cls := M.2.2.2.1
  have S : CallFix p m c b_AL_size 1 s _ ad_T "java/util/ArrayList" := ⟨hx, hb, hml, hown, hts⟩
  have I : ad_I G lo s hp s.heap [] := ad_I.rf hB hP
  have hl := lv_entry ([.ref a]) (n := 1) (Nat.le_of_ble_eq_true rfl)
  rw [lg_entry_eq]
  generalize (lg_sl ([.ref a]) ++ List.replicate (1 - (lg_sl ([.ref a])).length) Slot.unset).toArray = ls at hl ⊢
  have hl : lv_has ls 1 [(0, .ref a)] := hl
  refine lv_aload_n hx hb d_AL_size_0 rfl (lv_at hl 0 rfl) ?_
  refine ad_get S I h K_AL 1 (by decide) w_56 rfl d_AL_size_1 ?_
  exact ad_iretP M rfl rfl d_AL_size_4
set_option maxHeartbeats 4000000 in
set_option maxRecDepth 100000 in
theorem c_PR_checkIndex (l : Launch) (G : ad_G) (lo : Nat) (hp : ad_H) (i n : Int32) (h1 : ¬ i < 0) (h2 : i < n) : ad_Cp l y_PR_checkIndex b_PR_checkIndex 3 rt_PR_checkIndex hs_PR_checkIndex 1 0 0 G lo hp [.int i, .int n, .null] (fun r => r = .inl (some (.int i))) := by
  intro p e s m below meth c M hts hB hP
  have hx := M.1
  have hb := M.2.1
  have hml := M.2.2.1
  have hown : s.vm.findClass "jdk/internal/util/Preconditions" = some m.cls := M.2.2.2.1
  have S : CallFix p m c b_PR_checkIndex 3 s _ ad_T "jdk/internal/util/Preconditions" := ⟨hx, hb, hml, hown, hts⟩
  have I : ad_I G lo s hp s.heap [] := ad_I.rf hB hP
  have hl := lv_entry ([.int i, .int n, .null]) (n := 3) (Nat.le_of_ble_eq_true rfl)
  rw [lg_entry_eq]
  generalize (lg_sl ([.int i, .int n, .null]) ++ List.replicate (3 - (lg_sl ([.int i, .int n, .null])).length) Slot.unset).toArray = ls at hl ⊢
  have hl : lv_has ls 3 [(0, .int i), (1, .int n), (2, .null)] := hl
  refine lv_iload_n hx hb d_PR_checkIndex_0 rfl (lv_at hl 0 rfl) ?_
  refine lv_if_lt (tgt := 9) hx hb d_PR_checkIndex_1 (by decide) (fun c1 => ?_) (fun c1 => ?_)
  · exact absurd c1 h1
  · refine lv_iload_n hx hb d_PR_checkIndex_4 rfl (lv_at hl 0 rfl) ?_
    refine lv_iload_n hx hb d_PR_checkIndex_5 rfl (lv_at hl 1 rfl) ?_
    refine lv_icmp_lt (tgt := 16) hx hb d_PR_checkIndex_6 (by decide) (fun c6 => ?_) (fun c6 => ?_)
    · refine lv_iload_n hx hb d_PR_checkIndex_16 rfl (lv_at hl 0 rfl) ?_
      exact ad_iretP M rfl rfl d_PR_checkIndex_17
    · exact absurd h2 c6
set_option maxHeartbeats 4000000 in
set_option maxRecDepth 100000 in
theorem c_OB_checkIndex (l : Launch) (G : ad_G) (lo : Nat) (hp : ad_H) (i n : Int32) (h1 : ¬ i < 0) (h2 : i < n) : ad_Cp l y_OB_checkIndex b_OB_checkIndex 2 rt_OB_checkIndex hs_OB_checkIndex 2 0 0 G lo hp [.int i, .int n] (fun r => r = .inl (some (.int i))) := by
  intro p e s m below meth c M hts hB hP
  have hx := M.1
  have hb := M.2.1
  have hml := M.2.2.1
  have hown : s.vm.findClass "java/util/Objects" = some m.cls := M.2.2.2.1
  have S : CallFix p m c b_OB_checkIndex 2 s _ ad_T "java/util/Objects" := ⟨hx, hb, hml, hown, hts⟩
  have I : ad_I G lo s hp s.heap [] := ad_I.rf hB hP
  have hl := lv_entry ([.int i, .int n]) (n := 2) (Nat.le_of_ble_eq_true rfl)
  rw [lg_entry_eq]
  generalize (lg_sl ([.int i, .int n]) ++ List.replicate (2 - (lg_sl ([.int i, .int n])).length) Slot.unset).toArray = ls at hl ⊢
  have hl : lv_has ls 2 [(0, .int i), (1, .int n)] := hl
  refine lv_iload_n hx hb d_OB_checkIndex_0 rfl (lv_at hl 0 rfl) ?_
  refine lv_iload_n hx hb d_OB_checkIndex_1 rfl (lv_at hl 1 rfl) ?_
  refine lv_null hx hb d_OB_checkIndex_2 ?_
  refine ad_cPi S I (ad_ivS (As := [.int i, .int n, .null]) (rest := []) S Y_PR_checkIndex w_315 w_316 w_19 ⟨by decide, by decide, np_PR_checkIndex⟩ rfl d_OB_checkIndex_3) (c_PR_checkIndex l G lo hp i n h1 h2) Y_PR_checkIndex hl.1 ⟨Nat.le_of_ble_eq_true rfl, Nat.le_of_ble_eq_true rfl⟩ (Nat.le_of_ble_eq_true rfl) (Nat.le_of_ble_eq_true rfl) d_OB_checkIndex_3 ?_
  exact ad_iretP M rfl rfl d_OB_checkIndex_6
set_option maxHeartbeats 4000000 in
set_option maxRecDepth 100000 in
theorem c_AL_elementData (l : Launch) (G : ad_G) (lo : Nat) (hp : ad_H) (a arr : Nat) (sz mv i : Int32) (n : Nat) (f : Nat → Option Nat) (y : Nat) (h : hp a = some (.inr (3, [.ref arr, .int sz, .int mv]))) (h2 : hp arr = some (ad_ra G n f)) (hi : vp_in i n) (hf : f i.toNatClampNeg = some y) : ad_Cp l y_AL_elementData b_AL_elementData 2 rt_AL_elementData hs_AL_elementData 1 0 0 G lo hp [.ref a, .int i] (fun r => r = .inl (some (.ref y))) := by
  intro p e s m below meth c M hts hB hP
  have hx := M.1
  have hb := M.2.1
  have hml := M.2.2.1
  have hown : s.vm.findClass "java/util/ArrayList" = some m.cls := M.2.2.2.1
  have S : CallFix p m c b_AL_elementData 2 s _ ad_T "java/util/ArrayList" := ⟨hx, hb, hml, hown, hts⟩
  have I : ad_I G lo s hp s.heap [] := ad_I.rf hB hP
  have hl := lv_entry ([.ref a, .int i]) (n := 2) (Nat.le_of_ble_eq_true rfl)
  rw [lg_entry_eq]
  generalize (lg_sl ([.ref a, .int i]) ++ List.replicate (2 - (lg_sl ([.ref a, .int i])).length) Slot.unset).toArray = ls at hl ⊢
  have hl : lv_has ls 2 [(0, .ref a), (1, .int i)] := hl
  refine lv_aload_n hx hb d_AL_elementData_0 rfl (lv_at hl 0 rfl) ?_
  refine ad_get S I h K_AL 0 (by decide) w_55 rfl d_AL_elementData_1 ?_
  refine lv_iload_n hx hb d_AL_elementData_4 rfl (lv_at hl 1 rfl) ?_
  refine ad_aald S I h2 hi d_AL_elementData_5 ?_
  refine ad_top (show va_rf (f i.toNatClampNeg) = .ref y by rw [hf]; rfl) ?_
  exact ad_aretP M (Or.inl ⟨_, rfl⟩) (Or.inr ⟨_, rfl⟩) rfl d_AL_elementData_6
set_option maxHeartbeats 4000000 in
set_option maxRecDepth 100000 in
theorem c_AL_get (l : Launch) (G : ad_G) (lo : Nat) (hp : ad_H) (a arr : Nat) (sz mv i : Int32) (n : Nat) (f : Nat → Option Nat) (y : Nat) (h : hp a = some (.inr (3, [.ref arr, .int sz, .int mv]))) (h2 : hp arr = some (ad_ra G n f)) (hi : vp_in i n) (h0 : ¬ i < 0) (h1 : i < sz) (hf : f i.toNatClampNeg = some y) : ad_Cp l y_AL_get b_AL_get 2 rt_AL_get hs_AL_get 3 0 0 G lo hp [.ref a, .int i] (fun r => r = .inl (some (.ref y))) := by
  intro p e s m below meth c M hts hB hP
  have hx := M.1
  have hb := M.2.1
  have hml := M.2.2.1
  have hown : s.vm.findClass "java/util/ArrayList" = some m.cls := M.2.2.2.1
  have S : CallFix p m c b_AL_get 2 s _ ad_T "java/util/ArrayList" := ⟨hx, hb, hml, hown, hts⟩
  have I : ad_I G lo s hp s.heap [] := ad_I.rf hB hP
  have hl := lv_entry ([.ref a, .int i]) (n := 2) (Nat.le_of_ble_eq_true rfl)
  rw [lg_entry_eq]
  generalize (lg_sl ([.ref a, .int i]) ++ List.replicate (2 - (lg_sl ([.ref a, .int i])).length) Slot.unset).toArray = ls at hl ⊢
  have hl : lv_has ls 2 [(0, .ref a), (1, .int i)] := hl
  refine lv_iload_n hx hb d_AL_get_0 rfl (lv_at hl 1 rfl) ?_
  refine lv_aload_n hx hb d_AL_get_1 rfl (lv_at hl 0 rfl) ?_
  refine ad_get S I h K_AL 1 (by decide) w_56 rfl d_AL_get_2 ?_
  refine ad_cPi S I (ad_ivS (As := [.int i, .int sz]) (rest := []) S Y_OB_checkIndex w_312 w_313 w_18 ⟨by decide, by decide, np_OB_checkIndex⟩ rfl d_AL_get_5) (c_OB_checkIndex l G lo hp i sz h0 h1) Y_OB_checkIndex hl.1 ⟨Nat.le_of_ble_eq_true rfl, Nat.le_of_ble_eq_true rfl⟩ (Nat.le_of_ble_eq_true rfl) (Nat.le_of_ble_eq_true rfl) d_AL_get_5 ?_
  refine lv_pop hx hb d_AL_get_8 rfl ?_
  refine lv_aload_n hx hb d_AL_get_9 rfl (lv_at hl 0 rfl) ?_
  refine lv_iload_n hx hb d_AL_get_10 rfl (lv_at hl 1 rfl) ?_
  refine ad_cPi S I (ad_ivV (As := [.int i]) (rest := []) S (ad_recv I h K_AL) w_318 w_319 w_320 Y_AL_elementData ⟨by decide, by decide, np_AL_elementData⟩ rfl d_AL_get_11) (c_AL_elementData l G lo hp a arr sz mv i n f y h h2 hi hf) Y_AL_elementData hl.1 ⟨Nat.le_of_ble_eq_true rfl, Nat.le_of_ble_eq_true rfl⟩ (Nat.le_of_ble_eq_true rfl) (Nat.le_of_ble_eq_true rfl) d_AL_get_11 ?_
  exact ad_aretP M (Or.inl ⟨_, rfl⟩) (Or.inr ⟨_, rfl⟩) rfl d_AL_get_14
end
section
theorem ad_nn {hp : ad_H} {q b : Nat} {e : va_E} (h1 : hp q = none) (h2 : hp b = some e) : b ≠ q := fun h => by rw [h, h1] at h2; cases h2
theorem al_max {c : Nat} (h : 2 ≤ c) (hc : c ≤ 1000) : (if nI 1 < nI (c / 2) then nI (c / 2) else nI 1) = nI (c / 2) := by
  split
  · rfl
  · next h1 =>
    have h2 : ¬ 1 < c / 2 := fun h3 => h1 (nI_lt h3 (by omega))
    rw [show c / 2 = 1 by omega]
theorem al_min {a b : Nat} (h : a ≤ b) (hb : b < 2 ^ 31) : (if nI b < nI a then nI b else nI a) = nI a := if_neg (nI_nlt h hb)
set_option maxHeartbeats 4000000 in
set_option maxRecDepth 100000 in
theorem c_AC_init (l : Launch) (G : ad_G) (lo : Nat) (hp : ad_H) (a : Nat) : ad_Cp l y_AC_init b_AC_init 1 rt_AC_init hs_AC_init 1 0 0 G lo hp [.ref a] (fun r => r = .inl none) := by
  intro p e s m below meth c M hts hB hP
  have hx := M.1
  have hb := M.2.1
  have hml := M.2.2.1
  have hown : s.vm.findClass "java/util/AbstractCollection" = some m.cls := M.2.2.2.1
  have S : CallFix p m c b_AC_init 1 s _ ad_T "java/util/AbstractCollection" := ⟨hx, hb, hml, hown, hts⟩
  have I : ad_I G lo s hp s.heap [] := ad_I.rf hB hP
  have hl := lv_entry ([.ref a]) (n := 1) (Nat.le_of_ble_eq_true rfl)
  rw [lg_entry_eq]
  generalize (lg_sl ([.ref a]) ++ List.replicate (1 - (lg_sl ([.ref a])).length) Slot.unset).toArray = ls at hl ⊢
  have hl : lv_has ls 1 [(0, .ref a)] := hl
  refine lv_aload_n hx hb d_AC_init_0 rfl (lv_at hl 0 rfl) ?_
  refine W.objInit hx hb hown (hts _ w_52) (hts _ w_28) (hts _ w_29) rfl (by rw [hml]; exact hl.1) rfl d_AC_init_1 (Nat.le_of_ble_eq_true rfl) (Nat.le_of_ble_eq_true rfl) ?_
  refine W.eq (g2 := F0 m 4 ls []) rfl ?_
  exact ad_vretP M rfl d_AC_init_4
set_option maxHeartbeats 4000000 in
set_option maxRecDepth 100000 in
theorem c_AB_init (l : Launch) (G : ad_G) (lo : Nat) (hp : ad_H) (a : Nat) (h : hp a = some (.inr (3, [.null, .int 0, .int 0]))) : ad_Ct l y_AB_init b_AB_init 1 rt_AB_init hs_AB_init 2 0 0 G lo hp [.ref a] (fun r hp' => r = .inl none ∧ hp' a = some (.inr (3, [.null, .int 0, .int 0])) ∧ ∀ z, z ≠ a → hp' z = hp z) := by
  intro p e s m below meth c M hts hB hP
  have hx := M.1
  have hb := M.2.1
  have hml := M.2.2.1
  have hown : s.vm.findClass "java/util/AbstractList" = some m.cls := M.2.2.2.1
  have S : CallFix p m c b_AB_init 1 s _ ad_T "java/util/AbstractList" := ⟨hx, hb, hml, hown, hts⟩
  have I : ad_I G lo s hp s.heap [] := ad_I.rf hB hP
  have hl := lv_entry ([.ref a]) (n := 1) (Nat.le_of_ble_eq_true rfl)
  rw [lg_entry_eq]
  generalize (lg_sl ([.ref a]) ++ List.replicate (1 - (lg_sl ([.ref a])).length) Slot.unset).toArray = ls at hl ⊢
  have hl : lv_has ls 1 [(0, .ref a)] := hl
  refine lv_aload_n hx hb d_AB_init_0 rfl (lv_at hl 0 rfl) ?_
  refine ad_cPn S I (ad_ivI (As := []) (rest := []) S w_49 w_50 w_51 rfl ⟨by decide, by decide, np_AC_init⟩ rfl d_AB_init_1) (c_AC_init l G lo hp a) Y_AC_init hl.1 ⟨Nat.le_of_ble_eq_true rfl, Nat.le_of_ble_eq_true rfl⟩ (Nat.le_of_ble_eq_true rfl) (Nat.le_of_ble_eq_true rfl) d_AB_init_1 ?_
  refine lv_aload_n hx hb d_AB_init_4 rfl (lv_at hl 0 rfl) ?_
  refine lv_iconst (v := 0) hx hb d_AB_init_5 (by decide) ?_
  refine ad_put S I h K_AL 2 (by decide) w_57 rfl rfl rfl (by simp) d_AB_init_6 (fun H1 locs1 I => ?_)
  obtain ⟨hp1, ehp1⟩ : ∃ z : ad_H, z = ad_up hp a (.inr (3, [.null, .int 0, .int 0])) := ⟨_, rfl⟩
  have I : ad_I G lo s hp1 H1 locs1 := by rw [ehp1]; exact I
  have fhp1_a : hp1 a = some (.inr (3, [.null, .int 0, .int 0])) := by rw [ehp1]; exact ad_up_s _ _ _
  exact ad_vret M I (by omega) (by omega) (⟨rfl, fhp1_a, fun z hz => by rw [ehp1]; exact ad_up_n _ hz⟩) d_AB_init_9
set_option maxHeartbeats 4000000 in
set_option maxRecDepth 100000 in
theorem c_AL_init (l : Launch) (G : ad_G) (lo : Nat) (hp : ad_H) (a : Nat) (h : hp a = some (.inr (3, [.null, .int 0, .int 0]))) : ad_Ct l y_AL_init b_AL_init 1 rt_AL_init hs_AL_init 3 0 0 G lo hp [.ref a] (fun r hp' => r = .inl none ∧ hp' a = some (.inr (3, [.ref (G.2.2 0), .int 0, .int 0])) ∧ ∀ z, z ≠ a → hp' z = hp z) := by
  intro p e s m below meth c M hts hB hP
  have hx := M.1
  have hb := M.2.1
  have hml := M.2.2.1
  have hown : s.vm.findClass "java/util/ArrayList" = some m.cls := M.2.2.2.1
  have S : CallFix p m c b_AL_init 1 s _ ad_T "java/util/ArrayList" := ⟨hx, hb, hml, hown, hts⟩
  have I : ad_I G lo s hp s.heap [] := ad_I.rf hB hP
  have hl := lv_entry ([.ref a]) (n := 1) (Nat.le_of_ble_eq_true rfl)
  rw [lg_entry_eq]
  generalize (lg_sl ([.ref a]) ++ List.replicate (1 - (lg_sl ([.ref a])).length) Slot.unset).toArray = ls at hl ⊢
  have hl : lv_has ls 1 [(0, .ref a)] := hl
  refine lv_aload_n hx hb d_AL_init_0 rfl (lv_at hl 0 rfl) ?_
  refine ad_cZi S I (ad_ivI (As := []) (rest := []) S w_46 w_47 w_48 rfl ⟨by decide, by decide, np_AB_init⟩ rfl d_AL_init_1) (c_AB_init l G lo hp a h) Y_AB_init hl.1 ⟨Nat.le_of_ble_eq_true rfl, Nat.le_of_ble_eq_true rfl⟩ (Nat.le_of_ble_eq_true rfl) (Nat.le_of_ble_eq_true rfl) d_AL_init_1 (fun hp1 H1 locs1 hA I => ?_)
  obtain ⟨u1_0, k1⟩ := hA
  refine lv_aload_n hx hb d_AL_init_4 rfl (lv_at hl 0 rfl) ?_
  refine ad_gete S I w_53 d_AL_init_5 ?_
  refine ad_put S I u1_0 K_AL 0 (by decide) w_55 rfl rfl rfl (by simp) d_AL_init_8 (fun H1 locs1 I => ?_)
  obtain ⟨hp2, ehp2⟩ : ∃ z : ad_H, z = ad_up hp1 a (.inr (3, [.ref (G.2.2 0), .int 0, .int 0])) := ⟨_, rfl⟩
  have I : ad_I G lo s hp2 H1 locs1 := by rw [ehp2]; exact I
  have fhp2_a : hp2 a = some (.inr (3, [.ref (G.2.2 0), .int 0, .int 0])) := by rw [ehp2]; exact ad_up_s _ _ _
  exact ad_vret M I (by omega) (by omega) (⟨rfl, fhp2_a, fun z hz => by rw [ehp2, ad_up_n _ hz]; exact k1 z hz⟩) d_AL_init_11
set_option maxHeartbeats 4000000 in
set_option maxRecDepth 100000 in
theorem c_AS_newLength (l : Launch) (G : ad_G) (lo : Nat) (hp : ad_H) (cp : Nat) (h1 : 2 ≤ cp) (h2 : cp ≤ 1000) : ad_Cp l y_AS_newLength b_AS_newLength 4 rt_AS_newLength hs_AS_newLength 1 0 0 G lo hp [.int (nI cp), .int (nI 1), .int (nI (cp / 2))] (fun r => r = .inl (some (.int (nI (cp + cp / 2))))) := by
  intro p e s m below meth c M hts hB hP
  have hx := M.1
  have hb := M.2.1
  have hml := M.2.2.1
  have hown : s.vm.findClass "jdk/internal/util/ArraysSupport" = some m.cls := M.2.2.2.1
  have S : CallFix p m c b_AS_newLength 4 s _ ad_T "jdk/internal/util/ArraysSupport" := ⟨hx, hb, hml, hown, hts⟩
  have I : ad_I G lo s hp s.heap [] := ad_I.rf hB hP
  have hl := lv_entry ([.int (nI cp), .int (nI 1), .int (nI (cp / 2))]) (n := 4) (Nat.le_of_ble_eq_true rfl)
  rw [lg_entry_eq]
  generalize (lg_sl ([.int (nI cp), .int (nI 1), .int (nI (cp / 2))]) ++ List.replicate (4 - (lg_sl ([.int (nI cp), .int (nI 1), .int (nI (cp / 2))])).length) Slot.unset).toArray = ls at hl ⊢
  have hl : lv_has ls 4 [(0, .int (nI cp)), (1, .int (nI 1)), (2, .int (nI (cp / 2)))] := hl
  refine lv_iload_n hx hb d_AS_newLength_0 rfl (lv_at hl 0 rfl) ?_
  refine lv_iload_n hx hb d_AS_newLength_1 rfl (lv_at hl 1 rfl) ?_
  refine lv_iload_n hx hb d_AS_newLength_2 rfl (lv_at hl 2 rfl) ?_
  refine va_mmax hx hb (hml.trans hl.1.symm) hown (hts _ w_243) (hts _ w_244) (hts _ w_14) (hts _ w_245) (Nat.le_of_ble_eq_true rfl) (Nat.le_of_ble_eq_true rfl) (Nat.le_of_ble_eq_true rfl) (Nat.le_of_ble_eq_true rfl) d_AS_newLength_3 ?_
  refine ad_top (y := .int (nI (cp / 2))) (congrArg Value.int (al_max h1 h2)) ?_
  refine lv_iadd hx hb d_AS_newLength_6 ?_
  refine ad_top (y := .int (nI (cp + cp / 2))) (congrArg Value.int (nI_add _ _)) ?_
  refine lv_istore_n (lv' := [(3, .int (nI (cp + cp / 2))), (0, .int (nI cp)), (1, .int (nI 1)), (2, .int (nI (cp / 2)))]) hx hb d_AS_newLength_7 rfl hl (by decide) rfl (fun ls hl => ?_)
  refine lv_iconst (v := 0) hx hb d_AS_newLength_8 (by decide) ?_
  refine lv_iload_n hx hb d_AS_newLength_9 rfl (lv_at hl 0 rfl) ?_
  refine lv_icmp_ge (tgt := 21) hx hb d_AS_newLength_10 (by decide) (fun c10 => ?_) (fun c10 => ?_)
  · exact absurd c10 (nI_nle (by omega) (by omega))
  · refine lv_iload_n hx hb d_AS_newLength_13 rfl (lv_at hl 0 rfl) ?_
    refine lv_ldc (v := 2147483639) hx hb hown (hts _ w_246) d_AS_newLength_14 ?_
    refine lv_icmp_gt (tgt := 21) hx hb d_AS_newLength_16 (by decide) (fun c16 => ?_) (fun c16 => ?_)
    · exact absurd c16 (nI_nlt (a := 2147483639) (b := cp + cp / 2) (by omega) (by omega))
    · refine lv_iload_n hx hb d_AS_newLength_19 rfl (lv_at hl 0 rfl) ?_
      exact ad_iretP M rfl rfl d_AS_newLength_20
set_option maxHeartbeats 4000000 in
set_option maxRecDepth 100000 in
theorem c_AR_copyOf3 (l : Launch) (G : ad_G) (lo : Nat) (hp : ad_H) (arr cp n : Nat) (f : Nat → Option Nat) (ci : Nat) (C : String) (T : u_T) (N : Nat) (ty0 : Nat → FieldType) (h : hp arr = some (ad_ra G cp f)) (hle : cp ≤ n) (hn : n ≤ 100) (K : ad_K ci C T N ty0) (hca : Cond.castable C "java/lang/Object" ∈ ad_T) (hel : ∀ i, i < cp → ∀ y, f i = some y → ∃ vs, hp y = some (.inr (ci, vs))) : ad_Ct l y_AR_copyOf3 b_AR_copyOf3 4 rt_AR_copyOf3 hs_AR_copyOf3 2 1 100 G lo hp [.ref arr, .int (nI n), .ref (G.2.2 1)] (fun r hp' => ∃ q : Nat, r = .inl (some (.ref q)) ∧ hp q = none ∧ hp' q = some (ad_ra G n (va_cpy f (fun _ => none) 0 0 cp)) ∧ ∀ z, z ≠ q → hp' z = hp z) := by
  intro p e s m below meth c M hts hB hP
  have hx := M.1
  have hb := M.2.1
  have hml := M.2.2.1
  have hown : s.vm.findClass "java/util/Arrays" = some m.cls := M.2.2.2.1
  have S : CallFix p m c b_AR_copyOf3 4 s _ ad_T "java/util/Arrays" := ⟨hx, hb, hml, hown, hts⟩
  have I : ad_I G lo s hp s.heap [] := ad_I.rf hB hP
  have hl := lv_entry ([.ref arr, .int (nI n), .ref (G.2.2 1)]) (n := 4) (Nat.le_of_ble_eq_true rfl)
  rw [lg_entry_eq]
  generalize (lg_sl ([.ref arr, .int (nI n), .ref (G.2.2 1)]) ++ List.replicate (4 - (lg_sl ([.ref arr, .int (nI n), .ref (G.2.2 1)])).length) Slot.unset).toArray = ls at hl ⊢
  have hl : lv_has ls 4 [(0, .ref arr), (1, .int (nI n)), (2, .ref (G.2.2 1))] := hl
  refine lv_aload_n hx hb d_AR_copyOf3_0 rfl (lv_at hl 2 rfl) ?_
  refine va_ldcM hx hb hown (hts _ w_269) I.1.2.2.2.2.2.2.2.2.2.2.2 d_AR_copyOf3_1 ?_
  refine lv_acmp_ne (rx := some (G.2.2 1)) (ry := some (G.2.2 1)) (tgt := 13) hx hb d_AR_copyOf3_3 (by decide) (fun hz => ?_) (fun hz => ?_)
  · exact absurd rfl hz
  · refine lv_iload_n hx hb d_AR_copyOf3_6 rfl (lv_at hl 1 rfl) ?_
    refine ad_anew (n := n) S I w_271 (by omega) (by decide) (show 0 + n ≤ 100 by omega) d_AR_copyOf3_7 (fun q1 H1 n1 nz1 I => ?_)
    obtain ⟨hp1, ehp1⟩ : ∃ z : ad_H, z = ad_up hp q1 (ad_ra G n (fun _ => none)) := ⟨_, rfl⟩
    rw [← ehp1] at I
    have u1_0 : hp1 q1 = some (ad_ra G n (fun _ => none)) := by rw [ehp1]; exact ad_up_s _ _ _
    have k1 : ∀ z, z ≠ q1 → hp1 z = hp z := fun z hz => by rw [ehp1]; exact ad_up_n _ hz
    have ne_arr_q1 : arr ≠ q1 := ad_nn n1 h
    have fhp1_arr := (k1 arr ne_arr_q1).trans h
    refine lv_goto (tgt := 24) hx hb d_AR_copyOf3_10 (by decide) ?_
    refine lv_astore_n (lv' := [(3, .ref q1), (0, .ref arr), (1, .int (nI n)), (2, .ref (G.2.2 1))]) hx hb d_AR_copyOf3_24 rfl hl (by decide) rfl (fun ls hl => ?_)
    refine lv_aload_n hx hb d_AR_copyOf3_25 rfl (lv_at hl 1 rfl) ?_
    refine lv_iconst (v := 0) hx hb d_AR_copyOf3_26 (by decide) ?_
    refine lv_aload_n hx hb d_AR_copyOf3_27 rfl (lv_at hl 0 rfl) ?_
    refine lv_iconst (v := 0) hx hb d_AR_copyOf3_28 (by decide) ?_
    refine lv_aload_n hx hb d_AR_copyOf3_29 rfl (lv_at hl 1 rfl) ?_
    refine ad_alen (v := nI cp) S I fhp1_arr 1 rfl rfl d_AR_copyOf3_30 ?_
    refine lv_iload_n hx hb d_AR_copyOf3_31 rfl (lv_at hl 2 rfl) ?_
    refine va_mmin hx hb (hml.trans hl.1.symm) hown (hts _ w_272) (hts _ w_273) (hts _ w_14) (hts _ w_274) (Nat.le_of_ble_eq_true rfl) (Nat.le_of_ble_eq_true rfl) (by decide) (show 0 + n ≤ 100 by omega) d_AR_copyOf3_32 ?_
    refine ad_top (y := .int (nI cp)) (congrArg Value.int (al_min (a := cp) (b := n) hle (by omega))) ?_
    refine ad_copyq S I hl.1 fhp1_arr u1_0 (ad_nn n1 h) K hca (n := cp) (by omega) (Nat.le_refl _) hle (fun i hi y hy => ?_) w_275 w_277 w_276 w_16 (Nat.le_of_ble_eq_true rfl) (by decide) d_AR_copyOf3_35 (fun H1 locs1 I => ?_)
    · obtain ⟨vs, hv⟩ := hel i hi y hy
      exact ⟨vs, (k1 y (ad_nn n1 hv)).trans hv⟩
    obtain ⟨hp2, ehp2⟩ : ∃ z : ad_H, z = ad_up hp1 q1 (ad_ra G n (va_cpy f (fun _ => none) 0 0 cp)) := ⟨_, rfl⟩
    have I : ad_I G lo s hp2 H1 locs1 := by rw [ehp2]; exact I
    have fhp2_arr := (show hp2 arr = hp1 arr by rw [ehp2]; exact ad_up_n _ (ne_arr_q1)).trans fhp1_arr
    have fhp2_q1 : hp2 q1 = some (ad_ra G n (va_cpy f (fun _ => none) 0 0 cp)) := by rw [ehp2]; exact ad_up_s _ _ _
    refine lv_aload_n hx hb d_AR_copyOf3_38 rfl (lv_at hl 0 rfl) ?_
    exact ad_aret M I (Or.inr ⟨_, rfl⟩) (Or.inr ⟨_, rfl⟩) (by omega) (by omega) (⟨q1, rfl, n1, fhp2_q1, fun z hz => by rw [ehp2, ad_up_n _ hz]; exact k1 z hz⟩) d_AR_copyOf3_39
set_option maxHeartbeats 4000000 in
set_option maxRecDepth 100000 in
theorem c_AR_copyOf (l : Launch) (G : ad_G) (lo : Nat) (hp : ad_H) (arr cp n : Nat) (f : Nat → Option Nat) (ci : Nat) (C : String) (T : u_T) (N : Nat) (ty0 : Nat → FieldType) (h : hp arr = some (ad_ra G cp f)) (hle : cp ≤ n) (hn : n ≤ 100) (K : ad_K ci C T N ty0) (hca : Cond.castable C "java/lang/Object" ∈ ad_T) (hel : ∀ i, i < cp → ∀ y, f i = some y → ∃ vs, hp y = some (.inr (ci, vs))) : ad_Ct l y_AR_copyOf b_AR_copyOf 2 rt_AR_copyOf hs_AR_copyOf 3 1 100 G lo hp [.ref arr, .int (nI n)] (fun r hp' => ∃ q : Nat, r = .inl (some (.ref q)) ∧ hp q = none ∧ hp' q = some (ad_ra G n (va_cpy f (fun _ => none) 0 0 cp)) ∧ ∀ z, z ≠ q → hp' z = hp z) := by
  intro p e s m below meth c M hts hB hP
  have hx := M.1
  have hb := M.2.1
  have hml := M.2.2.1
  have hown : s.vm.findClass "java/util/Arrays" = some m.cls := M.2.2.2.1
  have S : CallFix p m c b_AR_copyOf 2 s _ ad_T "java/util/Arrays" := ⟨hx, hb, hml, hown, hts⟩
  have I : ad_I G lo s hp s.heap [] := ad_I.rf hB hP
  have hl := lv_entry ([.ref arr, .int (nI n)]) (n := 2) (Nat.le_of_ble_eq_true rfl)
  rw [lg_entry_eq]
  generalize (lg_sl ([.ref arr, .int (nI n)]) ++ List.replicate (2 - (lg_sl ([.ref arr, .int (nI n)])).length) Slot.unset).toArray = ls at hl ⊢
  have hl : lv_has ls 2 [(0, .ref arr), (1, .int (nI n))] := hl
  refine lv_aload_n hx hb d_AR_copyOf_0 rfl (lv_at hl 0 rfl) ?_
  refine lv_iload_n hx hb d_AR_copyOf_1 rfl (lv_at hl 1 rfl) ?_
  refine lv_aload_n hx hb d_AR_copyOf_2 rfl (lv_at hl 0 rfl) ?_
  refine va_getC (C := "[Ljava/lang/Object;") hx hb (hml.trans hl.1.symm) hown (hts _ w_253) (hts _ w_728) (hts _ w_727) (hts _ w_254) (hts _ w_265) I.1.2.2.2.2.2.2.2.2.2.2.2 ⟨_, (I.2.1 _ _ h).2, rfl, va_nmO (I.1.2.1.2 1 (G.2.1 1, .object "java/lang/Object") rfl).2 (by decide)⟩ (Nat.le_of_ble_eq_true rfl) (Nat.le_of_ble_eq_true rfl) d_AR_copyOf_3 ?_
  refine ad_cZq S I (ad_ivS (As := [.ref arr, .int (nI n), .ref (G.2.2 1)]) (rest := []) S Y_AR_copyOf3 w_266 w_267 w_15 ⟨by decide, by decide, np_AR_copyOf3⟩ rfl d_AR_copyOf_6) (c_AR_copyOf3 l G lo hp arr cp n f ci C T N ty0 h hle hn K hca hel) Y_AR_copyOf3 hl.1 ⟨Nat.le_of_ble_eq_true rfl, Nat.le_of_ble_eq_true rfl⟩ (Nat.le_of_ble_eq_true rfl) (Nat.le_of_ble_eq_true rfl) d_AR_copyOf_6 (fun q1 hp1 H1 locs1 hA I => ?_)
  obtain ⟨n1, u1_0, k1⟩ := hA
  have ne_arr_q1 : arr ≠ q1 := ad_nn n1 h
  have fhp1_arr := (k1 arr ne_arr_q1).trans h
  exact ad_aret M I (Or.inr ⟨_, rfl⟩) (Or.inr ⟨_, rfl⟩) (by omega) (by omega) (⟨q1, rfl, n1, u1_0, k1⟩) d_AR_copyOf_9
set_option maxHeartbeats 4000000 in
set_option maxRecDepth 100000 in
theorem c_AL_grow1_first (l : Launch) (G : ad_G) (lo : Nat) (hp : ad_H) (a : Nat) (sz mv : Int32) (h : hp a = some (.inr (3, [.ref (G.2.2 0), .int sz, .int mv]))) : ad_Ct l y_AL_grow1 b_AL_grow1 4 rt_AL_grow1 hs_AL_grow1 4 1 100 G lo hp [.ref a, .int (nI 1)] (fun r hp' => ∃ q : Nat, r = .inl (some (.ref q)) ∧ hp q = none ∧ hp' q = some (ad_ra G 10 (fun _ => none)) ∧ hp' a = some (.inr (3, [.ref q, .int sz, .int mv])) ∧ ∀ z, z ≠ q → z ≠ a → hp' z = hp z) := by
  intro p e s m below meth c M hts hB hP
  have hx := M.1
  have hb := M.2.1
  have hml := M.2.2.1
  have hown : s.vm.findClass "java/util/ArrayList" = some m.cls := M.2.2.2.1
  have S : CallFix p m c b_AL_grow1 4 s _ ad_T "java/util/ArrayList" := ⟨hx, hb, hml, hown, hts⟩
  have I : ad_I G lo s hp s.heap [] := ad_I.rf hB hP
  have hl := lv_entry ([.ref a, .int (nI 1)]) (n := 4) (Nat.le_of_ble_eq_true rfl)
  rw [lg_entry_eq]
  generalize (lg_sl ([.ref a, .int (nI 1)]) ++ List.replicate (4 - (lg_sl ([.ref a, .int (nI 1)])).length) Slot.unset).toArray = ls at hl ⊢
  have hl : lv_has ls 4 [(0, .ref a), (1, .int (nI 1))] := hl
  refine lv_aload_n hx hb d_AL_grow1_0 rfl (lv_at hl 0 rfl) ?_
  refine ad_get S I h K_AL 0 (by decide) w_55 rfl d_AL_grow1_1 ?_
  refine ad_alenE S I d_AL_grow1_4 ?_
  refine lv_istore_n (lv' := [(2, .int 0), (0, .ref a), (1, .int (nI 1))]) hx hb d_AL_grow1_5 rfl hl (by decide) rfl (fun ls hl => ?_)
  refine lv_iload_n hx hb d_AL_grow1_6 rfl (lv_at hl 0 rfl) ?_
  refine lv_if_gt (tgt := 20) hx hb d_AL_grow1_7 (by decide) (fun c7 => ?_) (fun c7 => ?_)
  · exact absurd c7 (by decide)
  · refine lv_aload_n hx hb d_AL_grow1_10 rfl (lv_at hl 1 rfl) ?_
    refine ad_get S I h K_AL 0 (by decide) w_55 rfl d_AL_grow1_11 ?_
    refine ad_gete S I w_53 d_AL_grow1_14 ?_
    refine lv_acmp_eq (rx := some (G.2.2 0)) (ry := some (G.2.2 0)) (tgt := 45) hx hb d_AL_grow1_17 (by decide) (fun hz => ?_) (fun hz => ?_)
    · refine lv_aload_n hx hb d_AL_grow1_45 rfl (lv_at hl 1 rfl) ?_
      refine lv_bipush (v := 10) hx hb d_AL_grow1_46 (by decide) ?_
      refine lv_iload_n hx hb d_AL_grow1_48 rfl (lv_at hl 2 rfl) ?_
      refine va_mmax hx hb (hml.trans hl.1.symm) hown (hts _ w_278) (hts _ w_244) (hts _ w_14) (hts _ w_245) (Nat.le_of_ble_eq_true rfl) (Nat.le_of_ble_eq_true rfl) (Nat.le_of_ble_eq_true rfl) (Nat.le_of_ble_eq_true rfl) d_AL_grow1_49 ?_
      refine ad_top (y := .int (nI 10)) (congrArg Value.int (by decide)) ?_
      refine ad_anew (n := 10) S I w_279 (by decide) (by decide) (by decide) d_AL_grow1_52 (fun q1 H1 n1 nz1 I => ?_)
      obtain ⟨hp1, ehp1⟩ : ∃ z : ad_H, z = ad_up hp q1 (ad_ra G 10 (fun _ => none)) := ⟨_, rfl⟩
      rw [← ehp1] at I
      have u1_0 : hp1 q1 = some (ad_ra G 10 (fun _ => none)) := by rw [ehp1]; exact ad_up_s _ _ _
      have k1 : ∀ z, z ≠ q1 → hp1 z = hp z := fun z hz => by rw [ehp1]; exact ad_up_n _ hz
      have ne_a_q1 : a ≠ q1 := ad_nn n1 h
      have fhp1_a := (k1 a ne_a_q1).trans h
      refine lv_dup_x1 hx hb d_AL_grow1_55 rfl rfl ?_
      refine ad_put S I fhp1_a K_AL 0 (by decide) w_55 rfl rfl rfl (by simp) d_AL_grow1_56 (fun H1 locs1 I => ?_)
      obtain ⟨hp2, ehp2⟩ : ∃ z : ad_H, z = ad_up hp1 a (.inr (3, [.ref q1, .int sz, .int mv])) := ⟨_, rfl⟩
      have I : ad_I G lo s hp2 H1 locs1 := by rw [ehp2]; exact I
      have fhp2_a : hp2 a = some (.inr (3, [.ref q1, .int sz, .int mv])) := by rw [ehp2]; exact ad_up_s _ _ _
      have fhp2_q1 := (show hp2 q1 = hp1 q1 by rw [ehp2]; exact ad_up_n _ ((ne_a_q1).symm)).trans u1_0
      exact ad_aret M I (Or.inr ⟨_, rfl⟩) (Or.inr ⟨_, rfl⟩) (by omega) (by omega) (⟨q1, rfl, n1, fhp2_q1, fhp2_a, fun z h1 h2 => by rw [ehp2, ad_up_n _ h2]; exact k1 z h1⟩) d_AL_grow1_59
    · exact absurd rfl hz
set_option maxHeartbeats 4000000 in
set_option maxRecDepth 100000 in
theorem c_AL_grow1_full (l : Launch) (G : ad_G) (lo : Nat) (hp : ad_H) (a arr cp : Nat) (f : Nat → Option Nat) (sz mv : Int32) (ci : Nat) (C : String) (T : u_T) (N : Nat) (ty0 : Nat → FieldType) (h : hp a = some (.inr (3, [.ref arr, .int sz, .int mv]))) (h2 : hp arr = some (ad_ra G cp f)) (hc2 : 2 ≤ cp) (hc : cp ≤ 66) (K : ad_K ci C T N ty0) (hca : Cond.castable C "java/lang/Object" ∈ ad_T) (hel : ∀ i, i < cp → ∀ y, f i = some y → ∃ vs, hp y = some (.inr (ci, vs))) : ad_Ct l y_AL_grow1 b_AL_grow1 4 rt_AL_grow1 hs_AL_grow1 4 1 100 G lo hp [.ref a, .int (nI (cp + 1))] (fun r hp' => ∃ q : Nat, r = .inl (some (.ref q)) ∧ hp q = none ∧ hp' q = some (ad_ra G (cp + cp / 2) (va_cpy f (fun _ => none) 0 0 cp)) ∧ hp' a = some (.inr (3, [.ref q, .int sz, .int mv])) ∧ ∀ z, z ≠ q → z ≠ a → hp' z = hp z) := by
  intro p e s m below meth c M hts hB hP
  have hx := M.1
  have hb := M.2.1
  have hml := M.2.2.1
  have hown : s.vm.findClass "java/util/ArrayList" = some m.cls := M.2.2.2.1
  have S : CallFix p m c b_AL_grow1 4 s _ ad_T "java/util/ArrayList" := ⟨hx, hb, hml, hown, hts⟩
  have I : ad_I G lo s hp s.heap [] := ad_I.rf hB hP
  have hl := lv_entry ([.ref a, .int (nI (cp + 1))]) (n := 4) (Nat.le_of_ble_eq_true rfl)
  rw [lg_entry_eq]
  generalize (lg_sl ([.ref a, .int (nI (cp + 1))]) ++ List.replicate (4 - (lg_sl ([.ref a, .int (nI (cp + 1))])).length) Slot.unset).toArray = ls at hl ⊢
  have hl : lv_has ls 4 [(0, .ref a), (1, .int (nI (cp + 1)))] := hl
  refine lv_aload_n hx hb d_AL_grow1_0 rfl (lv_at hl 0 rfl) ?_
  refine ad_get S I h K_AL 0 (by decide) w_55 rfl d_AL_grow1_1 ?_
  refine ad_alen (v := nI cp) S I h2 1 rfl rfl d_AL_grow1_4 ?_
  refine lv_istore_n (lv' := [(2, .int (nI cp)), (0, .ref a), (1, .int (nI (cp + 1)))]) hx hb d_AL_grow1_5 rfl hl (by decide) rfl (fun ls hl => ?_)
  refine lv_iload_n hx hb d_AL_grow1_6 rfl (lv_at hl 0 rfl) ?_
  refine lv_if_gt (tgt := 20) hx hb d_AL_grow1_7 (by decide) (fun c7 => ?_) (fun c7 => ?_)
  · refine lv_iload_n hx hb d_AL_grow1_20 rfl (lv_at hl 0 rfl) ?_
    refine lv_iload_n hx hb d_AL_grow1_21 rfl (lv_at hl 2 rfl) ?_
    refine lv_iload_n hx hb d_AL_grow1_22 rfl (lv_at hl 0 rfl) ?_
    refine lv_isub hx hb d_AL_grow1_23 ?_
    refine ad_top (y := .int (nI 1)) (congrArg Value.int ((pk_sub (by omega)).trans (congrArg nI (by omega)))) ?_
    refine lv_iload_n hx hb d_AL_grow1_24 rfl (lv_at hl 0 rfl) ?_
    refine lv_iconst (v := 1) hx hb d_AL_grow1_25 (by decide) ?_
    refine lv_ishr hx hb d_AL_grow1_26 ?_
    refine ad_top (y := .int (nI (cp / 2))) (congrArg Value.int (pk_shrN (by omega) _ 1 (by decide))) ?_
    refine ad_cPi S I (ad_ivS (As := [.int (nI cp), .int (nI 1), .int (nI (cp / 2))]) (rest := []) S Y_AS_newLength w_240 w_241 w_13 ⟨by decide, by decide, np_AS_newLength⟩ rfl d_AL_grow1_27) (c_AS_newLength l G lo hp cp hc2 (by omega)) Y_AS_newLength hl.1 ⟨Nat.le_of_ble_eq_true rfl, Nat.le_of_ble_eq_true rfl⟩ (Nat.le_of_ble_eq_true rfl) (Nat.le_of_ble_eq_true rfl) d_AL_grow1_27 ?_
    refine lv_istore_n (lv' := [(3, .int (nI (cp + cp / 2))), (2, .int (nI cp)), (0, .ref a), (1, .int (nI (cp + 1)))]) hx hb d_AL_grow1_30 rfl hl (by decide) rfl (fun ls hl => ?_)
    refine lv_aload_n hx hb d_AL_grow1_31 rfl (lv_at hl 2 rfl) ?_
    refine lv_aload_n hx hb d_AL_grow1_32 rfl (lv_at hl 2 rfl) ?_
    refine ad_get S I h K_AL 0 (by decide) w_55 rfl d_AL_grow1_33 ?_
    refine lv_iload_n hx hb d_AL_grow1_36 rfl (lv_at hl 0 rfl) ?_
    refine ad_cZq S I (ad_ivS (As := [.ref arr, .int (nI (cp + cp / 2))]) (rest := [.ref a]) S Y_AR_copyOf w_250 w_251 w_15 ⟨by decide, by decide, np_AR_copyOf⟩ rfl d_AL_grow1_37) (c_AR_copyOf l G lo hp arr cp (cp + cp / 2) f ci C T N ty0 h2 (by omega) (by omega) K hca hel) Y_AR_copyOf hl.1 ⟨Nat.le_of_ble_eq_true rfl, Nat.le_of_ble_eq_true rfl⟩ (Nat.le_of_ble_eq_true rfl) (Nat.le_of_ble_eq_true rfl) d_AL_grow1_37 (fun q1 hp1 H1 locs1 hA I => ?_)
    obtain ⟨n1, u1_0, k1⟩ := hA
    have ne_a_q1 : a ≠ q1 := ad_nn n1 h
    have fhp1_a := (k1 a ne_a_q1).trans h
    have ne_arr_q1 : arr ≠ q1 := ad_nn n1 h2
    have fhp1_arr := (k1 arr ne_arr_q1).trans h2
    refine lv_dup_x1 hx hb d_AL_grow1_40 rfl rfl ?_
    refine ad_put S I fhp1_a K_AL 0 (by decide) w_55 rfl rfl rfl (by simp) d_AL_grow1_41 (fun H1 locs1 I => ?_)
    obtain ⟨hp2, ehp2⟩ : ∃ z : ad_H, z = ad_up hp1 a (.inr (3, [.ref q1, .int sz, .int mv])) := ⟨_, rfl⟩
    have I : ad_I G lo s hp2 H1 locs1 := by rw [ehp2]; exact I
    have fhp2_a : hp2 a = some (.inr (3, [.ref q1, .int sz, .int mv])) := by rw [ehp2]; exact ad_up_s _ _ _
    have fhp2_arr := (show hp2 arr = hp1 arr by rw [ehp2]; exact ad_up_n _ (ad_ne fhp1_arr fhp1_a (by simp))).trans fhp1_arr
    have fhp2_q1 := (show hp2 q1 = hp1 q1 by rw [ehp2]; exact ad_up_n _ ((ne_a_q1).symm)).trans u1_0
    exact ad_aret M I (Or.inr ⟨_, rfl⟩) (Or.inr ⟨_, rfl⟩) (by omega) (by omega) (⟨q1, rfl, n1, fhp2_q1, fhp2_a, fun z h1 h2 => by rw [ehp2, ad_up_n _ h2]; exact k1 z h1⟩) d_AL_grow1_44
  · exact absurd (nI_lt (a := 0) (b := cp) (by omega) (by omega)) c7
end
section
theorem W.ad_mono {p : Program} {l : Launch} {e : Env} {R : Room} {s : State} {m : MethodId} {args : Array Value} {below : List Frame} {meth : Method} {c : Code} {H : Heap} {locs : List Loc} {cells slots : Nat} {Q Q2 : State → Prop} {g : JFrame} (h : ∀ t, Q t → Q2 t) (k : W p l e R s m args below meth c H locs cells slots Q g) : W p l e R s m args below meth c H locs cells slots Q2 g := fun T hT X => by
  obtain ⟨t, a, b⟩ := k T hT X
  exact ⟨t, a, h t b⟩
theorem ad_Ct.mono {l : Launch} {y : MethodName} {cc : ByteArray} {nL : Nat} {rt : Option FieldType} {hs : List (Nat × Nat × Nat × Nat)} {d mc ms : Nat} {G : ad_G} {lo : Nat} {hp : ad_H} {av : List Value} {Post Post2 : ad_R → ad_H → Prop} (K : ad_Ct l y cc nL rt hs d mc ms G lo hp av Post) (h : ∀ r hp', Post r hp' → Post2 r hp') : ad_Ct l y cc nL rt hs d mc ms G lo hp av Post2 := fun p e s m below meth c M hts hB hP => by
  refine W.ad_mono (fun t ht => ?_) (K p e s m below meth c M hts hB hP)
  obtain ⟨o, r, hp', h1, h2, h3, h4, h5, h6⟩ := ht
  exact ⟨o, r, hp', h1, h2, h3, h4, h _ _ h5, h6⟩
set_option maxHeartbeats 4000000 in
set_option maxRecDepth 100000 in
theorem c_AL_grow_first (l : Launch) (G : ad_G) (lo : Nat) (hp : ad_H) (a : Nat) (mv : Int32) (h : hp a = some (.inr (3, [.ref (G.2.2 0), .int (nI 0), .int mv]))) : ad_Ct l y_AL_grow b_AL_grow 1 rt_AL_grow hs_AL_grow 5 1 100 G lo hp [.ref a] (fun r hp' => ∃ q : Nat, r = .inl (some (.ref q)) ∧ hp q = none ∧ hp' q = some (ad_ra G 10 (fun _ => none)) ∧ hp' a = some (.inr (3, [.ref q, .int (nI 0), .int mv])) ∧ ∀ z, z ≠ q → z ≠ a → hp' z = hp z) := by
  intro p e s m below meth c M hts hB hP
  have hx := M.1
  have hb := M.2.1
  have hml := M.2.2.1
  have hown : s.vm.findClass "java/util/ArrayList" = some m.cls := M.2.2.2.1
  have S : CallFix p m c b_AL_grow 1 s _ ad_T "java/util/ArrayList" := ⟨hx, hb, hml, hown, hts⟩
  have I : ad_I G lo s hp s.heap [] := ad_I.rf hB hP
  have hl := lv_entry ([.ref a]) (n := 1) (Nat.le_of_ble_eq_true rfl)
  rw [lg_entry_eq]
  generalize (lg_sl ([.ref a]) ++ List.replicate (1 - (lg_sl ([.ref a])).length) Slot.unset).toArray = ls at hl ⊢
  have hl : lv_has ls 1 [(0, .ref a)] := hl
  refine lv_aload_n hx hb d_AL_grow_0 rfl (lv_at hl 0 rfl) ?_
  refine lv_aload_n hx hb d_AL_grow_1 rfl (lv_at hl 0 rfl) ?_
  refine ad_get S I h K_AL 1 (by decide) w_56 rfl d_AL_grow_2 ?_
  refine lv_iconst (v := 1) hx hb d_AL_grow_5 (by decide) ?_
  refine lv_iadd hx hb d_AL_grow_6 ?_
  refine ad_cZq S I (ad_ivV (As := [.int ((nI 0) + 1)]) (rest := []) S (ad_recv I h K_AL) w_236 w_238 sp_AL_grow1 Y_AL_grow1 ⟨by decide, by decide, np_AL_grow1⟩ rfl d_AL_grow_7) (c_AL_grow1_first l G lo hp a (nI 0) mv h) Y_AL_grow1 hl.1 ⟨Nat.le_of_ble_eq_true rfl, Nat.le_of_ble_eq_true rfl⟩ (Nat.le_of_ble_eq_true rfl) (Nat.le_of_ble_eq_true rfl) d_AL_grow_7 (fun q1 hp1 H1 locs1 hA I => ?_)
  obtain ⟨n1, u1_0, u1_1, k1⟩ := hA
  exact ad_aret M I (Or.inr ⟨_, rfl⟩) (Or.inr ⟨_, rfl⟩) (by omega) (by omega) (⟨q1, rfl, n1, u1_0, u1_1, k1⟩) d_AL_grow_10
set_option maxHeartbeats 4000000 in
set_option maxRecDepth 100000 in
theorem c_AL_grow_full (l : Launch) (G : ad_G) (lo : Nat) (hp : ad_H) (a arr cp : Nat) (f : Nat → Option Nat) (mv : Int32) (ci : Nat) (C : String) (T : u_T) (N : Nat) (ty0 : Nat → FieldType) (h : hp a = some (.inr (3, [.ref arr, .int (nI cp), .int mv]))) (h2 : hp arr = some (ad_ra G cp f)) (hc2 : 2 ≤ cp) (hc : cp ≤ 66) (K : ad_K ci C T N ty0) (hca : Cond.castable C "java/lang/Object" ∈ ad_T) (hel : ∀ i, i < cp → ∀ y, f i = some y → ∃ vs, hp y = some (.inr (ci, vs))) : ad_Ct l y_AL_grow b_AL_grow 1 rt_AL_grow hs_AL_grow 5 1 100 G lo hp [.ref a] (fun r hp' => ∃ q : Nat, r = .inl (some (.ref q)) ∧ hp q = none ∧ hp' q = some (ad_ra G (cp + cp / 2) (va_cpy f (fun _ => none) 0 0 cp)) ∧ hp' a = some (.inr (3, [.ref q, .int (nI cp), .int mv])) ∧ ∀ z, z ≠ q → z ≠ a → hp' z = hp z) := by
  intro p e s m below meth c M hts hB hP
  have hx := M.1
  have hb := M.2.1
  have hml := M.2.2.1
  have hown : s.vm.findClass "java/util/ArrayList" = some m.cls := M.2.2.2.1
  have S : CallFix p m c b_AL_grow 1 s _ ad_T "java/util/ArrayList" := ⟨hx, hb, hml, hown, hts⟩
  have I : ad_I G lo s hp s.heap [] := ad_I.rf hB hP
  have hl := lv_entry ([.ref a]) (n := 1) (Nat.le_of_ble_eq_true rfl)
  rw [lg_entry_eq]
  generalize (lg_sl ([.ref a]) ++ List.replicate (1 - (lg_sl ([.ref a])).length) Slot.unset).toArray = ls at hl ⊢
  have hl : lv_has ls 1 [(0, .ref a)] := hl
  refine lv_aload_n hx hb d_AL_grow_0 rfl (lv_at hl 0 rfl) ?_
  refine lv_aload_n hx hb d_AL_grow_1 rfl (lv_at hl 0 rfl) ?_
  refine ad_get S I h K_AL 1 (by decide) w_56 rfl d_AL_grow_2 ?_
  refine lv_iconst (v := 1) hx hb d_AL_grow_5 (by decide) ?_
  refine lv_iadd hx hb d_AL_grow_6 ?_
  refine ad_top (y := .int (nI (cp + 1))) (congrArg Value.int (nI_1 cp)) ?_
  refine ad_cZq S I (ad_ivV (As := [.int (nI (cp + 1))]) (rest := []) S (ad_recv I h K_AL) w_236 w_238 sp_AL_grow1 Y_AL_grow1 ⟨by decide, by decide, np_AL_grow1⟩ rfl d_AL_grow_7) (c_AL_grow1_full l G lo hp a arr cp f (nI cp) mv ci C T N ty0 h h2 hc2 hc K hca hel) Y_AL_grow1 hl.1 ⟨Nat.le_of_ble_eq_true rfl, Nat.le_of_ble_eq_true rfl⟩ (Nat.le_of_ble_eq_true rfl) (Nat.le_of_ble_eq_true rfl) d_AL_grow_7 (fun q1 hp1 H1 locs1 hA I => ?_)
  obtain ⟨n1, u1_0, u1_1, k1⟩ := hA
  have ne_arr_q1 : arr ≠ q1 := ad_nn n1 h2
  have fhp1_arr := (k1 arr ne_arr_q1 (ad_ne h2 h (by simp))).trans h2
  exact ad_aret M I (Or.inr ⟨_, rfl⟩) (Or.inr ⟨_, rfl⟩) (by omega) (by omega) (⟨q1, rfl, n1, u1_0, u1_1, k1⟩) d_AL_grow_10
set_option maxHeartbeats 4000000 in
set_option maxRecDepth 100000 in
theorem c_AL_add3_in (l : Launch) (G : ad_G) (lo : Nat) (hp : ad_H) (a arr cp n : Nat) (f : Nat → Option Nat) (mv : Int32) (v : Nat) (vs : List Value) (ci : Nat) (C : String) (T : u_T) (N : Nat) (ty0 : Nat → FieldType) (h : hp a = some (.inr (3, [.ref arr, .int (nI n), .int mv]))) (h2 : hp arr = some (ad_ra G cp f)) (hv : hp v = some (.inr (ci, vs))) (hn : n < cp) (hc : cp ≤ 100) (hna : v ≠ a) (K : ad_K ci C T N ty0) (hca : Cond.castable C "java/lang/Object" ∈ ad_T) : ad_Ct l y_AL_add3 b_AL_add3 4 rt_AL_add3 hs_AL_add3 6 1 100 G lo hp [.ref a, .ref v, .ref arr, .int (nI n)] (fun r hp' => r = .inl none ∧ hp' arr = some (ad_ra G cp (va_up f n (some v))) ∧ hp' a = some (.inr (3, [.ref arr, .int (nI (n + 1)), .int mv])) ∧ ∀ z, z ≠ arr → z ≠ a → hp' z = hp z) := by
  intro p e s m below meth c M hts hB hP
  have hx := M.1
  have hb := M.2.1
  have hml := M.2.2.1
  have hown : s.vm.findClass "java/util/ArrayList" = some m.cls := M.2.2.2.1
  have S : CallFix p m c b_AL_add3 4 s _ ad_T "java/util/ArrayList" := ⟨hx, hb, hml, hown, hts⟩
  have I : ad_I G lo s hp s.heap [] := ad_I.rf hB hP
  have hl := lv_entry ([.ref a, .ref v, .ref arr, .int (nI n)]) (n := 4) (Nat.le_of_ble_eq_true rfl)
  rw [lg_entry_eq]
  generalize (lg_sl ([.ref a, .ref v, .ref arr, .int (nI n)]) ++ List.replicate (4 - (lg_sl ([.ref a, .ref v, .ref arr, .int (nI n)])).length) Slot.unset).toArray = ls at hl ⊢
  have hl : lv_has ls 4 [(0, .ref a), (1, .ref v), (2, .ref arr), (3, .int (nI n))] := hl
  refine lv_iload_n hx hb d_AL_add3_0 rfl (lv_at hl 3 rfl) ?_
  refine lv_aload_n hx hb d_AL_add3_1 rfl (lv_at hl 2 rfl) ?_
  refine ad_alen (v := nI cp) S I h2 1 rfl rfl d_AL_add3_2 ?_
  refine lv_icmp_ne (tgt := 11) hx hb d_AL_add3_3 (by decide) (fun c3 => ?_) (fun c3 => ?_)
  · refine lv_aload_n hx hb d_AL_add3_11 rfl (lv_at hl 2 rfl) ?_
    refine lv_iload_n hx hb d_AL_add3_12 rfl (lv_at hl 3 rfl) ?_
    refine lv_aload_n hx hb d_AL_add3_13 rfl (lv_at hl 1 rfl) ?_
    refine ad_aast S I h2 hv K hca (vp_in_nI hn (by omega)) d_AL_add3_14 (fun H1 locs1 I => ?_)
    rw [show (nI n).toNatClampNeg = n from nI_clamp (by omega)] at I
    obtain ⟨hp1, ehp1⟩ : ∃ z : ad_H, z = ad_up hp arr (ad_ra G cp (va_up f n (some v))) := ⟨_, rfl⟩
    have I : ad_I G lo s hp1 H1 locs1 := by rw [ehp1]; exact I
    have fhp1_a := (show hp1 a = hp a by rw [ehp1]; exact ad_up_n _ (ad_ne h h2 (by simp))).trans h
    have fhp1_v := (show hp1 v = hp v by rw [ehp1]; exact ad_up_n _ (ad_ne hv h2 (by simp))).trans hv
    have fhp1_arr : hp1 arr = some (ad_ra G cp (va_up f n (some v))) := by rw [ehp1]; exact ad_up_s _ _ _
    refine lv_aload_n hx hb d_AL_add3_15 rfl (lv_at hl 0 rfl) ?_
    refine lv_iload_n hx hb d_AL_add3_16 rfl (lv_at hl 3 rfl) ?_
    refine lv_iconst (v := 1) hx hb d_AL_add3_17 (by decide) ?_
    refine lv_iadd hx hb d_AL_add3_18 ?_
    refine ad_top (y := .int (nI (n + 1))) (congrArg Value.int (nI_1 n)) ?_
    refine ad_put S I fhp1_a K_AL 1 (by decide) w_56 rfl rfl rfl (by simp) d_AL_add3_19 (fun H1 locs1 I => ?_)
    obtain ⟨hp2, ehp2⟩ : ∃ z : ad_H, z = ad_up hp1 a (.inr (3, [.ref arr, .int (nI (n + 1)), .int mv])) := ⟨_, rfl⟩
    have I : ad_I G lo s hp2 H1 locs1 := by rw [ehp2]; exact I
    have fhp2_a : hp2 a = some (.inr (3, [.ref arr, .int (nI (n + 1)), .int mv])) := by rw [ehp2]; exact ad_up_s _ _ _
    have fhp2_v := (show hp2 v = hp1 v by rw [ehp2]; exact ad_up_n _ (hna)).trans fhp1_v
    have fhp2_arr := (show hp2 arr = hp1 arr by rw [ehp2]; exact ad_up_n _ (ad_ne fhp1_arr fhp1_a (by simp))).trans fhp1_arr
    exact ad_vret M I (by omega) (by omega) (⟨rfl, fhp2_arr, fhp2_a, fun z h1 h2 => by rw [ehp2, ad_up_n _ h2, ehp1, ad_up_n _ h1]⟩) d_AL_add3_22
  · exact absurd ((nI_eq (by omega) (by omega)).mp c3) (by omega)
set_option maxHeartbeats 4000000 in
set_option maxRecDepth 100000 in
theorem c_AL_add3_first (l : Launch) (G : ad_G) (lo : Nat) (hp : ad_H) (a : Nat) (mv : Int32) (v : Nat) (vs : List Value) (ci : Nat) (C : String) (T : u_T) (N : Nat) (ty0 : Nat → FieldType) (h : hp a = some (.inr (3, [.ref (G.2.2 0), .int (nI 0), .int mv]))) (hv : hp v = some (.inr (ci, vs))) (hna : v ≠ a) (K : ad_K ci C T N ty0) (hca : Cond.castable C "java/lang/Object" ∈ ad_T) : ad_Ct l y_AL_add3 b_AL_add3 4 rt_AL_add3 hs_AL_add3 6 1 100 G lo hp [.ref a, .ref v, .ref (G.2.2 0), .int (nI 0)] (fun r hp' => r = .inl none ∧ ∃ q : Nat, hp q = none ∧ hp' q = some (ad_ra G 10 (va_up (fun _ => none) 0 (some v))) ∧ hp' a = some (.inr (3, [.ref q, .int (nI (0 + 1)), .int mv])) ∧ ∀ z, z ≠ q → z ≠ a → hp' z = hp z) := by
  intro p e s m below meth c M hts hB hP
  have hx := M.1
  have hb := M.2.1
  have hml := M.2.2.1
  have hown : s.vm.findClass "java/util/ArrayList" = some m.cls := M.2.2.2.1
  have S : CallFix p m c b_AL_add3 4 s _ ad_T "java/util/ArrayList" := ⟨hx, hb, hml, hown, hts⟩
  have I : ad_I G lo s hp s.heap [] := ad_I.rf hB hP
  have hl := lv_entry ([.ref a, .ref v, .ref (G.2.2 0), .int (nI 0)]) (n := 4) (Nat.le_of_ble_eq_true rfl)
  rw [lg_entry_eq]
  generalize (lg_sl ([.ref a, .ref v, .ref (G.2.2 0), .int (nI 0)]) ++ List.replicate (4 - (lg_sl ([.ref a, .ref v, .ref (G.2.2 0), .int (nI 0)])).length) Slot.unset).toArray = ls at hl ⊢
  have hl : lv_has ls 4 [(0, .ref a), (1, .ref v), (2, .ref (G.2.2 0)), (3, .int (nI 0))] := hl
  refine lv_iload_n hx hb d_AL_add3_0 rfl (lv_at hl 3 rfl) ?_
  refine lv_aload_n hx hb d_AL_add3_1 rfl (lv_at hl 2 rfl) ?_
  refine ad_alenE S I d_AL_add3_2 ?_
  refine lv_icmp_ne (tgt := 11) hx hb d_AL_add3_3 (by decide) (fun c3 => ?_) (fun c3 => ?_)
  · exact absurd rfl c3
  · refine lv_aload_n hx hb d_AL_add3_6 rfl (lv_at hl 0 rfl) ?_
    refine ad_cZq S I (ad_ivV (As := []) (rest := []) S (ad_recv I h K_AL) w_232 w_234 sp_AL_grow Y_AL_grow ⟨by decide, by decide, np_AL_grow⟩ rfl d_AL_add3_7) (c_AL_grow_first l G lo hp a mv h) Y_AL_grow hl.1 ⟨Nat.le_of_ble_eq_true rfl, Nat.le_of_ble_eq_true rfl⟩ (Nat.le_of_ble_eq_true rfl) (Nat.le_of_ble_eq_true rfl) d_AL_add3_7 (fun q1 hp1 H1 locs1 hA I => ?_)
    obtain ⟨n1, u1_0, u1_1, k1⟩ := hA
    have ne_v_q1 : v ≠ q1 := ad_nn n1 hv
    have fhp1_v := (k1 v ne_v_q1 (hna)).trans hv
    refine lv_astore_n (lv' := [(2, .ref q1), (0, .ref a), (1, .ref v), (3, .int (nI 0))]) hx hb d_AL_add3_10 rfl hl (by decide) rfl (fun ls hl => ?_)
    refine lv_aload_n hx hb d_AL_add3_11 rfl (lv_at hl 0 rfl) ?_
    refine lv_iload_n hx hb d_AL_add3_12 rfl (lv_at hl 3 rfl) ?_
    refine lv_aload_n hx hb d_AL_add3_13 rfl (lv_at hl 2 rfl) ?_
    refine ad_aast S I u1_0 fhp1_v K hca (vp_in_nI (by omega) (by omega)) d_AL_add3_14 (fun H1 locs1 I => ?_)
    rw [show (nI 0).toNatClampNeg = 0 from nI_clamp (by omega)] at I
    obtain ⟨hp2, ehp2⟩ : ∃ z : ad_H, z = ad_up hp1 q1 (ad_ra G 10 (va_up (fun _ => none) 0 (some v))) := ⟨_, rfl⟩
    have I : ad_I G lo s hp2 H1 locs1 := by rw [ehp2]; exact I
    have fhp2_a := (show hp2 a = hp1 a by rw [ehp2]; exact ad_up_n _ (ad_ne u1_1 u1_0 (by simp))).trans u1_1
    have fhp2_v := (show hp2 v = hp1 v by rw [ehp2]; exact ad_up_n _ (ne_v_q1)).trans fhp1_v
    have fhp2_q1 : hp2 q1 = some (ad_ra G 10 (va_up (fun _ => none) 0 (some v))) := by rw [ehp2]; exact ad_up_s _ _ _
    refine lv_aload_n hx hb d_AL_add3_15 rfl (lv_at hl 1 rfl) ?_
    refine lv_iload_n hx hb d_AL_add3_16 rfl (lv_at hl 3 rfl) ?_
    refine lv_iconst (v := 1) hx hb d_AL_add3_17 (by decide) ?_
    refine lv_iadd hx hb d_AL_add3_18 ?_
    refine ad_top (y := .int (nI (0 + 1))) (congrArg Value.int (nI_1 0)) ?_
    refine ad_put S I fhp2_a K_AL 1 (by decide) w_56 rfl rfl rfl (by simp) d_AL_add3_19 (fun H1 locs1 I => ?_)
    obtain ⟨hp3, ehp3⟩ : ∃ z : ad_H, z = ad_up hp2 a (.inr (3, [.ref q1, .int (nI (0 + 1)), .int mv])) := ⟨_, rfl⟩
    have I : ad_I G lo s hp3 H1 locs1 := by rw [ehp3]; exact I
    have fhp3_a : hp3 a = some (.inr (3, [.ref q1, .int (nI (0 + 1)), .int mv])) := by rw [ehp3]; exact ad_up_s _ _ _
    have fhp3_v := (show hp3 v = hp2 v by rw [ehp3]; exact ad_up_n _ (hna)).trans fhp2_v
    have fhp3_q1 := (show hp3 q1 = hp2 q1 by rw [ehp3]; exact ad_up_n _ (ad_ne fhp2_q1 fhp2_a (by simp))).trans fhp2_q1
    exact ad_vret M I (by omega) (by omega) (⟨rfl, q1, n1, fhp3_q1, fhp3_a, fun z h1 h2 => by rw [ehp3, ad_up_n _ h2, ehp2, ad_up_n _ h1]; exact k1 z h1 h2⟩) d_AL_add3_22
set_option maxHeartbeats 4000000 in
set_option maxRecDepth 100000 in
theorem c_AL_add3_full (l : Launch) (G : ad_G) (lo : Nat) (hp : ad_H) (a arr cp : Nat) (f : Nat → Option Nat) (mv : Int32) (v : Nat) (vs : List Value) (ci : Nat) (C : String) (T : u_T) (N : Nat) (ty0 : Nat → FieldType) (h : hp a = some (.inr (3, [.ref arr, .int (nI cp), .int mv]))) (h2 : hp arr = some (ad_ra G cp f)) (hc2 : 2 ≤ cp) (hc : cp ≤ 66) (K : ad_K ci C T N ty0) (hca : Cond.castable C "java/lang/Object" ∈ ad_T) (hel : ∀ i, i < cp → ∀ y, f i = some y → ∃ vs, hp y = some (.inr (ci, vs))) (hv : hp v = some (.inr (ci, vs))) (hna : v ≠ a) : ad_Ct l y_AL_add3 b_AL_add3 4 rt_AL_add3 hs_AL_add3 6 1 100 G lo hp [.ref a, .ref v, .ref arr, .int (nI cp)] (fun r hp' => r = .inl none ∧ ∃ q : Nat, hp q = none ∧ hp' q = some (ad_ra G (cp + cp / 2) (va_up (va_cpy f (fun _ => none) 0 0 cp) cp (some v))) ∧ hp' a = some (.inr (3, [.ref q, .int (nI (cp + 1)), .int mv])) ∧ ∀ z, z ≠ q → z ≠ a → hp' z = hp z) := by
  intro p e s m below meth c M hts hB hP
  have hx := M.1
  have hb := M.2.1
  have hml := M.2.2.1
  have hown : s.vm.findClass "java/util/ArrayList" = some m.cls := M.2.2.2.1
  have S : CallFix p m c b_AL_add3 4 s _ ad_T "java/util/ArrayList" := ⟨hx, hb, hml, hown, hts⟩
  have I : ad_I G lo s hp s.heap [] := ad_I.rf hB hP
  have hl := lv_entry ([.ref a, .ref v, .ref arr, .int (nI cp)]) (n := 4) (Nat.le_of_ble_eq_true rfl)
  rw [lg_entry_eq]
  generalize (lg_sl ([.ref a, .ref v, .ref arr, .int (nI cp)]) ++ List.replicate (4 - (lg_sl ([.ref a, .ref v, .ref arr, .int (nI cp)])).length) Slot.unset).toArray = ls at hl ⊢
  have hl : lv_has ls 4 [(0, .ref a), (1, .ref v), (2, .ref arr), (3, .int (nI cp))] := hl
  refine lv_iload_n hx hb d_AL_add3_0 rfl (lv_at hl 3 rfl) ?_
  refine lv_aload_n hx hb d_AL_add3_1 rfl (lv_at hl 2 rfl) ?_
  refine ad_alen (v := nI cp) S I h2 1 rfl rfl d_AL_add3_2 ?_
  refine lv_icmp_ne (tgt := 11) hx hb d_AL_add3_3 (by decide) (fun c3 => ?_) (fun c3 => ?_)
  · exact absurd rfl c3
  · refine lv_aload_n hx hb d_AL_add3_6 rfl (lv_at hl 0 rfl) ?_
    refine ad_cZq S I (ad_ivV (As := []) (rest := []) S (ad_recv I h K_AL) w_232 w_234 sp_AL_grow Y_AL_grow ⟨by decide, by decide, np_AL_grow⟩ rfl d_AL_add3_7) (c_AL_grow_full l G lo hp a arr cp f mv ci C T N ty0 h h2 hc2 hc K hca hel) Y_AL_grow hl.1 ⟨Nat.le_of_ble_eq_true rfl, Nat.le_of_ble_eq_true rfl⟩ (Nat.le_of_ble_eq_true rfl) (Nat.le_of_ble_eq_true rfl) d_AL_add3_7 (fun q1 hp1 H1 locs1 hA I => ?_)
    obtain ⟨n1, u1_0, u1_1, k1⟩ := hA
    have ne_v_q1 : v ≠ q1 := ad_nn n1 hv
    have fhp1_v := (k1 v ne_v_q1 (hna)).trans hv
    have ne_arr_q1 : arr ≠ q1 := ad_nn n1 h2
    have fhp1_arr := (k1 arr ne_arr_q1 (ad_ne h2 h (by simp))).trans h2
    refine lv_astore_n (lv' := [(2, .ref q1), (0, .ref a), (1, .ref v), (3, .int (nI cp))]) hx hb d_AL_add3_10 rfl hl (by decide) rfl (fun ls hl => ?_)
    refine lv_aload_n hx hb d_AL_add3_11 rfl (lv_at hl 0 rfl) ?_
    refine lv_iload_n hx hb d_AL_add3_12 rfl (lv_at hl 3 rfl) ?_
    refine lv_aload_n hx hb d_AL_add3_13 rfl (lv_at hl 2 rfl) ?_
    refine ad_aast S I u1_0 fhp1_v K hca (vp_in_nI (by omega) (by omega)) d_AL_add3_14 (fun H1 locs1 I => ?_)
    rw [show (nI cp).toNatClampNeg = cp from nI_clamp (by omega)] at I
    obtain ⟨hp2, ehp2⟩ : ∃ z : ad_H, z = ad_up hp1 q1 (ad_ra G (cp + cp / 2) (va_up (va_cpy f (fun _ => none) 0 0 cp) cp (some v))) := ⟨_, rfl⟩
    have I : ad_I G lo s hp2 H1 locs1 := by rw [ehp2]; exact I
    have fhp2_a := (show hp2 a = hp1 a by rw [ehp2]; exact ad_up_n _ (ad_ne u1_1 u1_0 (by simp))).trans u1_1
    have fhp2_v := (show hp2 v = hp1 v by rw [ehp2]; exact ad_up_n _ (ne_v_q1)).trans fhp1_v
    have fhp2_arr := (show hp2 arr = hp1 arr by rw [ehp2]; exact ad_up_n _ (ne_arr_q1)).trans fhp1_arr
    have fhp2_q1 : hp2 q1 = some (ad_ra G (cp + cp / 2) (va_up (va_cpy f (fun _ => none) 0 0 cp) cp (some v))) := by rw [ehp2]; exact ad_up_s _ _ _
    refine lv_aload_n hx hb d_AL_add3_15 rfl (lv_at hl 1 rfl) ?_
    refine lv_iload_n hx hb d_AL_add3_16 rfl (lv_at hl 3 rfl) ?_
    refine lv_iconst (v := 1) hx hb d_AL_add3_17 (by decide) ?_
    refine lv_iadd hx hb d_AL_add3_18 ?_
    refine ad_top (y := .int (nI (cp + 1))) (congrArg Value.int (nI_1 cp)) ?_
    refine ad_put S I fhp2_a K_AL 1 (by decide) w_56 rfl rfl rfl (by simp) d_AL_add3_19 (fun H1 locs1 I => ?_)
    obtain ⟨hp3, ehp3⟩ : ∃ z : ad_H, z = ad_up hp2 a (.inr (3, [.ref q1, .int (nI (cp + 1)), .int mv])) := ⟨_, rfl⟩
    have I : ad_I G lo s hp3 H1 locs1 := by rw [ehp3]; exact I
    have fhp3_a : hp3 a = some (.inr (3, [.ref q1, .int (nI (cp + 1)), .int mv])) := by rw [ehp3]; exact ad_up_s _ _ _
    have fhp3_v := (show hp3 v = hp2 v by rw [ehp3]; exact ad_up_n _ (hna)).trans fhp2_v
    have fhp3_arr := (show hp3 arr = hp2 arr by rw [ehp3]; exact ad_up_n _ (ad_ne fhp2_arr fhp2_a (by simp))).trans fhp2_arr
    have fhp3_q1 := (show hp3 q1 = hp2 q1 by rw [ehp3]; exact ad_up_n _ (ad_ne fhp2_q1 fhp2_a (by simp))).trans fhp2_q1
    exact ad_vret M I (by omega) (by omega) (⟨rfl, q1, n1, fhp3_q1, fhp3_a, fun z h1 h2 => by rw [ehp3, ad_up_n _ h2, ehp2, ad_up_n _ h1]; exact k1 z h1 h2⟩) d_AL_add3_22
end
section
set_option maxHeartbeats 4000000 in
set_option maxRecDepth 100000 in
theorem c_AL_add_in (l : Launch) (G : ad_G) (lo : Nat) (hp : ad_H) (a arr cp n : Nat) (f : Nat → Option Nat) (mv : Int32) (v : Nat) (vs : List Value) (ci : Nat) (C : String) (T : u_T) (N : Nat) (ty0 : Nat → FieldType) (h : hp a = some (.inr (3, [.ref arr, .int (nI n), .int mv]))) (h2 : hp arr = some (ad_ra G cp f)) (hv : hp v = some (.inr (ci, vs))) (hn : n < cp) (hc : cp ≤ 100) (hci : ci ≠ 3) (K : ad_K ci C T N ty0) (hca : Cond.castable C "java/lang/Object" ∈ ad_T) : ad_Ct l y_AL_add b_AL_add 2 rt_AL_add hs_AL_add 7 1 100 G lo hp [.ref a, .ref v] (fun r hp' => r = .inl (some (.int 1)) ∧ hp' arr = some (ad_ra G cp (va_up f n (some v))) ∧ hp' a = some (.inr (3, [.ref arr, .int (nI (n + 1)), .int (mv + 1)])) ∧ ∀ z, z ≠ arr → z ≠ a → hp' z = hp z) := by
  intro p e s m below meth c M hts hB hP
  have hx := M.1
  have hb := M.2.1
  have hml := M.2.2.1
  have hown : s.vm.findClass "java/util/ArrayList" = some m.cls := M.2.2.2.1
  have S : CallFix p m c b_AL_add 2 s _ ad_T "java/util/ArrayList" := ⟨hx, hb, hml, hown, hts⟩
  have I : ad_I G lo s hp s.heap [] := ad_I.rf hB hP
  have hl := lv_entry ([.ref a, .ref v]) (n := 2) (Nat.le_of_ble_eq_true rfl)
  rw [lg_entry_eq]
  generalize (lg_sl ([.ref a, .ref v]) ++ List.replicate (2 - (lg_sl ([.ref a, .ref v])).length) Slot.unset).toArray = ls at hl ⊢
  have hl : lv_has ls 2 [(0, .ref a), (1, .ref v)] := hl
  refine lv_aload_n hx hb d_AL_add_0 rfl (lv_at hl 0 rfl) ?_
  refine lv_dup hx hb d_AL_add_1 rfl ?_
  refine ad_getU S I h K_AL 2 (by decide) w_58 w_sf rfl d_AL_add_2 ?_
  refine lv_iconst (v := 1) hx hb d_AL_add_5 (by decide) ?_
  refine lv_iadd hx hb d_AL_add_6 ?_
  refine ad_putU S I h K_AL 2 (by decide) w_58 w_sf rfl rfl rfl (by simp) d_AL_add_7 (fun H1 locs1 I => ?_)
  obtain ⟨hp1, ehp1⟩ : ∃ z : ad_H, z = ad_up hp a (.inr (3, [.ref arr, .int (nI n), .int (mv + 1)])) := ⟨_, rfl⟩
  have I : ad_I G lo s hp1 H1 locs1 := by rw [ehp1]; exact I
  have fhp1_a : hp1 a = some (.inr (3, [.ref arr, .int (nI n), .int (mv + 1)])) := by rw [ehp1]; exact ad_up_s _ _ _
  have fhp1_v := (show hp1 v = hp v by rw [ehp1]; exact ad_up_n _ ((ad_ne hv h (by simp [hci])))).trans hv
  have fhp1_arr := (show hp1 arr = hp arr by rw [ehp1]; exact ad_up_n _ (ad_ne h2 h (by simp))).trans h2
  refine lv_aload_n hx hb d_AL_add_10 rfl (lv_at hl 0 rfl) ?_
  refine lv_aload_n hx hb d_AL_add_11 rfl (lv_at hl 1 rfl) ?_
  refine lv_aload_n hx hb d_AL_add_12 rfl (lv_at hl 0 rfl) ?_
  refine ad_get S I fhp1_a K_AL 0 (by decide) w_55 rfl d_AL_add_13 ?_
  refine lv_aload_n hx hb d_AL_add_16 rfl (lv_at hl 0 rfl) ?_
  refine ad_get S I fhp1_a K_AL 1 (by decide) w_56 rfl d_AL_add_17 ?_
  refine ad_cZi S I (ad_ivV (As := [.ref v, .ref arr, .int (nI n)]) (rest := []) S (ad_recv I fhp1_a K_AL) w_228 w_230 sp_AL_add3 Y_AL_add3 ⟨by decide, by decide, np_AL_add3⟩ rfl d_AL_add_20) (c_AL_add3_in l G lo hp1 a arr cp n f (mv + 1) v vs ci C T N ty0 fhp1_a fhp1_arr fhp1_v hn hc (ad_ne hv h (by simp [hci])) K hca) Y_AL_add3 hl.1 ⟨Nat.le_of_ble_eq_true rfl, Nat.le_of_ble_eq_true rfl⟩ (Nat.le_of_ble_eq_true rfl) (Nat.le_of_ble_eq_true rfl) d_AL_add_20 (fun hp2 H1 locs1 hA I => ?_)
  obtain ⟨u2_0, u2_1, k2⟩ := hA
  have fhp2_v := (k2 v (ad_ne fhp1_v fhp1_arr (by simp)) ((ad_ne hv h (by simp [hci])))).trans fhp1_v
  refine lv_iconst (v := 1) hx hb d_AL_add_23 (by decide) ?_
  exact ad_iret M I rfl (by omega) (by omega) (⟨rfl, u2_0, u2_1, fun z h1 h2 => (k2 z h1 h2).trans (by rw [ehp1]; exact ad_up_n _ h2)⟩) d_AL_add_24
set_option maxHeartbeats 4000000 in
set_option maxRecDepth 100000 in
theorem c_AL_add_first (l : Launch) (G : ad_G) (lo : Nat) (hp : ad_H) (a : Nat) (mv : Int32) (v : Nat) (vs : List Value) (ci : Nat) (C : String) (T : u_T) (N : Nat) (ty0 : Nat → FieldType) (h : hp a = some (.inr (3, [.ref (G.2.2 0), .int (nI 0), .int mv]))) (hv : hp v = some (.inr (ci, vs))) (hci : ci ≠ 3) (K : ad_K ci C T N ty0) (hca : Cond.castable C "java/lang/Object" ∈ ad_T) : ad_Ct l y_AL_add b_AL_add 2 rt_AL_add hs_AL_add 7 1 100 G lo hp [.ref a, .ref v] (fun r hp' => r = .inl (some (.int 1)) ∧ ∃ q : Nat, hp q = none ∧ hp' q = some (ad_ra G 10 (va_up (fun _ => none) 0 (some v))) ∧ hp' a = some (.inr (3, [.ref q, .int (nI (0 + 1)), .int (mv + 1)])) ∧ ∀ z, z ≠ q → z ≠ a → hp' z = hp z) := by
  intro p e s m below meth c M hts hB hP
  have hx := M.1
  have hb := M.2.1
  have hml := M.2.2.1
  have hown : s.vm.findClass "java/util/ArrayList" = some m.cls := M.2.2.2.1
  have S : CallFix p m c b_AL_add 2 s _ ad_T "java/util/ArrayList" := ⟨hx, hb, hml, hown, hts⟩
  have I : ad_I G lo s hp s.heap [] := ad_I.rf hB hP
  have hl := lv_entry ([.ref a, .ref v]) (n := 2) (Nat.le_of_ble_eq_true rfl)
  rw [lg_entry_eq]
  generalize (lg_sl ([.ref a, .ref v]) ++ List.replicate (2 - (lg_sl ([.ref a, .ref v])).length) Slot.unset).toArray = ls at hl ⊢
  have hl : lv_has ls 2 [(0, .ref a), (1, .ref v)] := hl
  refine lv_aload_n hx hb d_AL_add_0 rfl (lv_at hl 0 rfl) ?_
  refine lv_dup hx hb d_AL_add_1 rfl ?_
  refine ad_getU S I h K_AL 2 (by decide) w_58 w_sf rfl d_AL_add_2 ?_
  refine lv_iconst (v := 1) hx hb d_AL_add_5 (by decide) ?_
  refine lv_iadd hx hb d_AL_add_6 ?_
  refine ad_putU S I h K_AL 2 (by decide) w_58 w_sf rfl rfl rfl (by simp) d_AL_add_7 (fun H1 locs1 I => ?_)
  obtain ⟨hp1, ehp1⟩ : ∃ z : ad_H, z = ad_up hp a (.inr (3, [.ref (G.2.2 0), .int (nI 0), .int (mv + 1)])) := ⟨_, rfl⟩
  have I : ad_I G lo s hp1 H1 locs1 := by rw [ehp1]; exact I
  have fhp1_a : hp1 a = some (.inr (3, [.ref (G.2.2 0), .int (nI 0), .int (mv + 1)])) := by rw [ehp1]; exact ad_up_s _ _ _
  have fhp1_v := (show hp1 v = hp v by rw [ehp1]; exact ad_up_n _ ((ad_ne hv h (by simp [hci])))).trans hv
  refine lv_aload_n hx hb d_AL_add_10 rfl (lv_at hl 0 rfl) ?_
  refine lv_aload_n hx hb d_AL_add_11 rfl (lv_at hl 1 rfl) ?_
  refine lv_aload_n hx hb d_AL_add_12 rfl (lv_at hl 0 rfl) ?_
  refine ad_get S I fhp1_a K_AL 0 (by decide) w_55 rfl d_AL_add_13 ?_
  refine lv_aload_n hx hb d_AL_add_16 rfl (lv_at hl 0 rfl) ?_
  refine ad_get S I fhp1_a K_AL 1 (by decide) w_56 rfl d_AL_add_17 ?_
  refine ad_cZi S I (ad_ivV (As := [.ref v, .ref (G.2.2 0), .int (nI 0)]) (rest := []) S (ad_recv I fhp1_a K_AL) w_228 w_230 sp_AL_add3 Y_AL_add3 ⟨by decide, by decide, np_AL_add3⟩ rfl d_AL_add_20) (c_AL_add3_first l G lo hp1 a (mv + 1) v vs ci C T N ty0 fhp1_a fhp1_v (ad_ne hv h (by simp [hci])) K hca) Y_AL_add3 hl.1 ⟨Nat.le_of_ble_eq_true rfl, Nat.le_of_ble_eq_true rfl⟩ (Nat.le_of_ble_eq_true rfl) (Nat.le_of_ble_eq_true rfl) d_AL_add_20 (fun hp2 H1 locs1 hA I => ?_)
  obtain ⟨q2, n2, u2_0, u2_1, k2⟩ := hA
  have ne_v_q2 : v ≠ q2 := ad_nn n2 fhp1_v
  have fhp2_v := (k2 v ne_v_q2 ((ad_ne hv h (by simp [hci])))).trans fhp1_v
  refine lv_iconst (v := 1) hx hb d_AL_add_23 (by decide) ?_
  exact ad_iret M I rfl (by omega) (by omega) (⟨rfl, q2, (show hp q2 = hp1 q2 by rw [ehp1]; exact (ad_up_n _ (fun hh => by rw [hh] at n2; rw [fhp1_a] at n2; cases n2)).symm).trans n2, u2_0, u2_1, fun z h1 h2 => (k2 z h1 h2).trans (by rw [ehp1]; exact ad_up_n _ h2)⟩) d_AL_add_24
set_option maxHeartbeats 4000000 in
set_option maxRecDepth 100000 in
theorem c_AL_add_full (l : Launch) (G : ad_G) (lo : Nat) (hp : ad_H) (a arr cp : Nat) (f : Nat → Option Nat) (mv : Int32) (v : Nat) (vs : List Value) (ci : Nat) (C : String) (T : u_T) (N : Nat) (ty0 : Nat → FieldType) (h : hp a = some (.inr (3, [.ref arr, .int (nI cp), .int mv]))) (h2 : hp arr = some (ad_ra G cp f)) (hc2 : 2 ≤ cp) (hc : cp ≤ 66) (K : ad_K ci C T N ty0) (hca : Cond.castable C "java/lang/Object" ∈ ad_T) (hel : ∀ i, i < cp → ∀ y, f i = some y → ∃ vs, hp y = some (.inr (ci, vs))) (hv : hp v = some (.inr (ci, vs))) (hci : ci ≠ 3) : ad_Ct l y_AL_add b_AL_add 2 rt_AL_add hs_AL_add 7 1 100 G lo hp [.ref a, .ref v] (fun r hp' => r = .inl (some (.int 1)) ∧ ∃ q : Nat, hp q = none ∧ hp' q = some (ad_ra G (cp + cp / 2) (va_up (va_cpy f (fun _ => none) 0 0 cp) cp (some v))) ∧ hp' a = some (.inr (3, [.ref q, .int (nI (cp + 1)), .int (mv + 1)])) ∧ ∀ z, z ≠ q → z ≠ a → hp' z = hp z) := by
  intro p e s m below meth c M hts hB hP
  have hx := M.1
  have hb := M.2.1
  have hml := M.2.2.1
  have hown : s.vm.findClass "java/util/ArrayList" = some m.cls := M.2.2.2.1
  have S : CallFix p m c b_AL_add 2 s _ ad_T "java/util/ArrayList" := ⟨hx, hb, hml, hown, hts⟩
  have I : ad_I G lo s hp s.heap [] := ad_I.rf hB hP
  have hl := lv_entry ([.ref a, .ref v]) (n := 2) (Nat.le_of_ble_eq_true rfl)
  rw [lg_entry_eq]
  generalize (lg_sl ([.ref a, .ref v]) ++ List.replicate (2 - (lg_sl ([.ref a, .ref v])).length) Slot.unset).toArray = ls at hl ⊢
  have hl : lv_has ls 2 [(0, .ref a), (1, .ref v)] := hl
  refine lv_aload_n hx hb d_AL_add_0 rfl (lv_at hl 0 rfl) ?_
  refine lv_dup hx hb d_AL_add_1 rfl ?_
  refine ad_getU S I h K_AL 2 (by decide) w_58 w_sf rfl d_AL_add_2 ?_
  refine lv_iconst (v := 1) hx hb d_AL_add_5 (by decide) ?_
  refine lv_iadd hx hb d_AL_add_6 ?_
  refine ad_putU S I h K_AL 2 (by decide) w_58 w_sf rfl rfl rfl (by simp) d_AL_add_7 (fun H1 locs1 I => ?_)
  obtain ⟨hp1, ehp1⟩ : ∃ z : ad_H, z = ad_up hp a (.inr (3, [.ref arr, .int (nI cp), .int (mv + 1)])) := ⟨_, rfl⟩
  have I : ad_I G lo s hp1 H1 locs1 := by rw [ehp1]; exact I
  have fhp1_a : hp1 a = some (.inr (3, [.ref arr, .int (nI cp), .int (mv + 1)])) := by rw [ehp1]; exact ad_up_s _ _ _
  have fhp1_v := (show hp1 v = hp v by rw [ehp1]; exact ad_up_n _ ((ad_ne hv h (by simp [hci])))).trans hv
  have fhp1_arr := (show hp1 arr = hp arr by rw [ehp1]; exact ad_up_n _ (ad_ne h2 h (by simp))).trans h2
  refine lv_aload_n hx hb d_AL_add_10 rfl (lv_at hl 0 rfl) ?_
  refine lv_aload_n hx hb d_AL_add_11 rfl (lv_at hl 1 rfl) ?_
  refine lv_aload_n hx hb d_AL_add_12 rfl (lv_at hl 0 rfl) ?_
  refine ad_get S I fhp1_a K_AL 0 (by decide) w_55 rfl d_AL_add_13 ?_
  refine lv_aload_n hx hb d_AL_add_16 rfl (lv_at hl 0 rfl) ?_
  refine ad_get S I fhp1_a K_AL 1 (by decide) w_56 rfl d_AL_add_17 ?_
  refine ad_cZi S I (ad_ivV (As := [.ref v, .ref arr, .int (nI cp)]) (rest := []) S (ad_recv I fhp1_a K_AL) w_228 w_230 sp_AL_add3 Y_AL_add3 ⟨by decide, by decide, np_AL_add3⟩ rfl d_AL_add_20) (c_AL_add3_full l G lo hp1 a arr cp f (mv + 1) v vs ci C T N ty0 fhp1_a fhp1_arr hc2 hc K hca (fun i hi y hy => by obtain ⟨ws, hw⟩ := hel i hi y hy; exact ⟨ws, (show hp1 y = hp y by rw [ehp1]; exact ad_up_n _ (ad_ne hw h (by simp [hci]))).trans hw⟩) fhp1_v (ad_ne hv h (by simp [hci]))) Y_AL_add3 hl.1 ⟨Nat.le_of_ble_eq_true rfl, Nat.le_of_ble_eq_true rfl⟩ (Nat.le_of_ble_eq_true rfl) (Nat.le_of_ble_eq_true rfl) d_AL_add_20 (fun hp2 H1 locs1 hA I => ?_)
  obtain ⟨q2, n2, u2_0, u2_1, k2⟩ := hA
  have ne_v_q2 : v ≠ q2 := ad_nn n2 fhp1_v
  have fhp2_v := (k2 v ne_v_q2 ((ad_ne hv h (by simp [hci])))).trans fhp1_v
  have ne_arr_q2 : arr ≠ q2 := ad_nn n2 fhp1_arr
  have fhp2_arr := (k2 arr ne_arr_q2 (ad_ne fhp1_arr fhp1_a (by simp))).trans fhp1_arr
  refine lv_iconst (v := 1) hx hb d_AL_add_23 (by decide) ?_
  exact ad_iret M I rfl (by omega) (by omega) (⟨rfl, q2, (show hp q2 = hp1 q2 by rw [ehp1]; exact (ad_up_n _ (fun hh => by rw [hh] at n2; rw [fhp1_a] at n2; cases n2)).symm).trans n2, u2_0, u2_1, fun z h1 h2 => (k2 z h1 h2).trans (by rw [ehp1]; exact ad_up_n _ h2)⟩) d_AL_add_24
set_option maxHeartbeats 4000000 in
set_option maxRecDepth 100000 in
theorem c_AL_set (l : Launch) (G : ad_G) (lo : Nat) (hp : ad_H) (a arr : Nat) (sz mv : Int32) (k n : Nat) (f : Nat → Option Nat) (y : Nat) (v : Nat) (vs : List Value) (ci : Nat) (C : String) (T : u_T) (N : Nat) (ty0 : Nat → FieldType) (h : hp a = some (.inr (3, [.ref arr, .int sz, .int mv]))) (h2 : hp arr = some (ad_ra G n f)) (hk : k < n) (hn : n ≤ 100) (h1 : nI k < sz) (hf : f k = some y) (hv : hp v = some (.inr (ci, vs))) (K : ad_K ci C T N ty0) (hca : Cond.castable C "java/lang/Object" ∈ ad_T) : ad_Ct l y_AL_set b_AL_set 4 rt_AL_set hs_AL_set 3 0 0 G lo hp [.ref a, .int (nI k), .ref v] (fun r hp' => r = .inl (some (.ref y)) ∧ hp' arr = some (ad_ra G n (va_up f k (some v))) ∧ ∀ z, z ≠ arr → hp' z = hp z) := by
  intro p e s m below meth c M hts hB hP
  have hx := M.1
  have hb := M.2.1
  have hml := M.2.2.1
  have hown : s.vm.findClass "java/util/ArrayList" = some m.cls := M.2.2.2.1
  have S : CallFix p m c b_AL_set 4 s _ ad_T "java/util/ArrayList" := ⟨hx, hb, hml, hown, hts⟩
  have I : ad_I G lo s hp s.heap [] := ad_I.rf hB hP
  have hl := lv_entry ([.ref a, .int (nI k), .ref v]) (n := 4) (Nat.le_of_ble_eq_true rfl)
  rw [lg_entry_eq]
  generalize (lg_sl ([.ref a, .int (nI k), .ref v]) ++ List.replicate (4 - (lg_sl ([.ref a, .int (nI k), .ref v])).length) Slot.unset).toArray = ls at hl ⊢
  have hl : lv_has ls 4 [(0, .ref a), (1, .int (nI k)), (2, .ref v)] := hl
  have hi : vp_in (nI k) n := vp_in_nI hk (by omega)
  have hcl : (nI k).toNatClampNeg = k := nI_clamp (by omega)
  have hf2 : f (nI k).toNatClampNeg = some y := by rw [hcl]; exact hf
  refine lv_iload_n hx hb d_AL_set_0 rfl (lv_at hl 1 rfl) ?_
  refine lv_aload_n hx hb d_AL_set_1 rfl (lv_at hl 0 rfl) ?_
  refine ad_get S I h K_AL 1 (by decide) w_56 rfl d_AL_set_2 ?_
  refine ad_cPi S I (ad_ivS (As := [.int (nI k), .int sz]) (rest := []) S Y_OB_checkIndex w_312 w_313 w_18 ⟨by decide, by decide, np_OB_checkIndex⟩ rfl d_AL_set_5) (c_OB_checkIndex l G lo hp (nI k) sz (nI_pos (by omega)) h1) Y_OB_checkIndex hl.1 ⟨Nat.le_of_ble_eq_true rfl, Nat.le_of_ble_eq_true rfl⟩ (Nat.le_of_ble_eq_true rfl) (Nat.le_of_ble_eq_true rfl) d_AL_set_5 ?_
  refine lv_pop hx hb d_AL_set_8 rfl ?_
  refine lv_aload_n hx hb d_AL_set_9 rfl (lv_at hl 0 rfl) ?_
  refine lv_iload_n hx hb d_AL_set_10 rfl (lv_at hl 1 rfl) ?_
  refine ad_cPi S I (ad_ivV (As := [.int (nI k)]) (rest := []) S (ad_recv I h K_AL) w_318 w_319 w_320 Y_AL_elementData ⟨by decide, by decide, np_AL_elementData⟩ rfl d_AL_set_11) (c_AL_elementData l G lo hp a arr sz mv (nI k) n f y h h2 hi hf2) Y_AL_elementData hl.1 ⟨Nat.le_of_ble_eq_true rfl, Nat.le_of_ble_eq_true rfl⟩ (Nat.le_of_ble_eq_true rfl) (Nat.le_of_ble_eq_true rfl) d_AL_set_11 ?_
  refine lv_astore_n (lv' := [(3, .ref y), (0, .ref a), (1, .int (nI k)), (2, .ref v)]) hx hb d_AL_set_14 rfl hl (by decide) rfl (fun ls hl => ?_)
  refine lv_aload_n hx hb d_AL_set_15 rfl (lv_at hl 1 rfl) ?_
  refine ad_get S I h K_AL 0 (by decide) w_55 rfl d_AL_set_16 ?_
  refine lv_iload_n hx hb d_AL_set_19 rfl (lv_at hl 2 rfl) ?_
  refine lv_aload_n hx hb d_AL_set_20 rfl (lv_at hl 3 rfl) ?_
  refine ad_aast S I h2 hv K hca hi d_AL_set_21 (fun H1 locs1 I => ?_)
  rw [show (nI k).toNatClampNeg = k from nI_clamp (by omega)] at I
  obtain ⟨hp1, ehp1⟩ : ∃ z : ad_H, z = ad_up hp arr (ad_ra G n (va_up f k (some v))) := ⟨_, rfl⟩
  have I : ad_I G lo s hp1 H1 locs1 := by rw [ehp1]; exact I
  have fhp1_a := (show hp1 a = hp a by rw [ehp1]; exact ad_up_n _ (ad_ne h h2 (by simp))).trans h
  have fhp1_arr : hp1 arr = some (ad_ra G n (va_up f k (some v))) := by rw [ehp1]; exact ad_up_s _ _ _
  refine lv_aload_n hx hb d_AL_set_22 rfl (lv_at hl 0 rfl) ?_
  exact ad_aret M I (Or.inl ⟨_, rfl⟩) (Or.inr ⟨_, rfl⟩) (by omega) (by omega) (⟨rfl, fhp1_arr, fun z hz => by rw [ehp1]; exact ad_up_n _ hz⟩) d_AL_set_23
end
section
def al_cl (f : Nat → Option Nat) (j : Nat) : Nat → Option Nat := fun i => if i < j then none else f i
theorem al_cl_s (f : Nat → Option Nat) (j : Nat) : va_up (al_cl f j) j none = al_cl f (j + 1) := by
  funext i
  unfold va_up al_cl
  by_cases h : i = j
  · subst h; simp
  · by_cases h2 : i < j
    · simp [h, h2, Nat.lt_succ_of_lt h2]
    · simp [h, h2, show ¬ i < j + 1 by omega]
theorem al_cl_0 (f : Nat → Option Nat) : al_cl f 0 = f := by
  funext i
  simp [al_cl]
set_option maxHeartbeats 4000000 in
set_option maxRecDepth 100000 in
theorem c_AL_clear (l : Launch) (G : ad_G) (lo : Nat) (hp : ad_H) (a arr cp len : Nat) (f : Nat → Option Nat) (mv : Int32) (h : hp a = some (.inr (3, [.ref arr, .int (nI len), .int mv]))) (h2 : hp arr = some (ad_ra G cp f)) (hn : len ≤ cp) (hc : cp ≤ 100) : ad_Ct l y_AL_clear b_AL_clear 4 rt_AL_clear hs_AL_clear 1 0 0 G lo hp [.ref a] (fun r hp' => r = .inl none ∧ hp' a = some (.inr (3, [.ref arr, .int 0, .int (mv + 1)])) ∧ hp' arr = some (ad_ra G cp (al_cl f len)) ∧ ∀ z, z ≠ arr → z ≠ a → hp' z = hp z) := by
  intro p e s m below meth c M hts hB hP
  have hx := M.1
  have hb := M.2.1
  have hml := M.2.2.1
  have hown : s.vm.findClass "java/util/ArrayList" = some m.cls := M.2.2.2.1
  have S : CallFix p m c b_AL_clear 4 s _ ad_T "java/util/ArrayList" := ⟨hx, hb, hml, hown, hts⟩
  have I : ad_I G lo s hp s.heap [] := ad_I.rf hB hP
  have hl := lv_entry ([.ref a]) (n := 4) (Nat.le_of_ble_eq_true rfl)
  rw [lg_entry_eq]
  generalize (lg_sl ([.ref a]) ++ List.replicate (4 - (lg_sl ([.ref a])).length) Slot.unset).toArray = ls at hl ⊢
  have hl : lv_has ls 4 [(0, .ref a)] := hl
  have loop : ∀ (n : Nat) (j : Nat) (hpj : ad_H) (H : Heap) (locs : List Loc), len < j + n ∧ j ≤ len → ad_I G lo s hpj H locs → hpj a = some (.inr (3, [.ref arr, .int 0, .int (mv + 1)])) → hpj arr = some (ad_ra G cp (al_cl f j)) → (∀ z, z ≠ arr → z ≠ a → hpj z = hp z) → ∀ ls : Array Slot, lv_has ls 4 [(1, .ref arr), (2, .int (nI len)), (3, .int (nI j))] → W p l e (ad_rm 1 0 0) s m ([.ref a] : List Value).toArray below meth c H locs 0 0 (ad_Z below G lo (fun r hp' => r = .inl none ∧ hp' a = some (.inr (3, [.ref arr, .int 0, .int (mv + 1)])) ∧ hp' arr = some (ad_ra G cp (al_cl f len)) ∧ ∀ z, z ≠ arr → z ≠ a → hp' z = hp z) s 0 0) (F0 m 27 ls []) := by
    intro n
    induction n with
    | zero => intro j hpj H locs h0; exact absurd h0 (by omega)
    | succ n ih =>
      intro j hpj H locs h0 I ja jr jk ls hl
      refine lv_iload_n hx hb d_AL_clear_27 rfl (lv_at hl 2 rfl) ?_
      refine lv_iload_n hx hb d_AL_clear_28 rfl (lv_at hl 1 rfl) ?_
      refine lv_icmp_ge (tgt := 42) hx hb d_AL_clear_29 (by decide) (fun c29 => ?_) (fun c29 => ?_)
      · obtain rfl : j = len := by have := ad_ge (j := j) (n := len) (by omega) (by omega) c29; omega
        exact ad_vret M I (by omega) (by omega) (⟨rfl, ja, jr, jk⟩) d_AL_clear_42
      · have hj : j < len := ad_lt (by omega) (by omega) c29
        refine lv_aload_n hx hb d_AL_clear_32 rfl (lv_at hl 0 rfl) ?_
        refine lv_iload_n hx hb d_AL_clear_33 rfl (lv_at hl 2 rfl) ?_
        refine lv_null hx hb d_AL_clear_34 ?_
        refine ad_aastN S I jr (vp_in_nI (show j < cp by omega) (by omega)) d_AL_clear_35 (fun H1 locs1 I => ?_)
        rw [show (nI j).toNatClampNeg = j from nI_clamp (by omega), al_cl_s] at I
        obtain ⟨hp101, ehp101⟩ : ∃ z : ad_H, z = ad_up hpj arr (ad_ra G cp (al_cl f (j + 1))) := ⟨_, rfl⟩
        have I : ad_I G lo s hp101 H1 locs1 := by rw [ehp101]; exact I
        have fhp101_a := (show hp101 a = hpj a by rw [ehp101]; exact ad_up_n _ (ad_ne ja jr (by simp))).trans ja
        have fhp101_arr : hp101 arr = some (ad_ra G cp (al_cl f (j + 1))) := by rw [ehp101]; exact ad_up_s _ _ _
        refine lv_iinc (v := (nI (j + 1))) (lv' := [(3, .int (nI (j + 1))), (1, .ref arr), (2, .int (nI len))]) hx hb d_AL_clear_36 hl (k := 2) rfl (nI_1 j) (by decide) rfl (fun ls hl => ?_)
        refine lv_goto (tgt := 27) hx hb d_AL_clear_39 (by decide) ?_
        exact ih (j + 1) hp101 H1 locs1 (by omega) I fhp101_a fhp101_arr (fun z h1 h2 => by rw [ehp101, ad_up_n _ h1]; exact jk z h1 h2) ls (lv_sub hl [1, 2, 0] rfl)
  refine lv_aload_n hx hb d_AL_clear_0 rfl (lv_at hl 0 rfl) ?_
  refine lv_dup hx hb d_AL_clear_1 rfl ?_
  refine ad_getU S I h K_AL 2 (by decide) w_58 w_sf rfl d_AL_clear_2 ?_
  refine lv_iconst (v := 1) hx hb d_AL_clear_5 (by decide) ?_
  refine lv_iadd hx hb d_AL_clear_6 ?_
  refine ad_putU S I h K_AL 2 (by decide) w_58 w_sf rfl rfl rfl (by simp) d_AL_clear_7 (fun H1 locs1 I => ?_)
  obtain ⟨hp1, ehp1⟩ : ∃ z : ad_H, z = ad_up hp a (.inr (3, [.ref arr, .int (nI len), .int (mv + 1)])) := ⟨_, rfl⟩
  have I : ad_I G lo s hp1 H1 locs1 := by rw [ehp1]; exact I
  have fhp1_a : hp1 a = some (.inr (3, [.ref arr, .int (nI len), .int (mv + 1)])) := by rw [ehp1]; exact ad_up_s _ _ _
  have fhp1_arr := (show hp1 arr = hp arr by rw [ehp1]; exact ad_up_n _ (ad_ne h2 h (by simp))).trans h2
  refine lv_aload_n hx hb d_AL_clear_10 rfl (lv_at hl 0 rfl) ?_
  refine ad_get S I fhp1_a K_AL 0 (by decide) w_55 rfl d_AL_clear_11 ?_
  refine lv_astore_n (lv' := [(1, .ref arr), (0, .ref a)]) hx hb d_AL_clear_14 rfl hl (by decide) rfl (fun ls hl => ?_)
  refine lv_aload_n hx hb d_AL_clear_15 rfl (lv_at hl 1 rfl) ?_
  refine ad_get S I fhp1_a K_AL 1 (by decide) w_56 rfl d_AL_clear_16 ?_
  refine lv_istore_n (lv' := [(2, .int (nI len)), (1, .ref arr), (0, .ref a)]) hx hb d_AL_clear_19 rfl hl (by decide) rfl (fun ls hl => ?_)
  refine lv_aload_n hx hb d_AL_clear_20 rfl (lv_at hl 2 rfl) ?_
  refine lv_iconst (v := 0) hx hb d_AL_clear_21 (by decide) ?_
  refine lv_dup_x1 hx hb d_AL_clear_22 rfl rfl ?_
  refine ad_put S I fhp1_a K_AL 1 (by decide) w_56 rfl rfl rfl (by simp) d_AL_clear_23 (fun H1 locs1 I => ?_)
  obtain ⟨hp2, ehp2⟩ : ∃ z : ad_H, z = ad_up hp1 a (.inr (3, [.ref arr, .int 0, .int (mv + 1)])) := ⟨_, rfl⟩
  have I : ad_I G lo s hp2 H1 locs1 := by rw [ehp2]; exact I
  have fhp2_a : hp2 a = some (.inr (3, [.ref arr, .int 0, .int (mv + 1)])) := by rw [ehp2]; exact ad_up_s _ _ _
  have fhp2_arr := (show hp2 arr = hp1 arr by rw [ehp2]; exact ad_up_n _ (ad_ne fhp1_arr fhp1_a (by simp))).trans fhp1_arr
  refine lv_istore_n (lv' := [(3, .int 0), (2, .int (nI len)), (1, .ref arr), (0, .ref a)]) hx hb d_AL_clear_26 rfl hl (by decide) rfl (fun ls hl => ?_)
  exact loop (len + 1) 0 hp2 H1 locs1 (by omega) I fhp2_a (by rw [al_cl_0]; exact fhp2_arr) (fun z h1 h2 => by rw [ehp2, ad_up_n _ h2, ehp1, ad_up_n _ h2]) ls (lv_sub hl [2, 1, 0] rfl)
set_option maxHeartbeats 4000000 in
set_option maxRecDepth 100000 in
theorem c_AL_clear0 (l : Launch) (G : ad_G) (lo : Nat) (hp : ad_H) (a : Nat) (mv : Int32) (h : hp a = some (.inr (3, [.ref (G.2.2 0), .int (nI 0), .int mv]))) : ad_Ct l y_AL_clear b_AL_clear 4 rt_AL_clear hs_AL_clear 1 0 0 G lo hp [.ref a] (fun r hp' => r = .inl none ∧ hp' a = some (.inr (3, [.ref (G.2.2 0), .int 0, .int (mv + 1)])) ∧ ∀ z, z ≠ a → hp' z = hp z) := by
  intro p e s m below meth c M hts hB hP
  have hx := M.1
  have hb := M.2.1
  have hml := M.2.2.1
  have hown : s.vm.findClass "java/util/ArrayList" = some m.cls := M.2.2.2.1
  have S : CallFix p m c b_AL_clear 4 s _ ad_T "java/util/ArrayList" := ⟨hx, hb, hml, hown, hts⟩
  have I : ad_I G lo s hp s.heap [] := ad_I.rf hB hP
  have hl := lv_entry ([.ref a]) (n := 4) (Nat.le_of_ble_eq_true rfl)
  rw [lg_entry_eq]
  generalize (lg_sl ([.ref a]) ++ List.replicate (4 - (lg_sl ([.ref a])).length) Slot.unset).toArray = ls at hl ⊢
  have hl : lv_has ls 4 [(0, .ref a)] := hl
  refine lv_aload_n hx hb d_AL_clear_0 rfl (lv_at hl 0 rfl) ?_
  refine lv_dup hx hb d_AL_clear_1 rfl ?_
  refine ad_getU S I h K_AL 2 (by decide) w_58 w_sf rfl d_AL_clear_2 ?_
  refine lv_iconst (v := 1) hx hb d_AL_clear_5 (by decide) ?_
  refine lv_iadd hx hb d_AL_clear_6 ?_
  refine ad_putU S I h K_AL 2 (by decide) w_58 w_sf rfl rfl rfl (by simp) d_AL_clear_7 (fun H1 locs1 I => ?_)
  obtain ⟨hp1, ehp1⟩ : ∃ z : ad_H, z = ad_up hp a (.inr (3, [.ref (G.2.2 0), .int (nI 0), .int (mv + 1)])) := ⟨_, rfl⟩
  have I : ad_I G lo s hp1 H1 locs1 := by rw [ehp1]; exact I
  have fhp1_a : hp1 a = some (.inr (3, [.ref (G.2.2 0), .int (nI 0), .int (mv + 1)])) := by rw [ehp1]; exact ad_up_s _ _ _
  refine lv_aload_n hx hb d_AL_clear_10 rfl (lv_at hl 0 rfl) ?_
  refine ad_get S I fhp1_a K_AL 0 (by decide) w_55 rfl d_AL_clear_11 ?_
  refine lv_astore_n (lv' := [(1, .ref (G.2.2 0)), (0, .ref a)]) hx hb d_AL_clear_14 rfl hl (by decide) rfl (fun ls hl => ?_)
  refine lv_aload_n hx hb d_AL_clear_15 rfl (lv_at hl 1 rfl) ?_
  refine ad_get S I fhp1_a K_AL 1 (by decide) w_56 rfl d_AL_clear_16 ?_
  refine lv_istore_n (lv' := [(2, .int (nI 0)), (1, .ref (G.2.2 0)), (0, .ref a)]) hx hb d_AL_clear_19 rfl hl (by decide) rfl (fun ls hl => ?_)
  refine lv_aload_n hx hb d_AL_clear_20 rfl (lv_at hl 2 rfl) ?_
  refine lv_iconst (v := 0) hx hb d_AL_clear_21 (by decide) ?_
  refine lv_dup_x1 hx hb d_AL_clear_22 rfl rfl ?_
  refine ad_put S I fhp1_a K_AL 1 (by decide) w_56 rfl rfl rfl (by simp) d_AL_clear_23 (fun H1 locs1 I => ?_)
  obtain ⟨hp2, ehp2⟩ : ∃ z : ad_H, z = ad_up hp1 a (.inr (3, [.ref (G.2.2 0), .int 0, .int (mv + 1)])) := ⟨_, rfl⟩
  have I : ad_I G lo s hp2 H1 locs1 := by rw [ehp2]; exact I
  have fhp2_a : hp2 a = some (.inr (3, [.ref (G.2.2 0), .int 0, .int (mv + 1)])) := by rw [ehp2]; exact ad_up_s _ _ _
  refine lv_istore_n (lv' := [(3, .int 0), (2, .int (nI 0)), (1, .ref (G.2.2 0)), (0, .ref a)]) hx hb d_AL_clear_26 rfl hl (by decide) rfl (fun ls hl => ?_)
  refine lv_iload_n hx hb d_AL_clear_27 rfl (lv_at hl 0 rfl) ?_
  refine lv_iload_n hx hb d_AL_clear_28 rfl (lv_at hl 1 rfl) ?_
  refine lv_icmp_ge (tgt := 42) hx hb d_AL_clear_29 (by decide) (fun c29 => ?_) (fun c29 => ?_)
  · exact ad_vret M I (by omega) (by omega) (⟨rfl, fhp2_a, fun z hz => by rw [ehp2, ad_up_n _ hz, ehp1, ad_up_n _ hz]⟩) d_AL_clear_42
  · exact absurd (by decide) c29
/-- the ArrayList at a holds the references xs -/
def al (G : ad_G) (hp : ad_H) (a : Nat) (xs : List Nat) : Prop := ∃ (arr cp : Nat) (f : Nat → Option Nat) (mv : Int32), hp a = some (.inr (3, [.ref arr, .int (nI xs.length), .int mv])) ∧ ((arr = G.2.2 0 ∧ hp arr = none ∧ xs = []) ∨ (hp arr = some (ad_ra G cp f) ∧ 2 ≤ cp ∧ xs.length ≤ cp ∧ cp ≤ 100 ∧ ∀ i, i < cp → f i = xs[i]?))
/-- z is the array behind the list at a -/
def al_b (hp : ad_H) (a z : Nat) : Prop := ∃ (s m : Value), hp a = some (.inr (3, [.ref z, s, m]))
theorem al_b.eq {hp : ad_H} {a z arr : Nat} {s m : Value} (h : al_b hp a z) (h2 : hp a = some (.inr (3, [.ref arr, s, m]))) : z = arr := by
  obtain ⟨s', m', h3⟩ := h
  rw [h3] at h2
  simp at h2
  exact h2.1
theorem c_ALsize (l : Launch) (G : ad_G) (lo : Nat) (hp : ad_H) (a : Nat) (xs : List Nat) (h : al G hp a xs) : ad_Cp l y_AL_size b_AL_size 1 rt_AL_size hs_AL_size 1 0 0 G lo hp [.ref a] (fun r => r = .inl (some (.int (nI xs.length)))) := by
  obtain ⟨arr, cp, f, mv, h1, -⟩ := h
  exact c_AL_size l G lo hp a arr _ mv h1
theorem c_ALget (l : Launch) (G : ad_G) (lo : Nat) (hp : ad_H) (a : Nat) (xs : List Nat) (k y : Nat) (h : al G hp a xs) (hk : xs[k]? = some y) : ad_Cp l y_AL_get b_AL_get 2 rt_AL_get hs_AL_get 3 0 0 G lo hp [.ref a, .int (nI k)] (fun r => r = .inl (some (.ref y))) := by
  have hkl : k < xs.length := (List.getElem?_eq_some_iff.mp hk).1
  obtain ⟨arr, cp, f, mv, h1, ⟨-, -, rfl⟩ | ⟨h2, h3, h4, h5, h6⟩⟩ := h
  · simp at hkl
  · have hcl : (nI k).toNatClampNeg = k := nI_clamp (by omega)
    exact c_AL_get l G lo hp a arr _ mv (nI k) cp f y h1 h2 (vp_in_nI (by omega) (by omega)) (nI_pos (by omega)) (nI_lt hkl (by omega)) (by rw [hcl, h6 k (by omega)]; exact hk)
theorem c_ALadd (l : Launch) (G : ad_G) (lo : Nat) (hp : ad_H) (a : Nat) (xs : List Nat) (v : Nat) (vs : List Value) (ci : Nat) (C : String) (T : u_T) (N : Nat) (ty0 : Nat → FieldType) (h : al G hp a xs) (hx : xs.length ≤ 65) (hv : hp v = some (.inr (ci, vs))) (hci : ci ≠ 3) (K : ad_K ci C T N ty0) (hca : Cond.castable C "java/lang/Object" ∈ ad_T) (hel : ∀ y ∈ xs, ∃ vs, hp y = some (.inr (ci, vs))) :
    ad_Ct l y_AL_add b_AL_add 2 rt_AL_add hs_AL_add 7 1 100 G lo hp [.ref a, .ref v] (fun r hp' => r = .inl (some (.int 1)) ∧ al G hp' a (xs ++ [v]) ∧ (∀ z, z ≠ a → ¬ al_b hp a z → hp z ≠ none → hp' z = hp z) ∧ ∀ z, al_b hp' a z → al_b hp a z ∨ hp z = none) := by
  obtain ⟨arr, cp, f, mv, h1, ⟨rfl, hE, rfl⟩ | ⟨h2, h3, h4, h5, h6⟩⟩ := h
  · refine (c_AL_add_first l G lo hp a mv v vs ci C T N ty0 h1 hv hci K hca).mono (fun r hp' hq => ?_)
    obtain ⟨hr, q, q0, q1, q2, q3⟩ := hq
    refine ⟨hr, ⟨q, 10, _, mv + 1, q2, Or.inr ⟨q1, by omega, by simp, by omega, fun i hi => ?_⟩⟩, fun z hz _ hn => q3 z (fun hh => hn (by rw [hh]; exact q0)) hz, fun z hz => Or.inr (by rw [hz.eq q2]; exact q0)⟩
    cases i with
    | zero => simp [va_up]
    | succ i => simp [va_up]
  · by_cases hlen : xs.length < cp
    · refine (c_AL_add_in l G lo hp a arr cp xs.length f mv v vs ci C T N ty0 h1 h2 hv hlen h5 hci K hca).mono (fun r hp' hq => ?_)
      obtain ⟨hr, q1, q2, q3⟩ := hq
      refine ⟨hr, ⟨arr, cp, _, mv + 1, by rw [List.length_append]; exact q2, Or.inr ⟨q1, h3, by simp; omega, h5, fun i hi => ?_⟩⟩, fun z hz hb _ => q3 z (fun hh => hb (by rw [hh]; exact ⟨_, _, h1⟩)) hz, fun z hz => Or.inl (by rw [hz.eq q2]; exact ⟨_, _, h1⟩)⟩
      by_cases hi2 : i = xs.length
      · subst hi2; simp [va_up]
      · simp only [va_up, hi2, if_false]
        rw [h6 i hi, List.getElem?_append]
        by_cases hi3 : i < xs.length
        · simp [hi3]
        · simp [hi3, show xs.length ≤ i by omega, show ¬ i - xs.length < 1 by omega]
    · have e0 : xs.length = cp := by omega
      rw [e0] at h1
      refine (c_AL_add_full l G lo hp a arr cp f mv v vs ci C T N ty0 h1 h2 h3 (by omega) K hca (fun i hi y hy => hel y (List.mem_of_getElem? ((h6 i hi).symm.trans hy))) hv hci).mono (fun r hp' hq => ?_)
      obtain ⟨hr, q, q0, q1, q2, q3⟩ := hq
      refine ⟨hr, ⟨q, cp + cp / 2, _, mv + 1, by rw [List.length_append, e0]; exact q2, Or.inr ⟨q1, by omega, by simp; omega, by omega, fun i hi => ?_⟩⟩, fun z hz _ hn => q3 z (fun hh => hn (by rw [hh]; exact q0)) hz, fun z hz => Or.inr (by rw [hz.eq q2]; exact q0)⟩
      by_cases hi2 : i = cp
      · subst hi2; rw [← e0]; simp [va_up]
      · simp only [va_up, hi2, if_false]
        rw [List.getElem?_append]
        by_cases hi3 : i < cp
        · rw [pk_cpy_in (by omega) (by omega)]
          simp only [Nat.zero_add, Nat.sub_zero]
          rw [h6 i hi3]
          simp [e0, hi3]
        · rw [pk_cpy_out (Or.inr (by omega))]
          simp [e0, hi3, show cp ≤ i by omega, show ¬ i - cp < 1 by omega]
theorem c_ALset (l : Launch) (G : ad_G) (lo : Nat) (hp : ad_H) (a : Nat) (xs : List Nat) (k y : Nat) (v : Nat) (vs : List Value) (ci : Nat) (C : String) (T : u_T) (N : Nat) (ty0 : Nat → FieldType) (h : al G hp a xs) (hk : xs[k]? = some y) (hv : hp v = some (.inr (ci, vs))) (K : ad_K ci C T N ty0) (hca : Cond.castable C "java/lang/Object" ∈ ad_T) :
    ad_Ct l y_AL_set b_AL_set 4 rt_AL_set hs_AL_set 3 0 0 G lo hp [.ref a, .int (nI k), .ref v] (fun r hp' => r = .inl (some (.ref y)) ∧ al G hp' a (xs.set k v) ∧ (∀ z, ¬ al_b hp a z → hp' z = hp z) ∧ ∀ z, al_b hp' a z → al_b hp a z) := by
  have hkl : k < xs.length := (List.getElem?_eq_some_iff.mp hk).1
  obtain ⟨arr, cp, f, mv, h1, ⟨-, -, rfl⟩ | ⟨h2, h3, h4, h5, h6⟩⟩ := h
  · simp at hkl
  · refine (c_AL_set l G lo hp a arr _ mv k cp f y v vs ci C T N ty0 h1 h2 (by omega) h5 (nI_lt hkl (by omega)) (by rw [h6 k (by omega)]; exact hk) hv K hca).mono (fun r hp' hq => ?_)
    obtain ⟨hr, q1, q3⟩ := hq
    have hna : a ≠ arr := ad_ne h1 h2 (by simp)
    have q2 : hp' a = _ := (q3 a hna).trans h1
    refine ⟨hr, ⟨arr, cp, _, mv, by rw [List.length_set]; exact q2, Or.inr ⟨q1, h3, by simp; omega, h5, fun i hi => ?_⟩⟩, fun z hb => q3 z (fun hh => hb (by rw [hh]; exact ⟨_, _, h1⟩)), fun z hz => by rw [hz.eq q2]; exact ⟨_, _, h1⟩⟩
    by_cases hi2 : i = k
    · subst hi2; simp [va_up, hkl]
    · simp only [va_up, hi2, if_false]
      rw [h6 i hi, List.getElem?_set_ne (Ne.symm hi2)]
theorem c_ALclear (l : Launch) (G : ad_G) (lo : Nat) (hp : ad_H) (a : Nat) (xs : List Nat) (h : al G hp a xs) :
    ad_Ct l y_AL_clear b_AL_clear 4 rt_AL_clear hs_AL_clear 1 0 0 G lo hp [.ref a] (fun r hp' => r = .inl none ∧ al G hp' a [] ∧ (∀ z, z ≠ a → ¬ al_b hp a z → hp' z = hp z) ∧ ∀ z, al_b hp' a z → al_b hp a z) := by
  obtain ⟨arr, cp, f, mv, h1, ⟨rfl, hE, rfl⟩ | ⟨h2, h3, h4, h5, h6⟩⟩ := h
  · refine (c_AL_clear0 l G lo hp a mv h1).mono (fun r hp' hq => ?_)
    obtain ⟨hr, q1, q2⟩ := hq
    exact ⟨hr, ⟨_, 0, fun _ => none, mv + 1, q1, Or.inl ⟨rfl, (q2 _ (fun hh => by rw [hh] at hE; rw [hE] at h1; cases h1)).trans hE, rfl⟩⟩, fun z hz _ => q2 z hz, fun z hz => by rw [hz.eq q1]; exact ⟨_, _, h1⟩⟩
  · refine (c_AL_clear l G lo hp a arr cp xs.length f mv h1 h2 h4 h5).mono (fun r hp' hq => ?_)
    obtain ⟨hr, q1, q2, q3⟩ := hq
    refine ⟨hr, ⟨arr, cp, _, mv + 1, q1, Or.inr ⟨q2, h3, by simp, h5, fun i hi => ?_⟩⟩, fun z hz hb => q3 z (fun hh => hb (by rw [hh]; exact ⟨_, _, h1⟩)) hz, fun z hz => by rw [hz.eq q1]; exact ⟨_, _, h1⟩⟩
    unfold al_cl
    by_cases hi2 : i < xs.length
    · simp [hi2]
    · rw [if_neg hi2, h6 i hi]
      simp; omega
end
section
/-- a thing: stratum, place, state, grams, rows (hour, place, told) -/
abbrev TH : Type := Int32 × Int32 × Int32 × Int32 × List (Int32 × Int32 × Int32)
abbrev oT (i : Nat) (t : TH) (ra : Nat) : va_E := .inr (1, [.int (nI i), .int t.1, .ref ra, .int t.2.1, .int t.2.2.1, .int t.2.2.2.1])
/-- the things ts lie at ta -/
def tt (hp : ad_H) (ta : List Nat) (ts : List TH) : Prop := ta.length = ts.length ∧ ∀ (i : Nat) (t : TH), ts[i]? = some t → ∃ a ra : Nat, ta[i]? = some a ∧ hp a = some (oT i t ra)
theorem tt.at {hp : ad_H} {ta : List Nat} {ts : List TH} (h : tt hp ta ts) {j : Nat} (hj : j < ts.length) : ∃ (t : TH) (a ra : Nat), ts[j]? = some t ∧ ta[j]? = some a ∧ hp a = some (oT j t ra) := by
  have ht : ts[j]? = some ts[j] := List.getElem?_eq_getElem hj
  obtain ⟨a, ra, h1, h2⟩ := h.2 j _ ht
  exact ⟨_, a, ra, ht, h1, h2⟩
theorem cnt_s {α : Type} {p : α → Bool} {ts : List α} {j : Nat} {t : α} (h : ts[j]? = some t) : (ts.take (j + 1)).countP p = (ts.take j).countP p + if p t then 1 else 0 := by
  obtain ⟨hj, rfl⟩ := List.getElem?_eq_some_iff.mp h
  rw [List.take_succ_eq_append_getElem hj, List.countP_append, List.countP_singleton]
set_option maxHeartbeats 4000000 in
set_option maxRecDepth 100000 in
theorem c_A_needListed (l : Launch) (G : ad_G) (lo : Nat) (hp : ad_H) (i : Nat) (t : TH) (a ra : Nat) (hT : l.stackTraces = false) (h : hp a = some (oT i t ra)) : ad_Cp l y_A_needListed b_A_needListed 1 rt_A_needListed hs_A_needListed 6 1 6 G lo hp [.ref a] (fun r => ((t.2.2.1 ≠ -1) ∧ r = .inl none) ∨ (¬ ((t.2.2.1 ≠ -1)) ∧ r = .inr ad_ISE)) := by
  intro p e s m below meth c M hts hB hP
  have hx := M.1
  have hb := M.2.1
  have hml := M.2.2.1
  have hown : s.vm.findClass "AuditDraws" = some m.cls := M.2.2.2.1
  have S : CallFix p m c b_A_needListed 1 s _ ad_T "AuditDraws" := ⟨hx, hb, hml, hown, hts⟩
  have I : ad_I G lo s hp s.heap [] := ad_I.rf hB hP
  have hl := lv_entry ([.ref a]) (n := 1) (Nat.le_of_ble_eq_true rfl)
  rw [lg_entry_eq]
  generalize (lg_sl ([.ref a]) ++ List.replicate (1 - (lg_sl ([.ref a])).length) Slot.unset).toArray = ls at hl ⊢
  have hl : lv_has ls 1 [(0, .ref a)] := hl
  refine lv_aload_n hx hb d_A_needListed_0 rfl (lv_at hl 0 rfl) ?_
  refine ad_get S I h K_Thing 4 (by decide) w_208 rfl d_A_needListed_1 ?_
  refine lv_iconst (v := (-1)) hx hb d_A_needListed_4 (by decide) ?_
  refine lv_icmp_ne (tgt := 18) hx hb d_A_needListed_5 (by decide) (fun c5 => ?_) (fun c5 => ?_)
  · exact ad_vretP M (Or.inl ⟨c5, rfl⟩) d_A_needListed_18
  · obtain ⟨q9, hq9⟩ := hB.2.2.2.2.2.2.1 (195, "not on the latest list") (by decide)
    refine ad_thr S hT (X := "java/lang/IllegalStateException") (Yn := "java/lang/RuntimeException") (names := ["java/lang/Exception"]) (ix := 7) (bx := prog_12_method_2_code) (ic := 52) w_175 w_176 w_11 hq9 (ad_hat hB hts at_ISE) (by decide +kernel) (by decide +kernel) (by decide +kernel) (by decide +kernel) (by decide +kernel) (by decide +kernel) (by decide +kernel) hl.1 d_A_needListed_8 d_A_needListed_11 d_A_needListed_12 d_A_needListed_14 d_A_needListed_17 (by decide) (by decide) (by decide) (by decide) (fun H1 cell h1 h2 h3 h4 h5 => ?_)
    exact ad_outP M h1 h2 h3 h4 h5 (by decide) (by decide) (by decide) (Or.inr ⟨fun h => h c5, rfl⟩)
set_option maxHeartbeats 4000000 in
set_option maxRecDepth 100000 in
theorem c_A_needNumber (l : Launch) (G : ad_G) (lo : Nat) (hp : ad_H) (v : Int64) (hT : l.stackTraces = false) : ad_Cp l y_A_needNumber b_A_needNumber 2 rt_A_needNumber hs_A_needNumber 6 1 6 G lo hp [.long v] (fun r => ((¬ v < 0 ∧ v ≤ 100000000000000000) ∧ r = .inl none) ∨ (¬ ((¬ v < 0 ∧ v ≤ 100000000000000000)) ∧ r = .inr ad_IAE)) := by
  intro p e s m below meth c M hts hB hP
  have hx := M.1
  have hb := M.2.1
  have hml := M.2.2.1
  have hown : s.vm.findClass "AuditDraws" = some m.cls := M.2.2.2.1
  have S : CallFix p m c b_A_needNumber 2 s _ ad_T "AuditDraws" := ⟨hx, hb, hml, hown, hts⟩
  have I : ad_I G lo s hp s.heap [] := ad_I.rf hB hP
  have hl := lv_entry ([.long v]) (n := 2) (Nat.le_of_ble_eq_true rfl)
  rw [lg_entry_eq]
  generalize (lg_sl ([.long v]) ++ List.replicate (2 - (lg_sl ([.long v])).length) Slot.unset).toArray = ls at hl ⊢
  have hl : lv_has ls 2 [(0, .long v)] := hl
  refine lv_lload_n hx hb d_A_needNumber_0 rfl (lv_at hl 0 rfl) ?_
  refine lv_lconst (v := 0) hx hb d_A_needNumber_1 (by decide) ?_
  refine W.lcmp hx hb d_A_needNumber_2 ?_
  refine lv_if_lt (tgt := 14) hx hb d_A_needNumber_3 (by decide) (fun c3 => ?_) (fun c3 => ?_)
  · obtain ⟨q9, hq9⟩ := hB.2.2.2.2.2.2.1 (202, "not 0 .. 10 to the 17th") (by decide)
    refine ad_thr S hT (X := "java/lang/IllegalArgumentException") (Yn := "java/lang/RuntimeException") (names := ["java/lang/Exception"]) (ix := 7) (bx := prog_11_method_2_code) (ic := 68) w_288 w_289 w_17 hq9 (ad_hat hB hts at_IAE) (by decide +kernel) (by decide +kernel) (by decide +kernel) (by decide +kernel) (by decide +kernel) (by decide +kernel) (by decide +kernel) hl.1 d_A_needNumber_14 d_A_needNumber_17 d_A_needNumber_18 d_A_needNumber_20 d_A_needNumber_23 (by decide) (by decide) (by decide) (by decide) (fun H1 cell h1 h2 h3 h4 h5 => ?_)
    exact ad_outP M h1 h2 h3 h4 h5 (by decide) (by decide) (by decide) (Or.inr ⟨fun h => h.1 (ad_lcLt.mp c3), rfl⟩)
  · refine lv_lload_n hx hb d_A_needNumber_6 rfl (lv_at hl 0 rfl) ?_
    refine lv_ldc2 (v := 100000000000000000) hx hb hown (hts _ w_428) d_A_needNumber_7 ?_
    refine W.lcmp hx hb d_A_needNumber_10 ?_
    refine lv_if_le (tgt := 24) hx hb d_A_needNumber_11 (by decide) (fun c11 => ?_) (fun c11 => ?_)
    · exact ad_vretP M (Or.inl ⟨⟨fun h => c3 (ad_lcLt.mpr h), ad_lcLe.mp c11⟩, rfl⟩) d_A_needNumber_24
    · obtain ⟨q9, hq9⟩ := hB.2.2.2.2.2.2.1 (202, "not 0 .. 10 to the 17th") (by decide)
      refine ad_thr S hT (X := "java/lang/IllegalArgumentException") (Yn := "java/lang/RuntimeException") (names := ["java/lang/Exception"]) (ix := 7) (bx := prog_11_method_2_code) (ic := 68) w_288 w_289 w_17 hq9 (ad_hat hB hts at_IAE) (by decide +kernel) (by decide +kernel) (by decide +kernel) (by decide +kernel) (by decide +kernel) (by decide +kernel) (by decide +kernel) hl.1 d_A_needNumber_14 d_A_needNumber_17 d_A_needNumber_18 d_A_needNumber_20 d_A_needNumber_23 (by decide) (by decide) (by decide) (by decide) (fun H1 cell h1 h2 h3 h4 h5 => ?_)
      exact ad_outP M h1 h2 h3 h4 h5 (by decide) (by decide) (by decide) (Or.inr ⟨fun h => c11 (ad_lcLe.mpr h.2), rfl⟩)
def sp_ok (n : Nat) (v : Int32) : Prop := ¬ v < 0 ∧ v < nI n
set_option maxHeartbeats 4000000 in
set_option maxRecDepth 100000 in
theorem c_A_existing (l : Launch) (G : ad_G) (lo : Nat) (hp : ad_H) (x dA tA lA rA gA sA : Nat) (v : Int32) (ta : List Nat) (ts : List TH)  (hT : l.stackTraces = false) (hX : hp x = some (.inr (4, [.ref dA, .ref tA, .ref lA, .ref rA, .ref gA, .ref sA]))) (hL : al G hp tA ta) (hTT : tt hp ta ts) (hn : ts.length ≤ 64) : ad_Cp l y_A_existing b_A_existing 2 rt_A_existing hs_A_existing 7 1 6 G lo hp [.ref x, .int v] (fun r => (∃ j t y ra, v = nI j ∧ ts[j]? = some t ∧ ta[j]? = some y ∧ hp y = some (oT j t ra) ∧ r = .inl (some (.ref y))) ∨ (¬ sp_ok ts.length v ∧ r = .inr ad_NSE)) := by
  intro p e s m below meth c M hts hB hP
  have hx := M.1
  have hb := M.2.1
  have hml := M.2.2.1
  have hown : s.vm.findClass "AuditDraws" = some m.cls := M.2.2.2.1
  have S : CallFix p m c b_A_existing 2 s _ ad_T "AuditDraws" := ⟨hx, hb, hml, hown, hts⟩
  have I : ad_I G lo s hp s.heap [] := ad_I.rf hB hP
  have hl := lv_entry ([.ref x, .int v]) (n := 2) (Nat.le_of_ble_eq_true rfl)
  rw [lg_entry_eq]
  generalize (lg_sl ([.ref x, .int v]) ++ List.replicate (2 - (lg_sl ([.ref x, .int v])).length) Slot.unset).toArray = ls at hl ⊢
  have hl : lv_has ls 2 [(0, .ref x), (1, .int v)] := hl
  obtain ⟨t1, t2, t3, t4, htA, -⟩ := id hL
  refine lv_iload_n hx hb d_A_existing_0 rfl (lv_at hl 1 rfl) ?_
  refine lv_aload_n hx hb d_A_existing_1 rfl (lv_at hl 0 rfl) ?_
  refine ad_get S I hX K_AD 1 (by decide) w_68 rfl d_A_existing_2 ?_
  refine ad_cPi S I (ad_ivV (As := []) (rest := [.int v]) S (ad_recv I htA K_AL) w_171 w_172 w_173 Y_AL_size ⟨by decide, by decide, np_AL_size⟩ rfl d_A_existing_5) (c_ALsize l G lo hp tA ta hL) Y_AL_size hl.1 ⟨Nat.le_of_ble_eq_true rfl, Nat.le_of_ble_eq_true rfl⟩ (Nat.le_of_ble_eq_true rfl) (Nat.le_of_ble_eq_true rfl) d_A_existing_5 ?_
  refine ad_top (y := .int (nI ts.length)) (by rw [hTT.1]) ?_
  refine ad_cPg S I (ad_ivS (As := [.int v, .int (nI ts.length)]) (rest := []) S Y_A_needBelow w_100 w_101 w_1 ⟨by decide, by decide, np_A_needBelow⟩ rfl d_A_existing_8) (c_A_needBelow l G lo hp v (nI ts.length) hT) Y_A_needBelow hl.1 ⟨Nat.le_of_ble_eq_true rfl, Nat.le_of_ble_eq_true rfl⟩ (Nat.le_of_ble_eq_true rfl) (Nat.le_of_ble_eq_true rfl) d_A_existing_8 (fun g8 => ?_) (fun g8 H1 x cell h1 h2 h3 h4 h5 => ?_)
  · obtain ⟨j, hj, rfl⟩ := ad_2 g8.1 g8.2 (by omega)
    obtain ⟨t, y, ra, ht, hy, hty⟩ := hTT.at hj
    refine lv_aload_n hx hb d_A_existing_11 rfl (lv_at hl 0 rfl) ?_
    refine ad_get S I hX K_AD 1 (by decide) w_68 rfl d_A_existing_12 ?_
    refine lv_iload_n hx hb d_A_existing_15 rfl (lv_at hl 1 rfl) ?_
    refine ad_cPi S I (ad_ivV (As := [.int (nI j)]) (rest := []) S (ad_recv I htA K_AL) w_308 w_309 w_310 Y_AL_get ⟨by decide, by decide, np_AL_get⟩ rfl d_A_existing_16) (c_ALget l G lo hp tA ta j y hL hy) Y_AL_get hl.1 ⟨Nat.le_of_ble_eq_true rfl, Nat.le_of_ble_eq_true rfl⟩ (Nat.le_of_ble_eq_true rfl) (Nat.le_of_ble_eq_true rfl) d_A_existing_16 ?_
    refine va_castE hx hb hown (hts _ w_191) (ad_recv I hty K_Thing) d_A_existing_19 ?_
    exact ad_aretP M (Or.inl ⟨_, rfl⟩) (Or.inr ⟨_, rfl⟩) (Or.inl ⟨j, t, y, ra, rfl, ht, hy, hty, rfl⟩) d_A_existing_22
  · exact ad_outP M h1 h2 h3 h4 h5 (by decide) (by decide) (by decide) (Or.inr ⟨g8, rfl⟩)
set_option maxHeartbeats 4000000 in
set_option maxRecDepth 100000 in
theorem c_A_countThings (l : Launch) (G : ad_G) (lo : Nat) (hp : ad_H) (x dA tA lA rA gA sA : Nat) (s0 : Int32) (ta : List Nat) (ts : List TH)  (hX : hp x = some (.inr (4, [.ref dA, .ref tA, .ref lA, .ref rA, .ref gA, .ref sA]))) (hL : al G hp tA ta) (hTT : tt hp ta ts) (hn : ts.length ≤ 64) : ad_Cp l y_A_countThings b_A_countThings 4 rt_A_countThings hs_A_countThings 4 0 0 G lo hp [.ref x, .int s0] (fun r => r = .inl (some (.int (nI (ts.countP (fun t => decide (t.1 = s0))))))) := by
  intro p e s m below meth c M hts hB hP
  have hx := M.1
  have hb := M.2.1
  have hml := M.2.2.1
  have hown : s.vm.findClass "AuditDraws" = some m.cls := M.2.2.2.1
  have S : CallFix p m c b_A_countThings 4 s _ ad_T "AuditDraws" := ⟨hx, hb, hml, hown, hts⟩
  have I : ad_I G lo s hp s.heap [] := ad_I.rf hB hP
  have hl := lv_entry ([.ref x, .int s0]) (n := 4) (Nat.le_of_ble_eq_true rfl)
  rw [lg_entry_eq]
  generalize (lg_sl ([.ref x, .int s0]) ++ List.replicate (4 - (lg_sl ([.ref x, .int s0])).length) Slot.unset).toArray = ls at hl ⊢
  have hl : lv_has ls 4 [(0, .ref x), (1, .int s0)] := hl
  obtain ⟨t1, t2, t3, t4, htA, -⟩ := id hL
  have loop : ∀ (n : Nat) (j : Nat), ts.length < j + n ∧ j ≤ ts.length → ∀ ls : Array Slot, lv_has ls 4 [(0, .ref x), (1, .int s0), (2, .int (nI ((ts.take j).countP (fun t => decide (t.1 = s0))))), (3, .int (nI j))] → W p l e (ad_rm 4 0 0) s m ([.ref x, .int s0] : List Value).toArray below meth c s.heap [] 0 0 (ad_Zp below (fun r => r = .inl (some (.int (nI (ts.countP (fun t => decide (t.1 = s0))))))) s 0 0) (F0 m 4 ls []) := by
    intro n
    induction n with
    | zero => intro j h0 ls hl; exact absurd h0 (by omega)
    | succ n ih =>
      intro j h0 ls hl
      refine lv_iload_n hx hb d_A_countThings_4 rfl (lv_at hl 3 rfl) ?_
      refine lv_aload_n hx hb d_A_countThings_5 rfl (lv_at hl 0 rfl) ?_
      refine ad_get S I hX K_AD 1 (by decide) w_68 rfl d_A_countThings_6 ?_
      refine ad_cPi S I (ad_ivV (As := []) (rest := [.int (nI j)]) S (ad_recv I htA K_AL) w_171 w_172 w_173 Y_AL_size ⟨by decide, by decide, np_AL_size⟩ rfl d_A_countThings_9) (c_ALsize l G lo hp tA ta hL) Y_AL_size hl.1 ⟨Nat.le_of_ble_eq_true rfl, Nat.le_of_ble_eq_true rfl⟩ (Nat.le_of_ble_eq_true rfl) (Nat.le_of_ble_eq_true rfl) d_A_countThings_9 ?_
      refine ad_top (y := .int (nI ts.length)) (by rw [hTT.1]) ?_
      refine lv_icmp_ge (tgt := 42) hx hb d_A_countThings_12 (by decide) (fun c12 => ?_) (fun c12 => ?_)
      · obtain rfl : j = ts.length := by have := ad_ge (j := j) (n := ts.length) (by omega) (by omega) c12; omega
        refine lv_iload_n hx hb d_A_countThings_42 rfl (lv_at hl 2 rfl) ?_
        exact ad_iretP M rfl (by rw [List.take_length]) d_A_countThings_43
      · have hj : j < ts.length := ad_lt (by omega) (by omega) c12
        obtain ⟨t, y, ra, ht, hy, hty⟩ := hTT.at hj
        refine lv_aload_n hx hb d_A_countThings_15 rfl (lv_at hl 0 rfl) ?_
        refine ad_get S I hX K_AD 1 (by decide) w_68 rfl d_A_countThings_16 ?_
        refine lv_iload_n hx hb d_A_countThings_19 rfl (lv_at hl 3 rfl) ?_
        refine ad_cPi S I (ad_ivV (As := [.int (nI j)]) (rest := []) S (ad_recv I htA K_AL) w_308 w_309 w_310 Y_AL_get ⟨by decide, by decide, np_AL_get⟩ rfl d_A_countThings_20) (c_ALget l G lo hp tA ta j y hL hy) Y_AL_get hl.1 ⟨Nat.le_of_ble_eq_true rfl, Nat.le_of_ble_eq_true rfl⟩ (Nat.le_of_ble_eq_true rfl) (Nat.le_of_ble_eq_true rfl) d_A_countThings_20 ?_
        refine va_castE hx hb hown (hts _ w_191) (ad_recv I hty K_Thing) d_A_countThings_23 ?_
        refine ad_get S I hty K_Thing 1 (by decide) w_202 rfl d_A_countThings_26 ?_
        refine lv_iload_n hx hb d_A_countThings_29 rfl (lv_at hl 1 rfl) ?_
        refine lv_icmp_ne (tgt := 36) hx hb d_A_countThings_30 (by decide) (fun c30 => ?_) (fun c30 => ?_)
        · refine lv_iinc (v := (nI (j + 1))) (lv' := [(3, .int (nI (j + 1))), (0, .ref x), (1, .int s0), (2, .int (nI ((ts.take j).countP (fun t => decide (t.1 = s0)))))]) hx hb d_A_countThings_36 hl (k := 3) rfl (nI_1 j) (by decide) rfl (fun ls hl => ?_)
          refine lv_goto (tgt := 4) hx hb d_A_countThings_39 (by decide) ?_
          exact ih (j + 1) (by omega) ls (by rw [cnt_s ht]; simp only [c30, decide_false, decide_true, if_true, if_false, Nat.add_zero, Bool.false_eq_true]; exact lv_sub hl [1, 2, 3, 0] rfl)
        · refine lv_iinc (v := (nI ((ts.take j).countP (fun t => decide (t.1 = s0)) + 1))) (lv' := [(2, .int (nI ((ts.take j).countP (fun t => decide (t.1 = s0)) + 1))), (0, .ref x), (1, .int s0), (3, .int (nI j))]) hx hb d_A_countThings_33 hl (k := 2) rfl (nI_1 _) (by decide) rfl (fun ls hl => ?_)
          refine lv_iinc (v := (nI (j + 1))) (lv' := [(3, .int (nI (j + 1))), (2, .int (nI ((ts.take j).countP (fun t => decide (t.1 = s0)) + 1))), (0, .ref x), (1, .int s0)]) hx hb d_A_countThings_36 hl (k := 3) rfl (nI_1 j) (by decide) rfl (fun ls hl => ?_)
          refine lv_goto (tgt := 4) hx hb d_A_countThings_39 (by decide) ?_
          exact ih (j + 1) (by omega) ls (by rw [cnt_s ht]; simp only [c30, decide_false, decide_true, if_true, if_false, Nat.add_zero, Bool.false_eq_true]; exact lv_sub hl [2, 3, 1, 0] rfl)
  refine lv_iconst (v := 0) hx hb d_A_countThings_0 (by decide) ?_
  refine lv_istore_n (lv' := [(2, .int 0), (0, .ref x), (1, .int s0)]) hx hb d_A_countThings_1 rfl hl (by decide) rfl (fun ls hl => ?_)
  refine lv_iconst (v := 0) hx hb d_A_countThings_2 (by decide) ?_
  refine lv_istore_n (lv' := [(3, .int 0), (2, .int 0), (0, .ref x), (1, .int s0)]) hx hb d_A_countThings_3 rfl hl (by decide) rfl (fun ls hl => ?_)
  exact loop (ts.length + 1) 0 (by omega) ls (lv_sub hl [2, 3, 1, 0] rfl)
end
section
/-- the k-th thing from place i on that p holds of -/
def sp_kth (p : TH → Bool) : List TH → Nat → Nat → Option Nat
  | [], _, _ => none
  | t :: ts, i, k => if p t then (if k = 0 then some i else sp_kth p ts (i + 1) (k - 1)) else sp_kth p ts (i + 1) k
def sp_ki (o : Option Nat) : Int32 := match o with
  | some i => nI i
  | none => -1
theorem drop_s {α : Type} {ts : List α} {j : Nat} {t : α} (h : ts[j]? = some t) : ts.drop j = t :: ts.drop (j + 1) := by
  obtain ⟨hj, rfl⟩ := List.getElem?_eq_some_iff.mp h
  exact List.drop_eq_getElem_cons hj
theorem kth_s {p : TH → Bool} {ts : List TH} {j k : Nat} {t : TH} (h : ts[j]? = some t) : sp_kth p (ts.drop j) j k = if p t then (if k = 0 then some j else sp_kth p (ts.drop (j + 1)) (j + 1) (k - 1)) else sp_kth p (ts.drop (j + 1)) (j + 1) k := by
  rw [drop_s h]; rfl
/-- the latest list: places of things; their addresses la -/
def ll (hp : ad_H) (la lt : List Nat) (ts : List TH) : Prop := la.length = lt.length ∧ ∀ (j i : Nat), lt[j]? = some i → ∃ (t : TH) (y ra : Nat), la[j]? = some y ∧ ts[i]? = some t ∧ hp y = some (oT i t ra)
theorem ll.at {hp : ad_H} {la lt : List Nat} {ts : List TH} (h : ll hp la lt ts) {j : Nat} (hj : j < lt.length) : ∃ (i : Nat) (t : TH) (y ra : Nat), lt[j]? = some i ∧ la[j]? = some y ∧ ts[i]? = some t ∧ hp y = some (oT i t ra) := by
  have ht : lt[j]? = some lt[j] := List.getElem?_eq_getElem hj
  obtain ⟨t, y, ra, h1, h2, h3⟩ := h.2 j _ ht
  exact ⟨_, t, y, ra, ht, h1, h2, h3⟩
def sp_lp (ts : List TH) (f : TH → Bool) (i : Nat) : Bool := match ts[i]? with
  | some t => f t
  | none => false
theorem sp_lp_e {ts : List TH} {f : TH → Bool} {i : Nat} {t : TH} (h : ts[i]? = some t) : sp_lp ts f i = f t := by simp [sp_lp, h]
set_option maxHeartbeats 4000000 in
set_option maxRecDepth 100000 in
theorem c_A_drawn (l : Launch) (G : ad_G) (lo : Nat) (hp : ad_H) (x dA tA lA rA gA sA : Nat) (v : Int32) (ts : List TH) (la lt : List Nat)  (hT : l.stackTraces = false) (hX : hp x = some (.inr (4, [.ref dA, .ref tA, .ref lA, .ref rA, .ref gA, .ref sA]))) (hLL : al G hp lA la) (hll : ll hp la lt ts) (hm : lt.length ≤ 64) : ad_Cp l y_A_drawn b_A_drawn 2 rt_A_drawn hs_A_drawn 7 1 6 G lo hp [.ref x, .int v] (fun r => (∃ j i, v = nI j ∧ lt[j]? = some i ∧ r = .inl (some (.int (nI i)))) ∨ (¬ sp_ok lt.length v ∧ r = .inr ad_NSE)) := by
  intro p e s m below meth c M hts hB hP
  have hx := M.1
  have hb := M.2.1
  have hml := M.2.2.1
  have hown : s.vm.findClass "AuditDraws" = some m.cls := M.2.2.2.1
  have S : CallFix p m c b_A_drawn 2 s _ ad_T "AuditDraws" := ⟨hx, hb, hml, hown, hts⟩
  have I : ad_I G lo s hp s.heap [] := ad_I.rf hB hP
  have hl := lv_entry ([.ref x, .int v]) (n := 2) (Nat.le_of_ble_eq_true rfl)
  rw [lg_entry_eq]
  generalize (lg_sl ([.ref x, .int v]) ++ List.replicate (2 - (lg_sl ([.ref x, .int v])).length) Slot.unset).toArray = ls at hl ⊢
  have hl : lv_has ls 2 [(0, .ref x), (1, .int v)] := hl
  obtain ⟨l1, l2, l3, l4, hlA, -⟩ := id hLL
  refine lv_iload_n hx hb d_A_drawn_0 rfl (lv_at hl 1 rfl) ?_
  refine lv_aload_n hx hb d_A_drawn_1 rfl (lv_at hl 0 rfl) ?_
  refine ad_get S I hX K_AD 2 (by decide) w_69 rfl d_A_drawn_2 ?_
  refine ad_cPi S I (ad_ivV (As := []) (rest := [.int v]) S (ad_recv I hlA K_AL) w_171 w_172 w_173 Y_AL_size ⟨by decide, by decide, np_AL_size⟩ rfl d_A_drawn_5) (c_ALsize l G lo hp lA la hLL) Y_AL_size hl.1 ⟨Nat.le_of_ble_eq_true rfl, Nat.le_of_ble_eq_true rfl⟩ (Nat.le_of_ble_eq_true rfl) (Nat.le_of_ble_eq_true rfl) d_A_drawn_5 ?_
  refine ad_top (y := .int (nI lt.length)) (by rw [hll.1]) ?_
  refine ad_cPg S I (ad_ivS (As := [.int v, .int (nI lt.length)]) (rest := []) S Y_A_needBelow w_100 w_101 w_1 ⟨by decide, by decide, np_A_needBelow⟩ rfl d_A_drawn_8) (c_A_needBelow l G lo hp v (nI lt.length) hT) Y_A_needBelow hl.1 ⟨Nat.le_of_ble_eq_true rfl, Nat.le_of_ble_eq_true rfl⟩ (Nat.le_of_ble_eq_true rfl) (Nat.le_of_ble_eq_true rfl) d_A_drawn_8 (fun g8 => ?_) (fun g8 H1 x cell h1 h2 h3 h4 h5 => ?_)
  · obtain ⟨j, hj, rfl⟩ := ad_2 g8.1 g8.2 (by omega)
    obtain ⟨i, t, y, ra, hi, hy, ht, hty⟩ := hll.at hj
    refine lv_aload_n hx hb d_A_drawn_11 rfl (lv_at hl 0 rfl) ?_
    refine ad_get S I hX K_AD 2 (by decide) w_69 rfl d_A_drawn_12 ?_
    refine lv_iload_n hx hb d_A_drawn_15 rfl (lv_at hl 1 rfl) ?_
    refine ad_cPi S I (ad_ivV (As := [.int (nI j)]) (rest := []) S (ad_recv I hlA K_AL) w_308 w_309 w_310 Y_AL_get ⟨by decide, by decide, np_AL_get⟩ rfl d_A_drawn_16) (c_ALget l G lo hp lA la j y hLL hy) Y_AL_get hl.1 ⟨Nat.le_of_ble_eq_true rfl, Nat.le_of_ble_eq_true rfl⟩ (Nat.le_of_ble_eq_true rfl) (Nat.le_of_ble_eq_true rfl) d_A_drawn_16 ?_
    refine va_castE hx hb hown (hts _ w_191) (ad_recv I hty K_Thing) d_A_drawn_19 ?_
    refine ad_get S I hty K_Thing 0 (by decide) w_200 rfl d_A_drawn_22 ?_
    exact ad_iretP M rfl (Or.inl ⟨j, i, rfl, hi, rfl⟩) d_A_drawn_25
  · exact ad_outP M h1 h2 h3 h4 h5 (by decide) (by decide) (by decide) (Or.inr ⟨g8, rfl⟩)
set_option maxHeartbeats 4000000 in
set_option maxRecDepth 100000 in
theorem c_A_report (l : Launch) (G : ad_G) (lo : Nat) (hp : ad_H) (x dA tA lA rA gA sA : Nat) (v k : Int32) (ta : List Nat) (ts : List TH)  (hT : l.stackTraces = false) (hX : hp x = some (.inr (4, [.ref dA, .ref tA, .ref lA, .ref rA, .ref gA, .ref sA]))) (hL : al G hp tA ta) (hTT : tt hp ta ts) (hn : ts.length ≤ 64) : ad_Cp l y_A_report b_A_report 5 rt_A_report hs_A_report 7 1 6 G lo hp [.ref x, .int v, .int k] (fun r => (((¬ v < 0 ∧ v < 4) ∧ 0 ≤ k) ∧ ∃ kk, kk < 2 ^ 31 ∧ k = nI kk ∧ r = .inl (some (.int (sp_ki (sp_kth (fun t => decide (t.2.2.1 = v)) ts 0 kk))))) ∨ (¬ ((¬ v < 0 ∧ v < 4) ∧ 0 ≤ k) ∧ r = .inr ad_NSE)) := by
  intro p e s m below meth c M hts hB hP
  have hx := M.1
  have hb := M.2.1
  have hml := M.2.2.1
  have hown : s.vm.findClass "AuditDraws" = some m.cls := M.2.2.2.1
  have S : CallFix p m c b_A_report 5 s _ ad_T "AuditDraws" := ⟨hx, hb, hml, hown, hts⟩
  have I : ad_I G lo s hp s.heap [] := ad_I.rf hB hP
  have hl := lv_entry ([.ref x, .int v, .int k]) (n := 5) (Nat.le_of_ble_eq_true rfl)
  rw [lg_entry_eq]
  generalize (lg_sl ([.ref x, .int v, .int k]) ++ List.replicate (5 - (lg_sl ([.ref x, .int v, .int k])).length) Slot.unset).toArray = ls at hl ⊢
  have hl : lv_has ls 5 [(0, .ref x), (1, .int v), (2, .int k)] := hl
  obtain ⟨t1, t2, t3, t4, htA, -⟩ := id hL
  refine lv_iload_n hx hb d_A_report_0 rfl (lv_at hl 1 rfl) ?_
  refine lv_iconst (v := 4) hx hb d_A_report_1 (by decide) ?_
  refine ad_cPg S I (ad_ivS (As := [.int v, .int 4]) (rest := []) S Y_A_needBelow w_100 w_101 w_1 ⟨by decide, by decide, np_A_needBelow⟩ rfl d_A_report_2) (c_A_needBelow l G lo hp v 4 hT) Y_A_needBelow hl.1 ⟨Nat.le_of_ble_eq_true rfl, Nat.le_of_ble_eq_true rfl⟩ (Nat.le_of_ble_eq_true rfl) (Nat.le_of_ble_eq_true rfl) d_A_report_2 (fun g2 => ?_) (fun g2 H1 x cell h1 h2 h3 h4 h5 => ?_)
  · refine lv_iload_n hx hb d_A_report_5 rfl (lv_at hl 2 rfl) ?_
    refine ad_cPg S I (ad_ivS (As := [.int k]) (rest := []) S Y_A_needNotNegative w_531 w_532 w_1 ⟨by decide, by decide, np_A_needNotNegative⟩ rfl d_A_report_6) (c_A_needNotNegative l G lo hp k hT) Y_A_needNotNegative hl.1 ⟨Nat.le_of_ble_eq_true rfl, Nat.le_of_ble_eq_true rfl⟩ (Nat.le_of_ble_eq_true rfl) (Nat.le_of_ble_eq_true rfl) d_A_report_6 (fun g6 => ?_) (fun g6 H1 x cell h1 h2 h3 h4 h5 => ?_)
    · obtain ⟨kk, hkk, rfl⟩ := nI_of (Int32.not_lt.mpr g6)
      refine lv_iconst (v := 0) hx hb d_A_report_9 (by decide) ?_
      refine lv_istore_n (lv' := [(3, .int 0), (0, .ref x), (1, .int v), (2, .int (nI kk))]) hx hb d_A_report_10 rfl hl (by decide) rfl (fun ls hl => ?_)
      refine lv_iconst (v := 0) hx hb d_A_report_11 (by decide) ?_
      refine lv_istore (lv' := [(4, .int 0), (3, .int 0), (0, .ref x), (1, .int v), (2, .int (nI kk))]) hx hb d_A_report_12 hl (by decide) rfl (fun ls hl => ?_)
      have loop : ∀ (n : Nat) (j c0 m0 : Nat), (ts.length < j + n ∧ j ≤ ts.length ∧ c0 + m0 = kk ∧ c0 ≤ j ∧ sp_kth (fun t => decide (t.2.2.1 = v)) ts 0 kk = sp_kth (fun t => decide (t.2.2.1 = v)) (ts.drop j) j m0) → ∀ ls : Array Slot, lv_has ls 5 [(0, .ref x), (1, .int v), (2, .int (nI kk)), (3, .int (nI c0)), (4, .int (nI j))] → W p l e (ad_rm 7 1 6) s m ([.ref x, .int v, .int (nI kk)] : List Value).toArray below meth c s.heap [] 0 0 (ad_Zp below (fun r => (((¬ v < 0 ∧ v < 4) ∧ 0 ≤ (nI kk)) ∧ ∃ k2, k2 < 2 ^ 31 ∧ nI kk = nI k2 ∧ r = .inl (some (.int (sp_ki (sp_kth (fun t => decide (t.2.2.1 = v)) ts 0 k2))))) ∨ (¬ ((¬ v < 0 ∧ v < 4) ∧ 0 ≤ (nI kk)) ∧ r = .inr ad_NSE)) s 1 6) (F0 m 14 ls []) := by
        intro n
        induction n with
        | zero => intro j c0 m0 h0 ls hl; exact absurd h0 (by omega)
        | succ n ih =>
          intro j c0 m0 h0 ls hl
          refine lv_iload hx hb d_A_report_14 (lv_at hl 4 rfl) ?_
          refine lv_aload_n hx hb d_A_report_16 rfl (lv_at hl 0 rfl) ?_
          refine ad_get S I hX K_AD 1 (by decide) w_68 rfl d_A_report_17 ?_
          refine ad_cPi S I (ad_ivV (As := []) (rest := [.int (nI j)]) S (ad_recv I htA K_AL) w_171 w_172 w_173 Y_AL_size ⟨by decide, by decide, np_AL_size⟩ rfl d_A_report_20) (c_ALsize l G lo hp tA ta hL) Y_AL_size hl.1 ⟨Nat.le_of_ble_eq_true rfl, Nat.le_of_ble_eq_true rfl⟩ (Nat.le_of_ble_eq_true rfl) (Nat.le_of_ble_eq_true rfl) d_A_report_20 ?_
          refine ad_top (y := .int (nI ts.length)) (by rw [hTT.1]) ?_
          refine lv_icmp_ge (tgt := 62) hx hb d_A_report_23 (by decide) (fun c23 => ?_) (fun c23 => ?_)
          · obtain rfl : j = ts.length := by have := ad_ge (j := j) (n := ts.length) (by omega) (by omega) c23; omega
            refine lv_iconst (v := (-1)) hx hb d_A_report_62 (by decide) ?_
            exact ad_iretP M rfl (Or.inl ⟨⟨g2, g6⟩, kk, hkk, rfl, by rw [h0.2.2.2.2]; simp [sp_kth, sp_ki]⟩) d_A_report_63
          · have hj : j < ts.length := ad_lt (by omega) (by omega) c23
            obtain ⟨t, y, ra, ht, hy, hty⟩ := hTT.at hj
            refine lv_aload_n hx hb d_A_report_26 rfl (lv_at hl 0 rfl) ?_
            refine ad_get S I hX K_AD 1 (by decide) w_68 rfl d_A_report_27 ?_
            refine lv_iload hx hb d_A_report_30 (lv_at hl 4 rfl) ?_
            refine ad_cPi S I (ad_ivV (As := [.int (nI j)]) (rest := []) S (ad_recv I htA K_AL) w_308 w_309 w_310 Y_AL_get ⟨by decide, by decide, np_AL_get⟩ rfl d_A_report_32) (c_ALget l G lo hp tA ta j y hL hy) Y_AL_get hl.1 ⟨Nat.le_of_ble_eq_true rfl, Nat.le_of_ble_eq_true rfl⟩ (Nat.le_of_ble_eq_true rfl) (Nat.le_of_ble_eq_true rfl) d_A_report_32 ?_
            refine va_castE hx hb hown (hts _ w_191) (ad_recv I hty K_Thing) d_A_report_35 ?_
            refine ad_get S I hty K_Thing 4 (by decide) w_208 rfl d_A_report_38 ?_
            refine lv_iload_n hx hb d_A_report_41 rfl (lv_at hl 1 rfl) ?_
            refine lv_icmp_ne (tgt := 56) hx hb d_A_report_42 (by decide) (fun c42 => ?_) (fun c42 => ?_)
            · refine lv_iinc (v := (nI (j + 1))) (lv' := [(4, .int (nI (j + 1))), (0, .ref x), (1, .int v), (2, .int (nI kk)), (3, .int (nI c0))]) hx hb d_A_report_56 hl (k := 4) rfl (nI_1 j) (by decide) rfl (fun ls hl => ?_)
              refine lv_goto (tgt := 14) hx hb d_A_report_59 (by decide) ?_
              exact ih (j + 1) c0 m0 ⟨by omega, by omega, by omega, by omega, by rw [h0.2.2.2.2, kth_s ht]; simp [c42]⟩ ls (lv_sub hl [1, 2, 3, 4, 0] rfl)
            · refine lv_iload_n hx hb d_A_report_45 rfl (lv_at hl 3 rfl) ?_
              refine lv_iload_n hx hb d_A_report_46 rfl (lv_at hl 2 rfl) ?_
              refine lv_icmp_ne (tgt := 53) hx hb d_A_report_47 (by decide) (fun c47 => ?_) (fun c47 => ?_)
              · have hm0 : m0 ≠ 0 := fun hz => c47 (by rw [show kk = c0 by omega])
                refine lv_iinc (v := (nI (c0 + 1))) (lv' := [(3, .int (nI (c0 + 1))), (0, .ref x), (1, .int v), (2, .int (nI kk)), (4, .int (nI j))]) hx hb d_A_report_53 hl (k := 3) rfl (nI_1 c0) (by decide) rfl (fun ls hl => ?_)
                refine lv_iinc (v := (nI (j + 1))) (lv' := [(4, .int (nI (j + 1))), (3, .int (nI (c0 + 1))), (0, .ref x), (1, .int v), (2, .int (nI kk))]) hx hb d_A_report_56 hl (k := 4) rfl (nI_1 j) (by decide) rfl (fun ls hl => ?_)
                refine lv_goto (tgt := 14) hx hb d_A_report_59 (by decide) ?_
                exact ih (j + 1) (c0 + 1) (m0 - 1) ⟨by omega, by omega, by have := hm0; omega, by omega, by rw [h0.2.2.2.2, kth_s ht]; simp [c42, show ¬ m0 = 0 from hm0]⟩ ls (lv_sub hl [2, 3, 4, 1, 0] rfl)
              · refine lv_iload hx hb d_A_report_50 (lv_at hl 4 rfl) ?_
                exact ad_iretP M rfl (Or.inl ⟨⟨g2, g6⟩, kk, hkk, rfl, by rw [h0.2.2.2.2]; rw [kth_s ht]; simp [c42, show m0 = 0 by have := (nI_eq (by omega) (by omega)).mp c47; omega, sp_ki]⟩) d_A_report_52
      exact loop (ts.length + 1) 0 0 kk ⟨by omega, by omega, by omega, by omega, by simp⟩ ls (lv_sub hl [2, 3, 4, 1, 0] rfl)
    · exact ad_outP M h1 h2 h3 h4 h5 (by decide) (by decide) (by decide) (Or.inr ⟨fun h => g6 h.2, rfl⟩)
  · exact ad_outP M h1 h2 h3 h4 h5 (by decide) (by decide) (by decide) (Or.inr ⟨fun h => g2 h.1, rfl⟩)
set_option maxHeartbeats 4000000 in
set_option maxRecDepth 100000 in
theorem c_A_room (l : Launch) (G : ad_G) (lo : Nat) (hp : ad_H) (x dA tA lA rA gA sA : Nat) (v k : Int32) (ta : List Nat) (ts : List TH)  (hT : l.stackTraces = false) (hX : hp x = some (.inr (4, [.ref dA, .ref tA, .ref lA, .ref rA, .ref gA, .ref sA]))) (hL : al G hp tA ta) (hTT : tt hp ta ts) (hn : ts.length ≤ 64) : ad_Cp l y_A_room b_A_room 5 rt_A_room hs_A_room 7 1 6 G lo hp [.ref x, .int v, .int k] (fun r => (((¬ v < 0 ∧ v < 16) ∧ 0 ≤ k) ∧ ∃ kk, kk < 2 ^ 31 ∧ k = nI kk ∧ r = .inl (some (.int (sp_ki (sp_kth (fun t => decide (t.2.1 = v)) ts 0 kk))))) ∨ (¬ ((¬ v < 0 ∧ v < 16) ∧ 0 ≤ k) ∧ r = .inr ad_NSE)) := by
  intro p e s m below meth c M hts hB hP
  have hx := M.1
  have hb := M.2.1
  have hml := M.2.2.1
  have hown : s.vm.findClass "AuditDraws" = some m.cls := M.2.2.2.1
  have S : CallFix p m c b_A_room 5 s _ ad_T "AuditDraws" := ⟨hx, hb, hml, hown, hts⟩
  have I : ad_I G lo s hp s.heap [] := ad_I.rf hB hP
  have hl := lv_entry ([.ref x, .int v, .int k]) (n := 5) (Nat.le_of_ble_eq_true rfl)
  rw [lg_entry_eq]
  generalize (lg_sl ([.ref x, .int v, .int k]) ++ List.replicate (5 - (lg_sl ([.ref x, .int v, .int k])).length) Slot.unset).toArray = ls at hl ⊢
  have hl : lv_has ls 5 [(0, .ref x), (1, .int v), (2, .int k)] := hl
  obtain ⟨t1, t2, t3, t4, htA, -⟩ := id hL
  refine lv_iload_n hx hb d_A_room_0 rfl (lv_at hl 1 rfl) ?_
  refine lv_bipush (v := 16) hx hb d_A_room_1 (by decide) ?_
  refine ad_cPg S I (ad_ivS (As := [.int v, .int 16]) (rest := []) S Y_A_needBelow w_100 w_101 w_1 ⟨by decide, by decide, np_A_needBelow⟩ rfl d_A_room_3) (c_A_needBelow l G lo hp v 16 hT) Y_A_needBelow hl.1 ⟨Nat.le_of_ble_eq_true rfl, Nat.le_of_ble_eq_true rfl⟩ (Nat.le_of_ble_eq_true rfl) (Nat.le_of_ble_eq_true rfl) d_A_room_3 (fun g3 => ?_) (fun g3 H1 x cell h1 h2 h3 h4 h5 => ?_)
  · refine lv_iload_n hx hb d_A_room_6 rfl (lv_at hl 2 rfl) ?_
    refine ad_cPg S I (ad_ivS (As := [.int k]) (rest := []) S Y_A_needNotNegative w_531 w_532 w_1 ⟨by decide, by decide, np_A_needNotNegative⟩ rfl d_A_room_7) (c_A_needNotNegative l G lo hp k hT) Y_A_needNotNegative hl.1 ⟨Nat.le_of_ble_eq_true rfl, Nat.le_of_ble_eq_true rfl⟩ (Nat.le_of_ble_eq_true rfl) (Nat.le_of_ble_eq_true rfl) d_A_room_7 (fun g7 => ?_) (fun g7 H1 x cell h1 h2 h3 h4 h5 => ?_)
    · obtain ⟨kk, hkk, rfl⟩ := nI_of (Int32.not_lt.mpr g7)
      refine lv_iconst (v := 0) hx hb d_A_room_10 (by decide) ?_
      refine lv_istore_n (lv' := [(3, .int 0), (0, .ref x), (1, .int v), (2, .int (nI kk))]) hx hb d_A_room_11 rfl hl (by decide) rfl (fun ls hl => ?_)
      refine lv_iconst (v := 0) hx hb d_A_room_12 (by decide) ?_
      refine lv_istore (lv' := [(4, .int 0), (3, .int 0), (0, .ref x), (1, .int v), (2, .int (nI kk))]) hx hb d_A_room_13 hl (by decide) rfl (fun ls hl => ?_)
      have loop : ∀ (n : Nat) (j c0 m0 : Nat), (ts.length < j + n ∧ j ≤ ts.length ∧ c0 + m0 = kk ∧ c0 ≤ j ∧ sp_kth (fun t => decide (t.2.1 = v)) ts 0 kk = sp_kth (fun t => decide (t.2.1 = v)) (ts.drop j) j m0) → ∀ ls : Array Slot, lv_has ls 5 [(0, .ref x), (1, .int v), (2, .int (nI kk)), (3, .int (nI c0)), (4, .int (nI j))] → W p l e (ad_rm 7 1 6) s m ([.ref x, .int v, .int (nI kk)] : List Value).toArray below meth c s.heap [] 0 0 (ad_Zp below (fun r => (((¬ v < 0 ∧ v < 16) ∧ 0 ≤ (nI kk)) ∧ ∃ k2, k2 < 2 ^ 31 ∧ nI kk = nI k2 ∧ r = .inl (some (.int (sp_ki (sp_kth (fun t => decide (t.2.1 = v)) ts 0 k2))))) ∨ (¬ ((¬ v < 0 ∧ v < 16) ∧ 0 ≤ (nI kk)) ∧ r = .inr ad_NSE)) s 1 6) (F0 m 15 ls []) := by
        intro n
        induction n with
        | zero => intro j c0 m0 h0 ls hl; exact absurd h0 (by omega)
        | succ n ih =>
          intro j c0 m0 h0 ls hl
          refine lv_iload hx hb d_A_room_15 (lv_at hl 4 rfl) ?_
          refine lv_aload_n hx hb d_A_room_17 rfl (lv_at hl 0 rfl) ?_
          refine ad_get S I hX K_AD 1 (by decide) w_68 rfl d_A_room_18 ?_
          refine ad_cPi S I (ad_ivV (As := []) (rest := [.int (nI j)]) S (ad_recv I htA K_AL) w_171 w_172 w_173 Y_AL_size ⟨by decide, by decide, np_AL_size⟩ rfl d_A_room_21) (c_ALsize l G lo hp tA ta hL) Y_AL_size hl.1 ⟨Nat.le_of_ble_eq_true rfl, Nat.le_of_ble_eq_true rfl⟩ (Nat.le_of_ble_eq_true rfl) (Nat.le_of_ble_eq_true rfl) d_A_room_21 ?_
          refine ad_top (y := .int (nI ts.length)) (by rw [hTT.1]) ?_
          refine lv_icmp_ge (tgt := 63) hx hb d_A_room_24 (by decide) (fun c24 => ?_) (fun c24 => ?_)
          · obtain rfl : j = ts.length := by have := ad_ge (j := j) (n := ts.length) (by omega) (by omega) c24; omega
            refine lv_iconst (v := (-1)) hx hb d_A_room_63 (by decide) ?_
            exact ad_iretP M rfl (Or.inl ⟨⟨g3, g7⟩, kk, hkk, rfl, by rw [h0.2.2.2.2]; simp [sp_kth, sp_ki]⟩) d_A_room_64
          · have hj : j < ts.length := ad_lt (by omega) (by omega) c24
            obtain ⟨t, y, ra, ht, hy, hty⟩ := hTT.at hj
            refine lv_aload_n hx hb d_A_room_27 rfl (lv_at hl 0 rfl) ?_
            refine ad_get S I hX K_AD 1 (by decide) w_68 rfl d_A_room_28 ?_
            refine lv_iload hx hb d_A_room_31 (lv_at hl 4 rfl) ?_
            refine ad_cPi S I (ad_ivV (As := [.int (nI j)]) (rest := []) S (ad_recv I htA K_AL) w_308 w_309 w_310 Y_AL_get ⟨by decide, by decide, np_AL_get⟩ rfl d_A_room_33) (c_ALget l G lo hp tA ta j y hL hy) Y_AL_get hl.1 ⟨Nat.le_of_ble_eq_true rfl, Nat.le_of_ble_eq_true rfl⟩ (Nat.le_of_ble_eq_true rfl) (Nat.le_of_ble_eq_true rfl) d_A_room_33 ?_
            refine va_castE hx hb hown (hts _ w_191) (ad_recv I hty K_Thing) d_A_room_36 ?_
            refine ad_get S I hty K_Thing 3 (by decide) w_206 rfl d_A_room_39 ?_
            refine lv_iload_n hx hb d_A_room_42 rfl (lv_at hl 1 rfl) ?_
            refine lv_icmp_ne (tgt := 57) hx hb d_A_room_43 (by decide) (fun c43 => ?_) (fun c43 => ?_)
            · refine lv_iinc (v := (nI (j + 1))) (lv' := [(4, .int (nI (j + 1))), (0, .ref x), (1, .int v), (2, .int (nI kk)), (3, .int (nI c0))]) hx hb d_A_room_57 hl (k := 4) rfl (nI_1 j) (by decide) rfl (fun ls hl => ?_)
              refine lv_goto (tgt := 15) hx hb d_A_room_60 (by decide) ?_
              exact ih (j + 1) c0 m0 ⟨by omega, by omega, by omega, by omega, by rw [h0.2.2.2.2, kth_s ht]; simp [c43]⟩ ls (lv_sub hl [1, 2, 3, 4, 0] rfl)
            · refine lv_iload_n hx hb d_A_room_46 rfl (lv_at hl 3 rfl) ?_
              refine lv_iload_n hx hb d_A_room_47 rfl (lv_at hl 2 rfl) ?_
              refine lv_icmp_ne (tgt := 54) hx hb d_A_room_48 (by decide) (fun c48 => ?_) (fun c48 => ?_)
              · have hm0 : m0 ≠ 0 := fun hz => c48 (by rw [show kk = c0 by omega])
                refine lv_iinc (v := (nI (c0 + 1))) (lv' := [(3, .int (nI (c0 + 1))), (0, .ref x), (1, .int v), (2, .int (nI kk)), (4, .int (nI j))]) hx hb d_A_room_54 hl (k := 3) rfl (nI_1 c0) (by decide) rfl (fun ls hl => ?_)
                refine lv_iinc (v := (nI (j + 1))) (lv' := [(4, .int (nI (j + 1))), (3, .int (nI (c0 + 1))), (0, .ref x), (1, .int v), (2, .int (nI kk))]) hx hb d_A_room_57 hl (k := 4) rfl (nI_1 j) (by decide) rfl (fun ls hl => ?_)
                refine lv_goto (tgt := 15) hx hb d_A_room_60 (by decide) ?_
                exact ih (j + 1) (c0 + 1) (m0 - 1) ⟨by omega, by omega, by have := hm0; omega, by omega, by rw [h0.2.2.2.2, kth_s ht]; simp [c43, show ¬ m0 = 0 from hm0]⟩ ls (lv_sub hl [2, 3, 4, 1, 0] rfl)
              · refine lv_iload hx hb d_A_room_51 (lv_at hl 4 rfl) ?_
                exact ad_iretP M rfl (Or.inl ⟨⟨g3, g7⟩, kk, hkk, rfl, by rw [h0.2.2.2.2]; rw [kth_s ht]; simp [c43, show m0 = 0 by have := (nI_eq (by omega) (by omega)).mp c48; omega, sp_ki]⟩) d_A_room_53
      exact loop (ts.length + 1) 0 0 kk ⟨by omega, by omega, by omega, by omega, by simp⟩ ls (lv_sub hl [2, 3, 4, 1, 0] rfl)
    · exact ad_outP M h1 h2 h3 h4 h5 (by decide) (by decide) (by decide) (Or.inr ⟨fun h => g7 h.2, rfl⟩)
  · exact ad_outP M h1 h2 h3 h4 h5 (by decide) (by decide) (by decide) (Or.inr ⟨fun h => g3 h.1, rfl⟩)
end
section
/-- an answer: the code of what was thrown (0: nothing), and the number -/
def q_ans (xs : List String) (q : Nat × Int32) : ad_R := match q.1 with
  | 0 => .inl (some (.int q.2))
  | k + 1 => .inr (xs.getD k "")
abbrev okb (v n : Int32) : Prop := ¬ v < 0 ∧ v < n
abbrev okh (v : Int32) : Prop := ¬ v < 0 ∧ v ≤ 1000000
abbrev okn (v : Int64) : Prop := ¬ v < 0 ∧ v ≤ 100000000000000000
/-- the thing of a number -/
def sp_at (ts : List TH) (v : Int32) : Option TH := if v < 0 then none else ts[v.toNatClampNeg]?
theorem sp_at_n {ts : List TH} {v : Int32} {j : Nat} {t : TH} (hv : v = nI j) (h : ts[j]? = some t) (hn : ts.length ≤ 64) : sp_at ts v = some t := by
  have hj : j < ts.length := (List.getElem?_eq_some_iff.mp h).1
  subst hv
  unfold sp_at
  rw [if_neg (nI_pos (by omega)), nI_clamp (by omega)]
  exact h
theorem sp_at_0 {ts : List TH} {v : Int32} (h : ¬ sp_ok ts.length v) (hn : ts.length ≤ 64) : sp_at ts v = none := by
  unfold sp_at
  by_cases h0 : v < 0
  · rw [if_pos h0]
  · rw [if_neg h0]
    obtain ⟨j, hj, rfl⟩ := nI_of h0
    rw [nI_clamp hj]
    refine List.getElem?_eq_none (Nat.not_lt.mp fun hlt => h ⟨h0, nI_lt hlt (by omega)⟩)
def sp_cl (ts : List TH) (lt : List Nat) (s0 q0 : Int32) : Nat := lt.countP (sp_lp ts (fun t => decide (t.1 = s0 ∧ t.2.2.1 = q0)))
theorem sp_cl_le (ts : List TH) (lt : List Nat) (s0 q0 : Int32) : sp_cl ts lt s0 q0 ≤ lt.length := List.countP_le_length
/-- the greatest common divisor, sought downward -/
def sp_cd (a b : Nat) : Nat → Nat
  | 0 => 1
  | d + 1 => if d + 1 ≤ 1 ∨ (a % (d + 1) = 0 ∧ b % (d + 1) = 0) then d + 1 else sp_cd a b d
theorem sp_cd_pos (a b : Nat) : ∀ d, 0 < sp_cd a b d ∧ sp_cd a b d ≤ d + 1
  | 0 => ⟨Nat.zero_lt_one, Nat.le_refl _⟩
  | d + 1 => by
    unfold sp_cd
    split
    · omega
    · have := sp_cd_pos a b d; omega
theorem sp_cd_one (a b : Nat) : sp_cd a b 1 = 1 := by simp [sp_cd]
theorem sp_cd_s {a b d : Nat} (h : 1 < d) : sp_cd a b d = if a % d = 0 ∧ b % d = 0 then d else sp_cd a b (d - 1) := by
  obtain ⟨e, rfl⟩ : ∃ e, d = e + 1 := ⟨d - 1, by omega⟩
  simp only [sp_cd, Nat.add_sub_cancel, show ¬ e + 1 ≤ 1 by omega, false_or]
theorem nI_dec {d : Nat} (h : 0 < d) : nI d + (-1) = nI (d - 1) := by
  obtain ⟨e, rfl⟩ : ∃ e, d = e + 1 := ⟨d - 1, by omega⟩
  exact pk_m1 e
def q_sh (cf ce cg : Nat) (s0 p0 : Int32) : Nat × Int32 := if okb s0 6 ∧ okb p0 2 then (0, if cf + (ce + cg) = 0 then p0 else if p0 = 0 then nI (cf / sp_cd cf (cf + (ce + cg)) (cf + (ce + cg))) else nI ((cf + (ce + cg)) / sp_cd cf (cf + (ce + cg)) (cf + (ce + cg)))) else (1, 0)
def q_nx (cf ce cg : Nat) (s0 : Int32) : Nat × Int32 := if okb s0 6 then (0, if cf + (ce + cg) = 0 then 100 else 50 + (950 * nI (ce + cg) + nI (cf + (ce + cg)) - 1) / nI (cf + (ce + cg))) else (1, 0)
def q_dg (k0 : Int32) (v0 : Int64) : Nat × Int32 := if okb k0 3 then (if okn v0 then (0, sp_of k0 v0) else (2, 0)) else (1, 0)
def q_gd (k0 : Int32) (v0 : Int64) : Nat × Int32 := if okb k0 3 then (if okn v0 then (0, sp_closes k0 v0) else (2, 0)) else (1, 0)
set_option maxHeartbeats 4000000 in
set_option maxRecDepth 100000 in
theorem c_A_countListed (l : Launch) (G : ad_G) (lo : Nat) (hp : ad_H) (x dA tA lA rA gA sA : Nat) (s0 q0 : Int32) (ts : List TH) (la lt : List Nat)  (hX : hp x = some (.inr (4, [.ref dA, .ref tA, .ref lA, .ref rA, .ref gA, .ref sA]))) (hLL : al G hp lA la) (hll : ll hp la lt ts) (hm : lt.length ≤ 64) : ad_Cp l y_A_countListed b_A_countListed 6 rt_A_countListed hs_A_countListed 4 0 0 G lo hp [.ref x, .int s0, .int q0] (fun r => r = .inl (some (.int (nI (sp_cl ts lt s0 q0))))) := by
  intro p e s m below meth c M hts hB hP
  have hx := M.1
  have hb := M.2.1
  have hml := M.2.2.1
  have hown : s.vm.findClass "AuditDraws" = some m.cls := M.2.2.2.1
  have S : CallFix p m c b_A_countListed 6 s _ ad_T "AuditDraws" := ⟨hx, hb, hml, hown, hts⟩
  have I : ad_I G lo s hp s.heap [] := ad_I.rf hB hP
  have hl := lv_entry ([.ref x, .int s0, .int q0]) (n := 6) (Nat.le_of_ble_eq_true rfl)
  rw [lg_entry_eq]
  generalize (lg_sl ([.ref x, .int s0, .int q0]) ++ List.replicate (6 - (lg_sl ([.ref x, .int s0, .int q0])).length) Slot.unset).toArray = ls at hl ⊢
  have hl : lv_has ls 6 [(0, .ref x), (1, .int s0), (2, .int q0)] := hl
  obtain ⟨l1, l2, l3, l4, hlA, -⟩ := id hLL
  have loop : ∀ (n : Nat) (j : Nat), lt.length < j + n ∧ j ≤ lt.length → ∀ ls : Array Slot, lv_has ls 6 [(0, .ref x), (1, .int s0), (2, .int q0), (3, .int (nI ((lt.take j).countP (sp_lp ts (fun t => decide (t.1 = s0 ∧ t.2.2.1 = q0)))))), (4, .int (nI j))] → W p l e (ad_rm 4 0 0) s m ([.ref x, .int s0, .int q0] : List Value).toArray below meth c s.heap [] 0 0 (ad_Zp below (fun r => r = .inl (some (.int (nI (sp_cl ts lt s0 q0))))) s 0 0) (F0 m 5 ls []) := by
    intro n
    induction n with
    | zero => intro j h0 ls hl; exact absurd h0 (by omega)
    | succ n ih =>
      intro j h0 ls hl
      refine lv_iload hx hb d_A_countListed_5 (lv_at hl 4 rfl) ?_
      refine lv_aload_n hx hb d_A_countListed_7 rfl (lv_at hl 0 rfl) ?_
      refine ad_get S I hX K_AD 2 (by decide) w_69 rfl d_A_countListed_8 ?_
      refine ad_cPi S I (ad_ivV (As := []) (rest := [.int (nI j)]) S (ad_recv I hlA K_AL) w_171 w_172 w_173 Y_AL_size ⟨by decide, by decide, np_AL_size⟩ rfl d_A_countListed_11) (c_ALsize l G lo hp lA la hLL) Y_AL_size hl.1 ⟨Nat.le_of_ble_eq_true rfl, Nat.le_of_ble_eq_true rfl⟩ (Nat.le_of_ble_eq_true rfl) (Nat.le_of_ble_eq_true rfl) d_A_countListed_11 ?_
      refine ad_top (y := .int (nI lt.length)) (by rw [hll.1]) ?_
      refine lv_icmp_ge (tgt := 58) hx hb d_A_countListed_14 (by decide) (fun c14 => ?_) (fun c14 => ?_)
      · obtain rfl : j = lt.length := by have := ad_ge (j := j) (n := lt.length) (by omega) (by omega) c14; omega
        refine lv_iload_n hx hb d_A_countListed_58 rfl (lv_at hl 3 rfl) ?_
        exact ad_iretP M rfl (by rw [List.take_length]; rfl) d_A_countListed_59
      · have hj : j < lt.length := ad_lt (by omega) (by omega) c14
        obtain ⟨i, t, y, ra, hi, hy, ht, hty⟩ := hll.at hj
        refine lv_aload_n hx hb d_A_countListed_17 rfl (lv_at hl 0 rfl) ?_
        refine ad_get S I hX K_AD 2 (by decide) w_69 rfl d_A_countListed_18 ?_
        refine lv_iload hx hb d_A_countListed_21 (lv_at hl 4 rfl) ?_
        refine ad_cPi S I (ad_ivV (As := [.int (nI j)]) (rest := []) S (ad_recv I hlA K_AL) w_308 w_309 w_310 Y_AL_get ⟨by decide, by decide, np_AL_get⟩ rfl d_A_countListed_23) (c_ALget l G lo hp lA la j y hLL hy) Y_AL_get hl.1 ⟨Nat.le_of_ble_eq_true rfl, Nat.le_of_ble_eq_true rfl⟩ (Nat.le_of_ble_eq_true rfl) (Nat.le_of_ble_eq_true rfl) d_A_countListed_23 ?_
        refine va_castE hx hb hown (hts _ w_191) (ad_recv I hty K_Thing) d_A_countListed_26 ?_
        refine lv_astore (lv' := [(5, .ref y), (0, .ref x), (1, .int s0), (2, .int q0), (3, .int (nI ((lt.take j).countP (sp_lp ts (fun t => decide (t.1 = s0 ∧ t.2.2.1 = q0)))))), (4, .int (nI j))]) hx hb d_A_countListed_29 hl (by decide) rfl (fun ls hl => ?_)
        refine lv_aload hx hb d_A_countListed_31 (lv_at hl 0 rfl) ?_
        refine ad_get S I hty K_Thing 1 (by decide) w_202 rfl d_A_countListed_33 ?_
        refine lv_iload_n hx hb d_A_countListed_36 rfl (lv_at hl 2 rfl) ?_
        refine lv_icmp_ne (tgt := 52) hx hb d_A_countListed_37 (by decide) (fun c37 => ?_) (fun c37 => ?_)
        · refine lv_iinc (v := (nI (j + 1))) (lv' := [(4, .int (nI (j + 1))), (5, .ref y), (0, .ref x), (1, .int s0), (2, .int q0), (3, .int (nI ((lt.take j).countP (sp_lp ts (fun t => decide (t.1 = s0 ∧ t.2.2.1 = q0))))))]) hx hb d_A_countListed_52 hl (k := 5) rfl (nI_1 j) (by decide) rfl (fun ls hl => ?_)
          refine lv_goto (tgt := 5) hx hb d_A_countListed_55 (by decide) ?_
          exact ih (j + 1) (by omega) ls (by rw [cnt_s hi, sp_lp_e ht]; simp only [c37, decide_false, decide_true, if_true, if_false, Nat.add_zero, Bool.false_eq_true, and_self, and_false, false_and, true_and, and_true]; exact lv_sub hl [2, 3, 4, 5, 0] rfl)
        · refine lv_aload hx hb d_A_countListed_40 (lv_at hl 0 rfl) ?_
          refine ad_get S I hty K_Thing 4 (by decide) w_208 rfl d_A_countListed_42 ?_
          refine lv_iload_n hx hb d_A_countListed_45 rfl (lv_at hl 3 rfl) ?_
          refine lv_icmp_ne (tgt := 52) hx hb d_A_countListed_46 (by decide) (fun c46 => ?_) (fun c46 => ?_)
          · refine lv_iinc (v := (nI (j + 1))) (lv' := [(4, .int (nI (j + 1))), (5, .ref y), (0, .ref x), (1, .int s0), (2, .int q0), (3, .int (nI ((lt.take j).countP (sp_lp ts (fun t => decide (t.1 = s0 ∧ t.2.2.1 = q0))))))]) hx hb d_A_countListed_52 hl (k := 5) rfl (nI_1 j) (by decide) rfl (fun ls hl => ?_)
            refine lv_goto (tgt := 5) hx hb d_A_countListed_55 (by decide) ?_
            exact ih (j + 1) (by omega) ls (by rw [cnt_s hi, sp_lp_e ht]; simp only [c37, c46, decide_false, decide_true, if_true, if_false, Nat.add_zero, Bool.false_eq_true, and_self, and_false, false_and, true_and, and_true]; exact lv_sub hl [2, 3, 4, 5, 0] rfl)
          · refine lv_iinc (v := (nI ((lt.take j).countP (sp_lp ts (fun t => decide (t.1 = s0 ∧ t.2.2.1 = q0))) + 1))) (lv' := [(3, .int (nI ((lt.take j).countP (sp_lp ts (fun t => decide (t.1 = s0 ∧ t.2.2.1 = q0))) + 1))), (5, .ref y), (0, .ref x), (1, .int s0), (2, .int q0), (4, .int (nI j))]) hx hb d_A_countListed_49 hl (k := 4) rfl (nI_1 _) (by decide) rfl (fun ls hl => ?_)
            refine lv_iinc (v := (nI (j + 1))) (lv' := [(4, .int (nI (j + 1))), (3, .int (nI ((lt.take j).countP (sp_lp ts (fun t => decide (t.1 = s0 ∧ t.2.2.1 = q0))) + 1))), (5, .ref y), (0, .ref x), (1, .int s0), (2, .int q0)]) hx hb d_A_countListed_52 hl (k := 5) rfl (nI_1 j) (by decide) rfl (fun ls hl => ?_)
            refine lv_goto (tgt := 5) hx hb d_A_countListed_55 (by decide) ?_
            exact ih (j + 1) (by omega) ls (by rw [cnt_s hi, sp_lp_e ht]; simp only [c37, c46, decide_false, decide_true, if_true, if_false, Nat.add_zero, Bool.false_eq_true, and_self, and_false, false_and, true_and, and_true]; exact lv_sub hl [3, 4, 5, 1, 0] rfl)
  refine lv_iconst (v := 0) hx hb d_A_countListed_0 (by decide) ?_
  refine lv_istore_n (lv' := [(3, .int 0), (0, .ref x), (1, .int s0), (2, .int q0)]) hx hb d_A_countListed_1 rfl hl (by decide) rfl (fun ls hl => ?_)
  refine lv_iconst (v := 0) hx hb d_A_countListed_2 (by decide) ?_
  refine lv_istore (lv' := [(4, .int 0), (3, .int 0), (0, .ref x), (1, .int s0), (2, .int q0)]) hx hb d_A_countListed_3 hl (by decide) rfl (fun ls hl => ?_)
  exact loop (lt.length + 1) 0 (by omega) ls (lv_sub hl [2, 3, 4, 1, 0] rfl)
set_option maxHeartbeats 4000000 in
set_option maxRecDepth 100000 in
theorem c_A_countMissed (l : Launch) (G : ad_G) (lo : Nat) (hp : ad_H) (x dA tA lA rA gA sA : Nat) (s0 : Int32) (ts : List TH) (la lt : List Nat)  (hX : hp x = some (.inr (4, [.ref dA, .ref tA, .ref lA, .ref rA, .ref gA, .ref sA]))) (hLL : al G hp lA la) (hll : ll hp la lt ts) (hm : lt.length ≤ 64) : ad_Cp l y_A_countMissed b_A_countMissed 2 rt_A_countMissed hs_A_countMissed 5 0 0 G lo hp [.ref x, .int s0] (fun r => r = .inl (some (.int (nI (sp_cl ts lt s0 2 + sp_cl ts lt s0 3))))) := by
  intro p e s m below meth c M hts hB hP
  have hx := M.1
  have hb := M.2.1
  have hml := M.2.2.1
  have hown : s.vm.findClass "AuditDraws" = some m.cls := M.2.2.2.1
  have S : CallFix p m c b_A_countMissed 2 s _ ad_T "AuditDraws" := ⟨hx, hb, hml, hown, hts⟩
  have I : ad_I G lo s hp s.heap [] := ad_I.rf hB hP
  have hl := lv_entry ([.ref x, .int s0]) (n := 2) (Nat.le_of_ble_eq_true rfl)
  rw [lg_entry_eq]
  generalize (lg_sl ([.ref x, .int s0]) ++ List.replicate (2 - (lg_sl ([.ref x, .int s0])).length) Slot.unset).toArray = ls at hl ⊢
  have hl : lv_has ls 2 [(0, .ref x), (1, .int s0)] := hl
  obtain ⟨l1, l2, l3, l4, hlA, -⟩ := id hLL
  refine lv_aload_n hx hb d_A_countMissed_0 rfl (lv_at hl 0 rfl) ?_
  refine lv_iload_n hx hb d_A_countMissed_1 rfl (lv_at hl 1 rfl) ?_
  refine lv_iconst (v := 2) hx hb d_A_countMissed_2 (by decide) ?_
  refine ad_cPi S I (ad_ivV (As := [.int s0, .int 2]) (rest := []) S (ad_recv I hX K_AD) w_400 w_402 sp_A_countListed Y_A_countListed ⟨by decide, by decide, np_A_countListed⟩ rfl d_A_countMissed_3) (c_A_countListed l G lo hp x dA tA lA rA gA sA s0 2 ts la lt hX hLL hll hm) Y_A_countListed hl.1 ⟨Nat.le_of_ble_eq_true rfl, Nat.le_of_ble_eq_true rfl⟩ (Nat.le_of_ble_eq_true rfl) (Nat.le_of_ble_eq_true rfl) d_A_countMissed_3 ?_
  refine lv_aload_n hx hb d_A_countMissed_6 rfl (lv_at hl 0 rfl) ?_
  refine lv_iload_n hx hb d_A_countMissed_7 rfl (lv_at hl 1 rfl) ?_
  refine lv_iconst (v := 3) hx hb d_A_countMissed_8 (by decide) ?_
  refine ad_cPi S I (ad_ivV (As := [.int s0, .int 3]) (rest := [.int (nI (sp_cl ts lt s0 2))]) S (ad_recv I hX K_AD) w_400 w_402 sp_A_countListed Y_A_countListed ⟨by decide, by decide, np_A_countListed⟩ rfl d_A_countMissed_9) (c_A_countListed l G lo hp x dA tA lA rA gA sA s0 3 ts la lt hX hLL hll hm) Y_A_countListed hl.1 ⟨Nat.le_of_ble_eq_true rfl, Nat.le_of_ble_eq_true rfl⟩ (Nat.le_of_ble_eq_true rfl) (Nat.le_of_ble_eq_true rfl) d_A_countMissed_9 ?_
  refine lv_iadd hx hb d_A_countMissed_12 ?_
  exact ad_iretP M rfl (by rw [nI_add]) d_A_countMissed_13
set_option maxHeartbeats 4000000 in
set_option maxRecDepth 100000 in
theorem c_A_countChecked (l : Launch) (G : ad_G) (lo : Nat) (hp : ad_H) (x dA tA lA rA gA sA : Nat) (s0 : Int32) (ts : List TH) (la lt : List Nat)  (hX : hp x = some (.inr (4, [.ref dA, .ref tA, .ref lA, .ref rA, .ref gA, .ref sA]))) (hLL : al G hp lA la) (hll : ll hp la lt ts) (hm : lt.length ≤ 64) : ad_Cp l y_A_countChecked b_A_countChecked 2 rt_A_countChecked hs_A_countChecked 6 0 0 G lo hp [.ref x, .int s0] (fun r => r = .inl (some (.int (nI (sp_cl ts lt s0 1 + (sp_cl ts lt s0 2 + sp_cl ts lt s0 3)))))) := by
  intro p e s m below meth c M hts hB hP
  have hx := M.1
  have hb := M.2.1
  have hml := M.2.2.1
  have hown : s.vm.findClass "AuditDraws" = some m.cls := M.2.2.2.1
  have S : CallFix p m c b_A_countChecked 2 s _ ad_T "AuditDraws" := ⟨hx, hb, hml, hown, hts⟩
  have I : ad_I G lo s hp s.heap [] := ad_I.rf hB hP
  have hl := lv_entry ([.ref x, .int s0]) (n := 2) (Nat.le_of_ble_eq_true rfl)
  rw [lg_entry_eq]
  generalize (lg_sl ([.ref x, .int s0]) ++ List.replicate (2 - (lg_sl ([.ref x, .int s0])).length) Slot.unset).toArray = ls at hl ⊢
  have hl : lv_has ls 2 [(0, .ref x), (1, .int s0)] := hl
  obtain ⟨l1, l2, l3, l4, hlA, -⟩ := id hLL
  refine lv_aload_n hx hb d_A_countChecked_0 rfl (lv_at hl 0 rfl) ?_
  refine lv_iload_n hx hb d_A_countChecked_1 rfl (lv_at hl 1 rfl) ?_
  refine lv_iconst (v := 1) hx hb d_A_countChecked_2 (by decide) ?_
  refine ad_cPi S I (ad_ivV (As := [.int s0, .int 1]) (rest := []) S (ad_recv I hX K_AD) w_400 w_402 sp_A_countListed Y_A_countListed ⟨by decide, by decide, np_A_countListed⟩ rfl d_A_countChecked_3) (c_A_countListed l G lo hp x dA tA lA rA gA sA s0 1 ts la lt hX hLL hll hm) Y_A_countListed hl.1 ⟨Nat.le_of_ble_eq_true rfl, Nat.le_of_ble_eq_true rfl⟩ (Nat.le_of_ble_eq_true rfl) (Nat.le_of_ble_eq_true rfl) d_A_countChecked_3 ?_
  refine lv_aload_n hx hb d_A_countChecked_6 rfl (lv_at hl 0 rfl) ?_
  refine lv_iload_n hx hb d_A_countChecked_7 rfl (lv_at hl 1 rfl) ?_
  refine ad_cPi S I (ad_ivV (As := [.int s0]) (rest := [.int (nI (sp_cl ts lt s0 1))]) S (ad_recv I hX K_AD) w_404 w_406 sp_A_countMissed Y_A_countMissed ⟨by decide, by decide, np_A_countMissed⟩ rfl d_A_countChecked_8) (c_A_countMissed l G lo hp x dA tA lA rA gA sA s0 ts la lt hX hLL hll hm) Y_A_countMissed hl.1 ⟨Nat.le_of_ble_eq_true rfl, Nat.le_of_ble_eq_true rfl⟩ (Nat.le_of_ble_eq_true rfl) (Nat.le_of_ble_eq_true rfl) d_A_countChecked_8 ?_
  refine lv_iadd hx hb d_A_countChecked_11 ?_
  exact ad_iretP M rfl (by rw [nI_add]) d_A_countChecked_12
set_option maxHeartbeats 4000000 in
set_option maxRecDepth 100000 in
theorem c_A_commonDivisor (l : Launch) (G : ad_G) (lo : Nat) (hp : ad_H) (a0 b0 : Nat) (h1 : 0 < b0) (h2 : b0 < 2 ^ 30) (h3 : a0 < 2 ^ 30) : ad_Cp l y_A_commonDivisor b_A_commonDivisor 3 rt_A_commonDivisor hs_A_commonDivisor 1 0 0 G lo hp [.int (nI a0), .int (nI b0)] (fun r => r = .inl (some (.int (nI (sp_cd a0 b0 b0))))) := by
  intro p e s m below meth c M hts hB hP
  have hx := M.1
  have hb := M.2.1
  have hml := M.2.2.1
  have hown : s.vm.findClass "AuditDraws" = some m.cls := M.2.2.2.1
  have S : CallFix p m c b_A_commonDivisor 3 s _ ad_T "AuditDraws" := ⟨hx, hb, hml, hown, hts⟩
  have I : ad_I G lo s hp s.heap [] := ad_I.rf hB hP
  have hl := lv_entry ([.int (nI a0), .int (nI b0)]) (n := 3) (Nat.le_of_ble_eq_true rfl)
  rw [lg_entry_eq]
  generalize (lg_sl ([.int (nI a0), .int (nI b0)]) ++ List.replicate (3 - (lg_sl ([.int (nI a0), .int (nI b0)])).length) Slot.unset).toArray = ls at hl ⊢
  have hl : lv_has ls 3 [(0, .int (nI a0)), (1, .int (nI b0))] := hl
  have loop : ∀ (n : Nat) (g : Nat), (g < n ∧ 1 ≤ g ∧ g ≤ b0 ∧ sp_cd a0 b0 b0 = sp_cd a0 b0 g) → ∀ ls : Array Slot, lv_has ls 3 [(0, .int (nI a0)), (1, .int (nI b0)), (2, .int (nI g))] → W p l e (ad_rm 1 0 0) s m ([.int (nI a0), .int (nI b0)] : List Value).toArray below meth c s.heap [] 0 0 (ad_Zp below (fun r => r = .inl (some (.int (nI (sp_cd a0 b0 b0))))) s 0 0) (F0 m 2 ls []) := by
    intro n
    induction n with
    | zero => intro g h0 ls hl; exact absurd h0 (by omega)
    | succ n ih =>
      intro g h0 ls hl
      refine lv_iload_n hx hb d_A_commonDivisor_2 rfl (lv_at hl 2 rfl) ?_
      refine lv_iconst (v := 1) hx hb d_A_commonDivisor_3 (by decide) ?_
      refine lv_icmp_le (tgt := 27) hx hb d_A_commonDivisor_4 (by decide) (fun c4 => ?_) (fun c4 => ?_)
      · obtain rfl : g = 1 := by have := ad_ge (j := 1) (n := g) (by omega) (by omega) c4; omega
        refine lv_iconst (v := 1) hx hb d_A_commonDivisor_27 (by decide) ?_
        exact ad_iretP M rfl (by rw [h0.2.2.2, sp_cd_one]; rfl) d_A_commonDivisor_28
      · have hg : 1 < g := ad_lt (j := 1) (n := g) (by omega) (by omega) c4
        refine lv_iload_n hx hb d_A_commonDivisor_7 rfl (lv_at hl 0 rfl) ?_
        refine lv_iload_n hx hb d_A_commonDivisor_8 rfl (lv_at hl 2 rfl) ?_
        refine lv_irem hx hb d_A_commonDivisor_9 (nI_ne0 (by omega) (by omega)) ?_
        refine lv_if_ne (tgt := 21) hx hb d_A_commonDivisor_10 (by decide) (fun c10 => ?_) (fun c10 => ?_)
        · rw [ad_rem (a := a0) (d := g) (by omega) (by omega) (by omega), show (0 : Int32) = nI 0 from rfl, nI_eq (by have := Nat.mod_lt a0 (show 0 < g by omega); omega) (by omega)] at c10
          refine lv_iinc (v := (nI (g - 1))) (lv' := [(2, .int (nI (g - 1))), (0, .int (nI a0)), (1, .int (nI b0))]) hx hb d_A_commonDivisor_21 hl (k := 2) rfl (nI_dec (by omega)) (by decide) rfl (fun ls hl => ?_)
          refine lv_goto (tgt := 2) hx hb d_A_commonDivisor_24 (by decide) ?_
          exact ih (g - 1) ⟨by omega, by omega, by omega, by rw [h0.2.2.2, sp_cd_s hg]; simp [c10]⟩ ls (lv_sub hl [1, 2, 0] rfl)
        · rw [ad_rem (a := a0) (d := g) (by omega) (by omega) (by omega), show (0 : Int32) = nI 0 from rfl, nI_eq (by have := Nat.mod_lt a0 (show 0 < g by omega); omega) (by omega)] at c10
          refine lv_iload_n hx hb d_A_commonDivisor_13 rfl (lv_at hl 1 rfl) ?_
          refine lv_iload_n hx hb d_A_commonDivisor_14 rfl (lv_at hl 2 rfl) ?_
          refine lv_irem hx hb d_A_commonDivisor_15 (nI_ne0 (by omega) (by omega)) ?_
          refine lv_if_ne (tgt := 21) hx hb d_A_commonDivisor_16 (by decide) (fun c16 => ?_) (fun c16 => ?_)
          · rw [ad_rem (a := b0) (d := g) (by omega) (by omega) (by omega), show (0 : Int32) = nI 0 from rfl, nI_eq (by have := Nat.mod_lt b0 (show 0 < g by omega); omega) (by omega)] at c16
            refine lv_iinc (v := (nI (g - 1))) (lv' := [(2, .int (nI (g - 1))), (0, .int (nI a0)), (1, .int (nI b0))]) hx hb d_A_commonDivisor_21 hl (k := 2) rfl (nI_dec (by omega)) (by decide) rfl (fun ls hl => ?_)
            refine lv_goto (tgt := 2) hx hb d_A_commonDivisor_24 (by decide) ?_
            exact ih (g - 1) ⟨by omega, by omega, by omega, by rw [h0.2.2.2, sp_cd_s hg]; simp [c10, c16]⟩ ls (lv_sub hl [1, 2, 0] rfl)
          · rw [ad_rem (a := b0) (d := g) (by omega) (by omega) (by omega), show (0 : Int32) = nI 0 from rfl, nI_eq (by have := Nat.mod_lt b0 (show 0 < g by omega); omega) (by omega)] at c16
            refine lv_iload_n hx hb d_A_commonDivisor_19 rfl (lv_at hl 2 rfl) ?_
            exact ad_iretP M rfl (by rw [h0.2.2.2, sp_cd_s hg, if_pos ⟨c10, c16⟩]) d_A_commonDivisor_20
  refine lv_iload_n hx hb d_A_commonDivisor_0 rfl (lv_at hl 1 rfl) ?_
  refine lv_istore_n (lv' := [(2, .int (nI b0)), (0, .int (nI a0)), (1, .int (nI b0))]) hx hb d_A_commonDivisor_1 rfl hl (by decide) rfl (fun ls hl => ?_)
  exact loop (b0 + 1) b0 ⟨by omega, by omega, by omega, rfl⟩ ls (lv_sub hl [1, 2, 0] rfl)
set_option maxHeartbeats 4000000 in
set_option maxRecDepth 100000 in
theorem c_A_share (l : Launch) (G : ad_G) (lo : Nat) (hp : ad_H) (x dA tA lA rA gA sA : Nat) (s0 p0 : Int32) (ts : List TH) (la lt : List Nat)  (hT : l.stackTraces = false) (hX : hp x = some (.inr (4, [.ref dA, .ref tA, .ref lA, .ref rA, .ref gA, .ref sA]))) (hLL : al G hp lA la) (hll : ll hp la lt ts) (hm : lt.length ≤ 64) : ad_Cp l y_A_share b_A_share 6 rt_A_share hs_A_share 7 1 6 G lo hp [.ref x, .int s0, .int p0] (fun r => r = q_ans [ad_NSE] (q_sh (sp_cl ts lt s0 1) (sp_cl ts lt s0 2) (sp_cl ts lt s0 3) s0 p0)) := by
  intro p e s m below meth c M hts hB hP
  have hx := M.1
  have hb := M.2.1
  have hml := M.2.2.1
  have hown : s.vm.findClass "AuditDraws" = some m.cls := M.2.2.2.1
  have S : CallFix p m c b_A_share 6 s _ ad_T "AuditDraws" := ⟨hx, hb, hml, hown, hts⟩
  have I : ad_I G lo s hp s.heap [] := ad_I.rf hB hP
  have hl := lv_entry ([.ref x, .int s0, .int p0]) (n := 6) (Nat.le_of_ble_eq_true rfl)
  rw [lg_entry_eq]
  generalize (lg_sl ([.ref x, .int s0, .int p0]) ++ List.replicate (6 - (lg_sl ([.ref x, .int s0, .int p0])).length) Slot.unset).toArray = ls at hl ⊢
  have hl : lv_has ls 6 [(0, .ref x), (1, .int s0), (2, .int p0)] := hl
  obtain ⟨l1, l2, l3, l4, hlA, -⟩ := id hLL
  refine lv_iload_n hx hb d_A_share_0 rfl (lv_at hl 1 rfl) ?_
  refine lv_bipush (v := 6) hx hb d_A_share_1 (by decide) ?_
  refine ad_cPg S I (ad_ivS (As := [.int s0, .int 6]) (rest := []) S Y_A_needBelow w_100 w_101 w_1 ⟨by decide, by decide, np_A_needBelow⟩ rfl d_A_share_3) (c_A_needBelow l G lo hp s0 6 hT) Y_A_needBelow hl.1 ⟨Nat.le_of_ble_eq_true rfl, Nat.le_of_ble_eq_true rfl⟩ (Nat.le_of_ble_eq_true rfl) (Nat.le_of_ble_eq_true rfl) d_A_share_3 (fun g3 => ?_) (fun g3 H1 x cell h1 h2 h3 h4 h5 => ?_)
  · refine lv_iload_n hx hb d_A_share_6 rfl (lv_at hl 2 rfl) ?_
    refine lv_iconst (v := 2) hx hb d_A_share_7 (by decide) ?_
    refine ad_cPg S I (ad_ivS (As := [.int p0, .int 2]) (rest := []) S Y_A_needBelow w_100 w_101 w_1 ⟨by decide, by decide, np_A_needBelow⟩ rfl d_A_share_8) (c_A_needBelow l G lo hp p0 2 hT) Y_A_needBelow hl.1 ⟨Nat.le_of_ble_eq_true rfl, Nat.le_of_ble_eq_true rfl⟩ (Nat.le_of_ble_eq_true rfl) (Nat.le_of_ble_eq_true rfl) d_A_share_8 (fun g8 => ?_) (fun g8 H1 x cell h1 h2 h3 h4 h5 => ?_)
    · refine lv_aload_n hx hb d_A_share_11 rfl (lv_at hl 0 rfl) ?_
      refine lv_iload_n hx hb d_A_share_12 rfl (lv_at hl 1 rfl) ?_
      refine ad_cPi S I (ad_ivV (As := [.int s0]) (rest := []) S (ad_recv I hX K_AD) w_396 w_398 sp_A_countChecked Y_A_countChecked ⟨by decide, by decide, np_A_countChecked⟩ rfl d_A_share_13) (c_A_countChecked l G lo hp x dA tA lA rA gA sA s0 ts la lt hX hLL hll hm) Y_A_countChecked hl.1 ⟨Nat.le_of_ble_eq_true rfl, Nat.le_of_ble_eq_true rfl⟩ (Nat.le_of_ble_eq_true rfl) (Nat.le_of_ble_eq_true rfl) d_A_share_13 ?_
      refine lv_istore_n (lv' := [(3, .int (nI (sp_cl ts lt s0 1 + (sp_cl ts lt s0 2 + sp_cl ts lt s0 3)))), (0, .ref x), (1, .int s0), (2, .int p0)]) hx hb d_A_share_16 rfl hl (by decide) rfl (fun ls hl => ?_)
      refine lv_aload_n hx hb d_A_share_17 rfl (lv_at hl 1 rfl) ?_
      refine lv_iload_n hx hb d_A_share_18 rfl (lv_at hl 2 rfl) ?_
      refine lv_iconst (v := 1) hx hb d_A_share_19 (by decide) ?_
      refine ad_cPi S I (ad_ivV (As := [.int s0, .int 1]) (rest := []) S (ad_recv I hX K_AD) w_400 w_402 sp_A_countListed Y_A_countListed ⟨by decide, by decide, np_A_countListed⟩ rfl d_A_share_20) (c_A_countListed l G lo hp x dA tA lA rA gA sA s0 1 ts la lt hX hLL hll hm) Y_A_countListed hl.1 ⟨Nat.le_of_ble_eq_true rfl, Nat.le_of_ble_eq_true rfl⟩ (Nat.le_of_ble_eq_true rfl) (Nat.le_of_ble_eq_true rfl) d_A_share_20 ?_
      refine lv_istore (lv' := [(4, .int (nI (sp_cl ts lt s0 1))), (3, .int (nI (sp_cl ts lt s0 1 + (sp_cl ts lt s0 2 + sp_cl ts lt s0 3)))), (0, .ref x), (1, .int s0), (2, .int p0)]) hx hb d_A_share_23 hl (by decide) rfl (fun ls hl => ?_)
      refine lv_iload_n hx hb d_A_share_25 rfl (lv_at hl 1 rfl) ?_
      refine lv_if_ne (tgt := 31) hx hb d_A_share_26 (by decide) (fun c26 => ?_) (fun c26 => ?_)
      · refine lv_iload hx hb d_A_share_31 (lv_at hl 0 rfl) ?_
        refine lv_iload_n hx hb d_A_share_33 rfl (lv_at hl 1 rfl) ?_
        have hcb : 0 < sp_cl ts lt s0 1 + (sp_cl ts lt s0 2 + sp_cl ts lt s0 3) := Nat.pos_of_ne_zero fun h => c26 (by rw [h]; rfl)
        have q1 := sp_cl_le ts lt s0 1
        have q2 := sp_cl_le ts lt s0 2
        have q3 := sp_cl_le ts lt s0 3
        have q4 := sp_cd_pos (sp_cl ts lt s0 1) (sp_cl ts lt s0 1 + (sp_cl ts lt s0 2 + sp_cl ts lt s0 3)) (sp_cl ts lt s0 1 + (sp_cl ts lt s0 2 + sp_cl ts lt s0 3))
        refine ad_cPi S I (ad_ivS (As := [.int (nI (sp_cl ts lt s0 1)), .int (nI (sp_cl ts lt s0 1 + (sp_cl ts lt s0 2 + sp_cl ts lt s0 3)))]) (rest := []) S Y_A_commonDivisor w_408 w_409 w_1 ⟨by decide, by decide, np_A_commonDivisor⟩ rfl d_A_share_34) (c_A_commonDivisor l G lo hp (sp_cl ts lt s0 1) (sp_cl ts lt s0 1 + (sp_cl ts lt s0 2 + sp_cl ts lt s0 3)) hcb (by omega) (by omega)) Y_A_commonDivisor hl.1 ⟨Nat.le_of_ble_eq_true rfl, Nat.le_of_ble_eq_true rfl⟩ (Nat.le_of_ble_eq_true rfl) (Nat.le_of_ble_eq_true rfl) d_A_share_34 ?_
        refine lv_istore (lv' := [(5, .int (nI (sp_cd (sp_cl ts lt s0 1) (sp_cl ts lt s0 1 + (sp_cl ts lt s0 2 + sp_cl ts lt s0 3)) (sp_cl ts lt s0 1 + (sp_cl ts lt s0 2 + sp_cl ts lt s0 3))))), (4, .int (nI (sp_cl ts lt s0 1))), (3, .int (nI (sp_cl ts lt s0 1 + (sp_cl ts lt s0 2 + sp_cl ts lt s0 3)))), (0, .ref x), (1, .int s0), (2, .int p0)]) hx hb d_A_share_37 hl (by decide) rfl (fun ls hl => ?_)
        refine lv_iload_n hx hb d_A_share_39 rfl (lv_at hl 5 rfl) ?_
        refine lv_if_ne (tgt := 51) hx hb d_A_share_40 (by decide) (fun c40 => ?_) (fun c40 => ?_)
        · refine lv_iload_n hx hb d_A_share_51 rfl (lv_at hl 2 rfl) ?_
          refine lv_iload hx hb d_A_share_52 (lv_at hl 0 rfl) ?_
          refine lv_idiv hx hb d_A_share_54 (nI_ne0 q4.1 (by omega)) ?_
          exact ad_iretP M rfl (by rw [pk_div (by omega) q4.1 (by omega)]; simp only [q_sh, q_ans]; rw [if_pos ⟨g3, g8⟩, if_neg (Nat.ne_of_gt hcb), if_neg c40]) d_A_share_55
        · refine lv_iload hx hb d_A_share_43 (lv_at hl 1 rfl) ?_
          refine lv_iload hx hb d_A_share_45 (lv_at hl 0 rfl) ?_
          refine lv_idiv hx hb d_A_share_47 (nI_ne0 q4.1 (by omega)) ?_
          refine lv_goto (tgt := 55) hx hb d_A_share_48 (by decide) ?_
          exact ad_iretP M rfl (by rw [pk_div (by omega) q4.1 (by omega)]; simp only [q_sh, q_ans]; rw [if_pos ⟨g3, g8⟩, if_neg (Nat.ne_of_gt hcb), if_pos c40]) d_A_share_55
      · refine lv_iload_n hx hb d_A_share_29 rfl (lv_at hl 4 rfl) ?_
        exact ad_iretP M rfl (by have hz : sp_cl ts lt s0 1 + (sp_cl ts lt s0 2 + sp_cl ts lt s0 3) = 0 := (nI_eq (by have := sp_cl_le ts lt s0 1; have := sp_cl_le ts lt s0 2; have := sp_cl_le ts lt s0 3; omega) (by omega)).mp c26; simp only [q_sh]; rw [if_pos ⟨g3, g8⟩, if_pos hz]; rfl) d_A_share_30
    · exact ad_outP M h1 h2 h3 h4 h5 (by decide) (by decide) (by decide) (by simp only [q_sh]; rw [if_neg (fun h => g8 h.2)]; rfl)
  · exact ad_outP M h1 h2 h3 h4 h5 (by decide) (by decide) (by decide) (by simp only [q_sh]; rw [if_neg (fun h => g3 h.1)]; rfl)
set_option maxHeartbeats 4000000 in
set_option maxRecDepth 100000 in
theorem c_A_next (l : Launch) (G : ad_G) (lo : Nat) (hp : ad_H) (x dA tA lA rA gA sA : Nat) (s0 : Int32) (ts : List TH) (la lt : List Nat)  (hT : l.stackTraces = false) (hX : hp x = some (.inr (4, [.ref dA, .ref tA, .ref lA, .ref rA, .ref gA, .ref sA]))) (hLL : al G hp lA la) (hll : ll hp la lt ts) (hm : lt.length ≤ 64) : ad_Cp l y_A_next b_A_next 4 rt_A_next hs_A_next 7 1 6 G lo hp [.ref x, .int s0] (fun r => r = q_ans [ad_NSE] (q_nx (sp_cl ts lt s0 1) (sp_cl ts lt s0 2) (sp_cl ts lt s0 3) s0)) := by
  intro p e s m below meth c M hts hB hP
  have hx := M.1
  have hb := M.2.1
  have hml := M.2.2.1
  have hown : s.vm.findClass "AuditDraws" = some m.cls := M.2.2.2.1
  have S : CallFix p m c b_A_next 4 s _ ad_T "AuditDraws" := ⟨hx, hb, hml, hown, hts⟩
  have I : ad_I G lo s hp s.heap [] := ad_I.rf hB hP
  have hl := lv_entry ([.ref x, .int s0]) (n := 4) (Nat.le_of_ble_eq_true rfl)
  rw [lg_entry_eq]
  generalize (lg_sl ([.ref x, .int s0]) ++ List.replicate (4 - (lg_sl ([.ref x, .int s0])).length) Slot.unset).toArray = ls at hl ⊢
  have hl : lv_has ls 4 [(0, .ref x), (1, .int s0)] := hl
  obtain ⟨l1, l2, l3, l4, hlA, -⟩ := id hLL
  refine lv_iload_n hx hb d_A_next_0 rfl (lv_at hl 1 rfl) ?_
  refine lv_bipush (v := 6) hx hb d_A_next_1 (by decide) ?_
  refine ad_cPg S I (ad_ivS (As := [.int s0, .int 6]) (rest := []) S Y_A_needBelow w_100 w_101 w_1 ⟨by decide, by decide, np_A_needBelow⟩ rfl d_A_next_3) (c_A_needBelow l G lo hp s0 6 hT) Y_A_needBelow hl.1 ⟨Nat.le_of_ble_eq_true rfl, Nat.le_of_ble_eq_true rfl⟩ (Nat.le_of_ble_eq_true rfl) (Nat.le_of_ble_eq_true rfl) d_A_next_3 (fun g3 => ?_) (fun g3 H1 x cell h1 h2 h3 h4 h5 => ?_)
  · refine lv_aload_n hx hb d_A_next_6 rfl (lv_at hl 0 rfl) ?_
    refine lv_iload_n hx hb d_A_next_7 rfl (lv_at hl 1 rfl) ?_
    refine ad_cPi S I (ad_ivV (As := [.int s0]) (rest := []) S (ad_recv I hX K_AD) w_396 w_398 sp_A_countChecked Y_A_countChecked ⟨by decide, by decide, np_A_countChecked⟩ rfl d_A_next_8) (c_A_countChecked l G lo hp x dA tA lA rA gA sA s0 ts la lt hX hLL hll hm) Y_A_countChecked hl.1 ⟨Nat.le_of_ble_eq_true rfl, Nat.le_of_ble_eq_true rfl⟩ (Nat.le_of_ble_eq_true rfl) (Nat.le_of_ble_eq_true rfl) d_A_next_8 ?_
    refine lv_istore_n (lv' := [(2, .int (nI (sp_cl ts lt s0 1 + (sp_cl ts lt s0 2 + sp_cl ts lt s0 3)))), (0, .ref x), (1, .int s0)]) hx hb d_A_next_11 rfl hl (by decide) rfl (fun ls hl => ?_)
    refine lv_iload_n hx hb d_A_next_12 rfl (lv_at hl 0 rfl) ?_
    refine lv_if_ne (tgt := 19) hx hb d_A_next_13 (by decide) (fun c13 => ?_) (fun c13 => ?_)
    · refine lv_aload_n hx hb d_A_next_19 rfl (lv_at hl 1 rfl) ?_
      refine lv_iload_n hx hb d_A_next_20 rfl (lv_at hl 2 rfl) ?_
      refine ad_cPi S I (ad_ivV (As := [.int s0]) (rest := []) S (ad_recv I hX K_AD) w_404 w_406 sp_A_countMissed Y_A_countMissed ⟨by decide, by decide, np_A_countMissed⟩ rfl d_A_next_21) (c_A_countMissed l G lo hp x dA tA lA rA gA sA s0 ts la lt hX hLL hll hm) Y_A_countMissed hl.1 ⟨Nat.le_of_ble_eq_true rfl, Nat.le_of_ble_eq_true rfl⟩ (Nat.le_of_ble_eq_true rfl) (Nat.le_of_ble_eq_true rfl) d_A_next_21 ?_
      refine lv_istore_n (lv' := [(3, .int (nI (sp_cl ts lt s0 2 + sp_cl ts lt s0 3))), (2, .int (nI (sp_cl ts lt s0 1 + (sp_cl ts lt s0 2 + sp_cl ts lt s0 3)))), (0, .ref x), (1, .int s0)]) hx hb d_A_next_24 rfl hl (by decide) rfl (fun ls hl => ?_)
      refine lv_bipush (v := 50) hx hb d_A_next_25 (by decide) ?_
      refine lv_sipush (v := 950) hx hb d_A_next_27 (by decide) ?_
      refine lv_iload_n hx hb d_A_next_30 rfl (lv_at hl 0 rfl) ?_
      refine lv_imul hx hb d_A_next_31 ?_
      refine lv_iload_n hx hb d_A_next_32 rfl (lv_at hl 1 rfl) ?_
      refine lv_iadd hx hb d_A_next_33 ?_
      refine lv_iconst (v := 1) hx hb d_A_next_34 (by decide) ?_
      refine lv_isub hx hb d_A_next_35 ?_
      refine lv_iload_n hx hb d_A_next_36 rfl (lv_at hl 1 rfl) ?_
      refine lv_idiv hx hb d_A_next_37 c13 ?_
      refine lv_iadd hx hb d_A_next_38 ?_
      exact ad_iretP M rfl (by simp only [q_nx]; rw [if_pos g3, if_neg (fun h => c13 (by rw [h]; rfl))]; rfl) d_A_next_39
    · refine lv_bipush (v := 100) hx hb d_A_next_16 (by decide) ?_
      exact ad_iretP M rfl (by have q1 := sp_cl_le ts lt s0 1; have q2 := sp_cl_le ts lt s0 2; have q3 := sp_cl_le ts lt s0 3; have hz : sp_cl ts lt s0 1 + (sp_cl ts lt s0 2 + sp_cl ts lt s0 3) = 0 := (nI_eq (by omega) (by omega)).mp c13; simp only [q_nx]; rw [if_pos g3, if_pos hz]; rfl) d_A_next_18
  · exact ad_outP M h1 h2 h3 h4 h5 (by decide) (by decide) (by decide) (by simp only [q_nx]; rw [if_neg g3]; rfl)
set_option maxHeartbeats 4000000 in
set_option maxRecDepth 100000 in
theorem c_A_digit (l : Launch) (G : ad_G) (lo : Nat) (hp : ad_H) (x : Nat) (k0 : Int32) (v0 : Int64) (hT : l.stackTraces = false) : ad_Cp l y_A_digit b_A_digit 4 rt_A_digit hs_A_digit 7 1 6 G lo hp [.ref x, .int k0, .long v0] (fun r => r = q_ans [ad_NSE, ad_IAE] (q_dg k0 v0)) := by
  intro p e s m below meth c M hts hB hP
  have hx := M.1
  have hb := M.2.1
  have hml := M.2.2.1
  have hown : s.vm.findClass "AuditDraws" = some m.cls := M.2.2.2.1
  have S : CallFix p m c b_A_digit 4 s _ ad_T "AuditDraws" := ⟨hx, hb, hml, hown, hts⟩
  have I : ad_I G lo s hp s.heap [] := ad_I.rf hB hP
  have hl := lv_entry ([.ref x, .int k0, .long v0]) (n := 4) (Nat.le_of_ble_eq_true rfl)
  rw [lg_entry_eq]
  generalize (lg_sl ([.ref x, .int k0, .long v0]) ++ List.replicate (4 - (lg_sl ([.ref x, .int k0, .long v0])).length) Slot.unset).toArray = ls at hl ⊢
  have hl : lv_has ls 4 [(0, .ref x), (1, .int k0), (2, .long v0)] := hl
  refine lv_iload_n hx hb d_A_digit_0 rfl (lv_at hl 1 rfl) ?_
  refine lv_iconst (v := 3) hx hb d_A_digit_1 (by decide) ?_
  refine ad_cPg S I (ad_ivS (As := [.int k0, .int 3]) (rest := []) S Y_A_needBelow w_100 w_101 w_1 ⟨by decide, by decide, np_A_needBelow⟩ rfl d_A_digit_2) (c_A_needBelow l G lo hp k0 3 hT) Y_A_needBelow hl.1 ⟨Nat.le_of_ble_eq_true rfl, Nat.le_of_ble_eq_true rfl⟩ (Nat.le_of_ble_eq_true rfl) (Nat.le_of_ble_eq_true rfl) d_A_digit_2 (fun g2 => ?_) (fun g2 H1 x cell h1 h2 h3 h4 h5 => ?_)
  · refine lv_lload_n hx hb d_A_digit_5 rfl (lv_at hl 2 rfl) ?_
    refine ad_cPg S I (ad_ivS (As := [.long v0]) (rest := []) S Y_A_needNumber w_425 w_426 w_1 ⟨by decide, by decide, np_A_needNumber⟩ rfl d_A_digit_6) (c_A_needNumber l G lo hp v0 hT) Y_A_needNumber hl.1 ⟨Nat.le_of_ble_eq_true rfl, Nat.le_of_ble_eq_true rfl⟩ (Nat.le_of_ble_eq_true rfl) (Nat.le_of_ble_eq_true rfl) d_A_digit_6 (fun g6 => ?_) (fun g6 H1 x cell h1 h2 h3 h4 h5 => ?_)
    · refine lv_iload_n hx hb d_A_digit_9 rfl (lv_at hl 1 rfl) ?_
      refine lv_lload_n hx hb d_A_digit_10 rfl (lv_at hl 2 rfl) ?_
      refine ad_cPi S I (ad_ivS (As := [.int k0, .long v0]) (rest := []) S Y_C_of w_430 w_431 w_20 ⟨by decide, by decide, np_C_of⟩ rfl d_A_digit_11) (c_C_of l G lo hp k0 v0) Y_C_of hl.1 ⟨Nat.le_of_ble_eq_true rfl, Nat.le_of_ble_eq_true rfl⟩ (Nat.le_of_ble_eq_true rfl) (Nat.le_of_ble_eq_true rfl) d_A_digit_11 ?_
      exact ad_iretP M rfl (by simp only [q_dg]; rw [if_pos g2, if_pos g6]; rfl) d_A_digit_14
    · exact ad_outP M h1 h2 h3 h4 h5 (by decide) (by decide) (by decide) (by simp only [q_dg]; rw [if_pos g2, if_neg g6]; rfl)
  · exact ad_outP M h1 h2 h3 h4 h5 (by decide) (by decide) (by decide) (by simp only [q_dg]; rw [if_neg g2]; rfl)
set_option maxHeartbeats 4000000 in
set_option maxRecDepth 100000 in
theorem c_A_good (l : Launch) (G : ad_G) (lo : Nat) (hp : ad_H) (x : Nat) (k0 : Int32) (v0 : Int64) (hT : l.stackTraces = false) : ad_Cp l y_A_good b_A_good 4 rt_A_good hs_A_good 7 1 6 G lo hp [.ref x, .int k0, .long v0] (fun r => r = q_ans [ad_NSE, ad_IAE] (q_gd k0 v0)) := by
  intro p e s m below meth c M hts hB hP
  have hx := M.1
  have hb := M.2.1
  have hml := M.2.2.1
  have hown : s.vm.findClass "AuditDraws" = some m.cls := M.2.2.2.1
  have S : CallFix p m c b_A_good 4 s _ ad_T "AuditDraws" := ⟨hx, hb, hml, hown, hts⟩
  have I : ad_I G lo s hp s.heap [] := ad_I.rf hB hP
  have hl := lv_entry ([.ref x, .int k0, .long v0]) (n := 4) (Nat.le_of_ble_eq_true rfl)
  rw [lg_entry_eq]
  generalize (lg_sl ([.ref x, .int k0, .long v0]) ++ List.replicate (4 - (lg_sl ([.ref x, .int k0, .long v0])).length) Slot.unset).toArray = ls at hl ⊢
  have hl : lv_has ls 4 [(0, .ref x), (1, .int k0), (2, .long v0)] := hl
  refine lv_iload_n hx hb d_A_good_0 rfl (lv_at hl 1 rfl) ?_
  refine lv_iconst (v := 3) hx hb d_A_good_1 (by decide) ?_
  refine ad_cPg S I (ad_ivS (As := [.int k0, .int 3]) (rest := []) S Y_A_needBelow w_100 w_101 w_1 ⟨by decide, by decide, np_A_needBelow⟩ rfl d_A_good_2) (c_A_needBelow l G lo hp k0 3 hT) Y_A_needBelow hl.1 ⟨Nat.le_of_ble_eq_true rfl, Nat.le_of_ble_eq_true rfl⟩ (Nat.le_of_ble_eq_true rfl) (Nat.le_of_ble_eq_true rfl) d_A_good_2 (fun g2 => ?_) (fun g2 H1 x cell h1 h2 h3 h4 h5 => ?_)
  · refine lv_lload_n hx hb d_A_good_5 rfl (lv_at hl 2 rfl) ?_
    refine ad_cPg S I (ad_ivS (As := [.long v0]) (rest := []) S Y_A_needNumber w_425 w_426 w_1 ⟨by decide, by decide, np_A_needNumber⟩ rfl d_A_good_6) (c_A_needNumber l G lo hp v0 hT) Y_A_needNumber hl.1 ⟨Nat.le_of_ble_eq_true rfl, Nat.le_of_ble_eq_true rfl⟩ (Nat.le_of_ble_eq_true rfl) (Nat.le_of_ble_eq_true rfl) d_A_good_6 (fun g6 => ?_) (fun g6 H1 x cell h1 h2 h3 h4 h5 => ?_)
    · refine lv_iload_n hx hb d_A_good_9 rfl (lv_at hl 1 rfl) ?_
      refine lv_lload_n hx hb d_A_good_10 rfl (lv_at hl 2 rfl) ?_
      refine ad_cPi S I (ad_ivS (As := [.int k0, .long v0]) (rest := []) S Y_C_closes w_450 w_451 w_20 ⟨by decide, by decide, np_C_closes⟩ rfl d_A_good_11) (c_C_closes l G lo hp k0 v0) Y_C_closes hl.1 ⟨Nat.le_of_ble_eq_true rfl, Nat.le_of_ble_eq_true rfl⟩ (Nat.le_of_ble_eq_true rfl) (Nat.le_of_ble_eq_true rfl) d_A_good_11 ?_
      exact ad_iretP M (by unfold sp_closes; split <;> rfl) (by simp only [q_gd]; rw [if_pos g2, if_pos g6]; rfl) d_A_good_14
    · exact ad_outP M h1 h2 h3 h4 h5 (by decide) (by decide) (by decide) (by simp only [q_gd]; rw [if_pos g2, if_neg g6]; rfl)
  · exact ad_outP M h1 h2 h3 h4 h5 (by decide) (by decide) (by decide) (by simp only [q_gd]; rw [if_neg g2]; rfl)
abbrev R3 : Type := Int32 × Int32 × Int32
abbrev oS (r : R3) : va_E := .inr (2, [.int r.1, .int r.2.1, .int r.2.2])
def sp_rp (r b : R3) : Int32 := if r.1 = b.1 then (if r.2.2 < b.2.2 then 0 else 1) else (if r.1 ≤ b.1 then 0 else 1)
def sp_up (h0 : Int32) (r : R3) (b : Option R3) : Option R3 := if h0 < r.2.2 then b else (match b with
  | none => some r
  | some b0 => if sp_rp r b0 = 0 then b else some r)
/-- the row with the greatest hour of those told by an hour -/
def sp_lb (h0 : Int32) : List R3 → Option R3 → Option R3
  | [], b => b
  | r :: rs, b => sp_lb h0 rs (sp_up h0 r b)
theorem sp_lb_s {h0 : Int32} {rs : List R3} {j : Nat} {r : R3} {b : Option R3} (h : rs[j]? = some r) : sp_lb h0 (rs.drop j) b = sp_lb h0 (rs.drop (j + 1)) (sp_up h0 r b) := by
  rw [drop_s h]; rfl
/-- the rows rs lie behind the list at ra -/
def ro (G : ad_G) (hp : ad_H) (ra : Nat) (rs : List R3) : Prop := ∃ sa : List Nat, al G hp ra sa ∧ sa.length = rs.length ∧ ∀ (k : Nat) (r : R3), rs[k]? = some r → ∃ y : Nat, sa[k]? = some y ∧ hp y = some (oS r)
set_option maxHeartbeats 4000000 in
set_option maxRecDepth 100000 in
theorem c_S_replaces (l : Launch) (G : ad_G) (lo : Nat) (hp : ad_H) (a b : Nat) (r2 b2 : R3) (ha : hp a = some (oS r2)) (hb2 : hp b = some (oS b2)) : ad_Cp l y_S_replaces b_S_replaces 2 rt_S_replaces hs_S_replaces 1 0 0 G lo hp [.ref a, .ref b] (fun r => r = .inl (some (.int (sp_rp r2 b2)))) := by
  intro p e s m below meth c M hts hB hP
  have hx := M.1
  have hb := M.2.1
  have hml := M.2.2.1
  have hown : s.vm.findClass "AuditDraws$Sighting" = some m.cls := M.2.2.2.1
  have S : CallFix p m c b_S_replaces 2 s _ ad_T "AuditDraws$Sighting" := ⟨hx, hb, hml, hown, hts⟩
  have I : ad_I G lo s hp s.heap [] := ad_I.rf hB hP
  have hl := lv_entry ([.ref a, .ref b]) (n := 2) (Nat.le_of_ble_eq_true rfl)
  rw [lg_entry_eq]
  generalize (lg_sl ([.ref a, .ref b]) ++ List.replicate (2 - (lg_sl ([.ref a, .ref b])).length) Slot.unset).toArray = ls at hl ⊢
  have hl : lv_has ls 2 [(0, .ref a), (1, .ref b)] := hl
  refine lv_aload_n hx hb d_S_replaces_0 rfl (lv_at hl 0 rfl) ?_
  refine ad_get S I ha K_Sight 0 (by decide) w_474 rfl d_S_replaces_1 ?_
  refine lv_aload_n hx hb d_S_replaces_4 rfl (lv_at hl 1 rfl) ?_
  refine ad_get S I hb2 K_Sight 0 (by decide) w_474 rfl d_S_replaces_5 ?_
  refine lv_icmp_eq (tgt := 28) hx hb d_S_replaces_8 (by decide) (fun c8 => ?_) (fun c8 => ?_)
  · refine lv_aload_n hx hb d_S_replaces_28 rfl (lv_at hl 0 rfl) ?_
    refine ad_get S I ha K_Sight 2 (by decide) w_478 rfl d_S_replaces_29 ?_
    refine lv_aload_n hx hb d_S_replaces_32 rfl (lv_at hl 1 rfl) ?_
    refine ad_get S I hb2 K_Sight 2 (by decide) w_478 rfl d_S_replaces_33 ?_
    refine lv_icmp_lt (tgt := 43) hx hb d_S_replaces_36 (by decide) (fun c36 => ?_) (fun c36 => ?_)
    · refine lv_iconst (v := 0) hx hb d_S_replaces_43 (by decide) ?_
      exact ad_iretP M rfl (by simp [sp_rp, c8, c36]) d_S_replaces_44
    · refine lv_iconst (v := 1) hx hb d_S_replaces_39 (by decide) ?_
      refine lv_goto (tgt := 44) hx hb d_S_replaces_40 (by decide) ?_
      exact ad_iretP M rfl (by simp [sp_rp, c8, c36]) d_S_replaces_44
  · refine lv_aload_n hx hb d_S_replaces_11 rfl (lv_at hl 0 rfl) ?_
    refine ad_get S I ha K_Sight 0 (by decide) w_474 rfl d_S_replaces_12 ?_
    refine lv_aload_n hx hb d_S_replaces_15 rfl (lv_at hl 1 rfl) ?_
    refine ad_get S I hb2 K_Sight 0 (by decide) w_474 rfl d_S_replaces_16 ?_
    refine lv_icmp_le (tgt := 26) hx hb d_S_replaces_19 (by decide) (fun c19 => ?_) (fun c19 => ?_)
    · refine lv_iconst (v := 0) hx hb d_S_replaces_26 (by decide) ?_
      exact ad_iretP M rfl (by simp [sp_rp, c8, c19]) d_S_replaces_27
    · refine lv_iconst (v := 1) hx hb d_S_replaces_22 (by decide) ?_
      refine lv_goto (tgt := 27) hx hb d_S_replaces_23 (by decide) ?_
      exact ad_iretP M rfl (by simp [sp_rp, c8, c19]) d_S_replaces_27
set_option maxHeartbeats 4000000 in
set_option maxRecDepth 100000 in
theorem c_T_lastToldBy (l : Launch) (G : ad_G) (lo : Nat) (hp : ad_H) (a ra : Nat) (n0 t0 p0 q0 g0 h9 : Int32) (rs : List R3) (h : hp a = some (.inr (1, [.int n0, .int t0, .ref ra, .int p0, .int q0, .int g0]))) (hR : ro G hp ra rs) (hm : rs.length ≤ 24) : ad_Cp l y_T_lastToldBy b_T_lastToldBy 5 rt_T_lastToldBy hs_T_lastToldBy 4 0 0 G lo hp [.ref a, .int h9] (fun r => (sp_lb h9 rs none = none ∧ r = .inl (some .null)) ∨ ∃ (b1 : R3) (yb : Nat), sp_lb h9 rs none = some b1 ∧ hp yb = some (oS b1) ∧ r = .inl (some (.ref yb))) := by
  intro p e s m below meth c M hts hB hP
  have hx := M.1
  have hb := M.2.1
  have hml := M.2.2.1
  have hown : s.vm.findClass "AuditDraws$Thing" = some m.cls := M.2.2.2.1
  have S : CallFix p m c b_T_lastToldBy 5 s _ ad_T "AuditDraws$Thing" := ⟨hx, hb, hml, hown, hts⟩
  have I : ad_I G lo s hp s.heap [] := ad_I.rf hB hP
  have hl := lv_entry ([.ref a, .int h9]) (n := 5) (Nat.le_of_ble_eq_true rfl)
  rw [lg_entry_eq]
  generalize (lg_sl ([.ref a, .int h9]) ++ List.replicate (5 - (lg_sl ([.ref a, .int h9])).length) Slot.unset).toArray = ls at hl ⊢
  have hl : lv_has ls 5 [(0, .ref a), (1, .int h9)] := hl
  obtain ⟨sa, hsa, hsl, hse⟩ := hR
  obtain ⟨u1, u2, u3, u4, hra, -⟩ := id hsa
  have loopR : ∀ (n : Nat) (j : Nat) (b1 : R3) (yb : Nat), (rs.length < j + n ∧ j ≤ rs.length ∧ sp_lb h9 rs none = sp_lb h9 (rs.drop j) (some b1) ∧ hp yb = some (oS b1)) → ∀ ls : Array Slot, lv_has ls 5 [(0, .ref a), (1, .int h9), (2, .ref yb), (3, .int (nI j))] → W p l e (ad_rm 4 0 0) s m ([.ref a, .int h9] : List Value).toArray below meth c s.heap [] 0 0 (ad_Zp below (fun r => (sp_lb h9 rs none = none ∧ r = .inl (some .null)) ∨ ∃ (b1 : R3) (yb : Nat), sp_lb h9 rs none = some b1 ∧ hp yb = some (oS b1) ∧ r = .inl (some (.ref yb))) s 0 0) (F0 m 4 ls []) := by
    intro n
    induction n with
    | zero => intro j b1 yb h0 ls hl; exact absurd h0 (by omega)
    | succ n ih =>
      intro j b1 yb h0 ls hl
      refine lv_iload_n hx hb d_T_lastToldBy_4 rfl (lv_at hl 3 rfl) ?_
      refine lv_aload_n hx hb d_T_lastToldBy_5 rfl (lv_at hl 0 rfl) ?_
      refine ad_get S I h K_Thing 2 (by decide) w_203 rfl d_T_lastToldBy_6 ?_
      refine ad_cPi S I (ad_ivV (As := []) (rest := [.int (nI j)]) S (ad_recv I hra K_AL) w_498 w_172 w_173 Y_AL_size ⟨by decide, by decide, np_AL_size⟩ rfl d_T_lastToldBy_9) (c_ALsize l G lo hp ra sa hsa) Y_AL_size hl.1 ⟨Nat.le_of_ble_eq_true rfl, Nat.le_of_ble_eq_true rfl⟩ (Nat.le_of_ble_eq_true rfl) (Nat.le_of_ble_eq_true rfl) d_T_lastToldBy_9 ?_
      refine ad_top (y := .int (nI rs.length)) (by rw [hsl]) ?_
      refine lv_icmp_ge (tgt := 59) hx hb d_T_lastToldBy_12 (by decide) (fun c12 => ?_) (fun c12 => ?_)
      · obtain rfl : j = rs.length := by have := ad_ge (j := j) (n := rs.length) (by omega) (by omega) c12; omega
        refine lv_aload_n hx hb d_T_lastToldBy_59 rfl (lv_at hl 2 rfl) ?_
        exact ad_aretP M (Or.inl ⟨_, rfl⟩) (Or.inr ⟨_, rfl⟩) (Or.inr ⟨b1, yb, by rw [h0.2.2.1, List.drop_length]; rfl, h0.2.2.2, rfl⟩) d_T_lastToldBy_60
      · have hj : j < rs.length := ad_lt (by omega) (by omega) c12
        obtain ⟨r1, hr⟩ : ∃ r1, rs[j]? = some r1 := ⟨_, List.getElem?_eq_getElem hj⟩
        obtain ⟨y, hy, hty⟩ := hse j r1 hr
        refine lv_aload_n hx hb d_T_lastToldBy_15 rfl (lv_at hl 0 rfl) ?_
        refine ad_get S I h K_Thing 2 (by decide) w_203 rfl d_T_lastToldBy_16 ?_
        refine lv_iload_n hx hb d_T_lastToldBy_19 rfl (lv_at hl 3 rfl) ?_
        refine ad_cPi S I (ad_ivV (As := [.int (nI j)]) (rest := []) S (ad_recv I hra K_AL) w_499 w_309 w_310 Y_AL_get ⟨by decide, by decide, np_AL_get⟩ rfl d_T_lastToldBy_20) (c_ALget l G lo hp ra sa j y hsa hy) Y_AL_get hl.1 ⟨Nat.le_of_ble_eq_true rfl, Nat.le_of_ble_eq_true rfl⟩ (Nat.le_of_ble_eq_true rfl) (Nat.le_of_ble_eq_true rfl) d_T_lastToldBy_20 ?_
        refine va_castE hx hb hown (hts _ w_500) (ad_recv I hty K_Sight) d_T_lastToldBy_23 ?_
        refine lv_astore (lv' := [(4, .ref y), (0, .ref a), (1, .int h9), (2, .ref yb), (3, .int (nI j))]) hx hb d_T_lastToldBy_26 hl (by decide) rfl (fun ls hl => ?_)
        refine lv_aload hx hb d_T_lastToldBy_28 (lv_at hl 0 rfl) ?_
        refine ad_get S I hty K_Sight 2 (by decide) w_479 rfl d_T_lastToldBy_30 ?_
        refine lv_iload_n hx hb d_T_lastToldBy_33 rfl (lv_at hl 2 rfl) ?_
        refine lv_icmp_gt (tgt := 53) hx hb d_T_lastToldBy_34 (by decide) (fun c34 => ?_) (fun c34 => ?_)
        · refine lv_iinc (v := (nI (j + 1))) (lv' := [(3, .int (nI (j + 1))), (4, .ref y), (0, .ref a), (1, .int h9), (2, .ref yb)]) hx hb d_T_lastToldBy_53 hl (k := 4) rfl (nI_1 j) (by decide) rfl (fun ls hl => ?_)
          refine lv_goto (tgt := 4) hx hb d_T_lastToldBy_56 (by decide) ?_
          exact ih (j + 1) b1 yb ⟨by omega, by omega, by rw [h0.2.2.1, sp_lb_s hr]; simp [sp_up, c34], h0.2.2.2⟩ ls (lv_sub hl [2, 3, 4, 0] rfl)
        · refine lv_aload_n hx hb d_T_lastToldBy_37 rfl (lv_at hl 3 rfl) ?_
          refine lv_ifnull hx hb d_T_lastToldBy_38 ?_
          refine lv_aload hx hb d_T_lastToldBy_41 (lv_at hl 0 rfl) ?_
          refine lv_aload_n hx hb d_T_lastToldBy_43 rfl (lv_at hl 3 rfl) ?_
          refine ad_cPi S I (ad_ivV (As := [.ref yb]) (rest := []) S (ad_recv I hty K_Sight) w_501 w_502 w_503 Y_S_replaces ⟨by decide, by decide, np_S_replaces⟩ rfl d_T_lastToldBy_44) (c_S_replaces l G lo hp y yb r1 b1 hty h0.2.2.2) Y_S_replaces hl.1 ⟨Nat.le_of_ble_eq_true rfl, Nat.le_of_ble_eq_true rfl⟩ (Nat.le_of_ble_eq_true rfl) (Nat.le_of_ble_eq_true rfl) d_T_lastToldBy_44 ?_
          refine lv_if_eq (tgt := 53) hx hb d_T_lastToldBy_47 (by decide) (fun c47 => ?_) (fun c47 => ?_)
          · refine lv_iinc (v := (nI (j + 1))) (lv' := [(3, .int (nI (j + 1))), (4, .ref y), (0, .ref a), (1, .int h9), (2, .ref yb)]) hx hb d_T_lastToldBy_53 hl (k := 4) rfl (nI_1 j) (by decide) rfl (fun ls hl => ?_)
            refine lv_goto (tgt := 4) hx hb d_T_lastToldBy_56 (by decide) ?_
            exact ih (j + 1) b1 yb ⟨by omega, by omega, by rw [h0.2.2.1, sp_lb_s hr]; simp [sp_up, c34, c47], h0.2.2.2⟩ ls (lv_sub hl [2, 3, 4, 0] rfl)
          · refine lv_aload hx hb d_T_lastToldBy_50 (lv_at hl 0 rfl) ?_
            refine lv_astore_n (lv' := [(2, .ref y), (4, .ref y), (0, .ref a), (1, .int h9), (3, .int (nI j))]) hx hb d_T_lastToldBy_52 rfl hl (by decide) rfl (fun ls hl => ?_)
            refine lv_iinc (v := (nI (j + 1))) (lv' := [(3, .int (nI (j + 1))), (2, .ref y), (4, .ref y), (0, .ref a), (1, .int h9)]) hx hb d_T_lastToldBy_53 hl (k := 4) rfl (nI_1 j) (by decide) rfl (fun ls hl => ?_)
            refine lv_goto (tgt := 4) hx hb d_T_lastToldBy_56 (by decide) ?_
            exact ih (j + 1) r1 y ⟨by omega, by omega, by rw [h0.2.2.1, sp_lb_s hr]; simp [sp_up, c34, c47], hty⟩ ls (lv_sub hl [3, 4, 1, 0] rfl)
  have loopN : ∀ (n : Nat) (j : Nat), (rs.length < j + n ∧ j ≤ rs.length ∧ sp_lb h9 rs none = sp_lb h9 (rs.drop j) none) → ∀ ls : Array Slot, lv_has ls 5 [(0, .ref a), (1, .int h9), (2, .null), (3, .int (nI j))] → W p l e (ad_rm 4 0 0) s m ([.ref a, .int h9] : List Value).toArray below meth c s.heap [] 0 0 (ad_Zp below (fun r => (sp_lb h9 rs none = none ∧ r = .inl (some .null)) ∨ ∃ (b1 : R3) (yb : Nat), sp_lb h9 rs none = some b1 ∧ hp yb = some (oS b1) ∧ r = .inl (some (.ref yb))) s 0 0) (F0 m 4 ls []) := by
    intro n
    induction n with
    | zero => intro j h0 ls hl; exact absurd h0 (by omega)
    | succ n ih =>
      intro j h0 ls hl
      refine lv_iload_n hx hb d_T_lastToldBy_4 rfl (lv_at hl 3 rfl) ?_
      refine lv_aload_n hx hb d_T_lastToldBy_5 rfl (lv_at hl 0 rfl) ?_
      refine ad_get S I h K_Thing 2 (by decide) w_203 rfl d_T_lastToldBy_6 ?_
      refine ad_cPi S I (ad_ivV (As := []) (rest := [.int (nI j)]) S (ad_recv I hra K_AL) w_498 w_172 w_173 Y_AL_size ⟨by decide, by decide, np_AL_size⟩ rfl d_T_lastToldBy_9) (c_ALsize l G lo hp ra sa hsa) Y_AL_size hl.1 ⟨Nat.le_of_ble_eq_true rfl, Nat.le_of_ble_eq_true rfl⟩ (Nat.le_of_ble_eq_true rfl) (Nat.le_of_ble_eq_true rfl) d_T_lastToldBy_9 ?_
      refine ad_top (y := .int (nI rs.length)) (by rw [hsl]) ?_
      refine lv_icmp_ge (tgt := 59) hx hb d_T_lastToldBy_12 (by decide) (fun c12 => ?_) (fun c12 => ?_)
      · obtain rfl : j = rs.length := by have := ad_ge (j := j) (n := rs.length) (by omega) (by omega) c12; omega
        refine lv_aload_nN hx hb d_T_lastToldBy_59 rfl (lv_at hl 2 rfl) ?_
        exact ad_aretP M (Or.inl ⟨_, rfl⟩) (Or.inl rfl) (Or.inl ⟨by rw [h0.2.2, List.drop_length]; rfl, rfl⟩) d_T_lastToldBy_60
      · have hj : j < rs.length := ad_lt (by omega) (by omega) c12
        obtain ⟨r1, hr⟩ : ∃ r1, rs[j]? = some r1 := ⟨_, List.getElem?_eq_getElem hj⟩
        obtain ⟨y, hy, hty⟩ := hse j r1 hr
        refine lv_aload_n hx hb d_T_lastToldBy_15 rfl (lv_at hl 0 rfl) ?_
        refine ad_get S I h K_Thing 2 (by decide) w_203 rfl d_T_lastToldBy_16 ?_
        refine lv_iload_n hx hb d_T_lastToldBy_19 rfl (lv_at hl 3 rfl) ?_
        refine ad_cPi S I (ad_ivV (As := [.int (nI j)]) (rest := []) S (ad_recv I hra K_AL) w_499 w_309 w_310 Y_AL_get ⟨by decide, by decide, np_AL_get⟩ rfl d_T_lastToldBy_20) (c_ALget l G lo hp ra sa j y hsa hy) Y_AL_get hl.1 ⟨Nat.le_of_ble_eq_true rfl, Nat.le_of_ble_eq_true rfl⟩ (Nat.le_of_ble_eq_true rfl) (Nat.le_of_ble_eq_true rfl) d_T_lastToldBy_20 ?_
        refine va_castE hx hb hown (hts _ w_500) (ad_recv I hty K_Sight) d_T_lastToldBy_23 ?_
        refine lv_astore (lv' := [(4, .ref y), (0, .ref a), (1, .int h9), (2, .null), (3, .int (nI j))]) hx hb d_T_lastToldBy_26 hl (by decide) rfl (fun ls hl => ?_)
        refine lv_aload hx hb d_T_lastToldBy_28 (lv_at hl 0 rfl) ?_
        refine ad_get S I hty K_Sight 2 (by decide) w_479 rfl d_T_lastToldBy_30 ?_
        refine lv_iload_n hx hb d_T_lastToldBy_33 rfl (lv_at hl 2 rfl) ?_
        refine lv_icmp_gt (tgt := 53) hx hb d_T_lastToldBy_34 (by decide) (fun c34 => ?_) (fun c34 => ?_)
        · refine lv_iinc (v := (nI (j + 1))) (lv' := [(3, .int (nI (j + 1))), (4, .ref y), (0, .ref a), (1, .int h9), (2, .null)]) hx hb d_T_lastToldBy_53 hl (k := 4) rfl (nI_1 j) (by decide) rfl (fun ls hl => ?_)
          refine lv_goto (tgt := 4) hx hb d_T_lastToldBy_56 (by decide) ?_
          exact ih (j + 1) ⟨by omega, by omega, by rw [h0.2.2, sp_lb_s hr]; simp [sp_up, c34]⟩ ls (lv_sub hl [2, 3, 4, 0] rfl)
        · refine lv_aload_nN hx hb d_T_lastToldBy_37 rfl (lv_at hl 3 rfl) ?_
          refine lv_ifnullN (tgt := 50) hx hb d_T_lastToldBy_38 (by decide) ?_
          refine lv_aload hx hb d_T_lastToldBy_50 (lv_at hl 0 rfl) ?_
          refine lv_astore_n (lv' := [(2, .ref y), (4, .ref y), (0, .ref a), (1, .int h9), (3, .int (nI j))]) hx hb d_T_lastToldBy_52 rfl hl (by decide) rfl (fun ls hl => ?_)
          refine lv_iinc (v := (nI (j + 1))) (lv' := [(3, .int (nI (j + 1))), (2, .ref y), (4, .ref y), (0, .ref a), (1, .int h9)]) hx hb d_T_lastToldBy_53 hl (k := 4) rfl (nI_1 j) (by decide) rfl (fun ls hl => ?_)
          refine lv_goto (tgt := 4) hx hb d_T_lastToldBy_56 (by decide) ?_
          exact loopR n (j + 1) r1 y ⟨by omega, by omega, by rw [h0.2.2, sp_lb_s hr]; simp [sp_up, c34], hty⟩ ls (lv_sub hl [3, 4, 1, 0] rfl)
  refine lv_null hx hb d_T_lastToldBy_0 ?_
  refine lv_astore_nN (lv' := [(2, .null), (0, .ref a), (1, .int h9)]) hx hb d_T_lastToldBy_1 rfl hl (by decide) rfl (fun ls hl => ?_)
  refine lv_iconst (v := 0) hx hb d_T_lastToldBy_2 (by decide) ?_
  refine lv_istore_n (lv' := [(3, .int 0), (2, .null), (0, .ref a), (1, .int h9)]) hx hb d_T_lastToldBy_3 rfl hl (by decide) rfl (fun ls hl => ?_)
  exact loopN (rs.length + 1) 0 ⟨by omega, by omega, by simp⟩ ls (lv_sub hl [2, 3, 1, 0] rfl)
def q_fs (f0 : Option R3 → Int32) (ts : List TH) (v h9 : Int32) : Nat × Int32 := match sp_at ts v with
  | none => (1, 0)
  | some t => if okh h9 then (0, f0 (sp_lb h9 t.2.2.2.2 none)) else (2, 0)
def f_first (b : Option R3) : Int32 := match b with
  | none => 0
  | some r => r.1 + 1
def f_seen (b : Option R3) : Int32 := match b with
  | none => -1
  | some r => r.2.1
set_option maxHeartbeats 4000000 in
set_option maxRecDepth 100000 in
theorem c_A_first (l : Launch) (G : ad_G) (lo : Nat) (hp : ad_H) (x dA tA lA rA gA sA : Nat) (v h9 : Int32) (ta : List Nat) (ts : List TH)  (hT : l.stackTraces = false) (hX : hp x = some (.inr (4, [.ref dA, .ref tA, .ref lA, .ref rA, .ref gA, .ref sA]))) (hL : al G hp tA ta) (hTT : tt hp ta ts) (hn : ts.length ≤ 64) (hro : ∀ (j : Nat) (t : TH) (y ra : Nat), ts[j]? = some t → ta[j]? = some y → hp y = some (oT j t ra) → ro G hp ra t.2.2.2.2 ∧ t.2.2.2.2.length ≤ 24) : ad_Cp l y_A_first b_A_first 5 rt_A_first hs_A_first 8 1 6 G lo hp [.ref x, .int v, .int h9] (fun r => r = q_ans [ad_NSE, ad_IAE] (q_fs f_first ts v h9)) := by
  intro p e s m below meth c M hts hB hP
  have hx := M.1
  have hb := M.2.1
  have hml := M.2.2.1
  have hown : s.vm.findClass "AuditDraws" = some m.cls := M.2.2.2.1
  have S : CallFix p m c b_A_first 5 s _ ad_T "AuditDraws" := ⟨hx, hb, hml, hown, hts⟩
  have I : ad_I G lo s hp s.heap [] := ad_I.rf hB hP
  have hl := lv_entry ([.ref x, .int v, .int h9]) (n := 5) (Nat.le_of_ble_eq_true rfl)
  rw [lg_entry_eq]
  generalize (lg_sl ([.ref x, .int v, .int h9]) ++ List.replicate (5 - (lg_sl ([.ref x, .int v, .int h9])).length) Slot.unset).toArray = ls at hl ⊢
  have hl : lv_has ls 5 [(0, .ref x), (1, .int v), (2, .int h9)] := hl
  obtain ⟨t1, t2, t3, t4, htA, -⟩ := id hL
  refine lv_aload_n hx hb d_A_first_0 rfl (lv_at hl 0 rfl) ?_
  refine lv_iload_n hx hb d_A_first_1 rfl (lv_at hl 1 rfl) ?_
  refine ad_cP S I (ad_ivV (As := [.int v]) (rest := []) S (ad_recv I hX K_AD) w_374 w_376 sp_A_existing Y_A_existing ⟨by decide, by decide, np_A_existing⟩ rfl d_A_first_2) (c_A_existing l G lo hp x dA tA lA rA gA sA v ta ts hT hX hL hTT hn) Y_A_existing hl.1 ⟨Nat.le_of_ble_eq_true rfl, Nat.le_of_ble_eq_true rfl⟩ (Nat.le_of_ble_eq_true rfl) (Nat.le_of_ble_eq_true rfl) d_A_first_2 (fun v9 h9 => ?_) (fun C9 H1 x9 cell h9 h1 h2 h3 h4 h5 => ?_)
  · obtain ⟨j, t, y, ra, hv, ht, hy, hty, hr9⟩ | ⟨-, hr9⟩ := h9
    case inr => cases hr9
    cases hr9
    refine lv_astore_n (lv' := [(3, .ref y), (0, .ref x), (1, .int v), (2, .int h9)]) hx hb d_A_first_5 rfl hl (by decide) rfl (fun ls hl => ?_)
    refine lv_iload_n hx hb d_A_first_6 rfl (lv_at hl 3 rfl) ?_
    refine ad_cPg S I (ad_ivS (As := [.int h9]) (rest := []) S Y_A_needHour w_461 w_462 w_1 ⟨by decide, by decide, np_A_needHour⟩ rfl d_A_first_7) (c_A_needHour l G lo hp h9 hT) Y_A_needHour hl.1 ⟨Nat.le_of_ble_eq_true rfl, Nat.le_of_ble_eq_true rfl⟩ (Nat.le_of_ble_eq_true rfl) (Nat.le_of_ble_eq_true rfl) d_A_first_7 (fun g7 => ?_) (fun g7 H1 x cell h1 h2 h3 h4 h5 => ?_)
    · refine lv_aload_n hx hb d_A_first_10 rfl (lv_at hl 0 rfl) ?_
      refine lv_iload_n hx hb d_A_first_11 rfl (lv_at hl 3 rfl) ?_
      refine ad_cP S I (ad_ivV (As := [.int h9]) (rest := []) S (ad_recv I hty K_Thing) w_494 w_495 w_496 Y_T_lastToldBy ⟨by decide, by decide, np_T_lastToldBy⟩ rfl d_A_first_12) (c_T_lastToldBy l G lo hp y ra (nI j) t.1 t.2.1 t.2.2.1 t.2.2.2.1 h9 t.2.2.2.2 hty (hro j t y ra ht hy hty).1 (hro j t y ra ht hy hty).2) Y_T_lastToldBy hl.1 ⟨Nat.le_of_ble_eq_true rfl, Nat.le_of_ble_eq_true rfl⟩ (Nat.le_of_ble_eq_true rfl) (Nat.le_of_ble_eq_true rfl) d_A_first_12 (fun v8 h8 => ?_) (fun C9 H1 x9 cell h8 h1 h2 h3 h4 h5 => ?_)
      · obtain ⟨hb1, hr8⟩ | ⟨b1, yb, hb1, hyb, hr8⟩ := h8
        · cases hr8
          refine lv_astoreN (lv' := [(4, .null), (3, .ref y), (0, .ref x), (1, .int v), (2, .int h9)]) hx hb d_A_first_15 hl (by decide) rfl (fun ls hl => ?_)
          refine lv_aloadN hx hb d_A_first_17 (lv_at hl 0 rfl) ?_
          refine lv_ifnonnullN hx hb d_A_first_19 ?_
          refine lv_iconst (v := 0) hx hb d_A_first_22 (by decide) ?_
          refine lv_goto (tgt := 33) hx hb d_A_first_23 (by decide) ?_
          exact ad_iretP M rfl (by simp only [q_fs]; rw [sp_at_n hv ht hn]; simp only; rw [if_pos g7, hb1]; rfl) d_A_first_33
        · cases hr8
          refine lv_astore (lv' := [(4, .ref yb), (3, .ref y), (0, .ref x), (1, .int v), (2, .int h9)]) hx hb d_A_first_15 hl (by decide) rfl (fun ls hl => ?_)
          refine lv_aload hx hb d_A_first_17 (lv_at hl 0 rfl) ?_
          refine lv_ifnonnull (tgt := 26) hx hb d_A_first_19 (by decide) ?_
          refine lv_aload hx hb d_A_first_26 (lv_at hl 0 rfl) ?_
          refine ad_get S I hyb K_Sight 0 (by decide) w_475 rfl d_A_first_28 ?_
          refine lv_iconst (v := 1) hx hb d_A_first_31 (by decide) ?_
          refine lv_iadd hx hb d_A_first_32 ?_
          exact ad_iretP M rfl (by simp only [q_fs]; rw [sp_at_n hv ht hn]; simp only; rw [if_pos g7, hb1]; rfl) d_A_first_33
      · rcases h8 with ⟨_, h8⟩ | ⟨_, _, _, _, h8⟩ <;> cases h8
    · exact ad_outP M h1 h2 h3 h4 h5 (by decide) (by decide) (by decide) (by simp only [q_fs]; rw [sp_at_n hv ht hn]; simp only; rw [if_neg g7]; rfl)
  · obtain ⟨_, _, _, _, _, _, _, _, hr9⟩ | ⟨hno, hr9⟩ := h9
    case inl => cases hr9
    cases hr9
    exact ad_outP M h1 h2 h3 h4 h5 (by decide) (by decide) (by decide) (by simp only [q_fs]; rw [sp_at_0 hno hn]; rfl)
set_option maxHeartbeats 4000000 in
set_option maxRecDepth 100000 in
theorem c_A_seen (l : Launch) (G : ad_G) (lo : Nat) (hp : ad_H) (x dA tA lA rA gA sA : Nat) (v h9 : Int32) (ta : List Nat) (ts : List TH)  (hT : l.stackTraces = false) (hX : hp x = some (.inr (4, [.ref dA, .ref tA, .ref lA, .ref rA, .ref gA, .ref sA]))) (hL : al G hp tA ta) (hTT : tt hp ta ts) (hn : ts.length ≤ 64) (hro : ∀ (j : Nat) (t : TH) (y ra : Nat), ts[j]? = some t → ta[j]? = some y → hp y = some (oT j t ra) → ro G hp ra t.2.2.2.2 ∧ t.2.2.2.2.length ≤ 24) : ad_Cp l y_A_seen b_A_seen 5 rt_A_seen hs_A_seen 8 1 6 G lo hp [.ref x, .int v, .int h9] (fun r => r = q_ans [ad_NSE, ad_IAE] (q_fs f_seen ts v h9)) := by
  intro p e s m below meth c M hts hB hP
  have hx := M.1
  have hb := M.2.1
  have hml := M.2.2.1
  have hown : s.vm.findClass "AuditDraws" = some m.cls := M.2.2.2.1
  have S : CallFix p m c b_A_seen 5 s _ ad_T "AuditDraws" := ⟨hx, hb, hml, hown, hts⟩
  have I : ad_I G lo s hp s.heap [] := ad_I.rf hB hP
  have hl := lv_entry ([.ref x, .int v, .int h9]) (n := 5) (Nat.le_of_ble_eq_true rfl)
  rw [lg_entry_eq]
  generalize (lg_sl ([.ref x, .int v, .int h9]) ++ List.replicate (5 - (lg_sl ([.ref x, .int v, .int h9])).length) Slot.unset).toArray = ls at hl ⊢
  have hl : lv_has ls 5 [(0, .ref x), (1, .int v), (2, .int h9)] := hl
  obtain ⟨t1, t2, t3, t4, htA, -⟩ := id hL
  refine lv_aload_n hx hb d_A_seen_0 rfl (lv_at hl 0 rfl) ?_
  refine lv_iload_n hx hb d_A_seen_1 rfl (lv_at hl 1 rfl) ?_
  refine ad_cP S I (ad_ivV (As := [.int v]) (rest := []) S (ad_recv I hX K_AD) w_374 w_376 sp_A_existing Y_A_existing ⟨by decide, by decide, np_A_existing⟩ rfl d_A_seen_2) (c_A_existing l G lo hp x dA tA lA rA gA sA v ta ts hT hX hL hTT hn) Y_A_existing hl.1 ⟨Nat.le_of_ble_eq_true rfl, Nat.le_of_ble_eq_true rfl⟩ (Nat.le_of_ble_eq_true rfl) (Nat.le_of_ble_eq_true rfl) d_A_seen_2 (fun v9 h9 => ?_) (fun C9 H1 x9 cell h9 h1 h2 h3 h4 h5 => ?_)
  · obtain ⟨j, t, y, ra, hv, ht, hy, hty, hr9⟩ | ⟨-, hr9⟩ := h9
    case inr => cases hr9
    cases hr9
    refine lv_astore_n (lv' := [(3, .ref y), (0, .ref x), (1, .int v), (2, .int h9)]) hx hb d_A_seen_5 rfl hl (by decide) rfl (fun ls hl => ?_)
    refine lv_iload_n hx hb d_A_seen_6 rfl (lv_at hl 3 rfl) ?_
    refine ad_cPg S I (ad_ivS (As := [.int h9]) (rest := []) S Y_A_needHour w_461 w_462 w_1 ⟨by decide, by decide, np_A_needHour⟩ rfl d_A_seen_7) (c_A_needHour l G lo hp h9 hT) Y_A_needHour hl.1 ⟨Nat.le_of_ble_eq_true rfl, Nat.le_of_ble_eq_true rfl⟩ (Nat.le_of_ble_eq_true rfl) (Nat.le_of_ble_eq_true rfl) d_A_seen_7 (fun g7 => ?_) (fun g7 H1 x cell h1 h2 h3 h4 h5 => ?_)
    · refine lv_aload_n hx hb d_A_seen_10 rfl (lv_at hl 0 rfl) ?_
      refine lv_iload_n hx hb d_A_seen_11 rfl (lv_at hl 3 rfl) ?_
      refine ad_cP S I (ad_ivV (As := [.int h9]) (rest := []) S (ad_recv I hty K_Thing) w_494 w_495 w_496 Y_T_lastToldBy ⟨by decide, by decide, np_T_lastToldBy⟩ rfl d_A_seen_12) (c_T_lastToldBy l G lo hp y ra (nI j) t.1 t.2.1 t.2.2.1 t.2.2.2.1 h9 t.2.2.2.2 hty (hro j t y ra ht hy hty).1 (hro j t y ra ht hy hty).2) Y_T_lastToldBy hl.1 ⟨Nat.le_of_ble_eq_true rfl, Nat.le_of_ble_eq_true rfl⟩ (Nat.le_of_ble_eq_true rfl) (Nat.le_of_ble_eq_true rfl) d_A_seen_12 (fun v8 h8 => ?_) (fun C9 H1 x9 cell h8 h1 h2 h3 h4 h5 => ?_)
      · obtain ⟨hb1, hr8⟩ | ⟨b1, yb, hb1, hyb, hr8⟩ := h8
        · cases hr8
          refine lv_astoreN (lv' := [(4, .null), (3, .ref y), (0, .ref x), (1, .int v), (2, .int h9)]) hx hb d_A_seen_15 hl (by decide) rfl (fun ls hl => ?_)
          refine lv_aloadN hx hb d_A_seen_17 (lv_at hl 0 rfl) ?_
          refine lv_ifnonnullN hx hb d_A_seen_19 ?_
          refine lv_iconst (v := (-1)) hx hb d_A_seen_22 (by decide) ?_
          refine lv_goto (tgt := 31) hx hb d_A_seen_23 (by decide) ?_
          exact ad_iretP M rfl (by simp only [q_fs]; rw [sp_at_n hv ht hn]; simp only; rw [if_pos g7, hb1]; rfl) d_A_seen_31
        · cases hr8
          refine lv_astore (lv' := [(4, .ref yb), (3, .ref y), (0, .ref x), (1, .int v), (2, .int h9)]) hx hb d_A_seen_15 hl (by decide) rfl (fun ls hl => ?_)
          refine lv_aload hx hb d_A_seen_17 (lv_at hl 0 rfl) ?_
          refine lv_ifnonnull (tgt := 26) hx hb d_A_seen_19 (by decide) ?_
          refine lv_aload hx hb d_A_seen_26 (lv_at hl 0 rfl) ?_
          refine ad_get S I hyb K_Sight 1 (by decide) w_477 rfl d_A_seen_28 ?_
          exact ad_iretP M rfl (by simp only [q_fs]; rw [sp_at_n hv ht hn]; simp only; rw [if_pos g7, hb1]; rfl) d_A_seen_31
      · rcases h8 with ⟨_, h8⟩ | ⟨_, _, _, _, h8⟩ <;> cases h8
    · exact ad_outP M h1 h2 h3 h4 h5 (by decide) (by decide) (by decide) (by simp only [q_fs]; rw [sp_at_n hv ht hn]; simp only; rw [if_neg g7]; rfl)
  · obtain ⟨_, _, _, _, _, _, _, _, hr9⟩ | ⟨hno, hr9⟩ := h9
    case inl => cases hr9
    cases hr9
    exact ad_outP M h1 h2 h3 h4 h5 (by decide) (by decide) (by decide) (by simp only [q_fs]; rw [sp_at_0 hno hn]; rfl)
end
section
theorem ad_I.e {G : ad_G} {lo : Nat} {s : State} {hp : ad_H} {H : Heap} {locs : List Loc} (I : ad_I G lo s hp H locs) : hp (G.2.2 0) = none := by
  cases h : hp (G.2.2 0) with
  | none => rfl
  | some e =>
    have h1 := (I.2.1 _ _ h).1
    have h2 : G.2.2 0 < lo := I.1.2.2.2.2.2.2.2.2.2.2.1.1
    omega
/-- a cell that is no list and no array of references -/
def nl (e : va_E) : Prop := match e with
  | .inr (3, _) => False
  | .inl (_, _, .inr (.inr (.inr (.inr _)))) => False
  | _ => True
/-- what only the list at a has changed -/
def Op (hp hp' : ad_H) (a : Nat) : Prop := (∀ z, z ≠ a → ¬ al_b hp a z → hp z ≠ none → hp' z = hp z) ∧ ∀ z, al_b hp' a z → al_b hp a z ∨ hp z = none
def Sep (hp : ad_H) (L : List Nat) : Prop := L.Nodup ∧ ∀ a ∈ L, ∀ b ∈ L, ∀ z, al_b hp a z → al_b hp b z → hp z ≠ none → a = b
def lk (ta la lt : List Nat) : Prop := la.length = lt.length ∧ ∀ (j i : Nat), lt[j]? = some i → ∃ y : Nat, la[j]? = some y ∧ ta[i]? = some y
section REP
variable {G : ad_G} {hp hp' : ad_H} {a b z : Nat} {xs ys : List Nat} {L : List Nat}
theorem al.self (h : al G hp a xs) : ∃ fs, hp a = some (.inr (3, fs)) := by
  obtain ⟨arr, cp, f, mv, h1, -⟩ := h
  exact ⟨_, h1⟩
theorem al.bk (h : al G hp a xs) (hb : al_b hp a z) : (z = G.2.2 0 ∧ hp z = none) ∨ ∃ n f, hp z = some (ad_ra G n f) := by
  obtain ⟨arr, cp, f, mv, h1, h2⟩ := h
  have := hb.eq h1
  subst this
  rcases h2 with ⟨h3, h4, -⟩ | ⟨h3, -⟩
  · exact Or.inl ⟨h3, h4⟩
  · exact Or.inr ⟨_, _, h3⟩
theorem al.keep (h : al G hp a xs) (h1 : hp' a = hp a) (h2 : ∀ z, al_b hp a z → hp z ≠ none → hp' z = hp z) (h3 : hp' (G.2.2 0) = none) : al G hp' a xs := by
  obtain ⟨arr, cp, f, mv, q1, q2⟩ := h
  refine ⟨arr, cp, f, mv, by rw [h1]; exact q1, ?_⟩
  rcases q2 with ⟨rfl, -, rfl⟩ | ⟨q2, q3⟩
  · exact Or.inl ⟨rfl, h3, rfl⟩
  · exact Or.inr ⟨by rw [h2 arr ⟨_, _, q1⟩ (by rw [q2]; simp)]; exact q2, q3⟩
theorem al_b.same (h : hp' a = hp a) : al_b hp' a z ↔ al_b hp a z := by unfold al_b; rw [h]
theorem nl_ne {e : va_E} (hn : nl e) (h : al G hp a xs) (hz : hp z = some e) : z ≠ a ∧ ¬ al_b hp a z := by
  refine ⟨fun hh => ?_, fun hb => ?_⟩
  · subst hh
    obtain ⟨fs, h1⟩ := h.self
    cases hz.symm.trans h1
    exact hn
  · rcases h.bk hb with ⟨-, h1⟩ | ⟨n, f, h1⟩
    · rw [h1] at hz; cases hz
    · cases hz.symm.trans h1
      exact hn
theorem Op.cell (h : Op hp hp' a) (ha : al G hp a xs) {e : va_E} (hz : hp z = some e) (he : nl e) : hp' z = some e := by
  obtain ⟨h1, h2⟩ := nl_ne he ha hz
  rw [h.1 z h1 h2 (by rw [hz]; simp)]
  exact hz
theorem Op.lst (h : Op hp hp' a) (hs : Sep hp L) (haL : a ∈ L) (hbL : b ∈ L) (hne : b ≠ a) (hA : al G hp a xs) (hB : al G hp b ys) (hE : hp' (G.2.2 0) = none) : al G hp' b ys ∧ hp' b = hp b := by
  have h1 : hp' b = hp b := by
    obtain ⟨fs, hfs⟩ := hB.self
    refine h.1 b hne (fun hb => ?_) (by rw [hfs]; simp)
    rcases hA.bk hb with ⟨-, q⟩ | ⟨n, f, q⟩ <;> (rw [q] at hfs; cases hfs)
  refine ⟨hB.keep h1 (fun z hz hn => ?_) hE, h1⟩
  refine h.1 z (fun hh => ?_) (fun hb => hne (hs.2 b hbL a haL z hz hb hn)) hn
  subst hh
  obtain ⟨fs, hfs⟩ := hA.self
  rcases hB.bk hz with ⟨-, q⟩ | ⟨n, f, q⟩ <;> (rw [q] at hfs; cases hfs)
theorem Op.sep (h : Op hp hp' a) (hs : Sep hp L) (haL : a ∈ L) (hall : ∀ b ∈ L, ∃ ys, al G hp b ys) (hE : hp' (G.2.2 0) = none) : Sep hp' L := by
  obtain ⟨xs, hA⟩ := hall a haL
  have key : ∀ b ∈ L, b ≠ a → ∀ z, al_b hp' a z → al_b hp' b z → hp' z ≠ none → False := by
    intro b hb hne z hz1 hz2 hn
    obtain ⟨ys, hB⟩ := hall b hb
    rw [al_b.same (h.lst hs haL hb hne hA hB hE).2] at hz2
    have hzn : hp z ≠ none := by
      intro hz0
      rcases hB.bk hz2 with ⟨q, -⟩ | ⟨n, f, q⟩
      · rw [q] at hn; exact hn hE
      · rw [q] at hz0; cases hz0
    rcases h.2 z hz1 with q | q
    · exact hne (hs.2 b hb a haL z hz2 q hzn)
    · exact hzn q
  refine ⟨hs.1, fun c hc b hb z h1 h2 hn => ?_⟩
  by_cases hca : c = a
  · by_cases hba : b = a
    · rw [hca, hba]
    · subst hca; exact (key b hb hba z h1 h2 hn).elim
  · by_cases hba : b = a
    · subst hba; exact (key c hc hca z h2 h1 hn).elim
    · obtain ⟨ys, hB⟩ := hall b hb
      obtain ⟨zs, hC⟩ := hall c hc
      rw [al_b.same (h.lst hs haL hb hba hA hB hE).2] at h2
      rw [al_b.same (h.lst hs haL hc hca hA hC hE).2] at h1
      refine hs.2 c hc b hb z h1 h2 (fun hz0 => ?_)
      rcases hB.bk h2 with ⟨q, -⟩ | ⟨n, f, q⟩
      · rw [q] at hn; exact hn hE
      · rw [q] at hz0; cases hz0
/-- one cell that is no list is written -/
theorem ce_al {z0 : Nat} {e0 : va_E} (hk : ∀ z, z ≠ z0 → hp' z = hp z) (h0 : hp z0 = some e0) (n0 : nl e0) (hE : hp' (G.2.2 0) = none) (h : al G hp a xs) : al G hp' a xs ∧ hp' a = hp a := by
  have q := nl_ne n0 h h0
  exact ⟨h.keep (hk a (Ne.symm q.1)) (fun z hz _ => hk z (fun hh => q.2 (hh ▸ hz))) hE, hk a (Ne.symm q.1)⟩
theorem ce_ro {z0 : Nat} {e0 : va_E} (hk : ∀ z, z ≠ z0 → hp' z = hp z) (h0 : hp z0 = some e0) (n0 : nl e0) (hS : ∀ r, e0 ≠ oS r) (hE : hp' (G.2.2 0) = none) {rs : List R3} (h : ro G hp a rs) : ro G hp' a rs := by
  obtain ⟨sa, h1, h2, h3⟩ := h
  refine ⟨sa, (ce_al hk h0 n0 hE h1).1, h2, fun k r hr => ?_⟩
  obtain ⟨y, q1, q2⟩ := h3 k r hr
  exact ⟨y, q1, (hk y (ad_ne q2 h0 (fun hh => hS r hh.symm))).trans q2⟩
theorem ce_sep {z0 : Nat} {e0 : va_E} (hk : ∀ z, z ≠ z0 → hp' z = hp z) (h0 : hp z0 = some e0) (n0 : nl e0) (hE : hp' (G.2.2 0) = none) (hall : ∀ b ∈ L, ∃ ys, al G hp b ys) (hs : Sep hp L) : Sep hp' L := by
  refine ⟨hs.1, fun c hc b hb z h1 h2 hn => ?_⟩
  obtain ⟨ys, hB⟩ := hall b hb
  obtain ⟨zs, hC⟩ := hall c hc
  rw [al_b.same (ce_al hk h0 n0 hE hB).2] at h2
  rw [al_b.same (ce_al hk h0 n0 hE hC).2] at h1
  refine hs.2 c hc b hb z h1 h2 (fun hz0 => ?_)
  rcases hB.bk h2 with ⟨q, -⟩ | ⟨n, f, q⟩
  · rw [q] at hn; exact hn hE
  · rw [q] at hz0; cases hz0
theorem Op.row (h : Op hp hp' a) (hs : Sep hp L) (haL : a ∈ L) (hbL : b ∈ L) (hne : b ≠ a) (hA : al G hp a xs) (hE : hp' (G.2.2 0) = none) {rs : List R3} (hr : ro G hp b rs) : ro G hp' b rs := by
  obtain ⟨sa, h1, h2, h3⟩ := hr
  refine ⟨sa, (h.lst hs haL hbL hne hA h1 hE).1, h2, fun k r hr => ?_⟩
  obtain ⟨y, q1, q2⟩ := h3 k r hr
  exact ⟨y, q1, h.cell hA q2 trivial⟩
/-- the world has only grown -/
theorem ex_al (hk : ∀ z e, hp z = some e → hp' z = some e) (hE : hp' (G.2.2 0) = none) (h : al G hp a xs) : al G hp' a xs ∧ hp' a = hp a := by
  obtain ⟨fs, hfs⟩ := h.self
  have e1 : hp' a = hp a := by rw [hfs]; exact hk _ _ hfs
  refine ⟨h.keep e1 (fun z _ hn => ?_) hE, e1⟩
  cases hz : hp z with
  | none => exact (hn hz).elim
  | some e => exact hk z e hz
theorem ex_ro (hk : ∀ z e, hp z = some e → hp' z = some e) (hE : hp' (G.2.2 0) = none) {rs : List R3} (h : ro G hp a rs) : ro G hp' a rs := by
  obtain ⟨sa, h1, h2, h3⟩ := h
  refine ⟨sa, (ex_al hk hE h1).1, h2, fun k r hr => ?_⟩
  obtain ⟨y, q1, q2⟩ := h3 k r hr
  exact ⟨y, q1, hk _ _ q2⟩
theorem ex_sep (hk : ∀ z e, hp z = some e → hp' z = some e) (hE : hp' (G.2.2 0) = none) (hall : ∀ b ∈ L, ∃ ys, al G hp b ys) (hs : Sep hp L) : Sep hp' L := by
  refine ⟨hs.1, fun c hc b hb z h1 h2 hn => ?_⟩
  obtain ⟨ys, hB⟩ := hall b hb
  obtain ⟨zs, hC⟩ := hall c hc
  rw [al_b.same (ex_al hk hE hB).2] at h2
  rw [al_b.same (ex_al hk hE hC).2] at h1
  refine hs.2 c hc b hb z h1 h2 (fun hz0 => ?_)
  rcases hB.bk h2 with ⟨q, -⟩ | ⟨n, f, q⟩
  · rw [q] at hn; exact hn hE
  · rw [q] at hz0; cases hz0
/-- a new empty list joins -/
theorem sep_new (hs : Sep hp L) {q : Nat} (hq : q ∉ L) (hb : ∀ z, al_b hp q z → hp z = none) : Sep hp (L ++ [q]) := by
  refine ⟨?_, fun c hc b hb2 z h1 h2 hn => ?_⟩
  · rw [List.nodup_append]
    refine ⟨hs.1, by simp, fun c hc b hb2 => ?_⟩
    rw [List.mem_singleton] at hb2
    exact fun hh => hq (by rw [← hb2, ← hh]; exact hc)
  · rw [List.mem_append, List.mem_singleton] at hc hb2
    rcases hc with hc | rfl
    · rcases hb2 with hb2 | rfl
      · exact hs.2 c hc b hb2 z h1 h2 hn
      · exact (hn (hb z h2)).elim
    · exact (hn (hb z h1)).elim
end REP
/-- foreign cells: the reference's and the law's -/
def fo (gA sA z : Nat) (e : va_E) : Prop := match e with
  | .inr (5, _) => True
  | .inl (_, _, .inl _) => z ≠ gA ∧ z ≠ sA
  | .inl (_, _, .inr (.inl _)) => True
  | _ => False
def fr (gA sA : Nat) (hp hp' : ad_H) : Prop := ∀ z e, hp z = some e → fo gA sA z e → hp' z = some e
theorem fr.rf (gA sA : Nat) (hp : ad_H) : fr gA sA hp hp := fun _ _ h _ => h
theorem fr.tr {gA sA : Nat} {hp hp1 hp2 : ad_H} (h : fr gA sA hp hp1) (h2 : fr gA sA hp1 hp2) : fr gA sA hp hp2 := fun z e hz hf => h2 z e (h z e hz hf) hf
theorem fo.nl {gA sA z : Nat} {e : va_E} (h : fo gA sA z e) : nl e := by
  unfold fo at h
  split at h <;> first | trivial | exact h.elim
theorem Op.frm {G : ad_G} {hp hp' : ad_H} {a : Nat} {xs : List Nat} (h : Op hp hp' a) (ha : al G hp a xs) (gA sA : Nat) : fr gA sA hp hp' := fun z e hz hf => h.cell ha hz (fo.nl hf)
theorem ce_fr {hp hp' : ad_H} {gA sA z0 : Nat} {e0 : va_E} (hk : ∀ z, z ≠ z0 → hp' z = hp z) (h0 : hp z0 = some e0) (n0 : ¬ fo gA sA z0 e0) : fr gA sA hp hp' := fun z e hz hf => by
  rw [hk z (fun hh => by subst hh; cases hz.symm.trans h0; exact n0 hf)]; exact hz
def CR (G : ad_G) (hp : ad_H) (x dA tA lA rA gA sA : Nat) (ta ros : List Nat) (ts : List TH) (la lt rr rw : List Nat) (sd : Int64) (fg fs : Nat → Int32) : Prop :=
  hp x = some (.inr (4, [.ref dA, .ref tA, .ref lA, .ref rA, .ref gA, .ref sA])) ∧ hp dA = some (.inr (0, [.long sd])) ∧
  hp gA = some (.inl (G.2.1 0, 6, .inl fg)) ∧ hp sA = some (.inl (G.2.1 0, 6, .inl fs)) ∧ gA ≠ sA ∧ al G hp tA ta ∧ al G hp lA la ∧ al G hp rA rr ∧ (ta.length = ts.length ∧ ros.length = ts.length) ∧
  (∀ (i : Nat) (t : TH), ts[i]? = some t → ∃ a ra : Nat, ta[i]? = some a ∧ ros[i]? = some ra ∧ hp a = some (oT i t ra) ∧ ro G hp ra t.2.2.2.2) ∧
  Sep hp (tA :: lA :: rA :: ros) ∧ lk ta la lt ∧ lk ta rr rw ∧ hp (G.2.2 0) = none ∧ ts.length ≤ 64
section CRS
variable {G : ad_G} {hp hp' : ad_H} {x dA tA lA rA gA sA : Nat} {ta ros : List Nat} {ts : List TH} {la lt rr rw : List Nat} {sd : Int64} {fg fs : Nat → Int32}
theorem CR.hX (C : CR G hp x dA tA lA rA gA sA ta ros ts la lt rr rw sd fg fs) : hp x = some (.inr (4, [.ref dA, .ref tA, .ref lA, .ref rA, .ref gA, .ref sA])) := C.1
theorem CR.hD (C : CR G hp x dA tA lA rA gA sA ta ros ts la lt rr rw sd fg fs) : hp dA = some (.inr (0, [.long sd])) := C.2.1
theorem CR.hg (C : CR G hp x dA tA lA rA gA sA ta ros ts la lt rr rw sd fg fs) : hp gA = some (.inl (G.2.1 0, 6, .inl fg)) := C.2.2.1
theorem CR.hs (C : CR G hp x dA tA lA rA gA sA ta ros ts la lt rr rw sd fg fs) : hp sA = some (.inl (G.2.1 0, 6, .inl fs)) := C.2.2.2.1
theorem CR.hA (C : CR G hp x dA tA lA rA gA sA ta ros ts la lt rr rw sd fg fs) : al G hp tA ta := C.2.2.2.2.2.1
theorem CR.hLa (C : CR G hp x dA tA lA rA gA sA ta ros ts la lt rr rw sd fg fs) : al G hp lA la := C.2.2.2.2.2.2.1
theorem CR.hRr (C : CR G hp x dA tA lA rA gA sA ta ros ts la lt rr rw sd fg fs) : al G hp rA rr := C.2.2.2.2.2.2.2.1
theorem CR.hn (C : CR G hp x dA tA lA rA gA sA ta ros ts la lt rr rw sd fg fs) : ts.length ≤ 64 := C.2.2.2.2.2.2.2.2.2.2.2.2.2.2
theorem CR.lkl (C : CR G hp x dA tA lA rA gA sA ta ros ts la lt rr rw sd fg fs) : lk ta la lt := C.2.2.2.2.2.2.2.2.2.2.2.1
theorem CR.lkr (C : CR G hp x dA tA lA rA gA sA ta ros ts la lt rr rw sd fg fs) : lk ta rr rw := C.2.2.2.2.2.2.2.2.2.2.2.2.1
theorem CR.th (C : CR G hp x dA tA lA rA gA sA ta ros ts la lt rr rw sd fg fs) {i : Nat} {t : TH} (h : ts[i]? = some t) : ∃ a ra : Nat, ta[i]? = some a ∧ ros[i]? = some ra ∧ hp a = some (oT i t ra) ∧ ro G hp ra t.2.2.2.2 := C.2.2.2.2.2.2.2.2.2.1 i t h
theorem CR.htt (C : CR G hp x dA tA lA rA gA sA ta ros ts la lt rr rw sd fg fs) : tt hp ta ts := ⟨C.2.2.2.2.2.2.2.2.1.1, fun i t h => by obtain ⟨a, ra, h1, h2, h3, h4⟩ := C.th h; exact ⟨a, ra, h1, h3⟩⟩
/-- the thing of an address among the things -/
theorem CR.ty (C : CR G hp x dA tA lA rA gA sA ta ros ts la lt rr rw sd fg fs) {i y : Nat} (h : ta[i]? = some y) : ∃ (t : TH) (ra : Nat), ts[i]? = some t ∧ ros[i]? = some ra ∧ hp y = some (oT i t ra) ∧ ro G hp ra t.2.2.2.2 := by
  have hi : i < ts.length := by rw [← C.htt.1]; exact (List.getElem?_eq_some_iff.mp h).1
  have ht : ts[i]? = some ts[i] := List.getElem?_eq_getElem hi
  obtain ⟨a, ra, h1, h2, h3, h4⟩ := C.th ht
  cases h.symm.trans h1
  exact ⟨_, ra, ht, h2, h3, h4⟩
theorem CR.lx (C : CR G hp x dA tA lA rA gA sA ta ros ts la lt rr rw sd fg fs) {xs ws : List Nat} (h : lk ta xs ws) {y : Nat} (hy : y ∈ xs) : ∃ vs, hp y = some (.inr (1, vs)) := by
  obtain ⟨j, hj, e⟩ := List.getElem_of_mem hy
  have h1 : ws[j]? = some (ws[j]'(by rw [← h.1]; exact hj)) := List.getElem?_eq_getElem _
  obtain ⟨y', h2, h3⟩ := h.2 j _ h1
  have h4 : xs[j]? = some y := by rw [List.getElem?_eq_getElem hj, e]
  cases h4.symm.trans h2
  obtain ⟨t, ra, -, -, h5, -⟩ := C.ty h3
  exact ⟨_, h5⟩
theorem CR.hll (C : CR G hp x dA tA lA rA gA sA ta ros ts la lt rr rw sd fg fs) : ll hp la lt ts := ⟨C.lkl.1, fun j i h => by
  obtain ⟨y, h1, h2⟩ := C.lkl.2 j i h
  obtain ⟨t, ra, h3, -, h4, -⟩ := C.ty h2
  exact ⟨t, y, ra, h1, h3, h4⟩⟩
theorem CR.sp (C : CR G hp x dA tA lA rA gA sA ta ros ts la lt rr rw sd fg fs) : Sep hp (tA :: lA :: rA :: ros) := C.2.2.2.2.2.2.2.2.2.2.1
theorem CR.all (C : CR G hp x dA tA lA rA gA sA ta ros ts la lt rr rw sd fg fs) : ∀ b ∈ tA :: lA :: rA :: ros, ∃ ys, al G hp b ys := by
  intro b hb
  simp only [List.mem_cons] at hb
  rcases hb with rfl | rfl | rfl | hb
  · exact ⟨_, C.hA⟩
  · exact ⟨_, C.hLa⟩
  · exact ⟨_, C.hRr⟩
  · obtain ⟨i, hi, e⟩ := List.getElem_of_mem hb
    have hi2 : i < ts.length := by rw [← C.2.2.2.2.2.2.2.2.1.2]; exact hi
    obtain ⟨a, ra, h1, h2, h3, sa, h4, -⟩ := C.th (List.getElem?_eq_getElem hi2)
    have h5 : ros[i]? = some b := by rw [List.getElem?_eq_getElem hi, e]
    cases h5.symm.trans h2
    exact ⟨_, h4⟩
/-- one cell that is no list is written: the lists stand -/
theorem CR.ce (C : CR G hp x dA tA lA rA gA sA ta ros ts la lt rr rw sd fg fs) {z0 : Nat} {e0 : va_E} (hk : ∀ z, z ≠ z0 → hp' z = hp z) (h0 : hp z0 = some e0) (n0 : nl e0) (hS : ∀ r, e0 ≠ oS r) (hE : hp' (G.2.2 0) = none) :
    al G hp' tA ta ∧ al G hp' lA la ∧ al G hp' rA rr ∧ (∀ ra rs, ro G hp ra rs → ro G hp' ra rs) ∧ Sep hp' (tA :: lA :: rA :: ros) :=
  ⟨(ce_al hk h0 n0 hE C.hA).1, (ce_al hk h0 n0 hE C.hLa).1, (ce_al hk h0 n0 hE C.hRr).1, fun _ _ h => ce_ro hk h0 n0 hS hE h, ce_sep hk h0 n0 hE C.all C.sp⟩
theorem CR.draw (C : CR G hp x dA tA lA rA gA sA ta ros ts la lt rr rw sd fg fs) {sd' : Int64} (hk : ∀ z, z ≠ dA → hp' z = hp z) (h1 : hp' dA = some (.inr (0, [.long sd']))) (hE : hp' (G.2.2 0) = none) : CR G hp' x dA tA lA rA gA sA ta ros ts la lt rr rw sd' fg fs ∧ fr gA sA hp hp' := by
  obtain ⟨b1, b2, b3, b4, b5⟩ := C.ce hk C.hD trivial (fun r => by simp) hE
  refine ⟨⟨(hk x (ad_ne C.hX C.hD (by simp))).trans C.hX, h1, (hk gA (ad_ne C.hg C.hD (by simp))).trans C.hg, (hk sA (ad_ne C.hs C.hD (by simp))).trans C.hs, C.2.2.2.2.1, b1, b2, b3, C.2.2.2.2.2.2.2.2.1, fun i t ht => ?_, b5, C.lkl, C.lkr, hE, C.hn⟩, ce_fr hk C.hD (fun h => h)⟩
  obtain ⟨a, ra, q1, q2, q3, q4⟩ := C.th ht
  exact ⟨a, ra, q1, q2, (hk a (ad_ne q3 C.hD (by simp))).trans q3, b4 _ _ q4⟩
theorem CR.give (C : CR G hp x dA tA lA rA gA sA ta ros ts la lt rr rw sd fg fs) {fg' : Nat → Int32} (hk : ∀ z, z ≠ gA → hp' z = hp z) (h1 : hp' gA = some (.inl (G.2.1 0, 6, .inl fg'))) (hE : hp' (G.2.2 0) = none) : CR G hp' x dA tA lA rA gA sA ta ros ts la lt rr rw sd fg' fs ∧ fr gA sA hp hp' := by
  obtain ⟨b1, b2, b3, b4, b5⟩ := C.ce hk C.hg trivial (fun r => by simp) hE
  refine ⟨⟨(hk x (ad_ne C.hX C.hg (by simp))).trans C.hX, (hk dA (ad_ne C.hD C.hg (by simp))).trans C.hD, h1, (hk sA (Ne.symm C.2.2.2.2.1)).trans C.hs, C.2.2.2.2.1, b1, b2, b3, C.2.2.2.2.2.2.2.2.1, fun i t ht => ?_, b5, C.lkl, C.lkr, hE, C.hn⟩, ce_fr hk C.hg (fun h => h.1 rfl)⟩
  obtain ⟨a, ra, q1, q2, q3, q4⟩ := C.th ht
  exact ⟨a, ra, q1, q2, (hk a (ad_ne q3 C.hg (by simp))).trans q3, b4 _ _ q4⟩
theorem CR.rest (C : CR G hp x dA tA lA rA gA sA ta ros ts la lt rr rw sd fg fs) {fs' : Nat → Int32} (hk : ∀ z, z ≠ sA → hp' z = hp z) (h1 : hp' sA = some (.inl (G.2.1 0, 6, .inl fs'))) (hE : hp' (G.2.2 0) = none) : CR G hp' x dA tA lA rA gA sA ta ros ts la lt rr rw sd fg fs' ∧ fr gA sA hp hp' := by
  obtain ⟨b1, b2, b3, b4, b5⟩ := C.ce hk C.hs trivial (fun r => by simp) hE
  refine ⟨⟨(hk x (ad_ne C.hX C.hs (by simp))).trans C.hX, (hk dA (ad_ne C.hD C.hs (by simp))).trans C.hD, (hk gA C.2.2.2.2.1).trans C.hg, h1, C.2.2.2.2.1, b1, b2, b3, C.2.2.2.2.2.2.2.2.1, fun i t ht => ?_, b5, C.lkl, C.lkr, hE, C.hn⟩, ce_fr hk C.hs (fun h => h.2 rfl)⟩
  obtain ⟨a, ra, q1, q2, q3, q4⟩ := C.th ht
  exact ⟨a, ra, q1, q2, (hk a (ad_ne q3 C.hs (by simp))).trans q3, b4 _ _ q4⟩
/-- a thing is written -/
theorem CR.thing (C : CR G hp x dA tA lA rA gA sA ta ros ts la lt rr rw sd fg fs) {j y ra : Nat} {t t' : TH} (ht : ts[j]? = some t) (hy : ta[j]? = some y) (hty : hp y = some (oT j t ra)) (hr : t'.2.2.2.2 = t.2.2.2.2) (hk : ∀ z, z ≠ y → hp' z = hp z) (h1 : hp' y = some (oT j t' ra)) (hE : hp' (G.2.2 0) = none) : CR G hp' x dA tA lA rA gA sA ta ros (ts.set j t') la lt rr rw sd fg fs ∧ fr gA sA hp hp' := by
  obtain ⟨b1, b2, b3, b4, b5⟩ := C.ce hk hty trivial (fun r => by simp) hE
  have hjl : j < ts.length := (List.getElem?_eq_some_iff.mp ht).1
  refine ⟨⟨(hk x (ad_ne C.hX hty (by simp))).trans C.hX, (hk dA (ad_ne C.hD hty (by simp))).trans C.hD, (hk gA (ad_ne C.hg hty (by simp))).trans C.hg, (hk sA (ad_ne C.hs hty (by simp))).trans C.hs, C.2.2.2.2.1, b1, b2, b3, by rw [List.length_set]; exact C.2.2.2.2.2.2.2.2.1, fun i t2 ht2 => ?_, b5, C.lkl, C.lkr, hE, by rw [List.length_set]; exact C.hn⟩, ce_fr hk hty (fun h => h)⟩
  by_cases hij : i = j
  · subst hij
    rw [List.getElem?_set_self hjl] at ht2
    cases ht2
    obtain ⟨a, ra', q1, q2, q3, q4⟩ := C.th ht
    cases hy.symm.trans q1
    have hra : ra' = ra := by
      have := hty.symm.trans q3
      simp at this
      exact this.symm
    subst hra
    exact ⟨_, ra', q1, q2, h1, by rw [hr]; exact b4 _ _ q4⟩
  · rw [List.getElem?_set_ne (Ne.symm hij)] at ht2
    obtain ⟨a, ra', q1, q2, q3, q4⟩ := C.th ht2
    have hn := C.hn
    have hil : i < ts.length := (List.getElem?_eq_some_iff.mp ht2).1
    refine ⟨a, ra', q1, q2, (hk a (ad_ne q3 hty (fun hh => hij ?_))).trans q3, b4 _ _ q4⟩
    simp at hh
    exact (nI_eq (by omega) (by omega)).mp hh.1
theorem CR.nd (C : CR G hp x dA tA lA rA gA sA ta ros ts la lt rr rw sd fg fs) : (tA ≠ lA ∧ tA ≠ rA ∧ lA ≠ rA) ∧ ∀ ra ∈ ros, ra ≠ tA ∧ ra ≠ lA ∧ ra ≠ rA := by
  have h := C.sp.1
  simp only [List.nodup_cons, List.mem_cons, not_or] at h
  obtain ⟨⟨h1, h2, h3⟩, ⟨h4, h5⟩, h6, -⟩ := h
  exact ⟨⟨h1, h2, h4⟩, fun ra hra => ⟨fun hh => h3 (hh ▸ hra), fun hh => h5 (hh ▸ hra), fun hh => h6 (hh ▸ hra)⟩⟩
/-- the latest list has changed -/
theorem CR.opL (C : CR G hp x dA tA lA rA gA sA ta ros ts la lt rr rw sd fg fs) {la' lt' : List Nat} (h : Op hp hp' lA) (h1 : al G hp' lA la') (hE : hp' (G.2.2 0) = none) (hl : lk ta la' lt') : CR G hp' x dA tA lA rA gA sA ta ros ts la' lt' rr rw sd fg fs ∧ fr gA sA hp hp' := by
  obtain ⟨⟨n1, n2, n3⟩, n4⟩ := C.nd
  refine ⟨⟨h.cell C.hLa C.hX trivial, h.cell C.hLa C.hD trivial, h.cell C.hLa C.hg trivial, h.cell C.hLa C.hs trivial, C.2.2.2.2.1, (h.lst C.sp (by simp) (by simp) n1 C.hLa C.hA hE).1, h1, (h.lst C.sp (by simp) (by simp) (Ne.symm n3) C.hLa C.hRr hE).1, C.2.2.2.2.2.2.2.2.1, fun i t ht => ?_, h.sep C.sp (by simp) C.all hE, hl, C.lkr, hE, C.hn⟩, h.frm C.hLa gA sA⟩
  obtain ⟨a, ra, q1, q2, q3, q4⟩ := C.th ht
  have hm : ra ∈ ros := List.mem_of_getElem? q2
  exact ⟨a, ra, q1, q2, h.cell C.hLa q3 trivial, h.row C.sp (by simp) (by simp [hm]) (n4 ra hm).2.1 C.hLa hE q4⟩
theorem CR.opR (C : CR G hp x dA tA lA rA gA sA ta ros ts la lt rr rw sd fg fs) {rr' rw' : List Nat} (h : Op hp hp' rA) (h1 : al G hp' rA rr') (hE : hp' (G.2.2 0) = none) (hl : lk ta rr' rw') : CR G hp' x dA tA lA rA gA sA ta ros ts la lt rr' rw' sd fg fs ∧ fr gA sA hp hp' := by
  obtain ⟨⟨n1, n2, n3⟩, n4⟩ := C.nd
  refine ⟨⟨h.cell C.hRr C.hX trivial, h.cell C.hRr C.hD trivial, h.cell C.hRr C.hg trivial, h.cell C.hRr C.hs trivial, C.2.2.2.2.1, (h.lst C.sp (by simp) (by simp) n2 C.hRr C.hA hE).1, (h.lst C.sp (by simp) (by simp) n3 C.hRr C.hLa hE).1, h1, C.2.2.2.2.2.2.2.2.1, fun i t ht => ?_, h.sep C.sp (by simp) C.all hE, C.lkl, hl, hE, C.hn⟩, h.frm C.hRr gA sA⟩
  obtain ⟨a, ra, q1, q2, q3, q4⟩ := C.th ht
  have hm : ra ∈ ros := List.mem_of_getElem? q2
  exact ⟨a, ra, q1, q2, h.cell C.hRr q3 trivial, h.row C.sp (by simp) (by simp [hm]) (n4 ra hm).2.2 C.hRr hE q4⟩
theorem lk.nil (ta : List Nat) : lk ta [] [] := ⟨rfl, fun j i h => by simp at h⟩
theorem lk.app {ta xs ws : List Nat} (h : lk ta xs ws) {i y : Nat} (hy : ta[i]? = some y) : lk ta (xs ++ [y]) (ws ++ [i]) := by
  refine ⟨by simp [h.1], fun j k hk => ?_⟩
  rw [List.getElem?_append] at hk ⊢
  by_cases hj : j < ws.length
  · rw [if_pos hj] at hk
    rw [h.1, if_pos hj]
    exact h.2 j k hk
  · rw [if_neg hj] at hk
    rw [h.1, if_neg hj]
    have : j - ws.length = 0 := by
      have := (List.getElem?_eq_some_iff.mp hk).1
      simp at this; omega
    rw [this] at hk ⊢
    simp at hk
    subst hk
    exact ⟨y, rfl, hy⟩
theorem lk.set {ta xs ws : List Nat} (h : lk ta xs ws) {k i y : Nat} (hy : ta[i]? = some y) : lk ta (xs.set k y) (ws.set k i) := by
  refine ⟨by simp [h.1], fun j m hm => ?_⟩
  by_cases hjk : k = j
  · subst hjk
    have hk : k < ws.length := by
      have := (List.getElem?_eq_some_iff.mp hm).1
      simpa using this
    rw [List.getElem?_set_self hk] at hm
    cases hm
    exact ⟨y, List.getElem?_set_self (by rw [h.1]; exact hk), hy⟩
  · rw [List.getElem?_set_ne hjk] at hm ⊢
    exact h.2 j m hm
end CRS
end
section
theorem q_j {ts : List TH} {v : Int32} {j : Nat} {t : TH} (hv : v = nI j) (h : ts[j]? = some t) (hn : ts.length ≤ 64) : v.toNatClampNeg = j := by
  have hj : j < ts.length := (List.getElem?_eq_some_iff.mp h).1
  rw [hv]
  exact nI_clamp (by omega)
abbrev th_s (t : TH) (v : Int32) : TH := (t.1, t.2.1, v, t.2.2.2.1, t.2.2.2.2)
def q_ck (ts : List TH) (v a0 b0 p0 : Int32) : (Nat × Int32) × List TH := match sp_at ts v with
  | none => ((1, 0), ts)
  | some t => if okb a0 10 ∧ okb b0 10 ∧ okb p0 16 then (if t.2.2.1 = -1 then ((2, 0), ts) else if a0 = b0 then ((0, 2), ts) else if t.2.1 = p0 then ((0, 0), ts.set v.toNatClampNeg (th_s t 1)) else ((0, 1), ts.set v.toNatClampNeg (t.1, p0, 2, t.2.2.2.1, t.2.2.2.2))) else ((1, 0), ts)
def q_gn (ts : List TH) (v : Int32) : (Nat × Int32) × List TH := match sp_at ts v with
  | none => ((1, 0), ts)
  | some t => if t.2.2.1 = -1 then ((2, 0), ts) else ((0, if t.2.2.1 = 3 then 0 else 1), ts.set v.toNatClampNeg (th_s t 3))
def sp_abs (x : Int32) : Int32 := if 0 ≤ x then x else 0 - x
def q_wt (ts : List TH) (v g0 : Int32) : (Nat × Int32) × List TH := match sp_at ts v with
  | none => ((1, 0), ts)
  | some t => if g0 < 1 ∨ ¬ g0 ≤ 1000000000 then ((2, 0), ts) else ((0, sp_abs (g0 - if t.2.2.2.1 = 0 then g0 else t.2.2.2.1)), ts.set v.toNatClampNeg (t.1, t.2.1, t.2.2.1, g0, t.2.2.2.2))
def q_th (ts : List TH) (s0 p0 : Int32) : (Nat × Int32) × List TH := if okb s0 6 ∧ okb p0 16 then (if ts.length < 64 then ((0, nI ts.length), ts ++ [(s0, p0, -1, 0, [])]) else ((2, 0), ts)) else ((1, 0), ts)
def q_tg (ts : List TH) (v h0 p0 d0 : Int32) : (Nat × Int32) × List TH := match sp_at ts v with
  | none => ((1, 0), ts)
  | some t => if okb p0 16 then (if okh h0 ∧ okh d0 ∧ ¬ d0 < h0 then (if t.2.2.2.2.length < 24 then ((0, nI (t.2.2.2.2.length + 1)), ts.set v.toNatClampNeg (t.1, t.2.1, t.2.2.1, t.2.2.2.1, t.2.2.2.2 ++ [(h0, p0, d0)])) else ((3, 0), ts)) else ((2, 0), ts)) else ((1, 0), ts)
set_option maxHeartbeats 4000000 in
set_option maxRecDepth 100000 in
theorem c_A_check (l : Launch) (G : ad_G) (lo : Nat) (hp : ad_H) (x dA tA lA rA gA sA : Nat) (ta ros : List Nat) (ts : List TH) (la lt rr rw : List Nat) (sd : Int64) (fg fs : Nat → Int32) (v a0 b0 p0 : Int32)  (hT : l.stackTraces = false) (C : CR G hp x dA tA lA rA gA sA ta ros ts la lt rr rw sd fg fs) : ad_Ct l y_A_check b_A_check 6 rt_A_check hs_A_check 8 1 6 G lo hp [.ref x, .int v, .int a0, .int b0, .int p0] (fun r hp' => r = q_ans [ad_NSE, ad_ISE] (q_ck ts v a0 b0 p0).1 ∧ CR G hp' x dA tA lA rA gA sA ta ros ((q_ck ts v a0 b0 p0).2) la lt rr rw sd fg fs ∧ fr gA sA hp hp') := by
  intro p e s m below meth c M hts hB hP
  have hx := M.1
  have hb := M.2.1
  have hml := M.2.2.1
  have hown : s.vm.findClass "AuditDraws" = some m.cls := M.2.2.2.1
  have S : CallFix p m c b_A_check 6 s _ ad_T "AuditDraws" := ⟨hx, hb, hml, hown, hts⟩
  have I : ad_I G lo s hp s.heap [] := ad_I.rf hB hP
  have hl := lv_entry ([.ref x, .int v, .int a0, .int b0, .int p0]) (n := 6) (Nat.le_of_ble_eq_true rfl)
  rw [lg_entry_eq]
  generalize (lg_sl ([.ref x, .int v, .int a0, .int b0, .int p0]) ++ List.replicate (6 - (lg_sl ([.ref x, .int v, .int a0, .int b0, .int p0])).length) Slot.unset).toArray = ls at hl ⊢
  have hl : lv_has ls 6 [(0, .ref x), (1, .int v), (2, .int a0), (3, .int b0), (4, .int p0)] := hl
  have hX := C.hX
  have hL := C.hA
  have hTT := C.htt
  have hn := C.hn
  have hD := C.hD
  obtain ⟨_, htA⟩ := C.hA.self
  refine lv_aload_n hx hb d_A_check_0 rfl (lv_at hl 0 rfl) ?_
  refine lv_iload_n hx hb d_A_check_1 rfl (lv_at hl 1 rfl) ?_
  refine ad_cP S I (ad_ivV (As := [.int v]) (rest := []) S (ad_recv I hX K_AD) w_374 w_376 sp_A_existing Y_A_existing ⟨by decide, by decide, np_A_existing⟩ rfl d_A_check_2) (c_A_existing l G lo hp x dA tA lA rA gA sA v ta ts hT hX hL hTT hn) Y_A_existing hl.1 ⟨Nat.le_of_ble_eq_true rfl, Nat.le_of_ble_eq_true rfl⟩ (Nat.le_of_ble_eq_true rfl) (Nat.le_of_ble_eq_true rfl) d_A_check_2 (fun v9 h9 => ?_) (fun C9 H1 x9 cell h9 h1 h2 h3 h4 h5 => ?_)
  · obtain ⟨j, t, y, ra, hv, ht, hy, hty, hr9⟩ | ⟨-, hr9⟩ := h9
    case inr => cases hr9
    cases hr9
    refine lv_astore (lv' := [(5, .ref y), (0, .ref x), (1, .int v), (2, .int a0), (3, .int b0), (4, .int p0)]) hx hb d_A_check_5 hl (by decide) rfl (fun ls hl => ?_)
    refine lv_iload_n hx hb d_A_check_7 rfl (lv_at hl 3 rfl) ?_
    refine lv_bipush (v := 10) hx hb d_A_check_8 (by decide) ?_
    refine ad_cPg S I (ad_ivS (As := [.int a0, .int 10]) (rest := []) S Y_A_needBelow w_100 w_101 w_1 ⟨by decide, by decide, np_A_needBelow⟩ rfl d_A_check_10) (c_A_needBelow l G lo hp a0 10 hT) Y_A_needBelow hl.1 ⟨Nat.le_of_ble_eq_true rfl, Nat.le_of_ble_eq_true rfl⟩ (Nat.le_of_ble_eq_true rfl) (Nat.le_of_ble_eq_true rfl) d_A_check_10 (fun g10 => ?_) (fun g10 H1 x cell h1 h2 h3 h4 h5 => ?_)
    · refine lv_iload_n hx hb d_A_check_13 rfl (lv_at hl 4 rfl) ?_
      refine lv_bipush (v := 10) hx hb d_A_check_14 (by decide) ?_
      refine ad_cPg S I (ad_ivS (As := [.int b0, .int 10]) (rest := []) S Y_A_needBelow w_100 w_101 w_1 ⟨by decide, by decide, np_A_needBelow⟩ rfl d_A_check_16) (c_A_needBelow l G lo hp b0 10 hT) Y_A_needBelow hl.1 ⟨Nat.le_of_ble_eq_true rfl, Nat.le_of_ble_eq_true rfl⟩ (Nat.le_of_ble_eq_true rfl) (Nat.le_of_ble_eq_true rfl) d_A_check_16 (fun g16 => ?_) (fun g16 H1 x cell h1 h2 h3 h4 h5 => ?_)
      · refine lv_iload hx hb d_A_check_19 (lv_at hl 5 rfl) ?_
        refine lv_bipush (v := 16) hx hb d_A_check_21 (by decide) ?_
        refine ad_cPg S I (ad_ivS (As := [.int p0, .int 16]) (rest := []) S Y_A_needBelow w_100 w_101 w_1 ⟨by decide, by decide, np_A_needBelow⟩ rfl d_A_check_23) (c_A_needBelow l G lo hp p0 16 hT) Y_A_needBelow hl.1 ⟨Nat.le_of_ble_eq_true rfl, Nat.le_of_ble_eq_true rfl⟩ (Nat.le_of_ble_eq_true rfl) (Nat.le_of_ble_eq_true rfl) d_A_check_23 (fun g23 => ?_) (fun g23 H1 x cell h1 h2 h3 h4 h5 => ?_)
        · refine lv_aload hx hb d_A_check_26 (lv_at hl 0 rfl) ?_
          refine ad_cPg S I (ad_ivS (As := [.ref y]) (rest := []) S Y_A_needListed w_378 w_379 w_1 ⟨by decide, by decide, np_A_needListed⟩ rfl d_A_check_28) (c_A_needListed l G lo hp j t y ra hT hty) Y_A_needListed hl.1 ⟨Nat.le_of_ble_eq_true rfl, Nat.le_of_ble_eq_true rfl⟩ (Nat.le_of_ble_eq_true rfl) (Nat.le_of_ble_eq_true rfl) d_A_check_28 (fun g28 => ?_) (fun g28 H1 x cell h1 h2 h3 h4 h5 => ?_)
          · refine lv_iload_n hx hb d_A_check_31 rfl (lv_at hl 3 rfl) ?_
            refine lv_iload_n hx hb d_A_check_32 rfl (lv_at hl 4 rfl) ?_
            refine lv_icmp_ne (tgt := 38) hx hb d_A_check_33 (by decide) (fun c33 => ?_) (fun c33 => ?_)
            · refine lv_aload hx hb d_A_check_38 (lv_at hl 0 rfl) ?_
              refine ad_get S I hty K_Thing 3 (by decide) w_206 rfl d_A_check_40 ?_
              refine lv_iload hx hb d_A_check_43 (lv_at hl 5 rfl) ?_
              refine lv_icmp_ne (tgt := 56) hx hb d_A_check_45 (by decide) (fun c45 => ?_) (fun c45 => ?_)
              · refine lv_aload hx hb d_A_check_56 (lv_at hl 0 rfl) ?_
                refine lv_iconst (v := 2) hx hb d_A_check_58 (by decide) ?_
                refine ad_put S I hty K_Thing 4 (by decide) w_208 rfl rfl rfl (by simp) d_A_check_59 (fun H1 locs1 I => ?_)
                obtain ⟨hp1, ehp1⟩ : ∃ z : ad_H, z = ad_up hp y (.inr (1, [.int (nI j), .int t.1, .ref ra, .int t.2.1, .int 2, .int t.2.2.2.1])) := ⟨_, rfl⟩
                have I : ad_I G lo s hp1 H1 locs1 := by rw [ehp1]; exact I
                have fhp1_x := (show hp1 x = hp x by rw [ehp1]; exact ad_up_n _ (ad_ne hX hty (by simp))).trans hX
                have fhp1_tA := (show hp1 tA = hp tA by rw [ehp1]; exact ad_up_n _ (ad_ne htA hty (by simp))).trans htA
                have fhp1_dA := (show hp1 dA = hp dA by rw [ehp1]; exact ad_up_n _ (ad_ne hD hty (by simp))).trans hD
                have fhp1_y : hp1 y = some (.inr (1, [.int (nI j), .int t.1, .ref ra, .int t.2.1, .int 2, .int t.2.2.2.1])) := by rw [ehp1]; exact ad_up_s _ _ _
                refine lv_aload hx hb d_A_check_62 (lv_at hl 0 rfl) ?_
                refine lv_iload hx hb d_A_check_64 (lv_at hl 5 rfl) ?_
                refine ad_put S I fhp1_y K_Thing 3 (by decide) w_206 rfl rfl rfl (by simp) d_A_check_66 (fun H1 locs1 I => ?_)
                obtain ⟨hp2, ehp2⟩ : ∃ z : ad_H, z = ad_up hp1 y (.inr (1, [.int (nI j), .int t.1, .ref ra, .int p0, .int 2, .int t.2.2.2.1])) := ⟨_, rfl⟩
                have I : ad_I G lo s hp2 H1 locs1 := by rw [ehp2]; exact I
                have fhp2_x := (show hp2 x = hp1 x by rw [ehp2]; exact ad_up_n _ (ad_ne fhp1_x fhp1_y (by simp))).trans fhp1_x
                have fhp2_tA := (show hp2 tA = hp1 tA by rw [ehp2]; exact ad_up_n _ (ad_ne fhp1_tA fhp1_y (by simp))).trans fhp1_tA
                have fhp2_dA := (show hp2 dA = hp1 dA by rw [ehp2]; exact ad_up_n _ (ad_ne fhp1_dA fhp1_y (by simp))).trans fhp1_dA
                have fhp2_y : hp2 y = some (.inr (1, [.int (nI j), .int t.1, .ref ra, .int p0, .int 2, .int t.2.2.2.1])) := by rw [ehp2]; exact ad_up_s _ _ _
                refine lv_iconst (v := 1) hx hb d_A_check_69 (by decide) ?_
                exact ad_iret M I rfl (by omega) (by omega) (⟨by rw [(show q_ck ts v a0 b0 p0 = ((0, 1), ts.set j (t.1, p0, 2, t.2.2.2.1, t.2.2.2.2)) by simp only [q_ck]; rw [sp_at_n hv ht hn]; simp only; rw [if_pos ⟨g10, g16, g23⟩, if_neg g28, if_neg c33, if_neg c45, q_j hv ht hn])]; rfl, by rw [(show q_ck ts v a0 b0 p0 = ((0, 1), ts.set j (t.1, p0, 2, t.2.2.2.1, t.2.2.2.2)) by simp only [q_ck]; rw [sp_at_n hv ht hn]; simp only; rw [if_pos ⟨g10, g16, g23⟩, if_neg g28, if_neg c33, if_neg c45, q_j hv ht hn])]; exact (C.thing (t' := (t.1, p0, 2, t.2.2.2.1, t.2.2.2.2)) ht hy hty rfl (fun z hz => by rw [ehp2, ad_up_n _ hz, ehp1, ad_up_n _ hz]) fhp2_y (ad_I.e I)).1, (C.thing (t' := (t.1, p0, 2, t.2.2.2.1, t.2.2.2.2)) ht hy hty rfl (fun z hz => by rw [ehp2, ad_up_n _ hz, ehp1, ad_up_n _ hz]) fhp2_y (ad_I.e I)).2⟩) d_A_check_70
              · refine lv_aload hx hb d_A_check_48 (lv_at hl 0 rfl) ?_
                refine lv_iconst (v := 1) hx hb d_A_check_50 (by decide) ?_
                refine ad_put S I hty K_Thing 4 (by decide) w_208 rfl rfl rfl (by simp) d_A_check_51 (fun H1 locs1 I => ?_)
                obtain ⟨hp3, ehp3⟩ : ∃ z : ad_H, z = ad_up hp y (.inr (1, [.int (nI j), .int t.1, .ref ra, .int t.2.1, .int 1, .int t.2.2.2.1])) := ⟨_, rfl⟩
                have I : ad_I G lo s hp3 H1 locs1 := by rw [ehp3]; exact I
                have fhp3_x := (show hp3 x = hp x by rw [ehp3]; exact ad_up_n _ (ad_ne hX hty (by simp))).trans hX
                have fhp3_tA := (show hp3 tA = hp tA by rw [ehp3]; exact ad_up_n _ (ad_ne htA hty (by simp))).trans htA
                have fhp3_dA := (show hp3 dA = hp dA by rw [ehp3]; exact ad_up_n _ (ad_ne hD hty (by simp))).trans hD
                have fhp3_y : hp3 y = some (.inr (1, [.int (nI j), .int t.1, .ref ra, .int t.2.1, .int 1, .int t.2.2.2.1])) := by rw [ehp3]; exact ad_up_s _ _ _
                refine lv_iconst (v := 0) hx hb d_A_check_54 (by decide) ?_
                exact ad_iret M I rfl (by omega) (by omega) (⟨by rw [(show q_ck ts v a0 b0 p0 = ((0, 0), ts.set j (th_s t 1)) by simp only [q_ck]; rw [sp_at_n hv ht hn]; simp only; rw [if_pos ⟨g10, g16, g23⟩, if_neg g28, if_neg c33, if_pos c45, q_j hv ht hn])]; rfl, by rw [(show q_ck ts v a0 b0 p0 = ((0, 0), ts.set j (th_s t 1)) by simp only [q_ck]; rw [sp_at_n hv ht hn]; simp only; rw [if_pos ⟨g10, g16, g23⟩, if_neg g28, if_neg c33, if_pos c45, q_j hv ht hn])]; exact (C.thing (t' := th_s t 1) ht hy hty rfl (fun z hz => by rw [ehp3, ad_up_n _ hz]) fhp3_y (ad_I.e I)).1, (C.thing (t' := th_s t 1) ht hy hty rfl (fun z hz => by rw [ehp3, ad_up_n _ hz]) fhp3_y (ad_I.e I)).2⟩) d_A_check_55
            · refine lv_iconst (v := 2) hx hb d_A_check_36 (by decide) ?_
              exact ad_iret M I rfl (by omega) (by omega) (⟨by rw [(show q_ck ts v a0 b0 p0 = ((0, 2), ts) by simp only [q_ck]; rw [sp_at_n hv ht hn]; simp only; rw [if_pos ⟨g10, g16, g23⟩, if_neg g28, if_pos c33])]; rfl, by rw [(show q_ck ts v a0 b0 p0 = ((0, 2), ts) by simp only [q_ck]; rw [sp_at_n hv ht hn]; simp only; rw [if_pos ⟨g10, g16, g23⟩, if_neg g28, if_pos c33])]; exact C, fr.rf _ _ _⟩) d_A_check_37
          · exact ad_out M (I.grown h1 h2) h3 h4 h5 (by decide) (by decide) (by decide) (⟨by rw [(show q_ck ts v a0 b0 p0 = ((2, 0), ts) by simp only [q_ck]; rw [sp_at_n hv ht hn]; simp only; rw [if_pos ⟨g10, g16, g23⟩, if_pos (Decidable.not_not.mp g28)])]; rfl, by rw [(show q_ck ts v a0 b0 p0 = ((2, 0), ts) by simp only [q_ck]; rw [sp_at_n hv ht hn]; simp only; rw [if_pos ⟨g10, g16, g23⟩, if_pos (Decidable.not_not.mp g28)])]; exact C, fr.rf _ _ _⟩)
        · exact ad_out M (I.grown h1 h2) h3 h4 h5 (by decide) (by decide) (by decide) (⟨by rw [(show q_ck ts v a0 b0 p0 = ((1, 0), ts) by simp only [q_ck]; rw [sp_at_n hv ht hn]; simp only; rw [if_neg (fun h => g23 h.2.2)])]; rfl, by rw [(show q_ck ts v a0 b0 p0 = ((1, 0), ts) by simp only [q_ck]; rw [sp_at_n hv ht hn]; simp only; rw [if_neg (fun h => g23 h.2.2)])]; exact C, fr.rf _ _ _⟩)
      · exact ad_out M (I.grown h1 h2) h3 h4 h5 (by decide) (by decide) (by decide) (⟨by rw [(show q_ck ts v a0 b0 p0 = ((1, 0), ts) by simp only [q_ck]; rw [sp_at_n hv ht hn]; simp only; rw [if_neg (fun h => g16 h.2.1)])]; rfl, by rw [(show q_ck ts v a0 b0 p0 = ((1, 0), ts) by simp only [q_ck]; rw [sp_at_n hv ht hn]; simp only; rw [if_neg (fun h => g16 h.2.1)])]; exact C, fr.rf _ _ _⟩)
    · exact ad_out M (I.grown h1 h2) h3 h4 h5 (by decide) (by decide) (by decide) (⟨by rw [(show q_ck ts v a0 b0 p0 = ((1, 0), ts) by simp only [q_ck]; rw [sp_at_n hv ht hn]; simp only; rw [if_neg (fun h => g10 h.1)])]; rfl, by rw [(show q_ck ts v a0 b0 p0 = ((1, 0), ts) by simp only [q_ck]; rw [sp_at_n hv ht hn]; simp only; rw [if_neg (fun h => g10 h.1)])]; exact C, fr.rf _ _ _⟩)
  · obtain ⟨_, _, _, _, _, _, _, _, hr9⟩ | ⟨hno, hr9⟩ := h9
    case inl => cases hr9
    cases hr9
    exact ad_out M (I.grown h1 h2) h3 h4 h5 (by decide) (by decide) (by decide) (⟨by rw [(show q_ck ts v a0 b0 p0 = ((1, 0), ts) by simp only [q_ck]; rw [sp_at_0 hno hn])]; rfl, by rw [(show q_ck ts v a0 b0 p0 = ((1, 0), ts) by simp only [q_ck]; rw [sp_at_0 hno hn])]; exact C, fr.rf _ _ _⟩)
set_option maxHeartbeats 4000000 in
set_option maxRecDepth 100000 in
theorem c_A_gone (l : Launch) (G : ad_G) (lo : Nat) (hp : ad_H) (x dA tA lA rA gA sA : Nat) (ta ros : List Nat) (ts : List TH) (la lt rr rw : List Nat) (sd : Int64) (fg fs : Nat → Int32) (v : Int32)  (hT : l.stackTraces = false) (C : CR G hp x dA tA lA rA gA sA ta ros ts la lt rr rw sd fg fs) : ad_Ct l y_A_gone b_A_gone 4 rt_A_gone hs_A_gone 8 1 6 G lo hp [.ref x, .int v] (fun r hp' => r = q_ans [ad_NSE, ad_ISE] (q_gn ts v).1 ∧ CR G hp' x dA tA lA rA gA sA ta ros ((q_gn ts v).2) la lt rr rw sd fg fs ∧ fr gA sA hp hp') := by
  intro p e s m below meth c M hts hB hP
  have hx := M.1
  have hb := M.2.1
  have hml := M.2.2.1
  have hown : s.vm.findClass "AuditDraws" = some m.cls := M.2.2.2.1
  have S : CallFix p m c b_A_gone 4 s _ ad_T "AuditDraws" := ⟨hx, hb, hml, hown, hts⟩
  have I : ad_I G lo s hp s.heap [] := ad_I.rf hB hP
  have hl := lv_entry ([.ref x, .int v]) (n := 4) (Nat.le_of_ble_eq_true rfl)
  rw [lg_entry_eq]
  generalize (lg_sl ([.ref x, .int v]) ++ List.replicate (4 - (lg_sl ([.ref x, .int v])).length) Slot.unset).toArray = ls at hl ⊢
  have hl : lv_has ls 4 [(0, .ref x), (1, .int v)] := hl
  have hX := C.hX
  have hL := C.hA
  have hTT := C.htt
  have hn := C.hn
  have hD := C.hD
  obtain ⟨_, htA⟩ := C.hA.self
  refine lv_aload_n hx hb d_A_gone_0 rfl (lv_at hl 0 rfl) ?_
  refine lv_iload_n hx hb d_A_gone_1 rfl (lv_at hl 1 rfl) ?_
  refine ad_cP S I (ad_ivV (As := [.int v]) (rest := []) S (ad_recv I hX K_AD) w_374 w_376 sp_A_existing Y_A_existing ⟨by decide, by decide, np_A_existing⟩ rfl d_A_gone_2) (c_A_existing l G lo hp x dA tA lA rA gA sA v ta ts hT hX hL hTT hn) Y_A_existing hl.1 ⟨Nat.le_of_ble_eq_true rfl, Nat.le_of_ble_eq_true rfl⟩ (Nat.le_of_ble_eq_true rfl) (Nat.le_of_ble_eq_true rfl) d_A_gone_2 (fun v9 h9 => ?_) (fun C9 H1 x9 cell h9 h1 h2 h3 h4 h5 => ?_)
  · obtain ⟨j, t, y, ra, hv, ht, hy, hty, hr9⟩ | ⟨-, hr9⟩ := h9
    case inr => cases hr9
    cases hr9
    refine lv_astore_n (lv' := [(2, .ref y), (0, .ref x), (1, .int v)]) hx hb d_A_gone_5 rfl hl (by decide) rfl (fun ls hl => ?_)
    refine lv_aload_n hx hb d_A_gone_6 rfl (lv_at hl 0 rfl) ?_
    refine ad_cPg S I (ad_ivS (As := [.ref y]) (rest := []) S Y_A_needListed w_378 w_379 w_1 ⟨by decide, by decide, np_A_needListed⟩ rfl d_A_gone_7) (c_A_needListed l G lo hp j t y ra hT hty) Y_A_needListed hl.1 ⟨Nat.le_of_ble_eq_true rfl, Nat.le_of_ble_eq_true rfl⟩ (Nat.le_of_ble_eq_true rfl) (Nat.le_of_ble_eq_true rfl) d_A_gone_7 (fun g7 => ?_) (fun g7 H1 x cell h1 h2 h3 h4 h5 => ?_)
    · refine lv_aload_n hx hb d_A_gone_10 rfl (lv_at hl 0 rfl) ?_
      refine ad_get S I hty K_Thing 4 (by decide) w_208 rfl d_A_gone_11 ?_
      refine lv_iconst (v := 3) hx hb d_A_gone_14 (by decide) ?_
      refine lv_icmp_eq (tgt := 22) hx hb d_A_gone_15 (by decide) (fun c15 => ?_) (fun c15 => ?_)
      · refine lv_iconst (v := 0) hx hb d_A_gone_22 (by decide) ?_
        refine lv_istore_n (lv' := [(3, .int 0), (2, .ref y), (0, .ref x), (1, .int v)]) hx hb d_A_gone_23 rfl hl (by decide) rfl (fun ls hl => ?_)
        refine lv_aload_n hx hb d_A_gone_24 rfl (lv_at hl 1 rfl) ?_
        refine lv_iconst (v := 3) hx hb d_A_gone_25 (by decide) ?_
        refine ad_put S I hty K_Thing 4 (by decide) w_208 rfl rfl rfl (by simp) d_A_gone_26 (fun H1 locs1 I => ?_)
        obtain ⟨hp1, ehp1⟩ : ∃ z : ad_H, z = ad_up hp y (.inr (1, [.int (nI j), .int t.1, .ref ra, .int t.2.1, .int 3, .int t.2.2.2.1])) := ⟨_, rfl⟩
        have I : ad_I G lo s hp1 H1 locs1 := by rw [ehp1]; exact I
        have fhp1_x := (show hp1 x = hp x by rw [ehp1]; exact ad_up_n _ (ad_ne hX hty (by simp))).trans hX
        have fhp1_tA := (show hp1 tA = hp tA by rw [ehp1]; exact ad_up_n _ (ad_ne htA hty (by simp))).trans htA
        have fhp1_dA := (show hp1 dA = hp dA by rw [ehp1]; exact ad_up_n _ (ad_ne hD hty (by simp))).trans hD
        have fhp1_y : hp1 y = some (.inr (1, [.int (nI j), .int t.1, .ref ra, .int t.2.1, .int 3, .int t.2.2.2.1])) := by rw [ehp1]; exact ad_up_s _ _ _
        refine lv_iload_n hx hb d_A_gone_29 rfl (lv_at hl 0 rfl) ?_
        exact ad_iret M I rfl (by omega) (by omega) (⟨by rw [(show q_gn ts v = ((0, 0), ts.set j (th_s t 3)) by simp only [q_gn]; rw [sp_at_n hv ht hn]; simp only; rw [if_neg g7, if_pos c15, q_j hv ht hn])]; rfl, by rw [(show q_gn ts v = ((0, 0), ts.set j (th_s t 3)) by simp only [q_gn]; rw [sp_at_n hv ht hn]; simp only; rw [if_neg g7, if_pos c15, q_j hv ht hn])]; exact (C.thing (t' := th_s t 3) ht hy hty rfl (fun z hz => by rw [ehp1, ad_up_n _ hz]) fhp1_y (ad_I.e I)).1, (C.thing (t' := th_s t 3) ht hy hty rfl (fun z hz => by rw [ehp1, ad_up_n _ hz]) fhp1_y (ad_I.e I)).2⟩) d_A_gone_30
      · refine lv_iconst (v := 1) hx hb d_A_gone_18 (by decide) ?_
        refine lv_goto (tgt := 23) hx hb d_A_gone_19 (by decide) ?_
        refine lv_istore_n (lv' := [(3, .int 1), (2, .ref y), (0, .ref x), (1, .int v)]) hx hb d_A_gone_23 rfl hl (by decide) rfl (fun ls hl => ?_)
        refine lv_aload_n hx hb d_A_gone_24 rfl (lv_at hl 1 rfl) ?_
        refine lv_iconst (v := 3) hx hb d_A_gone_25 (by decide) ?_
        refine ad_put S I hty K_Thing 4 (by decide) w_208 rfl rfl rfl (by simp) d_A_gone_26 (fun H1 locs1 I => ?_)
        obtain ⟨hp2, ehp2⟩ : ∃ z : ad_H, z = ad_up hp y (.inr (1, [.int (nI j), .int t.1, .ref ra, .int t.2.1, .int 3, .int t.2.2.2.1])) := ⟨_, rfl⟩
        have I : ad_I G lo s hp2 H1 locs1 := by rw [ehp2]; exact I
        have fhp2_x := (show hp2 x = hp x by rw [ehp2]; exact ad_up_n _ (ad_ne hX hty (by simp))).trans hX
        have fhp2_tA := (show hp2 tA = hp tA by rw [ehp2]; exact ad_up_n _ (ad_ne htA hty (by simp))).trans htA
        have fhp2_dA := (show hp2 dA = hp dA by rw [ehp2]; exact ad_up_n _ (ad_ne hD hty (by simp))).trans hD
        have fhp2_y : hp2 y = some (.inr (1, [.int (nI j), .int t.1, .ref ra, .int t.2.1, .int 3, .int t.2.2.2.1])) := by rw [ehp2]; exact ad_up_s _ _ _
        refine lv_iload_n hx hb d_A_gone_29 rfl (lv_at hl 0 rfl) ?_
        exact ad_iret M I rfl (by omega) (by omega) (⟨by rw [(show q_gn ts v = ((0, 1), ts.set j (th_s t 3)) by simp only [q_gn]; rw [sp_at_n hv ht hn]; simp only; rw [if_neg g7, if_neg c15, q_j hv ht hn])]; rfl, by rw [(show q_gn ts v = ((0, 1), ts.set j (th_s t 3)) by simp only [q_gn]; rw [sp_at_n hv ht hn]; simp only; rw [if_neg g7, if_neg c15, q_j hv ht hn])]; exact (C.thing (t' := th_s t 3) ht hy hty rfl (fun z hz => by rw [ehp2, ad_up_n _ hz]) fhp2_y (ad_I.e I)).1, (C.thing (t' := th_s t 3) ht hy hty rfl (fun z hz => by rw [ehp2, ad_up_n _ hz]) fhp2_y (ad_I.e I)).2⟩) d_A_gone_30
    · exact ad_out M (I.grown h1 h2) h3 h4 h5 (by decide) (by decide) (by decide) (⟨by rw [(show q_gn ts v = ((2, 0), ts) by simp only [q_gn]; rw [sp_at_n hv ht hn]; simp only; rw [if_pos (Decidable.not_not.mp g7)])]; rfl, by rw [(show q_gn ts v = ((2, 0), ts) by simp only [q_gn]; rw [sp_at_n hv ht hn]; simp only; rw [if_pos (Decidable.not_not.mp g7)])]; exact C, fr.rf _ _ _⟩)
  · obtain ⟨_, _, _, _, _, _, _, _, hr9⟩ | ⟨hno, hr9⟩ := h9
    case inl => cases hr9
    cases hr9
    exact ad_out M (I.grown h1 h2) h3 h4 h5 (by decide) (by decide) (by decide) (⟨by rw [(show q_gn ts v = ((1, 0), ts) by simp only [q_gn]; rw [sp_at_0 hno hn])]; rfl, by rw [(show q_gn ts v = ((1, 0), ts) by simp only [q_gn]; rw [sp_at_0 hno hn])]; exact C, fr.rf _ _ _⟩)
set_option maxHeartbeats 4000000 in
set_option maxRecDepth 100000 in
theorem c_A_weight (l : Launch) (G : ad_G) (lo : Nat) (hp : ad_H) (x dA tA lA rA gA sA : Nat) (ta ros : List Nat) (ts : List TH) (la lt rr rw : List Nat) (sd : Int64) (fg fs : Nat → Int32) (v g0 : Int32)  (hT : l.stackTraces = false) (C : CR G hp x dA tA lA rA gA sA ta ros ts la lt rr rw sd fg fs) : ad_Ct l y_A_weight b_A_weight 5 rt_A_weight hs_A_weight 8 1 6 G lo hp [.ref x, .int v, .int g0] (fun r hp' => r = q_ans [ad_NSE, ad_IAE] (q_wt ts v g0).1 ∧ CR G hp' x dA tA lA rA gA sA ta ros ((q_wt ts v g0).2) la lt rr rw sd fg fs ∧ fr gA sA hp hp') := by
  intro p e s m below meth c M hts hB hP
  have hx := M.1
  have hb := M.2.1
  have hml := M.2.2.1
  have hown : s.vm.findClass "AuditDraws" = some m.cls := M.2.2.2.1
  have S : CallFix p m c b_A_weight 5 s _ ad_T "AuditDraws" := ⟨hx, hb, hml, hown, hts⟩
  have I : ad_I G lo s hp s.heap [] := ad_I.rf hB hP
  have hl := lv_entry ([.ref x, .int v, .int g0]) (n := 5) (Nat.le_of_ble_eq_true rfl)
  rw [lg_entry_eq]
  generalize (lg_sl ([.ref x, .int v, .int g0]) ++ List.replicate (5 - (lg_sl ([.ref x, .int v, .int g0])).length) Slot.unset).toArray = ls at hl ⊢
  have hl : lv_has ls 5 [(0, .ref x), (1, .int v), (2, .int g0)] := hl
  have hX := C.hX
  have hL := C.hA
  have hTT := C.htt
  have hn := C.hn
  have hD := C.hD
  obtain ⟨_, htA⟩ := C.hA.self
  refine lv_aload_n hx hb d_A_weight_0 rfl (lv_at hl 0 rfl) ?_
  refine lv_iload_n hx hb d_A_weight_1 rfl (lv_at hl 1 rfl) ?_
  refine ad_cP S I (ad_ivV (As := [.int v]) (rest := []) S (ad_recv I hX K_AD) w_374 w_376 sp_A_existing Y_A_existing ⟨by decide, by decide, np_A_existing⟩ rfl d_A_weight_2) (c_A_existing l G lo hp x dA tA lA rA gA sA v ta ts hT hX hL hTT hn) Y_A_existing hl.1 ⟨Nat.le_of_ble_eq_true rfl, Nat.le_of_ble_eq_true rfl⟩ (Nat.le_of_ble_eq_true rfl) (Nat.le_of_ble_eq_true rfl) d_A_weight_2 (fun v9 h9 => ?_) (fun C9 H1 x9 cell h9 h1 h2 h3 h4 h5 => ?_)
  · obtain ⟨j, t, y, ra, hv, ht, hy, hty, hr9⟩ | ⟨-, hr9⟩ := h9
    case inr => cases hr9
    cases hr9
    refine lv_astore_n (lv' := [(3, .ref y), (0, .ref x), (1, .int v), (2, .int g0)]) hx hb d_A_weight_5 rfl hl (by decide) rfl (fun ls hl => ?_)
    refine lv_iload_n hx hb d_A_weight_6 rfl (lv_at hl 3 rfl) ?_
    refine lv_iconst (v := 1) hx hb d_A_weight_7 (by decide) ?_
    refine lv_icmp_lt (tgt := 17) hx hb d_A_weight_8 (by decide) (fun c8 => ?_) (fun c8 => ?_)
    · obtain ⟨q9, hq9⟩ := hB.2.2.2.2.2.2.1 (153, "no weight") (by decide)
      refine ad_thr S hT (X := "java/lang/IllegalArgumentException") (Yn := "java/lang/RuntimeException") (names := ["java/lang/Exception"]) (ix := 7) (bx := prog_11_method_2_code) (ic := 68) w_288 w_289 w_17 hq9 (ad_hat hB hts at_IAE) (by decide +kernel) (by decide +kernel) (by decide +kernel) (by decide +kernel) (by decide +kernel) (by decide +kernel) (by decide +kernel) hl.1 d_A_weight_17 d_A_weight_20 d_A_weight_21 d_A_weight_23 d_A_weight_26 (by decide) (by decide) (by decide) (by decide) (fun H1 cell h1 h2 h3 h4 h5 => ?_)
      exact ad_out M (I.grown h1 h2) h3 h4 h5 (by decide) (by decide) (by decide) (⟨by rw [(show q_wt ts v g0 = ((2, 0), ts) by simp only [q_wt]; rw [sp_at_n hv ht hn]; simp only; rw [if_pos (Or.inl c8)])]; rfl, by rw [(show q_wt ts v g0 = ((2, 0), ts) by simp only [q_wt]; rw [sp_at_n hv ht hn]; simp only; rw [if_pos (Or.inl c8)])]; exact C, fr.rf _ _ _⟩)
    · refine lv_iload_n hx hb d_A_weight_11 rfl (lv_at hl 3 rfl) ?_
      refine lv_ldc (v := 1000000000) hx hb hown (hts _ w_519) d_A_weight_12 ?_
      refine lv_icmp_le (tgt := 27) hx hb d_A_weight_14 (by decide) (fun c14 => ?_) (fun c14 => ?_)
      · refine lv_aload_n hx hb d_A_weight_27 rfl (lv_at hl 0 rfl) ?_
        refine ad_get S I hty K_Thing 5 (by decide) w_210 rfl d_A_weight_28 ?_
        refine lv_if_ne (tgt := 38) hx hb d_A_weight_31 (by decide) (fun c31 => ?_) (fun c31 => ?_)
        · refine lv_aload_n hx hb d_A_weight_38 rfl (lv_at hl 0 rfl) ?_
          refine ad_get S I hty K_Thing 5 (by decide) w_210 rfl d_A_weight_39 ?_
          refine lv_istore (lv' := [(4, .int t.2.2.2.1), (3, .ref y), (0, .ref x), (1, .int v), (2, .int g0)]) hx hb d_A_weight_42 hl (by decide) rfl (fun ls hl => ?_)
          refine lv_aload_n hx hb d_A_weight_44 rfl (lv_at hl 1 rfl) ?_
          refine lv_iload_n hx hb d_A_weight_45 rfl (lv_at hl 4 rfl) ?_
          refine ad_put S I hty K_Thing 5 (by decide) w_210 rfl rfl rfl (by simp) d_A_weight_46 (fun H1 locs1 I => ?_)
          obtain ⟨hp1, ehp1⟩ : ∃ z : ad_H, z = ad_up hp y (.inr (1, [.int (nI j), .int t.1, .ref ra, .int t.2.1, .int t.2.2.1, .int g0])) := ⟨_, rfl⟩
          have I : ad_I G lo s hp1 H1 locs1 := by rw [ehp1]; exact I
          have fhp1_x := (show hp1 x = hp x by rw [ehp1]; exact ad_up_n _ (ad_ne hX hty (by simp))).trans hX
          have fhp1_tA := (show hp1 tA = hp tA by rw [ehp1]; exact ad_up_n _ (ad_ne htA hty (by simp))).trans htA
          have fhp1_dA := (show hp1 dA = hp dA by rw [ehp1]; exact ad_up_n _ (ad_ne hD hty (by simp))).trans hD
          have fhp1_y : hp1 y = some (.inr (1, [.int (nI j), .int t.1, .ref ra, .int t.2.1, .int t.2.2.1, .int g0])) := by rw [ehp1]; exact ad_up_s _ _ _
          refine lv_iload_n hx hb d_A_weight_49 rfl (lv_at hl 4 rfl) ?_
          refine lv_iload hx hb d_A_weight_50 (lv_at hl 0 rfl) ?_
          refine lv_isub hx hb d_A_weight_52 ?_
          refine va_mabs hx hb (hml.trans hl.1.symm) hown (hts _ w_521) (hts _ w_522) (hts _ w_14) (hts _ w_523) (Nat.le_of_ble_eq_true rfl) (Nat.le_of_ble_eq_true rfl) (Nat.le_of_ble_eq_true rfl) (Nat.le_of_ble_eq_true rfl) d_A_weight_53 ?_
          exact ad_iret M I rfl (by omega) (by omega) (⟨by rw [(show q_wt ts v g0 = ((0, sp_abs (g0 - t.2.2.2.1)), ts.set j (t.1, t.2.1, t.2.2.1, g0, t.2.2.2.2)) by simp only [q_wt]; rw [sp_at_n hv ht hn]; simp only; rw [if_neg (fun h => h.elim c8 (fun h => h c14)), if_neg c31, q_j hv ht hn])]; rfl, by rw [(show q_wt ts v g0 = ((0, sp_abs (g0 - t.2.2.2.1)), ts.set j (t.1, t.2.1, t.2.2.1, g0, t.2.2.2.2)) by simp only [q_wt]; rw [sp_at_n hv ht hn]; simp only; rw [if_neg (fun h => h.elim c8 (fun h => h c14)), if_neg c31, q_j hv ht hn])]; exact (C.thing (t' := (t.1, t.2.1, t.2.2.1, g0, t.2.2.2.2)) ht hy hty rfl (fun z hz => by rw [ehp1, ad_up_n _ hz]) fhp1_y (ad_I.e I)).1, (C.thing (t' := (t.1, t.2.1, t.2.2.1, g0, t.2.2.2.2)) ht hy hty rfl (fun z hz => by rw [ehp1, ad_up_n _ hz]) fhp1_y (ad_I.e I)).2⟩) d_A_weight_56
        · refine lv_iload_n hx hb d_A_weight_34 rfl (lv_at hl 3 rfl) ?_
          refine lv_goto (tgt := 42) hx hb d_A_weight_35 (by decide) ?_
          refine lv_istore (lv' := [(4, .int g0), (3, .ref y), (0, .ref x), (1, .int v), (2, .int g0)]) hx hb d_A_weight_42 hl (by decide) rfl (fun ls hl => ?_)
          refine lv_aload_n hx hb d_A_weight_44 rfl (lv_at hl 1 rfl) ?_
          refine lv_iload_n hx hb d_A_weight_45 rfl (lv_at hl 4 rfl) ?_
          refine ad_put S I hty K_Thing 5 (by decide) w_210 rfl rfl rfl (by simp) d_A_weight_46 (fun H1 locs1 I => ?_)
          obtain ⟨hp2, ehp2⟩ : ∃ z : ad_H, z = ad_up hp y (.inr (1, [.int (nI j), .int t.1, .ref ra, .int t.2.1, .int t.2.2.1, .int g0])) := ⟨_, rfl⟩
          have I : ad_I G lo s hp2 H1 locs1 := by rw [ehp2]; exact I
          have fhp2_x := (show hp2 x = hp x by rw [ehp2]; exact ad_up_n _ (ad_ne hX hty (by simp))).trans hX
          have fhp2_tA := (show hp2 tA = hp tA by rw [ehp2]; exact ad_up_n _ (ad_ne htA hty (by simp))).trans htA
          have fhp2_dA := (show hp2 dA = hp dA by rw [ehp2]; exact ad_up_n _ (ad_ne hD hty (by simp))).trans hD
          have fhp2_y : hp2 y = some (.inr (1, [.int (nI j), .int t.1, .ref ra, .int t.2.1, .int t.2.2.1, .int g0])) := by rw [ehp2]; exact ad_up_s _ _ _
          refine lv_iload_n hx hb d_A_weight_49 rfl (lv_at hl 4 rfl) ?_
          refine lv_iload hx hb d_A_weight_50 (lv_at hl 0 rfl) ?_
          refine lv_isub hx hb d_A_weight_52 ?_
          refine va_mabs hx hb (hml.trans hl.1.symm) hown (hts _ w_521) (hts _ w_522) (hts _ w_14) (hts _ w_523) (Nat.le_of_ble_eq_true rfl) (Nat.le_of_ble_eq_true rfl) (Nat.le_of_ble_eq_true rfl) (Nat.le_of_ble_eq_true rfl) d_A_weight_53 ?_
          exact ad_iret M I rfl (by omega) (by omega) (⟨by rw [(show q_wt ts v g0 = ((0, sp_abs (g0 - g0)), ts.set j (t.1, t.2.1, t.2.2.1, g0, t.2.2.2.2)) by simp only [q_wt]; rw [sp_at_n hv ht hn]; simp only; rw [if_neg (fun h => h.elim c8 (fun h => h c14)), if_pos c31, q_j hv ht hn])]; rfl, by rw [(show q_wt ts v g0 = ((0, sp_abs (g0 - g0)), ts.set j (t.1, t.2.1, t.2.2.1, g0, t.2.2.2.2)) by simp only [q_wt]; rw [sp_at_n hv ht hn]; simp only; rw [if_neg (fun h => h.elim c8 (fun h => h c14)), if_pos c31, q_j hv ht hn])]; exact (C.thing (t' := (t.1, t.2.1, t.2.2.1, g0, t.2.2.2.2)) ht hy hty rfl (fun z hz => by rw [ehp2, ad_up_n _ hz]) fhp2_y (ad_I.e I)).1, (C.thing (t' := (t.1, t.2.1, t.2.2.1, g0, t.2.2.2.2)) ht hy hty rfl (fun z hz => by rw [ehp2, ad_up_n _ hz]) fhp2_y (ad_I.e I)).2⟩) d_A_weight_56
      · obtain ⟨q9, hq9⟩ := hB.2.2.2.2.2.2.1 (153, "no weight") (by decide)
        refine ad_thr S hT (X := "java/lang/IllegalArgumentException") (Yn := "java/lang/RuntimeException") (names := ["java/lang/Exception"]) (ix := 7) (bx := prog_11_method_2_code) (ic := 68) w_288 w_289 w_17 hq9 (ad_hat hB hts at_IAE) (by decide +kernel) (by decide +kernel) (by decide +kernel) (by decide +kernel) (by decide +kernel) (by decide +kernel) (by decide +kernel) hl.1 d_A_weight_17 d_A_weight_20 d_A_weight_21 d_A_weight_23 d_A_weight_26 (by decide) (by decide) (by decide) (by decide) (fun H1 cell h1 h2 h3 h4 h5 => ?_)
        exact ad_out M (I.grown h1 h2) h3 h4 h5 (by decide) (by decide) (by decide) (⟨by rw [(show q_wt ts v g0 = ((2, 0), ts) by simp only [q_wt]; rw [sp_at_n hv ht hn]; simp only; rw [if_pos (Or.inr c14)])]; rfl, by rw [(show q_wt ts v g0 = ((2, 0), ts) by simp only [q_wt]; rw [sp_at_n hv ht hn]; simp only; rw [if_pos (Or.inr c14)])]; exact C, fr.rf _ _ _⟩)
  · obtain ⟨_, _, _, _, _, _, _, _, hr9⟩ | ⟨hno, hr9⟩ := h9
    case inl => cases hr9
    cases hr9
    exact ad_out M (I.grown h1 h2) h3 h4 h5 (by decide) (by decide) (by decide) (⟨by rw [(show q_wt ts v g0 = ((1, 0), ts) by simp only [q_wt]; rw [sp_at_0 hno hn])]; rfl, by rw [(show q_wt ts v g0 = ((1, 0), ts) by simp only [q_wt]; rw [sp_at_0 hno hn])]; exact C, fr.rf _ _ _⟩)
set_option maxHeartbeats 4000000 in
set_option maxRecDepth 100000 in
theorem c_A_seed (l : Launch) (G : ad_G) (lo : Nat) (hp : ad_H) (x dA tA lA rA gA sA : Nat) (ta ros : List Nat) (ts : List TH) (la lt rr rw : List Nat) (sd : Int64) (fg fs : Nat → Int32) (s9 : Int64)  (C : CR G hp x dA tA lA rA gA sA ta ros ts la lt rr rw sd fg fs) : ad_Ct l y_A_seed b_A_seed 3 rt_A_seed hs_A_seed 1 0 0 G lo hp [.ref x, .long s9] (fun r hp' => r = .inl none ∧ CR G hp' x dA tA lA rA gA sA ta ros ts la lt rr rw s9 fg fs ∧ fr gA sA hp hp') := by
  intro p e s m below meth c M hts hB hP
  have hx := M.1
  have hb := M.2.1
  have hml := M.2.2.1
  have hown : s.vm.findClass "AuditDraws" = some m.cls := M.2.2.2.1
  have S : CallFix p m c b_A_seed 3 s _ ad_T "AuditDraws" := ⟨hx, hb, hml, hown, hts⟩
  have I : ad_I G lo s hp s.heap [] := ad_I.rf hB hP
  have hl := lv_entry ([.ref x, .long s9]) (n := 3) (Nat.le_of_ble_eq_true rfl)
  rw [lg_entry_eq]
  generalize (lg_sl ([.ref x, .long s9]) ++ List.replicate (3 - (lg_sl ([.ref x, .long s9])).length) Slot.unset).toArray = ls at hl ⊢
  have hl : lv_has ls 3 [(0, .ref x), (1, .long s9)] := hl
  have hX := C.hX
  have hL := C.hA
  have hTT := C.htt
  have hn := C.hn
  have hD := C.hD
  obtain ⟨_, htA⟩ := C.hA.self
  refine lv_aload_n hx hb d_A_seed_0 rfl (lv_at hl 0 rfl) ?_
  refine ad_get S I hX K_AD 0 (by decide) w_67 rfl d_A_seed_1 ?_
  refine lv_lload_n hx hb d_A_seed_4 rfl (lv_at hl 1 rfl) ?_
  refine ad_put S I hD K_Draw 0 (by decide) w_37 rfl rfl rfl (by simp) d_A_seed_5 (fun H1 locs1 I => ?_)
  obtain ⟨hp1, ehp1⟩ : ∃ z : ad_H, z = ad_up hp dA (.inr (0, [.long s9])) := ⟨_, rfl⟩
  have I : ad_I G lo s hp1 H1 locs1 := by rw [ehp1]; exact I
  have fhp1_x := (show hp1 x = hp x by rw [ehp1]; exact ad_up_n _ (ad_ne hX hD (by simp))).trans hX
  have fhp1_tA := (show hp1 tA = hp tA by rw [ehp1]; exact ad_up_n _ (ad_ne htA hD (by simp))).trans htA
  have fhp1_dA : hp1 dA = some (.inr (0, [.long s9])) := by rw [ehp1]; exact ad_up_s _ _ _
  exact ad_vret M I (by omega) (by omega) (⟨rfl, C.draw (fun z hz => by rw [ehp1, ad_up_n _ hz]) fhp1_dA (ad_I.e I)⟩) d_A_seed_8
def sp_dr (d : Int64) : Int64 := d * 6364136223846793005 + 1442695040888963407
def sp_ix (d : Int64) (n : Int32) : Int32 := ((d.toUInt64 >>> ((33 : Int32).toInt64.toUInt64 &&& Int64.toUInt64 63)).toInt64 - (d.toUInt64 >>> ((33 : Int32).toInt64.toUInt64 &&& Int64.toUInt64 63)).toInt64 / n.toInt64 * n.toInt64).toInt32
theorem ix_ne {n : Int32} (h : ¬ n < 1) : n.toInt64 ≠ 0 := by
  intro h0
  have h1 : n.toInt64.toInt = 0 := by rw [h0]; rfl
  rw [Int32.toInt_toInt64] at h1
  refine h ?_
  rw [Int32.lt_iff_toInt_lt, h1]
  decide
set_option maxHeartbeats 4000000 in
set_option maxRecDepth 100000 in
theorem c_D_below (l : Launch) (G : ad_G) (lo : Nat) (hp : ad_H) (a : Nat) (d : Int64) (n9 : Int32) (h : hp a = some (.inr (0, [.long d]))) (hn9 : ¬ n9 < 1) : ad_Ct l y_D_below b_D_below 2 rt_D_below hs_D_below 1 0 0 G lo hp [.ref a, .int n9] (fun r hp' => r = .inl (some (.int (sp_ix (sp_dr d) n9))) ∧ hp' a = some (.inr (0, [.long (sp_dr d)])) ∧ ∀ z, z ≠ a → hp' z = hp z) := by
  intro p e s m below meth c M hts hB hP
  have hx := M.1
  have hb := M.2.1
  have hml := M.2.2.1
  have hown : s.vm.findClass "AuditDraws$Draw" = some m.cls := M.2.2.2.1
  have S : CallFix p m c b_D_below 2 s _ ad_T "AuditDraws$Draw" := ⟨hx, hb, hml, hown, hts⟩
  have I : ad_I G lo s hp s.heap [] := ad_I.rf hB hP
  have hl := lv_entry ([.ref a, .int n9]) (n := 2) (Nat.le_of_ble_eq_true rfl)
  rw [lg_entry_eq]
  generalize (lg_sl ([.ref a, .int n9]) ++ List.replicate (2 - (lg_sl ([.ref a, .int n9])).length) Slot.unset).toArray = ls at hl ⊢
  have hl : lv_has ls 2 [(0, .ref a), (1, .int n9)] := hl
  refine lv_aload_n hx hb d_D_below_0 rfl (lv_at hl 0 rfl) ?_
  refine lv_aload_n hx hb d_D_below_1 rfl (lv_at hl 0 rfl) ?_
  refine ad_get S I h K_Draw 0 (by decide) w_36 rfl d_D_below_2 ?_
  refine lv_ldc2 (v := 6364136223846793005) hx hb hown (hts _ w_354) d_D_below_5 ?_
  refine lv_lmul hx hb d_D_below_8 ?_
  refine lv_ldc2 (v := 1442695040888963407) hx hb hown (hts _ w_355) d_D_below_9 ?_
  refine lv_ladd hx hb d_D_below_12 ?_
  refine ad_put S I h K_Draw 0 (by decide) w_36 rfl rfl rfl (by simp) d_D_below_13 (fun H1 locs1 I => ?_)
  obtain ⟨hp1, ehp1⟩ : ∃ z : ad_H, z = ad_up hp a (.inr (0, [.long ((d * 6364136223846793005) + 1442695040888963407)])) := ⟨_, rfl⟩
  have I : ad_I G lo s hp1 H1 locs1 := by rw [ehp1]; exact I
  have fhp1_a : hp1 a = some (.inr (0, [.long ((d * 6364136223846793005) + 1442695040888963407)])) := by rw [ehp1]; exact ad_up_s _ _ _
  refine lv_iload_n hx hb d_D_below_16 rfl (lv_at hl 1 rfl) ?_
  refine lv_iconst (v := 1) hx hb d_D_below_17 (by decide) ?_
  refine lv_icmp_ge (tgt := 25) hx hb d_D_below_18 (by decide) (fun c18 => ?_) (fun c18 => ?_)
  · refine lv_aload_n hx hb d_D_below_25 rfl (lv_at hl 0 rfl) ?_
    refine ad_get S I fhp1_a K_Draw 0 (by decide) w_36 rfl d_D_below_26 ?_
    refine lv_bipush (v := 33) hx hb d_D_below_29 (by decide) ?_
    refine lv_lushr (v := (((d * 6364136223846793005) + 1442695040888963407).toUInt64 >>> ((33 : Int32).toInt64.toUInt64 &&& Int64.toUInt64 63)).toInt64) hx hb d_D_below_31 rfl ?_
    refine lv_iload_n hx hb d_D_below_32 rfl (lv_at hl 1 rfl) ?_
    refine lv_i2l (v := n9.toInt64) hx hb d_D_below_33 rfl ?_
    refine lv_lrem hx hb d_D_below_34 (ix_ne hn9) ?_
    refine lv_l2i (v := (((((d * 6364136223846793005) + 1442695040888963407).toUInt64 >>> ((33 : Int32).toInt64.toUInt64 &&& Int64.toUInt64 63)).toInt64) - ((((d * 6364136223846793005) + 1442695040888963407).toUInt64 >>> ((33 : Int32).toInt64.toUInt64 &&& Int64.toUInt64 63)).toInt64) / n9.toInt64 * n9.toInt64).toInt32) hx hb d_D_below_35 rfl ?_
    exact ad_iret M I rfl (by omega) (by omega) (⟨rfl, fhp1_a, fun z hz => by rw [ehp1, ad_up_n _ hz]⟩) d_D_below_36
  · exact absurd (Int32.not_lt.mp hn9) c18
section ADIN
variable {p : Program} {l : Launch} {e : Env} {R : Room} {s : State} {m : MethodId} {args : Array Value} {below : List Frame} {meth : Method} {c : Code} {H : Heap} {locs : List Loc} {cells slots : Nat} {Q : State → Prop}
variable {cc : ByteArray} {nL pc : Nat} {ls : Array Slot} {rest st : List Value} {own : String} {y : MethodName} {cy : ByteArray} {ny : Nat} {As : List Value}
theorem ad_ivIN (S : CallFix p m c cc nL s args ad_T own) {b : Addr} {index : Nat} {host : String} (hlink : (Cond.methodLinkNest own index y host).before args s = true) (hinst : Cond.instanceMethod y ∈ ad_T) (hcode : Cond.code y cy ny none ∈ ad_T) (hin : y.name = "<init>")
    (hd : y.cls ≠ "java/lang/invoke/MethodHandle" ∧ y.cls ≠ "java/lang/invoke/VarHandle" ∧ (parseMethodDescriptor y.desc).map (fun d => d.parameters.length) = some As.length) (hst : st = As.reverse ++ .ref b :: rest) (hdg : decode cc pc = .ok (.invokespecial index, 3)) :
    ad_Iv p l e R s m args below meth c H locs cells slots pc ls st rest y (.ref b :: As) := by
  obtain ⟨hx, hb, -, hown, hts⟩ := S
  intro T hT X
  have hpl : e.platform.magicAccessors = ({} : Platform).magicAccessors := by rw [X.admits.platform]
  obtain ⟨tm, methM, cM, kP, vm₁, hnamed, -, -, -, -, -, -, -, hW₁, hstep⟩ := Steps.initColdArgsNest (e := e) X.here hx X.warmed hpl hown hin ⟨hd.1, hd.2.1⟩ hlink (hts _ hinst) (hts _ hcode) (f := F0 m pc ls st) rfl (argsL := As) (rest := rest) (fun sig h => ad_np hd.2.2 h) hst (by rw [hb]; exact hdg)
  refine ⟨vm₁, X.noted hW₁, fun mk2 hmk2 target h => ?_⟩
  cases hnamed.symm.trans hmk2
  exact hstep target h
end ADIN
set_option maxHeartbeats 4000000 in
set_option maxRecDepth 100000 in
theorem c_D_init (l : Launch) (G : ad_G) (lo : Nat) (hp : ad_H) (a : Nat) (h : hp a = some (.inr (0, [.long 0]))) : ad_Ct l y_D_init b_D_init 1 rt_D_init hs_D_init 2 0 0 G lo hp [.ref a] (fun r hp' => r = .inl none ∧ hp' a = some (.inr (0, [.long 0])) ∧ ∀ z, z ≠ a → hp' z = hp z) := by
  intro p e s m below meth c M hts hB hP
  have hx := M.1
  have hb := M.2.1
  have hml := M.2.2.1
  have hown : s.vm.findClass "AuditDraws$Draw" = some m.cls := M.2.2.2.1
  have S : CallFix p m c b_D_init 1 s _ ad_T "AuditDraws$Draw" := ⟨hx, hb, hml, hown, hts⟩
  have I : ad_I G lo s hp s.heap [] := ad_I.rf hB hP
  have hl := lv_entry ([.ref a]) (n := 1) (Nat.le_of_ble_eq_true rfl)
  rw [lg_entry_eq]
  generalize (lg_sl ([.ref a]) ++ List.replicate (1 - (lg_sl ([.ref a])).length) Slot.unset).toArray = ls at hl ⊢
  have hl : lv_has ls 1 [(0, .ref a)] := hl
  have hin : meth.name = "<init>" := M.2.2.2.2.2.2.2
  refine lv_aload_n hx hb d_D_init_0 rfl (lv_at hl 0 rfl) ?_
  refine W.objInit hx hb hown (hts _ w_35) (hts _ w_28) (hts _ w_29) rfl (by rw [hml]; exact hl.1) rfl d_D_init_1 (Nat.le_of_ble_eq_true rfl) (Nat.le_of_ble_eq_true rfl) ?_
  refine W.eq (g2 := F0 m 4 ls []) rfl ?_
  refine lv_aload_n hx hb d_D_init_4 rfl (lv_at hl 0 rfl) ?_
  refine lv_lconst (v := 0) hx hb d_D_init_5 (by decide) ?_
  refine ad_put S I h K_Draw 0 (by decide) w_36 rfl rfl rfl (by simp) d_D_init_6 (fun H1 locs1 I => ?_)
  obtain ⟨hp1, ehp1⟩ : ∃ z : ad_H, z = ad_up hp a (.inr (0, [.long 0])) := ⟨_, rfl⟩
  have I : ad_I G lo s hp1 H1 locs1 := by rw [ehp1]; exact I
  have fhp1_a : hp1 a = some (.inr (0, [.long 0])) := by rw [ehp1]; exact ad_up_s _ _ _
  exact ad_vret M I (by omega) (by omega) (⟨rfl, fhp1_a, fun z hz => by rw [ehp1, ad_up_n _ hz]⟩) d_D_init_9
set_option maxHeartbeats 4000000 in
set_option maxRecDepth 100000 in
theorem c_S_init (l : Launch) (G : ad_G) (lo : Nat) (hp : ad_H) (a : Nat) (r2 : R3) (h : hp a = some (oS (0, 0, 0))) : ad_Ct l y_S_init b_S_init 4 rt_S_init hs_S_init 2 0 0 G lo hp [.ref a, .int r2.1, .int r2.2.1, .int r2.2.2] (fun r hp' => r = .inl none ∧ hp' a = some (oS r2) ∧ ∀ z, z ≠ a → hp' z = hp z) := by
  intro p e s m below meth c M hts hB hP
  have hx := M.1
  have hb := M.2.1
  have hml := M.2.2.1
  have hown : s.vm.findClass "AuditDraws$Sighting" = some m.cls := M.2.2.2.1
  have S : CallFix p m c b_S_init 4 s _ ad_T "AuditDraws$Sighting" := ⟨hx, hb, hml, hown, hts⟩
  have I : ad_I G lo s hp s.heap [] := ad_I.rf hB hP
  have hl := lv_entry ([.ref a, .int r2.1, .int r2.2.1, .int r2.2.2]) (n := 4) (Nat.le_of_ble_eq_true rfl)
  rw [lg_entry_eq]
  generalize (lg_sl ([.ref a, .int r2.1, .int r2.2.1, .int r2.2.2]) ++ List.replicate (4 - (lg_sl ([.ref a, .int r2.1, .int r2.2.1, .int r2.2.2])).length) Slot.unset).toArray = ls at hl ⊢
  have hl : lv_has ls 4 [(0, .ref a), (1, .int r2.1), (2, .int r2.2.1), (3, .int r2.2.2)] := hl
  have hin : meth.name = "<init>" := M.2.2.2.2.2.2.2
  refine lv_aload_n hx hb d_S_init_0 rfl (lv_at hl 0 rfl) ?_
  refine W.objInit hx hb hown (hts _ w_473) (hts _ w_28) (hts _ w_29) rfl (by rw [hml]; exact hl.1) rfl d_S_init_1 (Nat.le_of_ble_eq_true rfl) (Nat.le_of_ble_eq_true rfl) ?_
  refine W.eq (g2 := F0 m 4 ls []) rfl ?_
  refine lv_aload_n hx hb d_S_init_4 rfl (lv_at hl 0 rfl) ?_
  refine lv_iload_n hx hb d_S_init_5 rfl (lv_at hl 1 rfl) ?_
  refine ad_putF S I h K_Sight 0 (by decide) w_474 rfl hin rfl rfl rfl (by simp) d_S_init_6 (fun H1 locs1 I => ?_)
  obtain ⟨hp1, ehp1⟩ : ∃ z : ad_H, z = ad_up hp a (.inr (2, [.int r2.1, .int 0, .int 0])) := ⟨_, rfl⟩
  have I : ad_I G lo s hp1 H1 locs1 := by rw [ehp1]; exact I
  have fhp1_a : hp1 a = some (.inr (2, [.int r2.1, .int 0, .int 0])) := by rw [ehp1]; exact ad_up_s _ _ _
  refine lv_aload_n hx hb d_S_init_9 rfl (lv_at hl 0 rfl) ?_
  refine lv_iload_n hx hb d_S_init_10 rfl (lv_at hl 2 rfl) ?_
  refine ad_putF S I fhp1_a K_Sight 1 (by decide) w_476 rfl hin rfl rfl rfl (by simp) d_S_init_11 (fun H1 locs1 I => ?_)
  obtain ⟨hp2, ehp2⟩ : ∃ z : ad_H, z = ad_up hp1 a (.inr (2, [.int r2.1, .int r2.2.1, .int 0])) := ⟨_, rfl⟩
  have I : ad_I G lo s hp2 H1 locs1 := by rw [ehp2]; exact I
  have fhp2_a : hp2 a = some (.inr (2, [.int r2.1, .int r2.2.1, .int 0])) := by rw [ehp2]; exact ad_up_s _ _ _
  refine lv_aload_n hx hb d_S_init_14 rfl (lv_at hl 0 rfl) ?_
  refine lv_iload_n hx hb d_S_init_15 rfl (lv_at hl 3 rfl) ?_
  refine ad_putF S I fhp2_a K_Sight 2 (by decide) w_478 rfl hin rfl rfl rfl (by simp) d_S_init_16 (fun H1 locs1 I => ?_)
  obtain ⟨hp3, ehp3⟩ : ∃ z : ad_H, z = ad_up hp2 a (.inr (2, [.int r2.1, .int r2.2.1, .int r2.2.2])) := ⟨_, rfl⟩
  have I : ad_I G lo s hp3 H1 locs1 := by rw [ehp3]; exact I
  have fhp3_a : hp3 a = some (.inr (2, [.int r2.1, .int r2.2.1, .int r2.2.2])) := by rw [ehp3]; exact ad_up_s _ _ _
  exact ad_vret M I (by omega) (by omega) (⟨rfl, fhp3_a, fun z hz => by rw [ehp3, ad_up_n _ hz, ehp2, ad_up_n _ hz, ehp1, ad_up_n _ hz]⟩) d_S_init_19
set_option maxHeartbeats 4000000 in
set_option maxRecDepth 100000 in
theorem c_T_init (l : Launch) (G : ad_G) (lo : Nat) (hp : ad_H) (a : Nat) (n0 s0 p0 : Int32) (h : hp a = some (.inr (1, [.int 0, .int 0, .null, .int 0, .int 0, .int 0]))) : ad_Ct l y_T_init b_T_init 4 rt_T_init hs_T_init 4 1 3 G lo hp [.ref a, .int n0, .int s0, .int p0] (fun r hp' => r = .inl none ∧ ∃ ra : Nat, hp ra = none ∧ hp' a = some (.inr (1, [.int n0, .int s0, .ref ra, .int p0, .int (-1), .int 0])) ∧ hp' ra = some (.inr (3, [.ref (G.2.2 0), .int 0, .int 0])) ∧ ∀ z, z ≠ a → z ≠ ra → hp' z = hp z) := by
  intro p e s m below meth c M hts hB hP
  have hx := M.1
  have hb := M.2.1
  have hml := M.2.2.1
  have hown : s.vm.findClass "AuditDraws$Thing" = some m.cls := M.2.2.2.1
  have S : CallFix p m c b_T_init 4 s _ ad_T "AuditDraws$Thing" := ⟨hx, hb, hml, hown, hts⟩
  have I : ad_I G lo s hp s.heap [] := ad_I.rf hB hP
  have hl := lv_entry ([.ref a, .int n0, .int s0, .int p0]) (n := 4) (Nat.le_of_ble_eq_true rfl)
  rw [lg_entry_eq]
  generalize (lg_sl ([.ref a, .int n0, .int s0, .int p0]) ++ List.replicate (4 - (lg_sl ([.ref a, .int n0, .int s0, .int p0])).length) Slot.unset).toArray = ls at hl ⊢
  have hl : lv_has ls 4 [(0, .ref a), (1, .int n0), (2, .int s0), (3, .int p0)] := hl
  have hin : meth.name = "<init>" := M.2.2.2.2.2.2.2
  refine lv_aload_n hx hb d_T_init_0 rfl (lv_at hl 0 rfl) ?_
  refine W.objInit hx hb hown (hts _ w_196) (hts _ w_28) (hts _ w_29) rfl (by rw [hml]; exact hl.1) rfl d_T_init_1 (Nat.le_of_ble_eq_true rfl) (Nat.le_of_ble_eq_true rfl) ?_
  refine W.eq (g2 := F0 m 4 ls []) rfl ?_
  refine lv_aload_n hx hb d_T_init_4 rfl (lv_at hl 0 rfl) ?_
  refine ad_new S I K_AL w_197 w_42 w_5 (fs := [.null, .int 0, .int 0]) (by decide) (Nat.le_of_ble_eq_true rfl) (Nat.le_of_ble_eq_true rfl) d_T_init_5 (fun ra1 H1 n1 I => ?_)
  obtain ⟨hp1, ehp1⟩ : ∃ z : ad_H, z = ad_up hp ra1 (.inr (3, [.null, .int 0, .int 0])) := ⟨_, rfl⟩
  rw [← ehp1] at I
  have u1_0 : hp1 ra1 = some (.inr (3, [.null, .int 0, .int 0])) := by rw [ehp1]; exact ad_up_s _ _ _
  have k1 : ∀ z, z ≠ ra1 → hp1 z = hp z := fun z hz => by rw [ehp1]; exact ad_up_n _ hz
  have ne_a_ra1 : a ≠ ra1 := ad_nn n1 h
  have fhp1_a := (k1 a ne_a_ra1).trans h
  refine lv_dup hx hb d_T_init_8 rfl ?_
  refine ad_cZi S I (ad_ivI (As := []) (rest := [.ref ra1, .ref a]) S w_198 w_44 w_45 rfl ⟨by decide, by decide, np_AL_init⟩ rfl d_T_init_9) (c_AL_init l G lo hp1 ra1 u1_0) Y_AL_init hl.1 ⟨Nat.le_of_ble_eq_true rfl, Nat.le_of_ble_eq_true rfl⟩ (Nat.le_of_ble_eq_true rfl) (Nat.le_of_ble_eq_true rfl) d_T_init_9 (fun hp2 H1 locs1 hA I => ?_)
  obtain ⟨u2_0, k2⟩ := hA
  have fhp2_a := (k2 a (ne_a_ra1)).trans fhp1_a
  refine ad_putF S I fhp2_a K_Thing 2 (by decide) w_203 rfl hin rfl rfl rfl (by simp) d_T_init_12 (fun H1 locs1 I => ?_)
  obtain ⟨hp3, ehp3⟩ : ∃ z : ad_H, z = ad_up hp2 a (.inr (1, [.int 0, .int 0, .ref ra1, .int 0, .int 0, .int 0])) := ⟨_, rfl⟩
  have I : ad_I G lo s hp3 H1 locs1 := by rw [ehp3]; exact I
  have fhp3_a : hp3 a = some (.inr (1, [.int 0, .int 0, .ref ra1, .int 0, .int 0, .int 0])) := by rw [ehp3]; exact ad_up_s _ _ _
  have fhp3_ra1 := (show hp3 ra1 = hp2 ra1 by rw [ehp3]; exact ad_up_n _ ((ne_a_ra1).symm)).trans u2_0
  refine lv_aload_n hx hb d_T_init_15 rfl (lv_at hl 0 rfl) ?_
  refine lv_iconst (v := (-1)) hx hb d_T_init_16 (by decide) ?_
  refine ad_put S I fhp3_a K_Thing 4 (by decide) w_207 rfl rfl rfl (by simp) d_T_init_17 (fun H1 locs1 I => ?_)
  obtain ⟨hp4, ehp4⟩ : ∃ z : ad_H, z = ad_up hp3 a (.inr (1, [.int 0, .int 0, .ref ra1, .int 0, .int (-1), .int 0])) := ⟨_, rfl⟩
  have I : ad_I G lo s hp4 H1 locs1 := by rw [ehp4]; exact I
  have fhp4_a : hp4 a = some (.inr (1, [.int 0, .int 0, .ref ra1, .int 0, .int (-1), .int 0])) := by rw [ehp4]; exact ad_up_s _ _ _
  have fhp4_ra1 := (show hp4 ra1 = hp3 ra1 by rw [ehp4]; exact ad_up_n _ ((ne_a_ra1).symm)).trans fhp3_ra1
  refine lv_aload_n hx hb d_T_init_20 rfl (lv_at hl 0 rfl) ?_
  refine lv_iconst (v := 0) hx hb d_T_init_21 (by decide) ?_
  refine ad_put S I fhp4_a K_Thing 5 (by decide) w_209 rfl rfl rfl (by simp) d_T_init_22 (fun H1 locs1 I => ?_)
  obtain ⟨hp5, ehp5⟩ : ∃ z : ad_H, z = ad_up hp4 a (.inr (1, [.int 0, .int 0, .ref ra1, .int 0, .int (-1), .int 0])) := ⟨_, rfl⟩
  have I : ad_I G lo s hp5 H1 locs1 := by rw [ehp5]; exact I
  have fhp5_a : hp5 a = some (.inr (1, [.int 0, .int 0, .ref ra1, .int 0, .int (-1), .int 0])) := by rw [ehp5]; exact ad_up_s _ _ _
  have fhp5_ra1 := (show hp5 ra1 = hp4 ra1 by rw [ehp5]; exact ad_up_n _ ((ne_a_ra1).symm)).trans fhp4_ra1
  refine lv_aload_n hx hb d_T_init_25 rfl (lv_at hl 0 rfl) ?_
  refine lv_iload_n hx hb d_T_init_26 rfl (lv_at hl 1 rfl) ?_
  refine ad_putF S I fhp5_a K_Thing 0 (by decide) w_199 rfl hin rfl rfl rfl (by simp) d_T_init_27 (fun H1 locs1 I => ?_)
  obtain ⟨hp6, ehp6⟩ : ∃ z : ad_H, z = ad_up hp5 a (.inr (1, [.int n0, .int 0, .ref ra1, .int 0, .int (-1), .int 0])) := ⟨_, rfl⟩
  have I : ad_I G lo s hp6 H1 locs1 := by rw [ehp6]; exact I
  have fhp6_a : hp6 a = some (.inr (1, [.int n0, .int 0, .ref ra1, .int 0, .int (-1), .int 0])) := by rw [ehp6]; exact ad_up_s _ _ _
  have fhp6_ra1 := (show hp6 ra1 = hp5 ra1 by rw [ehp6]; exact ad_up_n _ ((ne_a_ra1).symm)).trans fhp5_ra1
  refine lv_aload_n hx hb d_T_init_30 rfl (lv_at hl 0 rfl) ?_
  refine lv_iload_n hx hb d_T_init_31 rfl (lv_at hl 2 rfl) ?_
  refine ad_putF S I fhp6_a K_Thing 1 (by decide) w_201 rfl hin rfl rfl rfl (by simp) d_T_init_32 (fun H1 locs1 I => ?_)
  obtain ⟨hp7, ehp7⟩ : ∃ z : ad_H, z = ad_up hp6 a (.inr (1, [.int n0, .int s0, .ref ra1, .int 0, .int (-1), .int 0])) := ⟨_, rfl⟩
  have I : ad_I G lo s hp7 H1 locs1 := by rw [ehp7]; exact I
  have fhp7_a : hp7 a = some (.inr (1, [.int n0, .int s0, .ref ra1, .int 0, .int (-1), .int 0])) := by rw [ehp7]; exact ad_up_s _ _ _
  have fhp7_ra1 := (show hp7 ra1 = hp6 ra1 by rw [ehp7]; exact ad_up_n _ ((ne_a_ra1).symm)).trans fhp6_ra1
  refine lv_aload_n hx hb d_T_init_35 rfl (lv_at hl 0 rfl) ?_
  refine lv_iload_n hx hb d_T_init_36 rfl (lv_at hl 3 rfl) ?_
  refine ad_put S I fhp7_a K_Thing 3 (by decide) w_205 rfl rfl rfl (by simp) d_T_init_37 (fun H1 locs1 I => ?_)
  obtain ⟨hp8, ehp8⟩ : ∃ z : ad_H, z = ad_up hp7 a (.inr (1, [.int n0, .int s0, .ref ra1, .int p0, .int (-1), .int 0])) := ⟨_, rfl⟩
  have I : ad_I G lo s hp8 H1 locs1 := by rw [ehp8]; exact I
  have fhp8_a : hp8 a = some (.inr (1, [.int n0, .int s0, .ref ra1, .int p0, .int (-1), .int 0])) := by rw [ehp8]; exact ad_up_s _ _ _
  have fhp8_ra1 := (show hp8 ra1 = hp7 ra1 by rw [ehp8]; exact ad_up_n _ ((ne_a_ra1).symm)).trans fhp7_ra1
  exact ad_vret M I (by omega) (by omega) (⟨rfl, ra1, n1, fhp8_a, fhp8_ra1, fun z hz hz2 => by rw [ehp8, ad_up_n _ hz, ehp7, ad_up_n _ hz, ehp6, ad_up_n _ hz, ehp5, ad_up_n _ hz, ehp4, ad_up_n _ hz, ehp3, ad_up_n _ hz]; exact (k2 z hz2).trans (k1 z hz2)⟩) d_T_init_40
end
section
section CRT
variable {G : ad_G} {hp hp1 hp2 : ad_H} {x dA tA lA rA gA sA : Nat} {ta ros : List Nat} {ts : List TH} {la lt rr rw : List Nat} {sd : Int64} {fg fs : Nat → Int32}
theorem CR.ra (C : CR G hp x dA tA lA rA gA sA ta ros ts la lt rr rw sd fg fs) {j y ra : Nat} {t : TH} (ht : ts[j]? = some t) (hy : ta[j]? = some y) (hty : hp y = some (oT j t ra)) : ros[j]? = some ra ∧ ro G hp ra t.2.2.2.2 := by
  obtain ⟨a, ra', q1, q2, q3, q4⟩ := C.th ht
  cases hy.symm.trans q1
  have hra : ra' = ra := by
    have := hty.symm.trans q3
    simp at this
    exact this.symm
  subst hra
  exact ⟨q2, q4⟩
theorem lk.grow {ta xs ws : List Nat} (h : lk ta xs ws) (q : Nat) : lk (ta ++ [q]) xs ws := ⟨h.1, fun j i hi => by
  obtain ⟨y, h1, h2⟩ := h.2 j i hi
  refine ⟨y, h1, ?_⟩
  rw [List.getElem?_append_left (List.getElem?_eq_some_iff.mp h2).1]
  exact h2⟩
theorem ex_fr (hk : ∀ z e, hp z = some e → hp1 z = some e) (gA sA : Nat) : fr gA sA hp hp1 := fun z e hz _ => hk z e hz
/-- a new thing -/
theorem CR.newT (C : CR G hp x dA tA lA rA gA sA ta ros ts la lt rr rw sd fg fs) {q q2 : Nat} {t : TH} (hk : ∀ z e, hp z = some e → hp1 z = some e) (h1 : hp1 q = some (oT ts.length t q2)) (h2 : hp1 q2 = some (.inr (3, [.ref (G.2.2 0), .int 0, .int 0]))) (h3 : hp q2 = none) (hr : t.2.2.2.2 = []) (hE1 : hp1 (G.2.2 0) = none) (h : Op hp1 hp2 tA) (h4 : al G hp2 tA (ta ++ [q])) (hE : hp2 (G.2.2 0) = none) (hn : ts.length < 64) :
    CR G hp2 x dA tA lA rA gA sA (ta ++ [q]) (ros ++ [q2]) (ts ++ [t]) la lt rr rw sd fg fs ∧ fr gA sA hp hp2 := by
  have hq2 : q2 ∉ tA :: lA :: rA :: ros := fun hm => by
    obtain ⟨ys, hy⟩ := C.all q2 hm
    obtain ⟨fs, hf⟩ := hy.self
    rw [h3] at hf; cases hf
  have a1 := (ex_al hk hE1 C.hA).1
  have a2 := (ex_al hk hE1 C.hLa).1
  have a3 := (ex_al hk hE1 C.hRr).1
  have a4 : al G hp1 q2 [] := ⟨_, 0, fun _ => none, 0, h2, Or.inl ⟨rfl, hE1, rfl⟩⟩
  have sp0 : Sep hp1 ((tA :: lA :: rA :: ros) ++ [q2]) := sep_new (ex_sep hk hE1 C.all C.sp) hq2 (fun z hz => by rw [hz.eq h2]; exact hE1)
  have sp1 : Sep hp1 (tA :: lA :: rA :: (ros ++ [q2])) := sp0
  have hall : ∀ b ∈ tA :: lA :: rA :: (ros ++ [q2]), ∃ ys, al G hp1 b ys := by
    intro b hb
    have hb : b ∈ (tA :: lA :: rA :: ros) ++ [q2] := hb
    rw [List.mem_append, List.mem_singleton] at hb
    rcases hb with hb | rfl
    · obtain ⟨ys, hy⟩ := C.all b hb
      exact ⟨ys, (ex_al hk hE1 hy).1⟩
    · exact ⟨_, a4⟩
  obtain ⟨⟨n1, n2, n3⟩, n4⟩ := C.nd
  have hl1 := C.2.2.2.2.2.2.2.2.1.1
  have hl2 := C.2.2.2.2.2.2.2.2.1.2
  refine ⟨⟨h.cell a1 (hk _ _ C.hX) trivial, h.cell a1 (hk _ _ C.hD) trivial, h.cell a1 (hk _ _ C.hg) trivial, h.cell a1 (hk _ _ C.hs) trivial, C.2.2.2.2.1, h4, (h.lst sp1 (by simp) (by simp) (Ne.symm n1) a1 a2 hE).1, (h.lst sp1 (by simp) (by simp) (Ne.symm n2) a1 a3 hE).1, by simp [hl1, hl2], fun i t2 ht2 => ?_, h.sep sp1 (by simp) hall hE, C.lkl.grow q, C.lkr.grow q, hE, by simp; omega⟩, (ex_fr hk gA sA).tr (h.frm a1 gA sA)⟩
  rw [List.getElem?_append] at ht2
  by_cases hi : i < ts.length
  · rw [if_pos hi] at ht2
    obtain ⟨a, ra, q1, q2', q3, q4⟩ := C.th ht2
    have hm : ra ∈ ros := List.mem_of_getElem? q2'
    refine ⟨a, ra, ?_, ?_, h.cell a1 (hk _ _ q3) trivial, h.row sp1 (by simp) (by simp [hm]) (n4 ra hm).1 a1 hE (ex_ro hk hE1 q4)⟩
    · rw [List.getElem?_append_left (by omega)]; exact q1
    · rw [List.getElem?_append_left (by omega)]; exact q2'
  · rw [if_neg hi] at ht2
    have : i - ts.length = 0 := by
      have := (List.getElem?_eq_some_iff.mp ht2).1
      simp at this; omega
    rw [this] at ht2
    simp at ht2
    subst ht2
    obtain rfl : i = ts.length := by omega
    refine ⟨q, q2, ?_, ?_, h.cell a1 h1 trivial, h.row sp1 (by simp) (by simp) (fun hh => hq2 (by simp [hh])) a1 hE (by rw [hr]; exact ⟨[], a4, rfl, fun k r hk => by simp at hk⟩)⟩
    · rw [List.getElem?_append_right (by omega)]; simp [hl1]
    · rw [List.getElem?_append_right (by omega)]; simp [hl2]
/-- a new row of a thing -/
theorem CR.tag (C : CR G hp x dA tA lA rA gA sA ta ros ts la lt rr rw sd fg fs) {j y ra q : Nat} {t : TH} {r : R3} {sa : List Nat} (ht : ts[j]? = some t) (hy : ta[j]? = some y) (hty : hp y = some (oT j t ra)) (hsa : al G hp ra sa) (hsl : sa.length = t.2.2.2.2.length) (hse : ∀ (k : Nat) (r : R3), t.2.2.2.2[k]? = some r → ∃ y : Nat, sa[k]? = some y ∧ hp y = some (oS r))
    (hk : ∀ z e, hp z = some e → hp1 z = some e) (h1 : hp1 q = some (oS r)) (hE1 : hp1 (G.2.2 0) = none) (h : Op hp1 hp2 ra) (h4 : al G hp2 ra (sa ++ [q])) (hE : hp2 (G.2.2 0) = none) :
    CR G hp2 x dA tA lA rA gA sA ta ros (ts.set j (t.1, t.2.1, t.2.2.1, t.2.2.2.1, t.2.2.2.2 ++ [r])) la lt rr rw sd fg fs ∧ fr gA sA hp hp2 := by
  have hjl : j < ts.length := (List.getElem?_eq_some_iff.mp ht).1
  obtain ⟨hro, -⟩ := C.ra ht hy hty
  have hm : ra ∈ ros := List.mem_of_getElem? hro
  have hmL : ra ∈ tA :: lA :: rA :: ros := by simp [hm]
  have b1 := (ex_al hk hE1 C.hA).1
  have b2 := (ex_al hk hE1 C.hLa).1
  have b3 := (ex_al hk hE1 C.hRr).1
  have b4 := (ex_al hk hE1 hsa).1
  have sp1 := ex_sep hk hE1 C.all C.sp
  have hall : ∀ b ∈ tA :: lA :: rA :: ros, ∃ ys, al G hp1 b ys := fun b hb => by
    obtain ⟨ys, hy⟩ := C.all b hb
    exact ⟨ys, (ex_al hk hE1 hy).1⟩
  obtain ⟨⟨n1, n2, n3⟩, n4⟩ := C.nd
  obtain ⟨m1, m2, m3⟩ := n4 ra hm
  have hN : ros.Nodup := by
    have h := C.sp.1
    simp only [List.nodup_cons] at h
    exact h.2.2.2
  refine ⟨⟨h.cell b4 (hk _ _ C.hX) trivial, h.cell b4 (hk _ _ C.hD) trivial, h.cell b4 (hk _ _ C.hg) trivial, h.cell b4 (hk _ _ C.hs) trivial, C.2.2.2.2.1, (h.lst sp1 hmL (by simp) (Ne.symm m1) b4 b1 hE).1, (h.lst sp1 hmL (by simp) (Ne.symm m2) b4 b2 hE).1, (h.lst sp1 hmL (by simp) (Ne.symm m3) b4 b3 hE).1, by rw [List.length_set]; exact C.2.2.2.2.2.2.2.2.1, fun i t2 ht2 => ?_, h.sep sp1 hmL hall hE, C.lkl, C.lkr, hE, by rw [List.length_set]; exact C.hn⟩, (ex_fr hk gA sA).tr (h.frm b4 gA sA)⟩
  by_cases hij : i = j
  · subst hij
    rw [List.getElem?_set_self hjl] at ht2
    cases ht2
    refine ⟨y, ra, hy, hro, h.cell b4 (hk _ _ hty) trivial, sa ++ [q], h4, by simp [hsl], fun k r2 hr2 => ?_⟩
    have hr2 : (t.2.2.2.2 ++ [r])[k]? = some r2 := hr2
    rw [List.getElem?_append] at hr2
    by_cases hk2 : k < t.2.2.2.2.length
    · rw [if_pos hk2] at hr2
      obtain ⟨y2, g1, g2⟩ := hse k r2 hr2
      exact ⟨y2, by rw [List.getElem?_append_left (by omega)]; exact g1, h.cell b4 (hk _ _ g2) trivial⟩
    · rw [if_neg hk2] at hr2
      have : k - t.2.2.2.2.length = 0 := by
        have := (List.getElem?_eq_some_iff.mp hr2).1
        simp at this; omega
      rw [this] at hr2
      simp at hr2
      subst hr2
      exact ⟨q, by rw [List.getElem?_append_right (by omega)]; simp [hsl, this], h.cell b4 h1 trivial⟩
  · rw [List.getElem?_set_ne (Ne.symm hij)] at ht2
    obtain ⟨a, ra', q1, q2, q3, q4⟩ := C.th ht2
    have hm' : ra' ∈ ros := List.mem_of_getElem? q2
    have hne : ra' ≠ ra := fun hh => by
      subst hh
      obtain ⟨u1, e1⟩ := List.getElem?_eq_some_iff.mp q2
      obtain ⟨u2, e2⟩ := List.getElem?_eq_some_iff.mp hro
      rcases Nat.lt_or_gt_of_ne hij with h9 | h9
      · exact List.pairwise_iff_getElem.mp hN i j u1 u2 h9 (e1.trans e2.symm)
      · exact List.pairwise_iff_getElem.mp hN j i u2 u1 h9 (e2.trans e1.symm)
    exact ⟨a, ra', q1, q2, h.cell b4 (hk _ _ q3) trivial, h.row sp1 hmL (by simp [hm']) hne b4 hE (ex_ro hk hE1 q4)⟩
end CRT
theorem CR.start {G : ad_G} {hp : ad_H} {x dA tA lA rA gA sA : Nat} (hX : hp x = some (.inr (4, [.ref dA, .ref tA, .ref lA, .ref rA, .ref gA, .ref sA]))) (hD : hp dA = some (.inr (0, [.long 0]))) (h1 : hp tA = some (.inr (3, [.ref (G.2.2 0), .int 0, .int 0]))) (h2 : hp lA = some (.inr (3, [.ref (G.2.2 0), .int 0, .int 0]))) (h3 : hp rA = some (.inr (3, [.ref (G.2.2 0), .int 0, .int 0]))) (hg : hp gA = some (.inl (G.2.1 0, 6, .inl (fun _ => 0)))) (hs : hp sA = some (.inl (G.2.1 0, 6, .inl (fun _ => 0)))) (n1 : tA ≠ lA) (n2 : tA ≠ rA) (n3 : lA ≠ rA) (n4 : gA ≠ sA) (hE : hp (G.2.2 0) = none) : CR G hp x dA tA lA rA gA sA [] [] [] [] [] [] [] 0 (fun _ => 0) (fun _ => 0) := by
  refine ⟨hX, hD, hg, hs, n4, ⟨_, 0, fun _ => none, 0, h1, Or.inl ⟨rfl, hE, rfl⟩⟩, ⟨_, 0, fun _ => none, 0, h2, Or.inl ⟨rfl, hE, rfl⟩⟩, ⟨_, 0, fun _ => none, 0, h3, Or.inl ⟨rfl, hE, rfl⟩⟩, ⟨rfl, rfl⟩, fun i t h => by simp at h, ⟨by simp [n1, n2, n3], fun a ha b hb z e1 e2 hz => (hz ?_).elim⟩, lk.nil _, lk.nil _, hE, by simp⟩
  simp only [List.mem_cons, List.not_mem_nil, or_false] at ha
  rcases ha with rfl | rfl | rfl
  · rw [e1.eq h1]; exact hE
  · rw [e1.eq h2]; exact hE
  · rw [e1.eq h3]; exact hE
theorem ad_tn {hp hp1 : ad_H} {a q : Nat} (T : ∀ z, z ≠ a → hp z ≠ none → hp1 z = hp z) (h : a ≠ q) (n : hp1 q = none) : hp q = none := by
  cases hq : hp q with
  | none => rfl
  | some e =>
    have := T q (Ne.symm h) (by rw [hq]; simp)
    rw [n, hq] at this
    cases this
set_option maxHeartbeats 4000000 in
set_option maxRecDepth 100000 in
theorem c_A_init (l : Launch) (G : ad_G) (lo : Nat) (hp : ad_H) (a : Nat) (h : hp a = some (.inr (4, [.null, .null, .null, .null, .null, .null]))) : ad_Ct l y_A_init b_A_init 1 rt_A_init hs_A_init 4 6 22 G lo hp [.ref a] (fun r hp' => r = .inl none ∧ ∃ dA tA lA rA gA sA : Nat, CR G hp' a dA tA lA rA gA sA [] [] [] [] [] [] [] 0 (fun _ => 0) (fun _ => 0) ∧ hp gA = none ∧ hp sA = none ∧ ∀ z, z ≠ a → hp z ≠ none → hp' z = hp z) := by
  intro p e s m below meth c M hts hB hP
  have hx := M.1
  have hb := M.2.1
  have hml := M.2.2.1
  have hown : s.vm.findClass "AuditDraws" = some m.cls := M.2.2.2.1
  have S : CallFix p m c b_A_init 1 s _ ad_T "AuditDraws" := ⟨hx, hb, hml, hown, hts⟩
  have I : ad_I G lo s hp s.heap [] := ad_I.rf hB hP
  have hl := lv_entry ([.ref a]) (n := 1) (Nat.le_of_ble_eq_true rfl)
  rw [lg_entry_eq]
  generalize (lg_sl ([.ref a]) ++ List.replicate (1 - (lg_sl ([.ref a])).length) Slot.unset).toArray = ls at hl ⊢
  have hl : lv_has ls 1 [(0, .ref a)] := hl
  have hin : meth.name = "<init>" := M.2.2.2.2.2.2.2
  have T_hp : ∀ z, z ≠ a → hp z ≠ none → hp z = hp z := fun _ _ _ => rfl
  refine lv_aload_n hx hb d_A_init_0 rfl (lv_at hl 0 rfl) ?_
  refine W.objInit hx hb hown (hts _ w_27) (hts _ w_28) (hts _ w_29) rfl (by rw [hml]; exact hl.1) rfl d_A_init_1 (Nat.le_of_ble_eq_true rfl) (Nat.le_of_ble_eq_true rfl) ?_
  refine W.eq (g2 := F0 m 4 ls []) rfl ?_
  refine lv_aload_n hx hb d_A_init_4 rfl (lv_at hl 0 rfl) ?_
  refine ad_new S I K_Draw w_30 w_31 w_2 (fs := [.long 0]) (by decide) (Nat.le_of_ble_eq_true rfl) (Nat.le_of_ble_eq_true rfl) d_A_init_5 (fun da1 H1 n1 I => ?_)
  obtain ⟨hp1, ehp1⟩ : ∃ z : ad_H, z = ad_up hp da1 (.inr (0, [.long 0])) := ⟨_, rfl⟩
  rw [← ehp1] at I
  have u1_0 : hp1 da1 = some (.inr (0, [.long 0])) := by rw [ehp1]; exact ad_up_s _ _ _
  have k1 : ∀ z, z ≠ da1 → hp1 z = hp z := fun z hz => by rw [ehp1]; exact ad_up_n _ hz
  have ne_a_da1 : a ≠ da1 := ad_nn n1 h
  have fhp1_a := (k1 a ne_a_da1).trans h
  have F_da1 : ∀ z, z ≠ a → hp z ≠ none → z ≠ da1 := fun z hz h hh => h ((T_hp z hz h).symm.trans (by rw [hh]; exact n1))
  have N_da1 : hp da1 = none := ad_tn T_hp (ad_nn n1 h) n1
  have T_hp1 : ∀ z, z ≠ a → hp z ≠ none → hp1 z = hp z := fun z hz h => (k1 z (F_da1 z hz h)).trans (T_hp z hz h)
  refine lv_dup hx hb d_A_init_8 rfl ?_
  refine ad_cZi S I (ad_ivIN (As := []) (rest := [.ref da1, .ref a]) S (va_Nw.use rfl hB.2.2.2.2.2.2.2.2.1) w_33 w_34 rfl ⟨by decide, by decide, np_D_init⟩ rfl d_A_init_9) (c_D_init l G lo hp1 da1 u1_0) Y_D_init hl.1 ⟨Nat.le_of_ble_eq_true rfl, Nat.le_of_ble_eq_true rfl⟩ (Nat.le_of_ble_eq_true rfl) (Nat.le_of_ble_eq_true rfl) d_A_init_9 (fun hp2 H1 locs1 hA I => ?_)
  obtain ⟨u2_0, k2⟩ := hA
  have fhp2_a := (k2 a (ne_a_da1)).trans fhp1_a
  have T_hp2 : ∀ z, z ≠ a → hp z ≠ none → hp2 z = hp z := fun z hz h => (k2 z (F_da1 z hz h)).trans (T_hp1 z hz h)
  refine ad_putF S I fhp2_a K_AD 0 (by decide) w_67 rfl hin rfl rfl rfl (by simp) d_A_init_12 (fun H1 locs1 I => ?_)
  obtain ⟨hp3, ehp3⟩ : ∃ z : ad_H, z = ad_up hp2 a (.inr (4, [.ref da1, .null, .null, .null, .null, .null])) := ⟨_, rfl⟩
  have I : ad_I G lo s hp3 H1 locs1 := by rw [ehp3]; exact I
  have fhp3_a : hp3 a = some (.inr (4, [.ref da1, .null, .null, .null, .null, .null])) := by rw [ehp3]; exact ad_up_s _ _ _
  have fhp3_da1 := (show hp3 da1 = hp2 da1 by rw [ehp3]; exact ad_up_n _ ((ne_a_da1).symm)).trans u2_0
  have T_hp3 : ∀ z, z ≠ a → hp z ≠ none → hp3 z = hp z := fun z hz h => by rw [ehp3, ad_up_n _ hz]; exact T_hp2 z hz h
  refine lv_aload_n hx hb d_A_init_15 rfl (lv_at hl 0 rfl) ?_
  refine ad_new S I K_AL w_41 w_42 w_5 (fs := [.null, .int 0, .int 0]) (by decide) (Nat.le_of_ble_eq_true rfl) (Nat.le_of_ble_eq_true rfl) d_A_init_16 (fun ra4 H1 n4 I => ?_)
  obtain ⟨hp4, ehp4⟩ : ∃ z : ad_H, z = ad_up hp3 ra4 (.inr (3, [.null, .int 0, .int 0])) := ⟨_, rfl⟩
  rw [← ehp4] at I
  have u4_0 : hp4 ra4 = some (.inr (3, [.null, .int 0, .int 0])) := by rw [ehp4]; exact ad_up_s _ _ _
  have k4 : ∀ z, z ≠ ra4 → hp4 z = hp3 z := fun z hz => by rw [ehp4]; exact ad_up_n _ hz
  have ne_a_ra4 : a ≠ ra4 := ad_nn n4 fhp3_a
  have fhp4_a := (k4 a ne_a_ra4).trans fhp3_a
  have ne_da1_ra4 : da1 ≠ ra4 := ad_nn n4 fhp3_da1
  have fhp4_da1 := (k4 da1 ne_da1_ra4).trans fhp3_da1
  have F_ra4 : ∀ z, z ≠ a → hp z ≠ none → z ≠ ra4 := fun z hz h hh => h ((T_hp3 z hz h).symm.trans (by rw [hh]; exact n4))
  have N_ra4 : hp ra4 = none := ad_tn T_hp3 (ad_nn n4 fhp3_a) n4
  have T_hp4 : ∀ z, z ≠ a → hp z ≠ none → hp4 z = hp z := fun z hz h => (k4 z (F_ra4 z hz h)).trans (T_hp3 z hz h)
  refine lv_dup hx hb d_A_init_19 rfl ?_
  refine ad_cZi S I (ad_ivI (As := []) (rest := [.ref ra4, .ref a]) S w_43 w_44 w_45 rfl ⟨by decide, by decide, np_AL_init⟩ rfl d_A_init_20) (c_AL_init l G lo hp4 ra4 u4_0) Y_AL_init hl.1 ⟨Nat.le_of_ble_eq_true rfl, Nat.le_of_ble_eq_true rfl⟩ (Nat.le_of_ble_eq_true rfl) (Nat.le_of_ble_eq_true rfl) d_A_init_20 (fun hp5 H1 locs1 hA I => ?_)
  obtain ⟨u5_0, k5⟩ := hA
  have fhp5_a := (k5 a (ne_a_ra4)).trans fhp4_a
  have fhp5_da1 := (k5 da1 (ne_da1_ra4)).trans fhp4_da1
  have T_hp5 : ∀ z, z ≠ a → hp z ≠ none → hp5 z = hp z := fun z hz h => (k5 z (F_ra4 z hz h)).trans (T_hp4 z hz h)
  refine ad_putF S I fhp5_a K_AD 1 (by decide) w_68 rfl hin rfl rfl rfl (by simp) d_A_init_23 (fun H1 locs1 I => ?_)
  obtain ⟨hp6, ehp6⟩ : ∃ z : ad_H, z = ad_up hp5 a (.inr (4, [.ref da1, .ref ra4, .null, .null, .null, .null])) := ⟨_, rfl⟩
  have I : ad_I G lo s hp6 H1 locs1 := by rw [ehp6]; exact I
  have fhp6_a : hp6 a = some (.inr (4, [.ref da1, .ref ra4, .null, .null, .null, .null])) := by rw [ehp6]; exact ad_up_s _ _ _
  have fhp6_da1 := (show hp6 da1 = hp5 da1 by rw [ehp6]; exact ad_up_n _ ((ne_a_da1).symm)).trans fhp5_da1
  have fhp6_ra4 := (show hp6 ra4 = hp5 ra4 by rw [ehp6]; exact ad_up_n _ ((ne_a_ra4).symm)).trans u5_0
  have T_hp6 : ∀ z, z ≠ a → hp z ≠ none → hp6 z = hp z := fun z hz h => by rw [ehp6, ad_up_n _ hz]; exact T_hp5 z hz h
  refine lv_aload_n hx hb d_A_init_26 rfl (lv_at hl 0 rfl) ?_
  refine ad_new S I K_AL w_41 w_42 w_5 (fs := [.null, .int 0, .int 0]) (by decide) (Nat.le_of_ble_eq_true rfl) (Nat.le_of_ble_eq_true rfl) d_A_init_27 (fun ra7 H1 n7 I => ?_)
  obtain ⟨hp7, ehp7⟩ : ∃ z : ad_H, z = ad_up hp6 ra7 (.inr (3, [.null, .int 0, .int 0])) := ⟨_, rfl⟩
  rw [← ehp7] at I
  have u7_0 : hp7 ra7 = some (.inr (3, [.null, .int 0, .int 0])) := by rw [ehp7]; exact ad_up_s _ _ _
  have k7 : ∀ z, z ≠ ra7 → hp7 z = hp6 z := fun z hz => by rw [ehp7]; exact ad_up_n _ hz
  have ne_a_ra7 : a ≠ ra7 := ad_nn n7 fhp6_a
  have fhp7_a := (k7 a ne_a_ra7).trans fhp6_a
  have ne_da1_ra7 : da1 ≠ ra7 := ad_nn n7 fhp6_da1
  have fhp7_da1 := (k7 da1 ne_da1_ra7).trans fhp6_da1
  have ne_ra4_ra7 : ra4 ≠ ra7 := ad_nn n7 fhp6_ra4
  have fhp7_ra4 := (k7 ra4 ne_ra4_ra7).trans fhp6_ra4
  have F_ra7 : ∀ z, z ≠ a → hp z ≠ none → z ≠ ra7 := fun z hz h hh => h ((T_hp6 z hz h).symm.trans (by rw [hh]; exact n7))
  have N_ra7 : hp ra7 = none := ad_tn T_hp6 (ad_nn n7 fhp6_a) n7
  have T_hp7 : ∀ z, z ≠ a → hp z ≠ none → hp7 z = hp z := fun z hz h => (k7 z (F_ra7 z hz h)).trans (T_hp6 z hz h)
  refine lv_dup hx hb d_A_init_30 rfl ?_
  refine ad_cZi S I (ad_ivI (As := []) (rest := [.ref ra7, .ref a]) S w_43 w_44 w_45 rfl ⟨by decide, by decide, np_AL_init⟩ rfl d_A_init_31) (c_AL_init l G lo hp7 ra7 u7_0) Y_AL_init hl.1 ⟨Nat.le_of_ble_eq_true rfl, Nat.le_of_ble_eq_true rfl⟩ (Nat.le_of_ble_eq_true rfl) (Nat.le_of_ble_eq_true rfl) d_A_init_31 (fun hp8 H1 locs1 hA I => ?_)
  obtain ⟨u8_0, k8⟩ := hA
  have fhp8_a := (k8 a (ne_a_ra7)).trans fhp7_a
  have fhp8_da1 := (k8 da1 (ne_da1_ra7)).trans fhp7_da1
  have fhp8_ra4 := (k8 ra4 (ne_ra4_ra7)).trans fhp7_ra4
  have T_hp8 : ∀ z, z ≠ a → hp z ≠ none → hp8 z = hp z := fun z hz h => (k8 z (F_ra7 z hz h)).trans (T_hp7 z hz h)
  refine ad_putF S I fhp8_a K_AD 2 (by decide) w_69 rfl hin rfl rfl rfl (by simp) d_A_init_34 (fun H1 locs1 I => ?_)
  obtain ⟨hp9, ehp9⟩ : ∃ z : ad_H, z = ad_up hp8 a (.inr (4, [.ref da1, .ref ra4, .ref ra7, .null, .null, .null])) := ⟨_, rfl⟩
  have I : ad_I G lo s hp9 H1 locs1 := by rw [ehp9]; exact I
  have fhp9_a : hp9 a = some (.inr (4, [.ref da1, .ref ra4, .ref ra7, .null, .null, .null])) := by rw [ehp9]; exact ad_up_s _ _ _
  have fhp9_da1 := (show hp9 da1 = hp8 da1 by rw [ehp9]; exact ad_up_n _ ((ne_a_da1).symm)).trans fhp8_da1
  have fhp9_ra4 := (show hp9 ra4 = hp8 ra4 by rw [ehp9]; exact ad_up_n _ ((ne_a_ra4).symm)).trans fhp8_ra4
  have fhp9_ra7 := (show hp9 ra7 = hp8 ra7 by rw [ehp9]; exact ad_up_n _ ((ne_a_ra7).symm)).trans u8_0
  have T_hp9 : ∀ z, z ≠ a → hp z ≠ none → hp9 z = hp z := fun z hz h => by rw [ehp9, ad_up_n _ hz]; exact T_hp8 z hz h
  refine lv_aload_n hx hb d_A_init_37 rfl (lv_at hl 0 rfl) ?_
  refine ad_new S I K_AL w_41 w_42 w_5 (fs := [.null, .int 0, .int 0]) (by decide) (Nat.le_of_ble_eq_true rfl) (Nat.le_of_ble_eq_true rfl) d_A_init_38 (fun ra10 H1 n10 I => ?_)
  obtain ⟨hp10, ehp10⟩ : ∃ z : ad_H, z = ad_up hp9 ra10 (.inr (3, [.null, .int 0, .int 0])) := ⟨_, rfl⟩
  rw [← ehp10] at I
  have u10_0 : hp10 ra10 = some (.inr (3, [.null, .int 0, .int 0])) := by rw [ehp10]; exact ad_up_s _ _ _
  have k10 : ∀ z, z ≠ ra10 → hp10 z = hp9 z := fun z hz => by rw [ehp10]; exact ad_up_n _ hz
  have ne_a_ra10 : a ≠ ra10 := ad_nn n10 fhp9_a
  have fhp10_a := (k10 a ne_a_ra10).trans fhp9_a
  have ne_da1_ra10 : da1 ≠ ra10 := ad_nn n10 fhp9_da1
  have fhp10_da1 := (k10 da1 ne_da1_ra10).trans fhp9_da1
  have ne_ra4_ra10 : ra4 ≠ ra10 := ad_nn n10 fhp9_ra4
  have fhp10_ra4 := (k10 ra4 ne_ra4_ra10).trans fhp9_ra4
  have ne_ra7_ra10 : ra7 ≠ ra10 := ad_nn n10 fhp9_ra7
  have fhp10_ra7 := (k10 ra7 ne_ra7_ra10).trans fhp9_ra7
  have F_ra10 : ∀ z, z ≠ a → hp z ≠ none → z ≠ ra10 := fun z hz h hh => h ((T_hp9 z hz h).symm.trans (by rw [hh]; exact n10))
  have N_ra10 : hp ra10 = none := ad_tn T_hp9 (ad_nn n10 fhp9_a) n10
  have T_hp10 : ∀ z, z ≠ a → hp z ≠ none → hp10 z = hp z := fun z hz h => (k10 z (F_ra10 z hz h)).trans (T_hp9 z hz h)
  refine lv_dup hx hb d_A_init_41 rfl ?_
  refine ad_cZi S I (ad_ivI (As := []) (rest := [.ref ra10, .ref a]) S w_43 w_44 w_45 rfl ⟨by decide, by decide, np_AL_init⟩ rfl d_A_init_42) (c_AL_init l G lo hp10 ra10 u10_0) Y_AL_init hl.1 ⟨Nat.le_of_ble_eq_true rfl, Nat.le_of_ble_eq_true rfl⟩ (Nat.le_of_ble_eq_true rfl) (Nat.le_of_ble_eq_true rfl) d_A_init_42 (fun hp11 H1 locs1 hA I => ?_)
  obtain ⟨u11_0, k11⟩ := hA
  have fhp11_a := (k11 a (ne_a_ra10)).trans fhp10_a
  have fhp11_da1 := (k11 da1 (ne_da1_ra10)).trans fhp10_da1
  have fhp11_ra4 := (k11 ra4 (ne_ra4_ra10)).trans fhp10_ra4
  have fhp11_ra7 := (k11 ra7 (ne_ra7_ra10)).trans fhp10_ra7
  have T_hp11 : ∀ z, z ≠ a → hp z ≠ none → hp11 z = hp z := fun z hz h => (k11 z (F_ra10 z hz h)).trans (T_hp10 z hz h)
  refine ad_putF S I fhp11_a K_AD 3 (by decide) w_70 rfl hin rfl rfl rfl (by simp) d_A_init_45 (fun H1 locs1 I => ?_)
  obtain ⟨hp12, ehp12⟩ : ∃ z : ad_H, z = ad_up hp11 a (.inr (4, [.ref da1, .ref ra4, .ref ra7, .ref ra10, .null, .null])) := ⟨_, rfl⟩
  have I : ad_I G lo s hp12 H1 locs1 := by rw [ehp12]; exact I
  have fhp12_a : hp12 a = some (.inr (4, [.ref da1, .ref ra4, .ref ra7, .ref ra10, .null, .null])) := by rw [ehp12]; exact ad_up_s _ _ _
  have fhp12_da1 := (show hp12 da1 = hp11 da1 by rw [ehp12]; exact ad_up_n _ ((ne_a_da1).symm)).trans fhp11_da1
  have fhp12_ra4 := (show hp12 ra4 = hp11 ra4 by rw [ehp12]; exact ad_up_n _ ((ne_a_ra4).symm)).trans fhp11_ra4
  have fhp12_ra7 := (show hp12 ra7 = hp11 ra7 by rw [ehp12]; exact ad_up_n _ ((ne_a_ra7).symm)).trans fhp11_ra7
  have fhp12_ra10 := (show hp12 ra10 = hp11 ra10 by rw [ehp12]; exact ad_up_n _ ((ne_a_ra10).symm)).trans u11_0
  have T_hp12 : ∀ z, z ≠ a → hp z ≠ none → hp12 z = hp z := fun z hz h => by rw [ehp12, ad_up_n _ hz]; exact T_hp11 z hz h
  refine lv_aload_n hx hb d_A_init_48 rfl (lv_at hl 0 rfl) ?_
  refine lv_bipush (v := 6) hx hb d_A_init_49 (by decide) ?_
  refine ad_newa (atype := .int) S I w_86 rfl 0 rfl (fun _ => rfl) (a0 := (6, .inl (fun _ => 0))) rfl (by decide) (N' := 6) (by decide) (by decide) (Nat.le_of_ble_eq_true rfl) (Nat.le_of_ble_eq_true rfl) d_A_init_51 (fun ar13 H1 n13 I => ?_)
  obtain ⟨hp13, ehp13⟩ : ∃ z : ad_H, z = ad_up hp12 ar13 (.inl (G.2.1 0, 6, .inl (fun _ => 0))) := ⟨_, rfl⟩
  rw [← ehp13] at I
  have u13_0 : hp13 ar13 = some (.inl (G.2.1 0, 6, .inl (fun _ => 0))) := by rw [ehp13]; exact ad_up_s _ _ _
  have k13 : ∀ z, z ≠ ar13 → hp13 z = hp12 z := fun z hz => by rw [ehp13]; exact ad_up_n _ hz
  have ne_a_ar13 : a ≠ ar13 := ad_nn n13 fhp12_a
  have fhp13_a := (k13 a ne_a_ar13).trans fhp12_a
  have ne_da1_ar13 : da1 ≠ ar13 := ad_nn n13 fhp12_da1
  have fhp13_da1 := (k13 da1 ne_da1_ar13).trans fhp12_da1
  have ne_ra4_ar13 : ra4 ≠ ar13 := ad_nn n13 fhp12_ra4
  have fhp13_ra4 := (k13 ra4 ne_ra4_ar13).trans fhp12_ra4
  have ne_ra7_ar13 : ra7 ≠ ar13 := ad_nn n13 fhp12_ra7
  have fhp13_ra7 := (k13 ra7 ne_ra7_ar13).trans fhp12_ra7
  have ne_ra10_ar13 : ra10 ≠ ar13 := ad_nn n13 fhp12_ra10
  have fhp13_ra10 := (k13 ra10 ne_ra10_ar13).trans fhp12_ra10
  have F_ar13 : ∀ z, z ≠ a → hp z ≠ none → z ≠ ar13 := fun z hz h hh => h ((T_hp12 z hz h).symm.trans (by rw [hh]; exact n13))
  have N_ar13 : hp ar13 = none := ad_tn T_hp12 (ad_nn n13 fhp12_a) n13
  have T_hp13 : ∀ z, z ≠ a → hp z ≠ none → hp13 z = hp z := fun z hz h => (k13 z (F_ar13 z hz h)).trans (T_hp12 z hz h)
  refine ad_putF S I fhp13_a K_AD 4 (by decide) w_71 rfl hin rfl rfl rfl (by simp) d_A_init_53 (fun H1 locs1 I => ?_)
  obtain ⟨hp14, ehp14⟩ : ∃ z : ad_H, z = ad_up hp13 a (.inr (4, [.ref da1, .ref ra4, .ref ra7, .ref ra10, .ref ar13, .null])) := ⟨_, rfl⟩
  have I : ad_I G lo s hp14 H1 locs1 := by rw [ehp14]; exact I
  have fhp14_a : hp14 a = some (.inr (4, [.ref da1, .ref ra4, .ref ra7, .ref ra10, .ref ar13, .null])) := by rw [ehp14]; exact ad_up_s _ _ _
  have fhp14_da1 := (show hp14 da1 = hp13 da1 by rw [ehp14]; exact ad_up_n _ ((ne_a_da1).symm)).trans fhp13_da1
  have fhp14_ra4 := (show hp14 ra4 = hp13 ra4 by rw [ehp14]; exact ad_up_n _ ((ne_a_ra4).symm)).trans fhp13_ra4
  have fhp14_ra7 := (show hp14 ra7 = hp13 ra7 by rw [ehp14]; exact ad_up_n _ ((ne_a_ra7).symm)).trans fhp13_ra7
  have fhp14_ra10 := (show hp14 ra10 = hp13 ra10 by rw [ehp14]; exact ad_up_n _ ((ne_a_ra10).symm)).trans fhp13_ra10
  have fhp14_ar13 := (show hp14 ar13 = hp13 ar13 by rw [ehp14]; exact ad_up_n _ ((ne_a_ar13).symm)).trans u13_0
  have T_hp14 : ∀ z, z ≠ a → hp z ≠ none → hp14 z = hp z := fun z hz h => by rw [ehp14, ad_up_n _ hz]; exact T_hp13 z hz h
  refine lv_aload_n hx hb d_A_init_56 rfl (lv_at hl 0 rfl) ?_
  refine lv_bipush (v := 6) hx hb d_A_init_57 (by decide) ?_
  refine ad_newa (atype := .int) S I w_86 rfl 0 rfl (fun _ => rfl) (a0 := (6, .inl (fun _ => 0))) rfl (by decide) (N' := 6) (by decide) (by decide) (Nat.le_of_ble_eq_true rfl) (Nat.le_of_ble_eq_true rfl) d_A_init_59 (fun ar15 H1 n15 I => ?_)
  obtain ⟨hp15, ehp15⟩ : ∃ z : ad_H, z = ad_up hp14 ar15 (.inl (G.2.1 0, 6, .inl (fun _ => 0))) := ⟨_, rfl⟩
  rw [← ehp15] at I
  have u15_0 : hp15 ar15 = some (.inl (G.2.1 0, 6, .inl (fun _ => 0))) := by rw [ehp15]; exact ad_up_s _ _ _
  have k15 : ∀ z, z ≠ ar15 → hp15 z = hp14 z := fun z hz => by rw [ehp15]; exact ad_up_n _ hz
  have ne_a_ar15 : a ≠ ar15 := ad_nn n15 fhp14_a
  have fhp15_a := (k15 a ne_a_ar15).trans fhp14_a
  have ne_da1_ar15 : da1 ≠ ar15 := ad_nn n15 fhp14_da1
  have fhp15_da1 := (k15 da1 ne_da1_ar15).trans fhp14_da1
  have ne_ra4_ar15 : ra4 ≠ ar15 := ad_nn n15 fhp14_ra4
  have fhp15_ra4 := (k15 ra4 ne_ra4_ar15).trans fhp14_ra4
  have ne_ra7_ar15 : ra7 ≠ ar15 := ad_nn n15 fhp14_ra7
  have fhp15_ra7 := (k15 ra7 ne_ra7_ar15).trans fhp14_ra7
  have ne_ra10_ar15 : ra10 ≠ ar15 := ad_nn n15 fhp14_ra10
  have fhp15_ra10 := (k15 ra10 ne_ra10_ar15).trans fhp14_ra10
  have ne_ar13_ar15 : ar13 ≠ ar15 := ad_nn n15 fhp14_ar13
  have fhp15_ar13 := (k15 ar13 ne_ar13_ar15).trans fhp14_ar13
  have F_ar15 : ∀ z, z ≠ a → hp z ≠ none → z ≠ ar15 := fun z hz h hh => h ((T_hp14 z hz h).symm.trans (by rw [hh]; exact n15))
  have N_ar15 : hp ar15 = none := ad_tn T_hp14 (ad_nn n15 fhp14_a) n15
  have T_hp15 : ∀ z, z ≠ a → hp z ≠ none → hp15 z = hp z := fun z hz h => (k15 z (F_ar15 z hz h)).trans (T_hp14 z hz h)
  refine ad_putF S I fhp15_a K_AD 5 (by decide) w_72 rfl hin rfl rfl rfl (by simp) d_A_init_61 (fun H1 locs1 I => ?_)
  obtain ⟨hp16, ehp16⟩ : ∃ z : ad_H, z = ad_up hp15 a (.inr (4, [.ref da1, .ref ra4, .ref ra7, .ref ra10, .ref ar13, .ref ar15])) := ⟨_, rfl⟩
  have I : ad_I G lo s hp16 H1 locs1 := by rw [ehp16]; exact I
  have fhp16_a : hp16 a = some (.inr (4, [.ref da1, .ref ra4, .ref ra7, .ref ra10, .ref ar13, .ref ar15])) := by rw [ehp16]; exact ad_up_s _ _ _
  have fhp16_da1 := (show hp16 da1 = hp15 da1 by rw [ehp16]; exact ad_up_n _ ((ne_a_da1).symm)).trans fhp15_da1
  have fhp16_ra4 := (show hp16 ra4 = hp15 ra4 by rw [ehp16]; exact ad_up_n _ ((ne_a_ra4).symm)).trans fhp15_ra4
  have fhp16_ra7 := (show hp16 ra7 = hp15 ra7 by rw [ehp16]; exact ad_up_n _ ((ne_a_ra7).symm)).trans fhp15_ra7
  have fhp16_ra10 := (show hp16 ra10 = hp15 ra10 by rw [ehp16]; exact ad_up_n _ ((ne_a_ra10).symm)).trans fhp15_ra10
  have fhp16_ar13 := (show hp16 ar13 = hp15 ar13 by rw [ehp16]; exact ad_up_n _ ((ne_a_ar13).symm)).trans fhp15_ar13
  have fhp16_ar15 := (show hp16 ar15 = hp15 ar15 by rw [ehp16]; exact ad_up_n _ ((ne_a_ar15).symm)).trans u15_0
  have T_hp16 : ∀ z, z ≠ a → hp z ≠ none → hp16 z = hp z := fun z hz h => by rw [ehp16, ad_up_n _ hz]; exact T_hp15 z hz h
  exact ad_vret M I (by omega) (by omega) (⟨rfl, da1, ra4, ra7, ra10, ar13, ar15, CR.start fhp16_a fhp16_da1 fhp16_ra4 fhp16_ra7 fhp16_ra10 fhp16_ar13 fhp16_ar15 ne_ra4_ra7 ne_ra4_ra10 ne_ra7_ra10 ne_ar13_ar15 (ad_I.e I), N_ar13, N_ar15, T_hp16⟩) d_A_init_64
set_option maxHeartbeats 4000000 in
set_option maxRecDepth 100000 in
theorem c_A_thing (l : Launch) (G : ad_G) (lo : Nat) (hp : ad_H) (x dA tA lA rA gA sA : Nat) (ta ros : List Nat) (ts : List TH) (la lt rr rw : List Nat) (sd : Int64) (fg fs : Nat → Int32) (s0 p0 : Int32)  (hT : l.stackTraces = false) (C : CR G hp x dA tA lA rA gA sA ta ros ts la lt rr rw sd fg fs) : ad_Ct l y_A_thing b_A_thing 4 rt_A_thing hs_A_thing 8 3 109 G lo hp [.ref x, .int s0, .int p0] (fun r hp' => r = q_ans [ad_NSE, ad_ISE] (q_th ts s0 p0).1 ∧ ∃ ta' ros' : List Nat, CR G hp' x dA tA lA rA gA sA ta' ros' ((q_th ts s0 p0).2) la lt rr rw sd fg fs ∧ fr gA sA hp hp') := by
  intro p e s m below meth c M hts hB hP
  have hx := M.1
  have hb := M.2.1
  have hml := M.2.2.1
  have hown : s.vm.findClass "AuditDraws" = some m.cls := M.2.2.2.1
  have S : CallFix p m c b_A_thing 4 s _ ad_T "AuditDraws" := ⟨hx, hb, hml, hown, hts⟩
  have I : ad_I G lo s hp s.heap [] := ad_I.rf hB hP
  have hl := lv_entry ([.ref x, .int s0, .int p0]) (n := 4) (Nat.le_of_ble_eq_true rfl)
  rw [lg_entry_eq]
  generalize (lg_sl ([.ref x, .int s0, .int p0]) ++ List.replicate (4 - (lg_sl ([.ref x, .int s0, .int p0])).length) Slot.unset).toArray = ls at hl ⊢
  have hl : lv_has ls 4 [(0, .ref x), (1, .int s0), (2, .int p0)] := hl
  have hX := C.hX
  have hL := C.hA
  have hTT := C.htt
  have hn := C.hn
  have hD := C.hD
  obtain ⟨_, htA⟩ := C.hA.self
  refine lv_iload_n hx hb d_A_thing_0 rfl (lv_at hl 1 rfl) ?_
  refine lv_bipush (v := 6) hx hb d_A_thing_1 (by decide) ?_
  refine ad_cPg S I (ad_ivS (As := [.int s0, .int 6]) (rest := []) S Y_A_needBelow w_100 w_101 w_1 ⟨by decide, by decide, np_A_needBelow⟩ rfl d_A_thing_3) (c_A_needBelow l G lo hp s0 6 hT) Y_A_needBelow hl.1 ⟨Nat.le_of_ble_eq_true rfl, Nat.le_of_ble_eq_true rfl⟩ (Nat.le_of_ble_eq_true rfl) (Nat.le_of_ble_eq_true rfl) d_A_thing_3 (fun g3 => ?_) (fun g3 H1 x cell h1 h2 h3 h4 h5 => ?_)
  · refine lv_iload_n hx hb d_A_thing_6 rfl (lv_at hl 2 rfl) ?_
    refine lv_bipush (v := 16) hx hb d_A_thing_7 (by decide) ?_
    refine ad_cPg S I (ad_ivS (As := [.int p0, .int 16]) (rest := []) S Y_A_needBelow w_100 w_101 w_1 ⟨by decide, by decide, np_A_needBelow⟩ rfl d_A_thing_9) (c_A_needBelow l G lo hp p0 16 hT) Y_A_needBelow hl.1 ⟨Nat.le_of_ble_eq_true rfl, Nat.le_of_ble_eq_true rfl⟩ (Nat.le_of_ble_eq_true rfl) (Nat.le_of_ble_eq_true rfl) d_A_thing_9 (fun g9 => ?_) (fun g9 H1 x cell h1 h2 h3 h4 h5 => ?_)
    · refine lv_aload_n hx hb d_A_thing_12 rfl (lv_at hl 0 rfl) ?_
      refine ad_get S I hX K_AD 1 (by decide) w_68 rfl d_A_thing_13 ?_
      refine ad_cPi S I (ad_ivV (As := []) (rest := []) S (ad_recv I htA K_AL) w_171 w_172 w_173 Y_AL_size ⟨by decide, by decide, np_AL_size⟩ rfl d_A_thing_16) (c_ALsize l G lo hp tA ta hL) Y_AL_size hl.1 ⟨Nat.le_of_ble_eq_true rfl, Nat.le_of_ble_eq_true rfl⟩ (Nat.le_of_ble_eq_true rfl) (Nat.le_of_ble_eq_true rfl) d_A_thing_16 ?_
      refine ad_top (y := .int (nI ts.length)) (by rw [hTT.1]) ?_
      refine lv_bipush (v := 64) hx hb d_A_thing_19 (by decide) ?_
      refine lv_icmp_lt (tgt := 34) hx hb d_A_thing_21 (by decide) (fun c21 => ?_) (fun c21 => ?_)
      · have hlt : ts.length < 64 := (nI_ltI (by omega) (by omega)).mp c21
        refine lv_aload_n hx hb d_A_thing_34 rfl (lv_at hl 0 rfl) ?_
        refine ad_get S I hX K_AD 1 (by decide) w_68 rfl d_A_thing_35 ?_
        refine ad_cPi S I (ad_ivV (As := []) (rest := []) S (ad_recv I htA K_AL) w_171 w_172 w_173 Y_AL_size ⟨by decide, by decide, np_AL_size⟩ rfl d_A_thing_38) (c_ALsize l G lo hp tA ta hL) Y_AL_size hl.1 ⟨Nat.le_of_ble_eq_true rfl, Nat.le_of_ble_eq_true rfl⟩ (Nat.le_of_ble_eq_true rfl) (Nat.le_of_ble_eq_true rfl) d_A_thing_38 ?_
        refine ad_top (y := .int (nI ts.length)) (by rw [hTT.1]) ?_
        refine lv_istore_n (lv' := [(3, .int (nI ts.length)), (0, .ref x), (1, .int s0), (2, .int p0)]) hx hb d_A_thing_41 rfl hl (by decide) rfl (fun ls hl => ?_)
        refine lv_aload_n hx hb d_A_thing_42 rfl (lv_at hl 1 rfl) ?_
        refine ad_get S I hX K_AD 1 (by decide) w_68 rfl d_A_thing_43 ?_
        refine ad_new S I K_Thing w_191 w_192 w_12 (fs := [.int 0, .int 0, .null, .int 0, .int 0, .int 0]) (by decide) (Nat.le_of_ble_eq_true rfl) (Nat.le_of_ble_eq_true rfl) d_A_thing_46 (fun th1 H1 n1 I => ?_)
        obtain ⟨hp1, ehp1⟩ : ∃ z : ad_H, z = ad_up hp th1 (.inr (1, [.int 0, .int 0, .null, .int 0, .int 0, .int 0])) := ⟨_, rfl⟩
        rw [← ehp1] at I
        have u1_0 : hp1 th1 = some (.inr (1, [.int 0, .int 0, .null, .int 0, .int 0, .int 0])) := by rw [ehp1]; exact ad_up_s _ _ _
        have k1 : ∀ z, z ≠ th1 → hp1 z = hp z := fun z hz => by rw [ehp1]; exact ad_up_n _ hz
        have ne_x_th1 : x ≠ th1 := ad_nn n1 hX
        have fhp1_x := (k1 x ne_x_th1).trans hX
        have ne_tA_th1 : tA ≠ th1 := ad_nn n1 htA
        have fhp1_tA := (k1 tA ne_tA_th1).trans htA
        refine lv_dup hx hb d_A_thing_49 rfl ?_
        refine lv_iload_n hx hb d_A_thing_50 rfl (lv_at hl 0 rfl) ?_
        refine lv_iload_n hx hb d_A_thing_51 rfl (lv_at hl 2 rfl) ?_
        refine lv_iload_n hx hb d_A_thing_52 rfl (lv_at hl 3 rfl) ?_
        refine ad_cZi S I (ad_ivI (As := [.int (nI ts.length), .int s0, .int p0]) (rest := [.ref th1, .ref tA]) S w_193 w_194 w_195 rfl ⟨by decide, by decide, np_T_init⟩ rfl d_A_thing_53) (c_T_init l G lo hp1 th1 (nI ts.length) s0 p0 u1_0) Y_T_init hl.1 ⟨Nat.le_of_ble_eq_true rfl, Nat.le_of_ble_eq_true rfl⟩ (Nat.le_of_ble_eq_true rfl) (Nat.le_of_ble_eq_true rfl) d_A_thing_53 (fun hp2 H1 locs1 hA I => ?_)
        obtain ⟨ra, hra, u1, u2, k2⟩ := hA
        have kk : ∀ z e, hp z = some e → hp2 z = some e := fun z e hz => by
          have hzq : z ≠ th1 := ad_nn n1 hz
          have h1 : hp1 z = some e := (k1 z hzq).trans hz
          exact (k2 z hzq (ad_nn hra h1)).trans h1
        have hra0 : hp ra = none := by
          cases hq : hp ra with
          | none => rfl
          | some e =>
            have h1 : hp1 ra = some e := (k1 ra (ad_nn n1 hq)).trans hq
            rw [hra] at h1; cases h1
        have hE1 := ad_I.e I
        refine ad_cZi S I (ad_ivV (As := [.ref th1]) (rest := []) S (ad_recv I (kk _ _ htA) K_AL) w_224 w_225 w_226 Y_AL_add ⟨by decide, by decide, np_AL_add⟩ rfl d_A_thing_56) (c_ALadd l G lo hp2 tA ta th1 _ 1 _ _ _ _ (ex_al kk hE1 hL).1 (by have := hTT.1; omega) u1 (by decide) K_Thing w_732 (fun y hy => by obtain ⟨i, hi, ey⟩ := List.getElem_of_mem hy; obtain ⟨t9, ra9, -, -, h9, -⟩ := C.ty (i := i) (y := y) (by rw [List.getElem?_eq_getElem hi, ey]); exact ⟨_, kk _ _ h9⟩)) Y_AL_add hl.1 ⟨Nat.le_of_ble_eq_true rfl, Nat.le_of_ble_eq_true rfl⟩ (Nat.le_of_ble_eq_true rfl) (Nat.le_of_ble_eq_true rfl) d_A_thing_56 (fun hp3 H1 locs1 hA I => ?_)
        obtain ⟨a1, a2, a3⟩ := hA
        refine lv_pop hx hb d_A_thing_59 rfl ?_
        refine lv_iload_n hx hb d_A_thing_60 rfl (lv_at hl 0 rfl) ?_
        exact ad_iret M I rfl (by omega) (by omega) (⟨by rw [(show q_th ts s0 p0 = ((0, nI ts.length), ts ++ [(s0, p0, -1, 0, [])]) by simp only [q_th]; rw [if_pos ⟨g3, g9⟩, if_pos hlt])]; rfl, _, _, by rw [(show q_th ts s0 p0 = ((0, nI ts.length), ts ++ [(s0, p0, -1, 0, [])]) by simp only [q_th]; rw [if_pos ⟨g3, g9⟩, if_pos hlt])]; exact (C.newT (t := (s0, p0, -1, 0, [])) kk u1 u2 hra0 rfl hE1 ⟨a2, a3⟩ a1 (ad_I.e I) hlt).1, (C.newT (t := (s0, p0, -1, 0, [])) kk u1 u2 hra0 rfl hE1 ⟨a2, a3⟩ a1 (ad_I.e I) hlt).2⟩) d_A_thing_61
      · obtain ⟨q9, hq9⟩ := hB.2.2.2.2.2.2.1 (50, "there are 64 things") (by decide)
        refine ad_thr S hT (X := "java/lang/IllegalStateException") (Yn := "java/lang/RuntimeException") (names := ["java/lang/Exception"]) (ix := 7) (bx := prog_12_method_2_code) (ic := 52) w_175 w_176 w_11 hq9 (ad_hat hB hts at_ISE) (by decide +kernel) (by decide +kernel) (by decide +kernel) (by decide +kernel) (by decide +kernel) (by decide +kernel) (by decide +kernel) hl.1 d_A_thing_24 d_A_thing_27 d_A_thing_28 d_A_thing_30 d_A_thing_33 (by decide) (by decide) (by decide) (by decide) (fun H1 cell h1 h2 h3 h4 h5 => ?_)
        exact ad_out M (I.grown h1 h2) h3 h4 h5 (by decide) (by decide) (by decide) (⟨by rw [(show q_th ts s0 p0 = ((2, 0), ts) by simp only [q_th]; rw [if_pos ⟨g3, g9⟩, if_neg (fun h => c21 (nI_lt (b := 64) h (by omega)))])]; rfl, ta, ros, by rw [(show q_th ts s0 p0 = ((2, 0), ts) by simp only [q_th]; rw [if_pos ⟨g3, g9⟩, if_neg (fun h => c21 (nI_lt (b := 64) h (by omega)))])]; exact C, fr.rf _ _ _⟩)
    · exact ad_out M (I.grown h1 h2) h3 h4 h5 (by decide) (by decide) (by decide) (⟨by rw [(show q_th ts s0 p0 = ((1, 0), ts) by simp only [q_th]; rw [if_neg (fun h => g9 h.2)])]; rfl, ta, ros, by rw [(show q_th ts s0 p0 = ((1, 0), ts) by simp only [q_th]; rw [if_neg (fun h => g9 h.2)])]; exact C, fr.rf _ _ _⟩)
  · exact ad_out M (I.grown h1 h2) h3 h4 h5 (by decide) (by decide) (by decide) (⟨by rw [(show q_th ts s0 p0 = ((1, 0), ts) by simp only [q_th]; rw [if_neg (fun h => g3 h.1)])]; rfl, ta, ros, by rw [(show q_th ts s0 p0 = ((1, 0), ts) by simp only [q_th]; rw [if_neg (fun h => g3 h.1)])]; exact C, fr.rf _ _ _⟩)
set_option maxHeartbeats 4000000 in
set_option maxRecDepth 100000 in
theorem c_A_tag (l : Launch) (G : ad_G) (lo : Nat) (hp : ad_H) (x dA tA lA rA gA sA : Nat) (ta ros : List Nat) (ts : List TH) (la lt rr rw : List Nat) (sd : Int64) (fg fs : Nat → Int32) (v h0 p0 d0 : Int32)  (hT : l.stackTraces = false) (C : CR G hp x dA tA lA rA gA sA ta ros ts la lt rr rw sd fg fs) (hm : ∀ t ∈ ts, t.2.2.2.2.length ≤ 24) : ad_Ct l y_A_tag b_A_tag 6 rt_A_tag hs_A_tag 8 2 103 G lo hp [.ref x, .int v, .int h0, .int p0, .int d0] (fun r hp' => r = q_ans [ad_NSE, ad_IAE, ad_ISE] (q_tg ts v h0 p0 d0).1 ∧ CR G hp' x dA tA lA rA gA sA ta ros ((q_tg ts v h0 p0 d0).2) la lt rr rw sd fg fs ∧ fr gA sA hp hp') := by
  intro p e s m below meth c M hts hB hP
  have hx := M.1
  have hb := M.2.1
  have hml := M.2.2.1
  have hown : s.vm.findClass "AuditDraws" = some m.cls := M.2.2.2.1
  have S : CallFix p m c b_A_tag 6 s _ ad_T "AuditDraws" := ⟨hx, hb, hml, hown, hts⟩
  have I : ad_I G lo s hp s.heap [] := ad_I.rf hB hP
  have hl := lv_entry ([.ref x, .int v, .int h0, .int p0, .int d0]) (n := 6) (Nat.le_of_ble_eq_true rfl)
  rw [lg_entry_eq]
  generalize (lg_sl ([.ref x, .int v, .int h0, .int p0, .int d0]) ++ List.replicate (6 - (lg_sl ([.ref x, .int v, .int h0, .int p0, .int d0])).length) Slot.unset).toArray = ls at hl ⊢
  have hl : lv_has ls 6 [(0, .ref x), (1, .int v), (2, .int h0), (3, .int p0), (4, .int d0)] := hl
  have hX := C.hX
  have hL := C.hA
  have hTT := C.htt
  have hn := C.hn
  have hD := C.hD
  obtain ⟨_, htA⟩ := C.hA.self
  refine lv_aload_n hx hb d_A_tag_0 rfl (lv_at hl 0 rfl) ?_
  refine lv_iload_n hx hb d_A_tag_1 rfl (lv_at hl 1 rfl) ?_
  refine ad_cP S I (ad_ivV (As := [.int v]) (rest := []) S (ad_recv I hX K_AD) w_374 w_376 sp_A_existing Y_A_existing ⟨by decide, by decide, np_A_existing⟩ rfl d_A_tag_2) (c_A_existing l G lo hp x dA tA lA rA gA sA v ta ts hT hX hL hTT hn) Y_A_existing hl.1 ⟨Nat.le_of_ble_eq_true rfl, Nat.le_of_ble_eq_true rfl⟩ (Nat.le_of_ble_eq_true rfl) (Nat.le_of_ble_eq_true rfl) d_A_tag_2 (fun v9 h9 => ?_) (fun C9 H1 x9 cell h9 h1 h2 h3 h4 h5 => ?_)
  · obtain ⟨j, t, y, ra, hv, ht, hy, hty, hr9⟩ | ⟨-, hr9⟩ := h9
    case inr => cases hr9
    cases hr9
    refine lv_astore (lv' := [(5, .ref y), (0, .ref x), (1, .int v), (2, .int h0), (3, .int p0), (4, .int d0)]) hx hb d_A_tag_5 hl (by decide) rfl (fun ls hl => ?_)
    refine lv_iload_n hx hb d_A_tag_7 rfl (lv_at hl 4 rfl) ?_
    refine lv_bipush (v := 16) hx hb d_A_tag_8 (by decide) ?_
    refine ad_cPg S I (ad_ivS (As := [.int p0, .int 16]) (rest := []) S Y_A_needBelow w_100 w_101 w_1 ⟨by decide, by decide, np_A_needBelow⟩ rfl d_A_tag_10) (c_A_needBelow l G lo hp p0 16 hT) Y_A_needBelow hl.1 ⟨Nat.le_of_ble_eq_true rfl, Nat.le_of_ble_eq_true rfl⟩ (Nat.le_of_ble_eq_true rfl) (Nat.le_of_ble_eq_true rfl) d_A_tag_10 (fun g10 => ?_) (fun g10 H1 x cell h1 h2 h3 h4 h5 => ?_)
    · refine lv_iload_n hx hb d_A_tag_13 rfl (lv_at hl 3 rfl) ?_
      refine ad_cPg S I (ad_ivS (As := [.int h0]) (rest := []) S Y_A_needHour w_461 w_462 w_1 ⟨by decide, by decide, np_A_needHour⟩ rfl d_A_tag_14) (c_A_needHour l G lo hp h0 hT) Y_A_needHour hl.1 ⟨Nat.le_of_ble_eq_true rfl, Nat.le_of_ble_eq_true rfl⟩ (Nat.le_of_ble_eq_true rfl) (Nat.le_of_ble_eq_true rfl) d_A_tag_14 (fun g14 => ?_) (fun g14 H1 x cell h1 h2 h3 h4 h5 => ?_)
      · refine lv_iload hx hb d_A_tag_17 (lv_at hl 5 rfl) ?_
        refine ad_cPg S I (ad_ivS (As := [.int d0]) (rest := []) S Y_A_needHour w_461 w_462 w_1 ⟨by decide, by decide, np_A_needHour⟩ rfl d_A_tag_19) (c_A_needHour l G lo hp d0 hT) Y_A_needHour hl.1 ⟨Nat.le_of_ble_eq_true rfl, Nat.le_of_ble_eq_true rfl⟩ (Nat.le_of_ble_eq_true rfl) (Nat.le_of_ble_eq_true rfl) d_A_tag_19 (fun g19 => ?_) (fun g19 H1 x cell h1 h2 h3 h4 h5 => ?_)
        · refine lv_iload hx hb d_A_tag_22 (lv_at hl 5 rfl) ?_
          refine lv_iload_n hx hb d_A_tag_24 rfl (lv_at hl 3 rfl) ?_
          refine lv_icmp_ge (tgt := 38) hx hb d_A_tag_25 (by decide) (fun c25 => ?_) (fun c25 => ?_)
          · refine lv_aload hx hb d_A_tag_38 (lv_at hl 0 rfl) ?_
            obtain ⟨hro, sa, hsa, hsl, hse⟩ := C.ra ht hy hty
            obtain ⟨_, hra⟩ := hsa.self
            have hm24 : t.2.2.2.2.length ≤ 24 := hm t (List.mem_of_getElem? ht)
            refine ad_get S I hty K_Thing 2 (by decide) w_204 rfl d_A_tag_40 ?_
            refine ad_cPi S I (ad_ivV (As := []) (rest := []) S (ad_recv I hra K_AL) w_171 w_172 w_173 Y_AL_size ⟨by decide, by decide, np_AL_size⟩ rfl d_A_tag_43) (c_ALsize l G lo hp ra sa hsa) Y_AL_size hl.1 ⟨Nat.le_of_ble_eq_true rfl, Nat.le_of_ble_eq_true rfl⟩ (Nat.le_of_ble_eq_true rfl) (Nat.le_of_ble_eq_true rfl) d_A_tag_43 ?_
            refine ad_top (y := .int (nI t.2.2.2.2.length)) (by rw [hsl]) ?_
            refine lv_bipush (v := 24) hx hb d_A_tag_46 (by decide) ?_
            refine lv_icmp_lt (tgt := 61) hx hb d_A_tag_48 (by decide) (fun c48 => ?_) (fun c48 => ?_)
            · have hlt : t.2.2.2.2.length < 24 := (nI_ltI (by omega) (by omega)).mp c48
              refine lv_aload hx hb d_A_tag_61 (lv_at hl 0 rfl) ?_
              refine ad_get S I hty K_Thing 2 (by decide) w_204 rfl d_A_tag_63 ?_
              refine ad_new S I K_Sight w_468 w_469 w_21 (fs := [.int 0, .int 0, .int 0]) (by decide) (Nat.le_of_ble_eq_true rfl) (Nat.le_of_ble_eq_true rfl) d_A_tag_66 (fun sg1 H1 n1 I => ?_)
              obtain ⟨hp1, ehp1⟩ : ∃ z : ad_H, z = ad_up hp sg1 (.inr (2, [.int 0, .int 0, .int 0])) := ⟨_, rfl⟩
              rw [← ehp1] at I
              have u1_0 : hp1 sg1 = some (.inr (2, [.int 0, .int 0, .int 0])) := by rw [ehp1]; exact ad_up_s _ _ _
              have k1 : ∀ z, z ≠ sg1 → hp1 z = hp z := fun z hz => by rw [ehp1]; exact ad_up_n _ hz
              have ne_x_sg1 : x ≠ sg1 := ad_nn n1 hX
              have fhp1_x := (k1 x ne_x_sg1).trans hX
              have ne_tA_sg1 : tA ≠ sg1 := ad_nn n1 htA
              have fhp1_tA := (k1 tA ne_tA_sg1).trans htA
              have ne_y_sg1 : y ≠ sg1 := ad_nn n1 hty
              have fhp1_y := (k1 y ne_y_sg1).trans hty
              have ne_ra_sg1 : ra ≠ sg1 := ad_nn n1 hra
              have fhp1_ra := (k1 ra ne_ra_sg1).trans hra
              refine lv_dup hx hb d_A_tag_69 rfl ?_
              refine lv_iload_n hx hb d_A_tag_70 rfl (lv_at hl 3 rfl) ?_
              refine lv_iload_n hx hb d_A_tag_71 rfl (lv_at hl 4 rfl) ?_
              refine lv_iload hx hb d_A_tag_72 (lv_at hl 5 rfl) ?_
              refine ad_cZi S I (ad_ivI (As := [.int h0, .int p0, .int d0]) (rest := [.ref sg1, .ref ra]) S w_470 w_471 w_472 rfl ⟨by decide, by decide, np_S_init⟩ rfl d_A_tag_74) (c_S_init l G lo hp1 sg1 (h0, p0, d0) u1_0) Y_S_init hl.1 ⟨Nat.le_of_ble_eq_true rfl, Nat.le_of_ble_eq_true rfl⟩ (Nat.le_of_ble_eq_true rfl) (Nat.le_of_ble_eq_true rfl) d_A_tag_74 (fun hp2 H1 locs1 hA I => ?_)
              obtain ⟨u1, k2⟩ := hA
              have kk : ∀ z e, hp z = some e → hp2 z = some e := fun z e hz => by
                have hzq : z ≠ sg1 := ad_nn n1 hz
                exact (k2 z hzq).trans ((k1 z hzq).trans hz)
              have hE1 := ad_I.e I
              refine ad_cZi S I (ad_ivV (As := [.ref sg1]) (rest := []) S (ad_recv I (kk _ _ hra) K_AL) w_224 w_225 w_226 Y_AL_add ⟨by decide, by decide, np_AL_add⟩ rfl d_A_tag_77) (c_ALadd l G lo hp2 ra sa sg1 _ 2 _ _ _ _ (ex_al kk hE1 hsa).1 (by omega) u1 (by decide) K_Sight w_733 (fun y hy => by obtain ⟨i, hi, ey⟩ := List.getElem_of_mem hy; obtain ⟨y9, h8, h9⟩ := hse i _ (List.getElem?_eq_getElem (by omega)); have h7 : sa[i]? = some y := (by rw [List.getElem?_eq_getElem hi, ey]); cases h7.symm.trans h8; exact ⟨_, kk _ _ h9⟩)) Y_AL_add hl.1 ⟨Nat.le_of_ble_eq_true rfl, Nat.le_of_ble_eq_true rfl⟩ (Nat.le_of_ble_eq_true rfl) (Nat.le_of_ble_eq_true rfl) d_A_tag_77 (fun hp3 H1 locs1 hA I => ?_)
              obtain ⟨a1, a2, a3⟩ := hA
              have C2 := C.tag (r := (h0, p0, d0)) ht hy hty hsa hsl hse kk u1 hE1 ⟨a2, a3⟩ a1 (ad_I.e I)
              have hty2 : hp3 y = some (oT j t ra) := Op.cell ⟨a2, a3⟩ (ex_al kk hE1 hsa).1 (kk _ _ hty) trivial
              obtain ⟨_, hra2⟩ := a1.self
              refine lv_pop hx hb d_A_tag_80 rfl ?_
              refine lv_aload hx hb d_A_tag_81 (lv_at hl 0 rfl) ?_
              refine ad_get S I hty2 K_Thing 2 (by decide) w_204 rfl d_A_tag_83 ?_
              refine ad_cPi S I (ad_ivV (As := []) (rest := []) S (ad_recv I hra2 K_AL) w_171 w_172 w_173 Y_AL_size ⟨by decide, by decide, np_AL_size⟩ rfl d_A_tag_86) (c_ALsize l G lo hp3 ra (sa ++ [sg1]) a1) Y_AL_size hl.1 ⟨Nat.le_of_ble_eq_true rfl, Nat.le_of_ble_eq_true rfl⟩ (Nat.le_of_ble_eq_true rfl) (Nat.le_of_ble_eq_true rfl) d_A_tag_86 ?_
              refine ad_top (y := .int (nI (t.2.2.2.2.length + 1))) (by rw [List.length_append, hsl]; rfl) ?_
              exact ad_iret M I rfl (by omega) (by omega) (⟨by rw [(show q_tg ts v h0 p0 d0 = ((0, nI (t.2.2.2.2.length + 1)), ts.set j (t.1, t.2.1, t.2.2.1, t.2.2.2.1, t.2.2.2.2 ++ [(h0, p0, d0)])) by simp only [q_tg]; rw [sp_at_n hv ht hn]; simp only; rw [if_pos g10, if_pos ⟨g14, g19, Int32.not_lt.mpr c25⟩, if_pos hlt, q_j hv ht hn])]; rfl, by rw [(show q_tg ts v h0 p0 d0 = ((0, nI (t.2.2.2.2.length + 1)), ts.set j (t.1, t.2.1, t.2.2.1, t.2.2.2.1, t.2.2.2.2 ++ [(h0, p0, d0)])) by simp only [q_tg]; rw [sp_at_n hv ht hn]; simp only; rw [if_pos g10, if_pos ⟨g14, g19, Int32.not_lt.mpr c25⟩, if_pos hlt, q_j hv ht hn])]; exact C2.1, C2.2⟩) d_A_tag_89
            · obtain ⟨q9, hq9⟩ := hB.2.2.2.2.2.2.1 (139, "the thing has 24 rows") (by decide)
              refine ad_thr S hT (X := "java/lang/IllegalStateException") (Yn := "java/lang/RuntimeException") (names := ["java/lang/Exception"]) (ix := 7) (bx := prog_12_method_2_code) (ic := 52) w_175 w_176 w_11 hq9 (ad_hat hB hts at_ISE) (by decide +kernel) (by decide +kernel) (by decide +kernel) (by decide +kernel) (by decide +kernel) (by decide +kernel) (by decide +kernel) hl.1 d_A_tag_51 d_A_tag_54 d_A_tag_55 d_A_tag_57 d_A_tag_60 (by decide) (by decide) (by decide) (by decide) (fun H1 cell h1 h2 h3 h4 h5 => ?_)
              exact ad_out M (I.grown h1 h2) h3 h4 h5 (by decide) (by decide) (by decide) (⟨by rw [(show q_tg ts v h0 p0 d0 = ((3, 0), ts) by simp only [q_tg]; rw [sp_at_n hv ht hn]; simp only; rw [if_pos g10, if_pos ⟨g14, g19, Int32.not_lt.mpr c25⟩, if_neg (fun h => c48 (nI_lt (b := 24) h (by omega)))])]; rfl, by rw [(show q_tg ts v h0 p0 d0 = ((3, 0), ts) by simp only [q_tg]; rw [sp_at_n hv ht hn]; simp only; rw [if_pos g10, if_pos ⟨g14, g19, Int32.not_lt.mpr c25⟩, if_neg (fun h => c48 (nI_lt (b := 24) h (by omega)))])]; exact C, fr.rf _ _ _⟩)
          · obtain ⟨q9, hq9⟩ := hB.2.2.2.2.2.2.1 (134, "told ahead of its hour") (by decide)
            refine ad_thr S hT (X := "java/lang/IllegalArgumentException") (Yn := "java/lang/RuntimeException") (names := ["java/lang/Exception"]) (ix := 7) (bx := prog_11_method_2_code) (ic := 68) w_288 w_289 w_17 hq9 (ad_hat hB hts at_IAE) (by decide +kernel) (by decide +kernel) (by decide +kernel) (by decide +kernel) (by decide +kernel) (by decide +kernel) (by decide +kernel) hl.1 d_A_tag_28 d_A_tag_31 d_A_tag_32 d_A_tag_34 d_A_tag_37 (by decide) (by decide) (by decide) (by decide) (fun H1 cell h1 h2 h3 h4 h5 => ?_)
            exact ad_out M (I.grown h1 h2) h3 h4 h5 (by decide) (by decide) (by decide) (⟨by rw [(show q_tg ts v h0 p0 d0 = ((2, 0), ts) by simp only [q_tg]; rw [sp_at_n hv ht hn]; simp only; rw [if_pos g10, if_neg (fun h => c25 (Int32.not_lt.mp h.2.2))])]; rfl, by rw [(show q_tg ts v h0 p0 d0 = ((2, 0), ts) by simp only [q_tg]; rw [sp_at_n hv ht hn]; simp only; rw [if_pos g10, if_neg (fun h => c25 (Int32.not_lt.mp h.2.2))])]; exact C, fr.rf _ _ _⟩)
        · exact ad_out M (I.grown h1 h2) h3 h4 h5 (by decide) (by decide) (by decide) (⟨by rw [(show q_tg ts v h0 p0 d0 = ((2, 0), ts) by simp only [q_tg]; rw [sp_at_n hv ht hn]; simp only; rw [if_pos g10, if_neg (fun h => g19 h.2.1)])]; rfl, by rw [(show q_tg ts v h0 p0 d0 = ((2, 0), ts) by simp only [q_tg]; rw [sp_at_n hv ht hn]; simp only; rw [if_pos g10, if_neg (fun h => g19 h.2.1)])]; exact C, fr.rf _ _ _⟩)
      · exact ad_out M (I.grown h1 h2) h3 h4 h5 (by decide) (by decide) (by decide) (⟨by rw [(show q_tg ts v h0 p0 d0 = ((2, 0), ts) by simp only [q_tg]; rw [sp_at_n hv ht hn]; simp only; rw [if_pos g10, if_neg (fun h => g14 h.1)])]; rfl, by rw [(show q_tg ts v h0 p0 d0 = ((2, 0), ts) by simp only [q_tg]; rw [sp_at_n hv ht hn]; simp only; rw [if_pos g10, if_neg (fun h => g14 h.1)])]; exact C, fr.rf _ _ _⟩)
    · exact ad_out M (I.grown h1 h2) h3 h4 h5 (by decide) (by decide) (by decide) (⟨by rw [(show q_tg ts v h0 p0 d0 = ((1, 0), ts) by simp only [q_tg]; rw [sp_at_n hv ht hn]; simp only; rw [if_neg g10])]; rfl, by rw [(show q_tg ts v h0 p0 d0 = ((1, 0), ts) by simp only [q_tg]; rw [sp_at_n hv ht hn]; simp only; rw [if_neg g10])]; exact C, fr.rf _ _ _⟩)
  · obtain ⟨_, _, _, _, _, _, _, _, hr9⟩ | ⟨hno, hr9⟩ := h9
    case inl => cases hr9
    cases hr9
    exact ad_out M (I.grown h1 h2) h3 h4 h5 (by decide) (by decide) (by decide) (⟨by rw [(show q_tg ts v h0 p0 d0 = ((1, 0), ts) by simp only [q_tg]; rw [sp_at_0 hno hn])]; rfl, by rw [(show q_tg ts v h0 p0 d0 = ((1, 0), ts) by simp only [q_tg]; rw [sp_at_0 hno hn])]; exact C, fr.rf _ _ _⟩)
end
section
abbrev sst (v : Int32) (t : TH) : TH := (t.1, t.2.1, v, t.2.2.2.1, t.2.2.2.2)
def sp_z (v : Int32) (ts : List TH) (i : Nat) : List TH := match ts[i]? with
  | some t => ts.set i (sst v t)
  | none => ts
theorem sp_z_e {v : Int32} {ts : List TH} {i : Nat} {t : TH} (h : ts[i]? = some t) : sp_z v ts i = ts.set i (sst v t) := by simp [sp_z, h]
theorem fz_s {α β : Type} {f : β → α → β} {b : β} {xs : List α} {j : Nat} {i : α} (h : xs[j]? = some i) : (xs.take (j + 1)).foldl f b = f ((xs.take j).foldl f b) i := by
  obtain ⟨hj, rfl⟩ := List.getElem?_eq_some_iff.mp h
  rw [List.take_succ_eq_append_getElem hj, List.foldl_append]
  rfl
def sp_cn (ts : List TH) (k : Nat) : Nat := ts.countP (fun t => decide (t.1 = nI k))
def sp_f (ts : List TH) (n k : Nat) : Nat := n * sp_cn ts k / ts.length
def sp_r (ts : List TH) (n k : Nat) : Nat := n * sp_cn ts k % ts.length
theorem sp_cn_le (ts : List TH) (k : Nat) : sp_cn ts k ≤ ts.length := List.countP_le_length
theorem sp_cb {ts : List TH} {n : Nat} (k : Nat) (hn : ts.length ≤ 64) (h : n ≤ ts.length) : n * sp_cn ts k ≤ 4096 := by
  have h1 := sp_cn_le ts k
  have : n * sp_cn ts k ≤ 64 * 64 := Nat.mul_le_mul (by omega) (by omega)
  omega
set_option maxHeartbeats 4000000 in
set_option maxRecDepth 100000 in
theorem c_A_forgetLatest (l : Launch) (G : ad_G) (lo : Nat) (hp : ad_H) (x dA tA lA rA gA sA : Nat) (ta ros : List Nat) (ts : List TH) (la lt rr rw : List Nat) (sd : Int64) (fg fs : Nat → Int32)  (C : CR G hp x dA tA lA rA gA sA ta ros ts la lt rr rw sd fg fs) (hm : lt.length ≤ 64) : ad_Ct l y_A_forgetLatest b_A_forgetLatest 2 rt_A_forgetLatest hs_A_forgetLatest 4 0 0 G lo hp [.ref x] (fun r hp' => r = .inl none ∧ CR G hp' x dA tA lA rA gA sA ta ros (lt.foldl (sp_z (-1)) ts) ([]) ([]) rr rw sd fg fs ∧ fr gA sA hp hp') := by
  intro p e s m below meth c M hts hB hP
  have hx := M.1
  have hb := M.2.1
  have hml := M.2.2.1
  have hown : s.vm.findClass "AuditDraws" = some m.cls := M.2.2.2.1
  have S : CallFix p m c b_A_forgetLatest 2 s _ ad_T "AuditDraws" := ⟨hx, hb, hml, hown, hts⟩
  have I : ad_I G lo s hp s.heap [] := ad_I.rf hB hP
  have hl := lv_entry ([.ref x]) (n := 2) (Nat.le_of_ble_eq_true rfl)
  rw [lg_entry_eq]
  generalize (lg_sl ([.ref x]) ++ List.replicate (2 - (lg_sl ([.ref x])).length) Slot.unset).toArray = ls at hl ⊢
  have hl : lv_has ls 2 [(0, .ref x)] := hl
  have loop : ∀ (n : Nat) (j : Nat) (hpj : ad_H) (tsj : List TH) (H : Heap) (locs : List Loc), lt.length < j + n ∧ j ≤ lt.length → ad_I G lo s hpj H locs → CR G hpj x dA tA lA rA gA sA ta ros tsj la lt rr rw sd fg fs → fr gA sA hp hpj → tsj = (lt.take j).foldl (sp_z (-1)) ts → ∀ ls : Array Slot, lv_has ls 2 [(0, .ref x), (1, .int (nI j))] → W p l e (ad_rm 4 0 0) s m ([.ref x] : List Value).toArray below meth c H locs 0 0 (ad_Z below G lo (fun r hp' => r = .inl none ∧ CR G hp' x dA tA lA rA gA sA ta ros (lt.foldl (sp_z (-1)) ts) ([]) ([]) rr rw sd fg fs ∧ fr gA sA hp hp') s 0 0) (F0 m 2 ls []) := by
    intro n
    induction n with
    | zero => intro j hpj tsj H locs h0; exact absurd h0 (by omega)
    | succ n ih =>
      intro j hpj tsj H locs h0 I C F et ls hl
      obtain ⟨_, hlA⟩ := C.hLa.self
      have hll := C.lkl.1
      refine lv_iload_n hx hb d_A_forgetLatest_2 rfl (lv_at hl 1 rfl) ?_
      refine lv_aload_n hx hb d_A_forgetLatest_3 rfl (lv_at hl 0 rfl) ?_
      refine ad_get S I C.hX K_AD 2 (by decide) w_69 rfl d_A_forgetLatest_4 ?_
      refine ad_cPi S I (ad_ivV (As := []) (rest := [.int (nI j)]) S (ad_recv I hlA K_AL) w_171 w_172 w_173 Y_AL_size ⟨by decide, by decide, np_AL_size⟩ rfl d_A_forgetLatest_7) (c_ALsize l G lo hpj lA la C.hLa) Y_AL_size hl.1 ⟨Nat.le_of_ble_eq_true rfl, Nat.le_of_ble_eq_true rfl⟩ (Nat.le_of_ble_eq_true rfl) (Nat.le_of_ble_eq_true rfl) d_A_forgetLatest_7 ?_
      refine ad_top (y := .int (nI lt.length)) (by rw [hll]) ?_
      refine lv_icmp_ge (tgt := 34) hx hb d_A_forgetLatest_10 (by decide) (fun c10 => ?_) (fun c10 => ?_)
      · obtain rfl : j = lt.length := by have := ad_ge (j := j) (n := lt.length) (by omega) (by omega) c10; omega
        rw [List.take_length] at et
        subst et
        refine lv_aload_n hx hb d_A_forgetLatest_34 rfl (lv_at hl 0 rfl) ?_
        refine ad_get S I C.hX K_AD 2 (by decide) w_69 rfl d_A_forgetLatest_35 ?_
        refine ad_cZi S I (ad_ivV (As := []) (rest := []) S (ad_recv I hlA K_AL) w_322 w_323 w_324 Y_AL_clear ⟨by decide, by decide, np_AL_clear⟩ rfl d_A_forgetLatest_38) (c_ALclear l G lo hpj lA la C.hLa) Y_AL_clear hl.1 ⟨Nat.le_of_ble_eq_true rfl, Nat.le_of_ble_eq_true rfl⟩ (Nat.le_of_ble_eq_true rfl) (Nat.le_of_ble_eq_true rfl) d_A_forgetLatest_38 (fun hp9 H1 locs1 hA I => ?_)
        obtain ⟨a1, a2, a3⟩ := hA
        have C9 := C.opL (hp' := hp9) ⟨fun z h1 h2 _ => a2 z h1 h2, fun z h => Or.inl (a3 z h)⟩ a1 (ad_I.e I) (lk.nil ta)
        exact ad_vret M I (by omega) (by omega) (⟨rfl, C9.1, F.tr C9.2⟩) d_A_forgetLatest_41
      · have hj : j < lt.length := ad_lt (by omega) (by omega) c10
        obtain ⟨i, hi⟩ : ∃ i, lt[j]? = some i := ⟨_, List.getElem?_eq_getElem hj⟩
        obtain ⟨y, hy, hta⟩ := C.lkl.2 j i hi
        obtain ⟨t, ra, ht, hro, hty, -⟩ := C.ty hta
        refine lv_aload_n hx hb d_A_forgetLatest_13 rfl (lv_at hl 0 rfl) ?_
        refine ad_get S I C.hX K_AD 2 (by decide) w_69 rfl d_A_forgetLatest_14 ?_
        refine lv_iload_n hx hb d_A_forgetLatest_17 rfl (lv_at hl 1 rfl) ?_
        refine ad_cPi S I (ad_ivV (As := [.int (nI j)]) (rest := []) S (ad_recv I hlA K_AL) w_308 w_309 w_310 Y_AL_get ⟨by decide, by decide, np_AL_get⟩ rfl d_A_forgetLatest_18) (c_ALget l G lo hpj lA la j y C.hLa hy) Y_AL_get hl.1 ⟨Nat.le_of_ble_eq_true rfl, Nat.le_of_ble_eq_true rfl⟩ (Nat.le_of_ble_eq_true rfl) (Nat.le_of_ble_eq_true rfl) d_A_forgetLatest_18 ?_
        refine va_castE hx hb hown (hts _ w_191) (ad_recv I hty K_Thing) d_A_forgetLatest_21 ?_
        refine lv_iconst (v := (-1)) hx hb d_A_forgetLatest_24 (by decide) ?_
        refine ad_put S I hty K_Thing 4 (by decide) w_208 rfl rfl rfl (by simp) d_A_forgetLatest_25 (fun H1 locs1 I => ?_)
        obtain ⟨hp101, ehp101⟩ : ∃ z : ad_H, z = ad_up hpj y (.inr (1, [.int (nI i), .int t.1, .ref ra, .int t.2.1, .int (-1), .int t.2.2.2.1])) := ⟨_, rfl⟩
        have I : ad_I G lo s hp101 H1 locs1 := by rw [ehp101]; exact I
        have fhp101_x := (show hp101 x = hpj x by rw [ehp101]; exact ad_up_n _ (ad_ne C.hX hty (by simp))).trans C.hX
        have fhp101_lA := (show hp101 lA = hpj lA by rw [ehp101]; exact ad_up_n _ (ad_ne hlA hty (by simp))).trans hlA
        have fhp101_y : hp101 y = some (.inr (1, [.int (nI i), .int t.1, .ref ra, .int t.2.1, .int (-1), .int t.2.2.2.1])) := by rw [ehp101]; exact ad_up_s _ _ _
        refine lv_iinc (v := (nI (j + 1))) (lv' := [(1, .int (nI (j + 1))), (0, .ref x)]) hx hb d_A_forgetLatest_28 hl (k := 1) rfl (nI_1 j) (by decide) rfl (fun ls hl => ?_)
        refine lv_goto (tgt := 2) hx hb d_A_forgetLatest_31 (by decide) ?_
        exact ih (j + 1) hp101 (tsj.set i (sst (-1) t)) H1 locs1 (by omega) I (C.thing (t' := sst (-1) t) ht hta hty rfl (fun z hz => by rw [ehp101, ad_up_n _ hz]) fhp101_y (ad_I.e I)).1 (F.tr (C.thing (t' := sst (-1) t) ht hta hty rfl (fun z hz => by rw [ehp101, ad_up_n _ hz]) fhp101_y (ad_I.e I)).2) (by rw [fz_s hi, ← et, sp_z_e ht]) ls (lv_sub hl [1, 0] rfl)
  refine lv_iconst (v := 0) hx hb d_A_forgetLatest_0 (by decide) ?_
  refine lv_istore_n (lv' := [(1, .int 0), (0, .ref x)]) hx hb d_A_forgetLatest_1 rfl hl (by decide) rfl (fun ls hl => ?_)
  exact loop (lt.length + 1) 0 hp ts s.heap [] (by omega) I C (fr.rf _ _ _) rfl ls (lv_sub hl [1, 0] rfl)
set_option maxHeartbeats 4000000 in
set_option maxRecDepth 100000 in
theorem c_A_giveRoundedDown (l : Launch) (G : ad_G) (lo : Nat) (hp : ad_H) (x dA tA lA rA gA sA : Nat) (ta ros : List Nat) (ts : List TH) (la lt rr rw : List Nat) (sd : Int64) (fg fs : Nat → Int32) (k0 n0 : Nat)  (C : CR G hp x dA tA lA rA gA sA ta ros ts la lt rr rw sd fg fs) (hk : k0 < 6) (hn0 : n0 ≤ ts.length) : ad_Ct l y_A_giveRoundedDown b_A_giveRoundedDown 5 rt_A_giveRoundedDown hs_A_giveRoundedDown 5 0 0 G lo hp [.ref x, .int (nI k0), .int (nI n0)] (fun r hp' => r = .inl none ∧ CR G hp' x dA tA lA rA gA sA ta ros ts la lt rr rw sd (upd fg k0 (nI (sp_f ts n0 k0))) (upd fs k0 (nI (sp_r ts n0 k0))) ∧ fr gA sA hp hp') := by
  intro p e s m below meth c M hts hB hP
  have hx := M.1
  have hb := M.2.1
  have hml := M.2.2.1
  have hown : s.vm.findClass "AuditDraws" = some m.cls := M.2.2.2.1
  have S : CallFix p m c b_A_giveRoundedDown 5 s _ ad_T "AuditDraws" := ⟨hx, hb, hml, hown, hts⟩
  have I : ad_I G lo s hp s.heap [] := ad_I.rf hB hP
  have hl := lv_entry ([.ref x, .int (nI k0), .int (nI n0)]) (n := 5) (Nat.le_of_ble_eq_true rfl)
  rw [lg_entry_eq]
  generalize (lg_sl ([.ref x, .int (nI k0), .int (nI n0)]) ++ List.replicate (5 - (lg_sl ([.ref x, .int (nI k0), .int (nI n0)])).length) Slot.unset).toArray = ls at hl ⊢
  have hl : lv_has ls 5 [(0, .ref x), (1, .int (nI k0)), (2, .int (nI n0))] := hl
  obtain ⟨_, htA⟩ := C.hA.self
  have hn := C.hn
  have hcb := sp_cb k0 hn hn0
  refine lv_aload_n hx hb d_A_giveRoundedDown_0 rfl (lv_at hl 0 rfl) ?_
  refine ad_get S I C.hX K_AD 1 (by decide) w_68 rfl d_A_giveRoundedDown_1 ?_
  refine ad_cPi S I (ad_ivV (As := []) (rest := []) S (ad_recv I htA K_AL) w_171 w_172 w_173 Y_AL_size ⟨by decide, by decide, np_AL_size⟩ rfl d_A_giveRoundedDown_4) (c_ALsize l G lo hp tA ta C.hA) Y_AL_size hl.1 ⟨Nat.le_of_ble_eq_true rfl, Nat.le_of_ble_eq_true rfl⟩ (Nat.le_of_ble_eq_true rfl) (Nat.le_of_ble_eq_true rfl) d_A_giveRoundedDown_4 ?_
  refine ad_top (y := .int (nI ts.length)) (by rw [C.htt.1]) ?_
  refine lv_istore_n (lv' := [(3, .int (nI ts.length)), (0, .ref x), (1, .int (nI k0)), (2, .int (nI n0))]) hx hb d_A_giveRoundedDown_7 rfl hl (by decide) rfl (fun ls hl => ?_)
  refine lv_iload_n hx hb d_A_giveRoundedDown_8 rfl (lv_at hl 3 rfl) ?_
  refine lv_aload_n hx hb d_A_giveRoundedDown_9 rfl (lv_at hl 1 rfl) ?_
  refine lv_iload_n hx hb d_A_giveRoundedDown_10 rfl (lv_at hl 2 rfl) ?_
  refine ad_cPi S I (ad_ivV (As := [.int (nI k0)]) (rest := [.int (nI n0)]) S (ad_recv I C.hX K_AD) w_334 w_336 sp_A_countThings Y_A_countThings ⟨by decide, by decide, np_A_countThings⟩ rfl d_A_giveRoundedDown_11) (c_A_countThings l G lo hp x dA tA lA rA gA sA (nI k0) ta ts C.hX C.hA C.htt C.hn) Y_A_countThings hl.1 ⟨Nat.le_of_ble_eq_true rfl, Nat.le_of_ble_eq_true rfl⟩ (Nat.le_of_ble_eq_true rfl) (Nat.le_of_ble_eq_true rfl) d_A_giveRoundedDown_11 ?_
  refine lv_imul hx hb d_A_giveRoundedDown_14 ?_
  refine ad_top (y := .int (nI (n0 * sp_cn ts k0))) (congrArg Value.int (pk_mul _ _)) ?_
  refine lv_istore (lv' := [(4, .int (nI (n0 * sp_cn ts k0))), (3, .int (nI ts.length)), (0, .ref x), (1, .int (nI k0)), (2, .int (nI n0))]) hx hb d_A_giveRoundedDown_15 hl (by decide) rfl (fun ls hl => ?_)
  refine lv_aload_n hx hb d_A_giveRoundedDown_17 rfl (lv_at hl 2 rfl) ?_
  refine ad_get S I C.hX K_AD 4 (by decide) w_71 rfl d_A_giveRoundedDown_18 ?_
  refine lv_iload_n hx hb d_A_giveRoundedDown_21 rfl (lv_at hl 3 rfl) ?_
  refine lv_iload_n hx hb d_A_giveRoundedDown_22 rfl (lv_at hl 1 rfl) ?_
  refine lv_if_ne (tgt := 30) hx hb d_A_giveRoundedDown_23 (by decide) (fun c23 => ?_) (fun c23 => ?_)
  · have hz : 0 < ts.length := Nat.pos_of_ne_zero (fun h => c23 (by rw [h]; rfl))
    refine lv_iload hx hb d_A_giveRoundedDown_30 (lv_at hl 0 rfl) ?_
    refine lv_iload_n hx hb d_A_giveRoundedDown_32 rfl (lv_at hl 1 rfl) ?_
    refine lv_idiv hx hb d_A_giveRoundedDown_33 c23 ?_
    refine ad_iast S I C.hg (vp_in_nI (show k0 < 6 by omega) (by omega)) d_A_giveRoundedDown_34 (fun H1 locs1 I => ?_)
    obtain ⟨hp1, ehp1⟩ : ∃ z : ad_H, z = ad_up hp gA (.inl (G.2.1 0, 6, .inl (upd fg (nI k0).toNatClampNeg ((nI (n0 * sp_cn ts k0)) / (nI ts.length))))) := ⟨_, rfl⟩
    have I : ad_I G lo s hp1 H1 locs1 := by rw [ehp1]; exact I
    have fhp1_x := (show hp1 x = hp x by rw [ehp1]; exact ad_up_n _ (ad_ne C.hX C.hg (by simp))).trans C.hX
    have fhp1_tA := (show hp1 tA = hp tA by rw [ehp1]; exact ad_up_n _ (ad_ne htA C.hg (by simp))).trans htA
    have fhp1_gA : hp1 gA = some (.inl (G.2.1 0, 6, .inl (upd fg (nI k0).toNatClampNeg ((nI (n0 * sp_cn ts k0)) / (nI ts.length))))) := by rw [ehp1]; exact ad_up_s _ _ _
    have fhp1_sA := (show hp1 sA = hp sA by rw [ehp1]; exact ad_up_n _ ((C.2.2.2.2.1).symm)).trans C.hs
    have Ehp1 := ad_I.e I
    refine lv_aload_n hx hb d_A_giveRoundedDown_35 rfl (lv_at hl 2 rfl) ?_
    refine ad_get S I fhp1_x K_AD 5 (by decide) w_72 rfl d_A_giveRoundedDown_36 ?_
    refine lv_iload_n hx hb d_A_giveRoundedDown_39 rfl (lv_at hl 3 rfl) ?_
    refine lv_iload_n hx hb d_A_giveRoundedDown_40 rfl (lv_at hl 1 rfl) ?_
    refine lv_if_ne (tgt := 48) hx hb d_A_giveRoundedDown_41 (by decide) (fun c41 => ?_) (fun c41 => ?_)
    · refine lv_iload hx hb d_A_giveRoundedDown_48 (lv_at hl 0 rfl) ?_
      refine lv_iload_n hx hb d_A_giveRoundedDown_50 rfl (lv_at hl 1 rfl) ?_
      refine lv_irem hx hb d_A_giveRoundedDown_51 c23 ?_
      refine ad_iast S I fhp1_sA (vp_in_nI (show k0 < 6 by omega) (by omega)) d_A_giveRoundedDown_52 (fun H1 locs1 I => ?_)
      obtain ⟨hp2, ehp2⟩ : ∃ z : ad_H, z = ad_up hp1 sA (.inl (G.2.1 0, 6, .inl (upd fs (nI k0).toNatClampNeg ((nI (n0 * sp_cn ts k0)) - (nI (n0 * sp_cn ts k0)) / (nI ts.length) * (nI ts.length))))) := ⟨_, rfl⟩
      have I : ad_I G lo s hp2 H1 locs1 := by rw [ehp2]; exact I
      have fhp2_x := (show hp2 x = hp1 x by rw [ehp2]; exact ad_up_n _ (ad_ne fhp1_x fhp1_sA (by simp))).trans fhp1_x
      have fhp2_tA := (show hp2 tA = hp1 tA by rw [ehp2]; exact ad_up_n _ (ad_ne fhp1_tA fhp1_sA (by simp))).trans fhp1_tA
      have fhp2_gA := (show hp2 gA = hp1 gA by rw [ehp2]; exact ad_up_n _ (C.2.2.2.2.1)).trans fhp1_gA
      have fhp2_sA : hp2 sA = some (.inl (G.2.1 0, 6, .inl (upd fs (nI k0).toNatClampNeg ((nI (n0 * sp_cn ts k0)) - (nI (n0 * sp_cn ts k0)) / (nI ts.length) * (nI ts.length))))) := by rw [ehp2]; exact ad_up_s _ _ _
      have Ehp2 := ad_I.e I
      exact ad_vret M I (by omega) (by omega) (⟨rfl, by have h9 := ((C.give (fun z hz => by rw [ehp1, ad_up_n _ hz]) fhp1_gA Ehp1).1.rest (fun z hz => by rw [ehp2, ad_up_n _ hz]) fhp2_sA (ad_I.e I)).1; rw [show (nI k0).toNatClampNeg = k0 from nI_clamp (by omega), pk_rem (by omega) hz (by omega), pk_div (by omega) hz (by omega)] at h9; exact h9, (C.give (fun z hz => by rw [ehp1, ad_up_n _ hz]) fhp1_gA Ehp1).2.tr ((C.give (fun z hz => by rw [ehp1, ad_up_n _ hz]) fhp1_gA Ehp1).1.rest (fun z hz => by rw [ehp2, ad_up_n _ hz]) fhp2_sA (ad_I.e I)).2⟩) d_A_giveRoundedDown_53
    · exact absurd c41 c23
  · have hz : ts.length = 0 := (nI_eq (by omega) (by omega)).mp c23
    have hz0 : ts = [] := List.length_eq_zero_iff.mp hz
    refine lv_iconst (v := 0) hx hb d_A_giveRoundedDown_26 (by decide) ?_
    refine lv_goto (tgt := 34) hx hb d_A_giveRoundedDown_27 (by decide) ?_
    refine ad_iast S I C.hg (vp_in_nI (show k0 < 6 by omega) (by omega)) d_A_giveRoundedDown_34 (fun H1 locs1 I => ?_)
    obtain ⟨hp3, ehp3⟩ : ∃ z : ad_H, z = ad_up hp gA (.inl (G.2.1 0, 6, .inl (upd fg (nI k0).toNatClampNeg 0))) := ⟨_, rfl⟩
    have I : ad_I G lo s hp3 H1 locs1 := by rw [ehp3]; exact I
    have fhp3_x := (show hp3 x = hp x by rw [ehp3]; exact ad_up_n _ (ad_ne C.hX C.hg (by simp))).trans C.hX
    have fhp3_tA := (show hp3 tA = hp tA by rw [ehp3]; exact ad_up_n _ (ad_ne htA C.hg (by simp))).trans htA
    have fhp3_gA : hp3 gA = some (.inl (G.2.1 0, 6, .inl (upd fg (nI k0).toNatClampNeg 0))) := by rw [ehp3]; exact ad_up_s _ _ _
    have fhp3_sA := (show hp3 sA = hp sA by rw [ehp3]; exact ad_up_n _ ((C.2.2.2.2.1).symm)).trans C.hs
    have Ehp3 := ad_I.e I
    refine lv_aload_n hx hb d_A_giveRoundedDown_35 rfl (lv_at hl 2 rfl) ?_
    refine ad_get S I fhp3_x K_AD 5 (by decide) w_72 rfl d_A_giveRoundedDown_36 ?_
    refine lv_iload_n hx hb d_A_giveRoundedDown_39 rfl (lv_at hl 3 rfl) ?_
    refine lv_iload_n hx hb d_A_giveRoundedDown_40 rfl (lv_at hl 1 rfl) ?_
    refine lv_if_ne (tgt := 48) hx hb d_A_giveRoundedDown_41 (by decide) (fun c41 => ?_) (fun c41 => ?_)
    · exact absurd c23 c41
    · refine lv_iconst (v := 0) hx hb d_A_giveRoundedDown_44 (by decide) ?_
      refine lv_goto (tgt := 52) hx hb d_A_giveRoundedDown_45 (by decide) ?_
      refine ad_iast S I fhp3_sA (vp_in_nI (show k0 < 6 by omega) (by omega)) d_A_giveRoundedDown_52 (fun H1 locs1 I => ?_)
      obtain ⟨hp4, ehp4⟩ : ∃ z : ad_H, z = ad_up hp3 sA (.inl (G.2.1 0, 6, .inl (upd fs (nI k0).toNatClampNeg 0))) := ⟨_, rfl⟩
      have I : ad_I G lo s hp4 H1 locs1 := by rw [ehp4]; exact I
      have fhp4_x := (show hp4 x = hp3 x by rw [ehp4]; exact ad_up_n _ (ad_ne fhp3_x fhp3_sA (by simp))).trans fhp3_x
      have fhp4_tA := (show hp4 tA = hp3 tA by rw [ehp4]; exact ad_up_n _ (ad_ne fhp3_tA fhp3_sA (by simp))).trans fhp3_tA
      have fhp4_gA := (show hp4 gA = hp3 gA by rw [ehp4]; exact ad_up_n _ (C.2.2.2.2.1)).trans fhp3_gA
      have fhp4_sA : hp4 sA = some (.inl (G.2.1 0, 6, .inl (upd fs (nI k0).toNatClampNeg 0))) := by rw [ehp4]; exact ad_up_s _ _ _
      have Ehp4 := ad_I.e I
      exact ad_vret M I (by omega) (by omega) (⟨rfl, by have h9 := ((C.give (fun z hz => by rw [ehp3, ad_up_n _ hz]) fhp3_gA Ehp3).1.rest (fun z hz => by rw [ehp4, ad_up_n _ hz]) fhp4_sA (ad_I.e I)).1; rw [show (nI k0).toNatClampNeg = k0 from nI_clamp (by omega)] at h9; rw [show sp_f ts n0 k0 = 0 from by simp [sp_f, hz], show sp_r ts n0 k0 = 0 from by simp [sp_r, sp_cn, hz0]]; exact h9, (C.give (fun z hz => by rw [ehp3, ad_up_n _ hz]) fhp3_gA Ehp3).2.tr ((C.give (fun z hz => by rw [ehp3, ad_up_n _ hz]) fhp3_gA Ehp3).1.rest (fun z hz => by rw [ehp4, ad_up_n _ hz]) fhp4_sA (ad_I.e I)).2⟩) d_A_giveRoundedDown_53
theorem gb_k {fs : Nat → Int32} {j b : Nat} (h : ∀ o9, o9 < j → fs o9 < fs b ∨ (fs o9 = fs b ∧ b ≤ o9)) (c : fs j ≤ fs b) (hb : b < j := by omega) : ∀ o9, o9 < j + 1 → fs o9 < fs b ∨ (fs o9 = fs b ∧ b ≤ o9) := by
  intro o9 h9
  rcases Nat.lt_or_ge o9 j with q | q
  · exact h o9 q
  · obtain rfl : o9 = j := by omega
    rcases Int32.lt_or_eq_of_le c with q2 | q2
    · exact Or.inl q2
    · exact Or.inr ⟨q2, by omega⟩
theorem gb_n {fs : Nat → Int32} {j b : Nat} (h : ∀ o9, o9 < j → fs o9 < fs b ∨ (fs o9 = fs b ∧ b ≤ o9)) (c : ¬ fs j ≤ fs b) : ∀ o9, o9 < j + 1 → fs o9 < fs j ∨ (fs o9 = fs j ∧ j ≤ o9) := by
  have c2 := Int32.not_le.mp c
  intro o9 h9
  rcases Nat.lt_or_ge o9 j with q | q
  · rcases h o9 q with q2 | q2
    · exact Or.inl (Int32.lt_trans q2 c2)
    · exact Or.inl (by rw [q2.1]; exact c2)
  · obtain rfl : o9 = j := by omega
    exact Or.inr ⟨rfl, Nat.le_refl _⟩
set_option maxHeartbeats 4000000 in
set_option maxRecDepth 100000 in
theorem c_A_giveOne (l : Launch) (G : ad_G) (lo : Nat) (hp : ad_H) (x dA tA lA rA gA sA : Nat) (ta ros : List Nat) (ts : List TH) (la lt rr rw : List Nat) (sd : Int64) (fg fs : Nat → Int32)  (C : CR G hp x dA tA lA rA gA sA ta ros ts la lt rr rw sd fg fs) : ad_Ct l y_A_giveOneByGreatestRest b_A_giveOneByGreatestRest 3 rt_A_giveOneByGreatestRest hs_A_giveOneByGreatestRest 1 0 0 G lo hp [.ref x] (fun r hp' => r = .inl none ∧ ∃ b : Nat, b < 6 ∧ (∀ o9, o9 < 6 → fs o9 < fs b ∨ (fs o9 = fs b ∧ b ≤ o9)) ∧ CR G hp' x dA tA lA rA gA sA ta ros ts la lt rr rw sd (upd fg b (fg b + 1)) (upd fs b (-1)) ∧ fr gA sA hp hp') := by
  intro p e s m below meth c M hts hB hP
  have hx := M.1
  have hb := M.2.1
  have hml := M.2.2.1
  have hown : s.vm.findClass "AuditDraws" = some m.cls := M.2.2.2.1
  have S : CallFix p m c b_A_giveOneByGreatestRest 3 s _ ad_T "AuditDraws" := ⟨hx, hb, hml, hown, hts⟩
  have I : ad_I G lo s hp s.heap [] := ad_I.rf hB hP
  have hl := lv_entry ([.ref x]) (n := 3) (Nat.le_of_ble_eq_true rfl)
  rw [lg_entry_eq]
  generalize (lg_sl ([.ref x]) ++ List.replicate (3 - (lg_sl ([.ref x])).length) Slot.unset).toArray = ls at hl ⊢
  have hl : lv_has ls 3 [(0, .ref x)] := hl
  have loop : ∀ (n : Nat) (j b : Nat), (6 < j + n ∧ j ≤ 6 ∧ b < j ∧ ∀ o9, o9 < j → fs o9 < fs b ∨ (fs o9 = fs b ∧ b ≤ o9)) → ∀ ls : Array Slot, lv_has ls 3 [(0, .ref x), (1, .int (nI b)), (2, .int (nI j))] → W p l e (ad_rm 1 0 0) s m ([.ref x] : List Value).toArray below meth c s.heap [] 0 0 (ad_Z below G lo (fun r hp' => r = .inl none ∧ ∃ b : Nat, b < 6 ∧ (∀ o9, o9 < 6 → fs o9 < fs b ∨ (fs o9 = fs b ∧ b ≤ o9)) ∧ CR G hp' x dA tA lA rA gA sA ta ros ts la lt rr rw sd (upd fg b (fg b + 1)) (upd fs b (-1)) ∧ fr gA sA hp hp') s 0 0) (F0 m 4 ls []) := by
    intro n
    induction n with
    | zero => intro j b h0; exact absurd h0 (by omega)
    | succ n ih =>
      intro j b h0  ls hl
      refine lv_iload_n hx hb d_A_giveOneByGreatestRest_4 rfl (lv_at hl 2 rfl) ?_
      refine lv_bipush (v := 6) hx hb d_A_giveOneByGreatestRest_5 (by decide) ?_
      refine lv_icmp_ge (tgt := 33) hx hb d_A_giveOneByGreatestRest_7 (by decide) (fun c7 => ?_) (fun c7 => ?_)
      · obtain rfl : j = 6 := by have := ad_ge (j := j) (n := 6) (by omega) (by omega) c7; omega
        refine lv_aload_n hx hb d_A_giveOneByGreatestRest_33 rfl (lv_at hl 0 rfl) ?_
        refine ad_get S I C.hX K_AD 4 (by decide) w_71 rfl d_A_giveOneByGreatestRest_34 ?_
        refine lv_iload_n hx hb d_A_giveOneByGreatestRest_37 rfl (lv_at hl 1 rfl) ?_
        refine lv_dup2_11 hx hb d_A_giveOneByGreatestRest_38 rfl rfl ?_
        refine ad_iald S I C.hg (vp_in_nI (show b < 6 by omega) (by omega)) d_A_giveOneByGreatestRest_39 ?_
        refine lv_iconst (v := 1) hx hb d_A_giveOneByGreatestRest_40 (by decide) ?_
        refine lv_iadd hx hb d_A_giveOneByGreatestRest_41 ?_
        refine ad_iast S I C.hg (vp_in_nI (show b < 6 by omega) (by omega)) d_A_giveOneByGreatestRest_42 (fun H1 locs1 I => ?_)
        obtain ⟨hp101, ehp101⟩ : ∃ z : ad_H, z = ad_up hp gA (.inl (G.2.1 0, 6, .inl (upd fg (nI b).toNatClampNeg ((fg (nI b).toNatClampNeg) + 1)))) := ⟨_, rfl⟩
        have I : ad_I G lo s hp101 H1 locs1 := by rw [ehp101]; exact I
        have fhp101_x := (show hp101 x = hp x by rw [ehp101]; exact ad_up_n _ (ad_ne C.hX C.hg (by simp))).trans C.hX
        have fhp101_gA : hp101 gA = some (.inl (G.2.1 0, 6, .inl (upd fg (nI b).toNatClampNeg ((fg (nI b).toNatClampNeg) + 1)))) := by rw [ehp101]; exact ad_up_s _ _ _
        have fhp101_sA := (show hp101 sA = hp sA by rw [ehp101]; exact ad_up_n _ ((C.2.2.2.2.1).symm)).trans C.hs
        have Ehp101 := ad_I.e I
        refine lv_aload_n hx hb d_A_giveOneByGreatestRest_43 rfl (lv_at hl 0 rfl) ?_
        refine ad_get S I fhp101_x K_AD 5 (by decide) w_72 rfl d_A_giveOneByGreatestRest_44 ?_
        refine lv_iload_n hx hb d_A_giveOneByGreatestRest_47 rfl (lv_at hl 1 rfl) ?_
        refine lv_iconst (v := (-1)) hx hb d_A_giveOneByGreatestRest_48 (by decide) ?_
        refine ad_iast S I fhp101_sA (vp_in_nI (show b < 6 by omega) (by omega)) d_A_giveOneByGreatestRest_49 (fun H1 locs1 I => ?_)
        obtain ⟨hp102, ehp102⟩ : ∃ z : ad_H, z = ad_up hp101 sA (.inl (G.2.1 0, 6, .inl (upd fs (nI b).toNatClampNeg (-1)))) := ⟨_, rfl⟩
        have I : ad_I G lo s hp102 H1 locs1 := by rw [ehp102]; exact I
        have fhp102_x := (show hp102 x = hp101 x by rw [ehp102]; exact ad_up_n _ (ad_ne fhp101_x fhp101_sA (by simp))).trans fhp101_x
        have fhp102_gA := (show hp102 gA = hp101 gA by rw [ehp102]; exact ad_up_n _ (C.2.2.2.2.1)).trans fhp101_gA
        have fhp102_sA : hp102 sA = some (.inl (G.2.1 0, 6, .inl (upd fs (nI b).toNatClampNeg (-1)))) := by rw [ehp102]; exact ad_up_s _ _ _
        have Ehp102 := ad_I.e I
        exact ad_vret M I (by omega) (by omega) (⟨rfl, b, h0.2.2.1, h0.2.2.2, by have h9 := ((C.give (fun z hz => by rw [ehp101, ad_up_n _ hz]) fhp101_gA Ehp101).1.rest (fun z hz => by rw [ehp102, ad_up_n _ hz]) fhp102_sA (ad_I.e I)).1; rw [show (nI b).toNatClampNeg = b from nI_clamp (by omega)] at h9; exact h9, (C.give (fun z hz => by rw [ehp101, ad_up_n _ hz]) fhp101_gA Ehp101).2.tr ((C.give (fun z hz => by rw [ehp101, ad_up_n _ hz]) fhp101_gA Ehp101).1.rest (fun z hz => by rw [ehp102, ad_up_n _ hz]) fhp102_sA (ad_I.e I)).2⟩) d_A_giveOneByGreatestRest_50
      · have hj : j < 6 := ad_lt (n := 6) (by omega) (by omega) c7
        refine lv_aload_n hx hb d_A_giveOneByGreatestRest_10 rfl (lv_at hl 0 rfl) ?_
        refine ad_get S I C.hX K_AD 5 (by decide) w_72 rfl d_A_giveOneByGreatestRest_11 ?_
        refine lv_iload_n hx hb d_A_giveOneByGreatestRest_14 rfl (lv_at hl 2 rfl) ?_
        refine ad_iald S I C.hs (vp_in_nI (show j < 6 by omega) (by omega)) d_A_giveOneByGreatestRest_15 ?_
        refine lv_aload_n hx hb d_A_giveOneByGreatestRest_16 rfl (lv_at hl 0 rfl) ?_
        refine ad_get S I C.hX K_AD 5 (by decide) w_72 rfl d_A_giveOneByGreatestRest_17 ?_
        refine lv_iload_n hx hb d_A_giveOneByGreatestRest_20 rfl (lv_at hl 1 rfl) ?_
        refine ad_iald S I C.hs (vp_in_nI (show b < 6 by omega) (by omega)) d_A_giveOneByGreatestRest_21 ?_
        refine lv_icmp_le (tgt := 27) hx hb d_A_giveOneByGreatestRest_22 (by decide) (fun c22 => ?_) (fun c22 => ?_)
        · rw [show (nI j).toNatClampNeg = j from nI_clamp (by omega), show (nI b).toNatClampNeg = b from nI_clamp (by omega)] at c22
          refine lv_iinc (v := (nI (j + 1))) (lv' := [(2, .int (nI (j + 1))), (0, .ref x), (1, .int (nI b))]) hx hb d_A_giveOneByGreatestRest_27 hl (k := 2) rfl (nI_1 j) (by decide) rfl (fun ls hl => ?_)
          refine lv_goto (tgt := 4) hx hb d_A_giveOneByGreatestRest_30 (by decide) ?_
          exact ih (j + 1) b ⟨by omega, by omega, by omega, gb_k h0.2.2.2 c22⟩ ls (lv_sub hl [1, 2, 0] rfl)
        · rw [show (nI j).toNatClampNeg = j from nI_clamp (by omega), show (nI b).toNatClampNeg = b from nI_clamp (by omega)] at c22
          refine lv_iload_n hx hb d_A_giveOneByGreatestRest_25 rfl (lv_at hl 2 rfl) ?_
          refine lv_istore_n (lv' := [(1, .int (nI j)), (0, .ref x), (2, .int (nI j))]) hx hb d_A_giveOneByGreatestRest_26 rfl hl (by decide) rfl (fun ls hl => ?_)
          refine lv_iinc (v := (nI (j + 1))) (lv' := [(2, .int (nI (j + 1))), (1, .int (nI j)), (0, .ref x)]) hx hb d_A_giveOneByGreatestRest_27 hl (k := 2) rfl (nI_1 j) (by decide) rfl (fun ls hl => ?_)
          refine lv_goto (tgt := 4) hx hb d_A_giveOneByGreatestRest_30 (by decide) ?_
          exact ih (j + 1) j ⟨by omega, by omega, by omega, gb_n h0.2.2.2 c22⟩ ls (lv_sub hl [2, 1, 0] rfl)
  refine lv_iconst (v := 0) hx hb d_A_giveOneByGreatestRest_0 (by decide) ?_
  refine lv_istore_n (lv' := [(1, .int 0), (0, .ref x)]) hx hb d_A_giveOneByGreatestRest_1 rfl hl (by decide) rfl (fun ls hl => ?_)
  refine lv_iconst (v := 1) hx hb d_A_giveOneByGreatestRest_2 (by decide) ?_
  refine lv_istore_n (lv' := [(2, .int 1), (1, .int 0), (0, .ref x)]) hx hb d_A_giveOneByGreatestRest_3 rfl hl (by decide) rfl (fun ls hl => ?_)
  exact loop 7 1 0 ⟨by omega, by omega, by omega, fun o9 h9 => Or.inr ⟨by rw [show o9 = 0 by omega], by omega⟩⟩ ls (lv_sub hl [2, 1, 0] rfl)
end
section
/-- the things of a stratum among the first j, by their numbers -/
def sp_row (ts : List TH) (k : Nat) : Nat → List Nat
  | 0 => []
  | j + 1 => sp_row ts k j ++ (if (ts[j]?.map (fun t => t.1)) = some (nI k) then [j] else [])
theorem sp_row_s {ts : List TH} {k j : Nat} {t : TH} (h : ts[j]? = some t) : sp_row ts k (j + 1) = if t.1 = nI k then sp_row ts k j ++ [j] else sp_row ts k j := by
  simp only [sp_row, h, Option.map_some, Option.some.injEq]
  split <;> simp
theorem sp_row_c {ts : List TH} (k : Nat) : ∀ j, j ≤ ts.length → (sp_row ts k j).length = (ts.take j).countP (fun t => decide (t.1 = nI k))
  | 0, _ => by simp [sp_row]
  | j + 1, h => by
    have ht : ts[j]? = some ts[j] := List.getElem?_eq_getElem (by omega)
    rw [sp_row_s ht, cnt_s ht, ← sp_row_c k j (by omega)]
    by_cases hs : ts[j].1 = nI k
    · simp [hs]
    · simp [hs]
theorem sp_row_cn {ts : List TH} (k j : Nat) (h : j ≤ ts.length) : (sp_row ts k j).length ≤ sp_cn ts k := by
  rw [sp_row_c k j h]
  exact List.Sublist.countP_le (List.take_sublist j ts)
theorem sp_row_len (ts : List TH) (k : Nat) : (sp_row ts k ts.length).length = sp_cn ts k := by
  rw [sp_row_c k _ (Nat.le_refl _), List.take_length]; rfl
def ixN (d : Int64) (k : Nat) : Nat := (sp_ix d (nI k)).toNatClampNeg
theorem sh_n (d : Int64) : (d.toUInt64 >>> ((33 : Int32).toInt64.toUInt64 &&& Int64.toUInt64 63)).toInt64 = lN (d.toUInt64.toNat / 2 ^ 33) := by
  have e1 : ((33 : Int32).toInt64.toUInt64 &&& Int64.toUInt64 63) = 33 := by decide
  rw [e1]
  apply Int64.toBitVec_inj.mp
  apply BitVec.eq_of_toNat_eq
  have h1 : ((d.toUInt64 >>> 33).toInt64).toBitVec.toNat = (d.toUInt64 >>> 33).toNat := rfl
  rw [h1, UInt64.toNat_shiftRight]
  have h2 : (lN (d.toUInt64.toNat / 2 ^ 33)).toBitVec.toNat = (d.toUInt64.toNat / 2 ^ 33) % 2 ^ 64 := rfl
  have h3 : d.toUInt64.toNat / 2 ^ 33 % 2 ^ 64 = d.toUInt64.toNat / 2 ^ 33 := Nat.mod_eq_of_lt (by have := d.toUInt64.toNat_lt; omega)
  rw [h2, h3]
  exact Nat.shiftRight_eq_div_pow _ 33
theorem ix_n (d : Int64) {k : Nat} (h0 : 0 < k) (hk : k < 2 ^ 31) : sp_ix d (nI k) = nI (ixN d k) ∧ ixN d k < k := by
  have hv := d.toUInt64.toNat_lt
  have e : sp_ix d (nI k) = nI (d.toUInt64.toNat / 2 ^ 33 % k) := by
    unfold sp_ix
    rw [sh_n, nI_l hk, pk_lRem (by omega) h0 (by omega)]
    exact Int64.toInt32_ofNat
  have hlt := Nat.mod_lt (d.toUInt64.toNat / 2 ^ 33) h0
  have e2 : ixN d k = d.toUInt64.toNat / 2 ^ 33 % k := by
    unfold ixN
    rw [e]
    exact nI_clamp (by omega)
  rw [e2]
  exact ⟨e, hlt⟩
/-- after i draws: the row, what was drawn, the state -/
def sp_tk (rw : List Nat) (d : Int64) : Nat → List Nat × List Nat × Int64
  | 0 => (rw, [], d)
  | i + 1 => (((sp_tk rw d i).1.set (i + ixN (sp_dr (sp_tk rw d i).2.2) (rw.length - i)) ((sp_tk rw d i).1.getD i 0)).set i ((sp_tk rw d i).1.getD (i + ixN (sp_dr (sp_tk rw d i).2.2) (rw.length - i)) 0),
      (sp_tk rw d i).2.1 ++ [(sp_tk rw d i).1.getD (i + ixN (sp_dr (sp_tk rw d i).2.2) (rw.length - i)) 0], sp_dr (sp_tk rw d i).2.2)
theorem sp_tk_l (rw : List Nat) (d : Int64) : ∀ i, (sp_tk rw d i).1.length = rw.length ∧ (sp_tk rw d i).2.1.length = i
  | 0 => ⟨rfl, rfl⟩
  | i + 1 => by
    have := sp_tk_l rw d i
    simp [sp_tk, this.1, this.2]
theorem gd_e {xs : List Nat} {k : Nat} (h : k < xs.length) : xs[k]? = some (xs.getD k 0) := by
  simp [List.getD, List.getElem?_eq_getElem h]
theorem sp_tk_s {rw : List Nat} {d : Int64} {i o9 io ii : Nat} (ho : o9 = i + ixN (sp_dr (sp_tk rw d i).2.2) (rw.length - i)) (h1 : io = (sp_tk rw d i).1.getD o9 0) (h2 : ii = (sp_tk rw d i).1.getD i 0) : sp_tk rw d (i + 1) = (((sp_tk rw d i).1.set o9 ii).set i io, (sp_tk rw d i).2.1 ++ [io], sp_dr (sp_tk rw d i).2.2) := by
  subst ho h1 h2
  rfl
set_option maxHeartbeats 4000000 in
set_option maxRecDepth 100000 in
theorem c_A_layRow (l : Launch) (G : ad_G) (lo : Nat) (hp : ad_H) (x dA tA lA rA gA sA : Nat) (ta ros : List Nat) (ts : List TH) (la lt rr rw : List Nat) (sd : Int64) (fg fs : Nat → Int32) (k0 : Nat)  (C : CR G hp x dA tA lA rA gA sA ta ros ts la lt rr rw sd fg fs) : ad_Ct l y_A_layRow b_A_layRow 4 rt_A_layRow hs_A_layRow 8 (sp_cn ts k0) (100 * sp_cn ts k0) G lo hp [.ref x, .int (nI k0)] (fun r hp' => r = .inl none ∧ ∃ rr' : List Nat, CR G hp' x dA tA lA rA gA sA ta ros ts la lt rr' (sp_row ts k0 ts.length) sd fg fs ∧ fr gA sA hp hp') := by
  intro p e s m below meth c M hts hB hP
  have hx := M.1
  have hb := M.2.1
  have hml := M.2.2.1
  have hown : s.vm.findClass "AuditDraws" = some m.cls := M.2.2.2.1
  have S : CallFix p m c b_A_layRow 4 s _ ad_T "AuditDraws" := ⟨hx, hb, hml, hown, hts⟩
  have I : ad_I G lo s hp s.heap [] := ad_I.rf hB hP
  have hl := lv_entry ([.ref x, .int (nI k0)]) (n := 4) (Nat.le_of_ble_eq_true rfl)
  rw [lg_entry_eq]
  generalize (lg_sl ([.ref x, .int (nI k0)]) ++ List.replicate (4 - (lg_sl ([.ref x, .int (nI k0)])).length) Slot.unset).toArray = ls at hl ⊢
  have hl : lv_has ls 4 [(0, .ref x), (1, .int (nI k0))] := hl
  obtain ⟨_, hrA⟩ := C.hRr.self
  have loop : ∀ (n : Nat) (j : Nat) (hpj : ad_H) (rrj : List Nat) (cs ss : Nat) (H : Heap) (locs : List Loc), (ts.length < j + n ∧ j ≤ ts.length ∧ cs = (sp_row ts k0 j).length ∧ ss = 100 * cs) → ad_I G lo s hpj H locs → CR G hpj x dA tA lA rA gA sA ta ros ts la lt rrj (sp_row ts k0 j) sd fg fs → fr gA sA hp hpj → ∀ ls : Array Slot, lv_has ls 4 [(0, .ref x), (1, .int (nI k0)), (2, .int (nI j))] → W p l e (ad_rm 8 (sp_cn ts k0) (100 * sp_cn ts k0)) s m ([.ref x, .int (nI k0)] : List Value).toArray below meth c H locs cs ss (ad_Z below G lo (fun r hp' => r = .inl none ∧ ∃ rr' : List Nat, CR G hp' x dA tA lA rA gA sA ta ros ts la lt rr' (sp_row ts k0 ts.length) sd fg fs ∧ fr gA sA hp hp') s (sp_cn ts k0) (100 * sp_cn ts k0)) (F0 m 9 ls []) := by
    intro n
    induction n with
    | zero => intro j hpj rrj cs ss H locs h0; exact absurd h0 (by omega)
    | succ n ih =>
      intro j hpj rrj cs ss H locs h0 I C F ls hl
      obtain ⟨_, htA⟩ := C.hA.self
      obtain ⟨_, hrA⟩ := C.hRr.self
      have hTT := C.htt
      have hn := C.hn
      have hcs := sp_row_cn (ts := ts) k0 j (by omega)
      refine lv_iload_n hx hb d_A_layRow_9 rfl (lv_at hl 2 rfl) ?_
      refine lv_aload_n hx hb d_A_layRow_10 rfl (lv_at hl 0 rfl) ?_
      refine ad_get S I C.hX K_AD 1 (by decide) w_68 rfl d_A_layRow_11 ?_
      refine ad_cPi S I (ad_ivV (As := []) (rest := [.int (nI j)]) S (ad_recv I htA K_AL) w_171 w_172 w_173 Y_AL_size ⟨by decide, by decide, np_AL_size⟩ rfl d_A_layRow_14) (c_ALsize l G lo hpj tA ta C.hA) Y_AL_size hl.1 ⟨Nat.le_of_ble_eq_true rfl, Nat.le_of_ble_eq_true rfl⟩ (show cs + 0 ≤ sp_cn ts k0 by omega) (show ss + 0 ≤ 100 * sp_cn ts k0 by omega) d_A_layRow_14 ?_
      refine ad_top (y := .int (nI ts.length)) (by rw [hTT.1]) ?_
      refine lv_icmp_ge (tgt := 55) hx hb d_A_layRow_17 (by decide) (fun c17 => ?_) (fun c17 => ?_)
      · obtain rfl : j = ts.length := by have := ad_ge (j := j) (n := ts.length) (by omega) (by omega) c17; omega
        exact ad_vret M I (by omega) (by omega) (⟨rfl, rrj, C, F⟩) d_A_layRow_55
      · have hj : j < ts.length := ad_lt (by omega) (by omega) c17
        obtain ⟨t, ht⟩ : ∃ t, ts[j]? = some t := ⟨_, List.getElem?_eq_getElem hj⟩
        obtain ⟨y, ra, hta, hro, hty, -⟩ := C.th ht
        have hsl := sp_row_c (ts := ts) k0 j (by omega)
        have hs2 : (sp_row ts k0 j).length ≤ j := by rw [hsl]; exact Nat.le_trans List.countP_le_length (by simp; omega)
        refine lv_aload_n hx hb d_A_layRow_20 rfl (lv_at hl 0 rfl) ?_
        refine ad_get S I C.hX K_AD 1 (by decide) w_68 rfl d_A_layRow_21 ?_
        refine lv_iload_n hx hb d_A_layRow_24 rfl (lv_at hl 2 rfl) ?_
        refine ad_cPi S I (ad_ivV (As := [.int (nI j)]) (rest := []) S (ad_recv I htA K_AL) w_308 w_309 w_310 Y_AL_get ⟨by decide, by decide, np_AL_get⟩ rfl d_A_layRow_25) (c_ALget l G lo hpj tA ta j y C.hA hta) Y_AL_get hl.1 ⟨Nat.le_of_ble_eq_true rfl, Nat.le_of_ble_eq_true rfl⟩ (show cs + 0 ≤ sp_cn ts k0 by omega) (show ss + 0 ≤ 100 * sp_cn ts k0 by omega) d_A_layRow_25 ?_
        refine va_castE hx hb hown (hts _ w_191) (ad_recv I hty K_Thing) d_A_layRow_28 ?_
        refine lv_astore_n (lv' := [(3, .ref y), (0, .ref x), (1, .int (nI k0)), (2, .int (nI j))]) hx hb d_A_layRow_31 rfl hl (by decide) rfl (fun ls hl => ?_)
        refine lv_aload_n hx hb d_A_layRow_32 rfl (lv_at hl 0 rfl) ?_
        refine ad_get S I hty K_Thing 1 (by decide) w_202 rfl d_A_layRow_33 ?_
        refine lv_iload_n hx hb d_A_layRow_36 rfl (lv_at hl 2 rfl) ?_
        refine lv_icmp_ne (tgt := 49) hx hb d_A_layRow_37 (by decide) (fun c37 => ?_) (fun c37 => ?_)
        · refine lv_iinc (v := (nI (j + 1))) (lv' := [(2, .int (nI (j + 1))), (3, .ref y), (0, .ref x), (1, .int (nI k0))]) hx hb d_A_layRow_49 hl (k := 3) rfl (nI_1 j) (by decide) rfl (fun ls hl => ?_)
          refine lv_goto (tgt := 9) hx hb d_A_layRow_52 (by decide) ?_
          exact ih (j + 1) hpj rrj cs ss H locs ⟨by omega, by omega, by rw [sp_row_s ht, if_neg c37]; exact h0.2.2.1, by omega⟩ I (by rw [sp_row_s ht, if_neg c37]; exact C) F ls (lv_sub hl [2, 3, 0] rfl)
        · refine lv_aload_n hx hb d_A_layRow_40 rfl (lv_at hl 1 rfl) ?_
          refine ad_get S I C.hX K_AD 3 (by decide) w_70 rfl d_A_layRow_41 ?_
          refine lv_aload_n hx hb d_A_layRow_44 rfl (lv_at hl 0 rfl) ?_
          have hcs1 := sp_row_cn (ts := ts) k0 (j + 1) (by omega)
          rw [sp_row_s ht, if_pos c37, List.length_append, List.length_singleton] at hcs1
          have hrl := C.lkr.1
          refine ad_cZi S I (ad_ivV (As := [.ref y]) (rest := []) S (ad_recv I hrA K_AL) w_224 w_225 w_226 Y_AL_add ⟨by decide, by decide, np_AL_add⟩ rfl d_A_layRow_45) (c_ALadd l G lo hpj rA rrj y _ 1 _ _ _ _ C.hRr (by omega) hty (by decide) K_Thing w_732 (fun y hy => C.lx C.lkr hy)) Y_AL_add hl.1 ⟨Nat.le_of_ble_eq_true rfl, Nat.le_of_ble_eq_true rfl⟩ (show cs + 1 ≤ sp_cn ts k0 by omega) (show ss + 100 ≤ 100 * sp_cn ts k0 by omega) d_A_layRow_45 (fun hp9 H1 locs1 hA I => ?_)
          obtain ⟨a1, a2, a3⟩ := hA
          have C9 := C.opR (hp' := hp9) ⟨a2, a3⟩ a1 (ad_I.e I) (C.lkr.app hta)
          refine lv_pop hx hb d_A_layRow_48 rfl ?_
          refine lv_iinc (v := (nI (j + 1))) (lv' := [(2, .int (nI (j + 1))), (3, .ref y), (0, .ref x), (1, .int (nI k0))]) hx hb d_A_layRow_49 hl (k := 3) rfl (nI_1 j) (by decide) rfl (fun ls hl => ?_)
          refine lv_goto (tgt := 9) hx hb d_A_layRow_52 (by decide) ?_
          exact ih (j + 1) hp9 (rrj ++ [y]) (cs + 1) (ss + 100) H1 locs1 ⟨by omega, by omega, by rw [sp_row_s ht, if_pos c37]; simp [h0.2.2.1], by omega⟩ I (by rw [sp_row_s ht, if_pos c37]; exact C9.1) (F.tr C9.2) ls (lv_sub hl [2, 3, 0] rfl)
  refine lv_aload_n hx hb d_A_layRow_0 rfl (lv_at hl 0 rfl) ?_
  refine ad_get S I C.hX K_AD 3 (by decide) w_70 rfl d_A_layRow_1 ?_
  refine ad_cZi S I (ad_ivV (As := []) (rest := []) S (ad_recv I hrA K_AL) w_322 w_323 w_324 Y_AL_clear ⟨by decide, by decide, np_AL_clear⟩ rfl d_A_layRow_4) (c_ALclear l G lo hp rA rr C.hRr) Y_AL_clear hl.1 ⟨Nat.le_of_ble_eq_true rfl, Nat.le_of_ble_eq_true rfl⟩ (Nat.zero_le _) (Nat.zero_le _) d_A_layRow_4 (fun hp9 H1 locs1 hA I => ?_)
  obtain ⟨a1, a2, a3⟩ := hA
  have C9 := C.opR (hp' := hp9) ⟨fun z h1 h2 _ => a2 z h1 h2, fun z h => Or.inl (a3 z h)⟩ a1 (ad_I.e I) (lk.nil ta)
  refine lv_iconst (v := 0) hx hb d_A_layRow_7 (by decide) ?_
  refine lv_istore_n (lv' := [(2, .int 0), (0, .ref x), (1, .int (nI k0))]) hx hb d_A_layRow_8 rfl hl (by decide) rfl (fun ls hl => ?_)
  exact loop (ts.length + 1) 0 hp9 [] 0 0 H1 locs1 ⟨by omega, by omega, rfl, rfl⟩ I C9.1 C9.2 ls (lv_sub hl [1, 2, 0] rfl)
set_option maxHeartbeats 4000000 in
set_option maxRecDepth 100000 in
theorem c_A_takeFromRow (l : Launch) (G : ad_G) (lo : Nat) (hp : ad_H) (x dA tA lA rA gA sA : Nat) (ta ros : List Nat) (ts : List TH) (la lt rr rw : List Nat) (sd : Int64) (fg fs : Nat → Int32) (kk : Nat)  (C : CR G hp x dA tA lA rA gA sA ta ros ts la lt rr rw sd fg fs) (hk : kk ≤ rw.length) (hr64 : rw.length ≤ 64) (hl64 : lt.length + kk ≤ 64) : ad_Ct l y_A_takeFromRow b_A_takeFromRow 5 rt_A_takeFromRow hs_A_takeFromRow 8 kk (100 * kk) G lo hp [.ref x, .int (nI kk)] (fun r hp' => r = .inl none ∧ ∃ la' rr' : List Nat, CR G hp' x dA tA lA rA gA sA ta ros ((sp_tk rw sd kk).2.1.foldl (sp_z 0) ts) la' (lt ++ (sp_tk rw sd kk).2.1) rr' ((sp_tk rw sd kk).1) ((sp_tk rw sd kk).2.2) fg fs ∧ fr gA sA hp hp') := by
  intro p e s m below meth c M hts hB hP
  have hx := M.1
  have hb := M.2.1
  have hml := M.2.2.1
  have hown : s.vm.findClass "AuditDraws" = some m.cls := M.2.2.2.1
  have S : CallFix p m c b_A_takeFromRow 5 s _ ad_T "AuditDraws" := ⟨hx, hb, hml, hown, hts⟩
  have I : ad_I G lo s hp s.heap [] := ad_I.rf hB hP
  have hl := lv_entry ([.ref x, .int (nI kk)]) (n := 5) (Nat.le_of_ble_eq_true rfl)
  rw [lg_entry_eq]
  generalize (lg_sl ([.ref x, .int (nI kk)]) ++ List.replicate (5 - (lg_sl ([.ref x, .int (nI kk)])).length) Slot.unset).toArray = ls at hl ⊢
  have hl : lv_has ls 5 [(0, .ref x), (1, .int (nI kk))] := hl
  have loop : ∀ (n : Nat) (i : Nat) (hpj : ad_H) (laj rrj : List Nat) (cs ss : Nat) (H : Heap) (locs : List Loc), (kk < i + n ∧ i ≤ kk ∧ cs = i ∧ ss = 100 * i) → ad_I G lo s hpj H locs → CR G hpj x dA tA lA rA gA sA ta ros ((sp_tk rw sd i).2.1.foldl (sp_z 0) ts) laj (lt ++ (sp_tk rw sd i).2.1) rrj ((sp_tk rw sd i).1) ((sp_tk rw sd i).2.2) fg fs → fr gA sA hp hpj → ∀ ls : Array Slot, lv_has ls 5 [(0, .ref x), (1, .int (nI kk)), (2, .int (nI i))] → W p l e (ad_rm 8 kk (100 * kk)) s m ([.ref x, .int (nI kk)] : List Value).toArray below meth c H locs cs ss (ad_Z below G lo (fun r hp' => r = .inl none ∧ ∃ la' rr' : List Nat, CR G hp' x dA tA lA rA gA sA ta ros ((sp_tk rw sd kk).2.1.foldl (sp_z 0) ts) la' (lt ++ (sp_tk rw sd kk).2.1) rr' ((sp_tk rw sd kk).1) ((sp_tk rw sd kk).2.2) fg fs ∧ fr gA sA hp hp') s kk (100 * kk)) (F0 m 2 ls []) := by
    intro n
    induction n with
    | zero => intro i hpj laj rrj cs ss H locs h0; exact absurd h0 (by omega)
    | succ n ih =>
      intro i hpj laj rrj cs ss H locs h0 I C0 F0 ls hl
      obtain ⟨_, hrA⟩ := C0.hRr.self
      have hrl : rrj.length = rw.length := C0.lkr.1.trans (sp_tk_l rw sd i).1
      have hll : laj.length = lt.length + i := by have h8 := C0.lkl.1; rw [List.length_append, (sp_tk_l rw sd i).2] at h8; exact h8
      refine lv_iload_n hx hb d_A_takeFromRow_2 rfl (lv_at hl 2 rfl) ?_
      refine lv_iload_n hx hb d_A_takeFromRow_3 rfl (lv_at hl 1 rfl) ?_
      refine lv_icmp_ge (tgt := 103) hx hb d_A_takeFromRow_4 (by decide) (fun c4 => ?_) (fun c4 => ?_)
      · obtain rfl : i = kk := by have := ad_ge (j := i) (n := kk) (by omega) (by omega) c4; omega
        exact ad_vret M I (by omega) (by omega) (⟨rfl, laj, rrj, C0, F0⟩) d_A_takeFromRow_103
      · have hi : i < kk := ad_lt (by omega) (by omega) c4
        refine lv_iload_n hx hb d_A_takeFromRow_7 rfl (lv_at hl 2 rfl) ?_
        refine lv_aload_n hx hb d_A_takeFromRow_8 rfl (lv_at hl 0 rfl) ?_
        refine ad_get S I C0.hX K_AD 3 (by decide) w_70 rfl d_A_takeFromRow_9 ?_
        refine ad_cPi S I (ad_ivV (As := []) (rest := [.int (nI i)]) S (ad_recv I hrA K_AL) w_171 w_172 w_173 Y_AL_size ⟨by decide, by decide, np_AL_size⟩ rfl d_A_takeFromRow_12) (c_ALsize l G lo hpj rA rrj C0.hRr) Y_AL_size hl.1 ⟨Nat.le_of_ble_eq_true rfl, Nat.le_of_ble_eq_true rfl⟩ (show cs + 0 ≤ kk by omega) (show ss + 0 ≤ 100 * kk by omega) d_A_takeFromRow_12 ?_
        refine ad_top (y := .int (nI rw.length)) (by rw [hrl]) ?_
        refine lv_icmp_ge (tgt := 103) hx hb d_A_takeFromRow_15 (by decide) (fun c15 => ?_) (fun c15 => ?_)
        · exact absurd c15 (nI_ge (by omega) (by omega))
        · refine lv_iload_n hx hb d_A_takeFromRow_18 rfl (lv_at hl 2 rfl) ?_
          refine lv_aload_n hx hb d_A_takeFromRow_19 rfl (lv_at hl 0 rfl) ?_
          refine ad_get S I C0.hX K_AD 0 (by decide) w_67 rfl d_A_takeFromRow_20 ?_
          refine lv_aload_n hx hb d_A_takeFromRow_23 rfl (lv_at hl 0 rfl) ?_
          refine ad_get S I C0.hX K_AD 3 (by decide) w_70 rfl d_A_takeFromRow_24 ?_
          refine ad_cPi S I (ad_ivV (As := []) (rest := [.ref dA, .int (nI i)]) S (ad_recv I hrA K_AL) w_171 w_172 w_173 Y_AL_size ⟨by decide, by decide, np_AL_size⟩ rfl d_A_takeFromRow_27) (c_ALsize l G lo hpj rA rrj C0.hRr) Y_AL_size hl.1 ⟨Nat.le_of_ble_eq_true rfl, Nat.le_of_ble_eq_true rfl⟩ (show cs + 0 ≤ kk by omega) (show ss + 0 ≤ 100 * kk by omega) d_A_takeFromRow_27 ?_
          refine ad_top (y := .int (nI rw.length)) (by rw [hrl]) ?_
          refine lv_iload_n hx hb d_A_takeFromRow_30 rfl (lv_at hl 2 rfl) ?_
          refine lv_isub hx hb d_A_takeFromRow_31 ?_
          refine ad_top (y := .int (nI (rw.length - i))) (congrArg Value.int (pk_sub (by omega))) ?_
          refine ad_cZi S I (ad_ivV (As := [.int (nI (rw.length - i))]) (rest := [.int (nI i)]) S (ad_recv I C0.hD K_Draw) w_350 w_351 w_352 Y_D_below ⟨by decide, by decide, np_D_below⟩ rfl d_A_takeFromRow_32) (c_D_below l G lo hpj dA (sp_tk rw sd i).2.2 (nI (rw.length - i)) C0.hD (nI_nlt (b := 1) (by omega) (by omega))) Y_D_below hl.1 ⟨Nat.le_of_ble_eq_true rfl, Nat.le_of_ble_eq_true rfl⟩ (show cs + 0 ≤ kk by omega) (show ss + 0 ≤ 100 * kk by omega) d_A_takeFromRow_32 (fun hp1 H1 locs1 hA I => ?_)
          obtain ⟨u1, k1⟩ := hA
          obtain ⟨ix1, ix2⟩ := ix_n (sp_dr (sp_tk rw sd i).2.2) (show 0 < rw.length - i by omega) (by omega)
          obtain ⟨o9, ho9⟩ : ∃ o9, o9 = i + ixN (sp_dr (sp_tk rw sd i).2.2) (rw.length - i) := ⟨_, rfl⟩
          obtain ⟨io, hio⟩ : ∃ io, io = (sp_tk rw sd i).1.getD o9 0 := ⟨_, rfl⟩
          obtain ⟨ii, hii⟩ : ∃ ii, ii = (sp_tk rw sd i).1.getD i 0 := ⟨_, rfl⟩
          have ho2 : o9 < rw.length := by omega
          have hwo : (sp_tk rw sd i).1[o9]? = some io := by rw [hio]; exact gd_e (by rw [(sp_tk_l rw sd i).1]; exact ho2)
          have hwi : (sp_tk rw sd i).1[i]? = some ii := by rw [hii]; exact gd_e (by rw [(sp_tk_l rw sd i).1]; omega)
          obtain ⟨yo, hyo, hto⟩ := C0.lkr.2 o9 io hwo
          obtain ⟨yi, hyi, hti⟩ := C0.lkr.2 i ii hwi
          obtain ⟨C1, F1⟩ := C0.draw k1 u1 (ad_I.e I)
          obtain ⟨_, hrA1⟩ := C1.hRr.self
          obtain ⟨_, hlA1⟩ := C1.hLa.self
          obtain ⟨t_yo1, ra_yo1, ht_yo1, -, hyo1, -⟩ := C1.ty hto
          obtain ⟨t_yi1, ra_yi1, ht_yi1, -, hyi1, -⟩ := C1.ty hti
          refine lv_iadd hx hb d_A_takeFromRow_35 ?_
          refine ad_top (y := .int (nI o9)) (congrArg Value.int (by rw [ix1, nI_add, ho9])) ?_
          refine lv_istore_n (lv' := [(3, .int (nI o9)), (0, .ref x), (1, .int (nI kk)), (2, .int (nI i))]) hx hb d_A_takeFromRow_36 rfl hl (by decide) rfl (fun ls hl => ?_)
          refine lv_aload_n hx hb d_A_takeFromRow_37 rfl (lv_at hl 1 rfl) ?_
          refine ad_get S I C1.hX K_AD 3 (by decide) w_70 rfl d_A_takeFromRow_38 ?_
          refine lv_iload_n hx hb d_A_takeFromRow_41 rfl (lv_at hl 0 rfl) ?_
          refine ad_cPi S I (ad_ivV (As := [.int (nI o9)]) (rest := []) S (ad_recv I hrA1 K_AL) w_308 w_309 w_310 Y_AL_get ⟨by decide, by decide, np_AL_get⟩ rfl d_A_takeFromRow_42) (c_ALget l G lo hp1 rA rrj o9 yo C1.hRr hyo) Y_AL_get hl.1 ⟨Nat.le_of_ble_eq_true rfl, Nat.le_of_ble_eq_true rfl⟩ (show cs + 0 ≤ kk by omega) (show ss + 0 ≤ 100 * kk by omega) d_A_takeFromRow_42 ?_
          refine va_castE hx hb hown (hts _ w_191) (ad_recv I hyo1 K_Thing) d_A_takeFromRow_45 ?_
          refine lv_astore (lv' := [(4, .ref yo), (3, .int (nI o9)), (0, .ref x), (1, .int (nI kk)), (2, .int (nI i))]) hx hb d_A_takeFromRow_48 hl (by decide) rfl (fun ls hl => ?_)
          refine lv_aload_n hx hb d_A_takeFromRow_50 rfl (lv_at hl 2 rfl) ?_
          refine ad_get S I C1.hX K_AD 3 (by decide) w_70 rfl d_A_takeFromRow_51 ?_
          refine lv_iload_n hx hb d_A_takeFromRow_54 rfl (lv_at hl 1 rfl) ?_
          refine lv_aload_n hx hb d_A_takeFromRow_55 rfl (lv_at hl 2 rfl) ?_
          refine ad_get S I C1.hX K_AD 3 (by decide) w_70 rfl d_A_takeFromRow_56 ?_
          refine lv_iload_n hx hb d_A_takeFromRow_59 rfl (lv_at hl 4 rfl) ?_
          refine ad_cPi S I (ad_ivV (As := [.int (nI i)]) (rest := [.int (nI o9), .ref rA]) S (ad_recv I hrA1 K_AL) w_308 w_309 w_310 Y_AL_get ⟨by decide, by decide, np_AL_get⟩ rfl d_A_takeFromRow_60) (c_ALget l G lo hp1 rA rrj i yi C1.hRr hyi) Y_AL_get hl.1 ⟨Nat.le_of_ble_eq_true rfl, Nat.le_of_ble_eq_true rfl⟩ (show cs + 0 ≤ kk by omega) (show ss + 0 ≤ 100 * kk by omega) d_A_takeFromRow_60 ?_
          refine va_castE hx hb hown (hts _ w_191) (ad_recv I hyi1 K_Thing) d_A_takeFromRow_63 ?_
          refine ad_cZi S I (ad_ivV (As := [.int (nI o9), .ref yi]) (rest := []) S (ad_recv I hrA1 K_AL) w_356 w_357 w_358 Y_AL_set ⟨by decide, by decide, np_AL_set⟩ rfl d_A_takeFromRow_66) (c_ALset l G lo hp1 rA rrj o9 yo yi _ 1 _ _ _ _ C1.hRr hyo hyi1 K_Thing w_732) Y_AL_set hl.1 ⟨Nat.le_of_ble_eq_true rfl, Nat.le_of_ble_eq_true rfl⟩ (show cs + 0 ≤ kk by omega) (show ss + 0 ≤ 100 * kk by omega) d_A_takeFromRow_66 (fun hp2 H1 locs1 hA I => ?_)
          obtain ⟨a1, a2, a3⟩ := hA
          obtain ⟨C2, F2⟩ := C1.opR (hp' := hp2) ⟨fun z _ h2 _ => a2 z h2, fun z h => Or.inl (a3 z h)⟩ a1 (ad_I.e I) (C1.lkr.set hti)
          obtain ⟨_, hrA2⟩ := C2.hRr.self
          obtain ⟨_, hlA2⟩ := C2.hLa.self
          obtain ⟨t_yo2, ra_yo2, ht_yo2, -, hyo2, -⟩ := C2.ty hto
          obtain ⟨t_yi2, ra_yi2, ht_yi2, -, hyi2, -⟩ := C2.ty hti
          refine lv_pop hx hb d_A_takeFromRow_69 rfl ?_
          obtain ⟨yq, hyq⟩ : ∃ yq, (rrj.set o9 yi)[i]? = some yq := ⟨_, List.getElem?_eq_getElem (by rw [List.length_set]; omega)⟩
          refine lv_aload_n hx hb d_A_takeFromRow_70 rfl (lv_at hl 2 rfl) ?_
          refine ad_get S I C2.hX K_AD 3 (by decide) w_70 rfl d_A_takeFromRow_71 ?_
          refine lv_iload_n hx hb d_A_takeFromRow_74 rfl (lv_at hl 4 rfl) ?_
          refine lv_aload hx hb d_A_takeFromRow_75 (lv_at hl 0 rfl) ?_
          refine ad_cZi S I (ad_ivV (As := [.int (nI i), .ref yo]) (rest := []) S (ad_recv I hrA2 K_AL) w_356 w_357 w_358 Y_AL_set ⟨by decide, by decide, np_AL_set⟩ rfl d_A_takeFromRow_77) (c_ALset l G lo hp2 rA (rrj.set o9 yi) i yq yo _ 1 _ _ _ _ C2.hRr hyq hyo2 K_Thing w_732) Y_AL_set hl.1 ⟨Nat.le_of_ble_eq_true rfl, Nat.le_of_ble_eq_true rfl⟩ (show cs + 0 ≤ kk by omega) (show ss + 0 ≤ 100 * kk by omega) d_A_takeFromRow_77 (fun hp3 H1 locs1 hA I => ?_)
          obtain ⟨a1, a2, a3⟩ := hA
          obtain ⟨C3, F3⟩ := C2.opR (hp' := hp3) ⟨fun z _ h2 _ => a2 z h2, fun z h => Or.inl (a3 z h)⟩ a1 (ad_I.e I) (C2.lkr.set hto)
          obtain ⟨_, hrA3⟩ := C3.hRr.self
          obtain ⟨_, hlA3⟩ := C3.hLa.self
          obtain ⟨t_yo3, ra_yo3, ht_yo3, -, hyo3, -⟩ := C3.ty hto
          obtain ⟨t_yi3, ra_yi3, ht_yi3, -, hyi3, -⟩ := C3.ty hti
          refine lv_pop hx hb d_A_takeFromRow_80 rfl ?_
          refine lv_aload hx hb d_A_takeFromRow_81 (lv_at hl 0 rfl) ?_
          refine lv_iconst (v := 0) hx hb d_A_takeFromRow_83 (by decide) ?_
          refine ad_put S I hyo3 K_Thing 4 (by decide) w_208 rfl rfl rfl (by simp) d_A_takeFromRow_84 (fun H1 locs1 I => ?_)
          obtain ⟨hp4, ehp4⟩ : ∃ z : ad_H, z = ad_up hp3 yo (oT io (sst 0 t_yo3) ra_yo3) := ⟨_, rfl⟩
          have I : ad_I G lo s hp4 H1 locs1 := by rw [ehp4]; exact I
          obtain ⟨C4, F4⟩ := C3.thing (hp' := hp4) (t' := sst 0 t_yo3) ht_yo3 hto hyo3 rfl (fun z hz => by rw [ehp4, ad_up_n _ hz]) (by rw [ehp4]; exact ad_up_s _ _ _) (ad_I.e I)
          obtain ⟨_, hrA4⟩ := C4.hRr.self
          obtain ⟨_, hlA4⟩ := C4.hLa.self
          obtain ⟨t_yo4, ra_yo4, ht_yo4, -, hyo4, -⟩ := C4.ty hto
          obtain ⟨t_yi4, ra_yi4, ht_yi4, -, hyi4, -⟩ := C4.ty hti
          refine lv_aload_n hx hb d_A_takeFromRow_87 rfl (lv_at hl 2 rfl) ?_
          refine ad_get S I C4.hX K_AD 2 (by decide) w_69 rfl d_A_takeFromRow_88 ?_
          refine lv_aload hx hb d_A_takeFromRow_91 (lv_at hl 0 rfl) ?_
          refine ad_cZi S I (ad_ivV (As := [.ref yo]) (rest := []) S (ad_recv I hlA4 K_AL) w_224 w_225 w_226 Y_AL_add ⟨by decide, by decide, np_AL_add⟩ rfl d_A_takeFromRow_93) (c_ALadd l G lo hp4 lA laj yo _ 1 _ _ _ _ C4.hLa (by omega) hyo4 (by decide) K_Thing w_732 (fun y hy => C4.lx C4.lkl hy)) Y_AL_add hl.1 ⟨Nat.le_of_ble_eq_true rfl, Nat.le_of_ble_eq_true rfl⟩ (show cs + 0 + 0 + 0 + 1 ≤ kk by omega) (show ss + 0 + 0 + 0 + 100 ≤ 100 * kk by omega) d_A_takeFromRow_93 (fun hp5 H1 locs1 hA I => ?_)
          obtain ⟨a1, a2, a3⟩ := hA
          obtain ⟨C5, F5⟩ := C4.opL (hp' := hp5) ⟨a2, a3⟩ a1 (ad_I.e I) (C4.lkl.app hto)
          obtain ⟨_, hrA5⟩ := C5.hRr.self
          obtain ⟨_, hlA5⟩ := C5.hLa.self
          obtain ⟨t_yo5, ra_yo5, ht_yo5, -, hyo5, -⟩ := C5.ty hto
          obtain ⟨t_yi5, ra_yi5, ht_yi5, -, hyi5, -⟩ := C5.ty hti
          have tk := sp_tk_s ho9 hio hii
          have et : (sp_tk rw sd (i + 1)).2.1.foldl (sp_z 0) ts = ((sp_tk rw sd i).2.1.foldl (sp_z 0) ts).set io (sst 0 t_yo3) := by rw [tk, List.foldl_append]; exact sp_z_e ht_yo3
          have el : lt ++ (sp_tk rw sd (i + 1)).2.1 = (lt ++ (sp_tk rw sd i).2.1) ++ [io] := by rw [tk, List.append_assoc]
          refine lv_pop hx hb d_A_takeFromRow_96 rfl ?_
          refine lv_iinc (v := (nI (i + 1))) (lv' := [(2, .int (nI (i + 1))), (4, .ref yo), (3, .int (nI o9)), (0, .ref x), (1, .int (nI kk))]) hx hb d_A_takeFromRow_97 hl (k := 4) rfl (nI_1 i) (by decide) rfl (fun ls hl => ?_)
          refine lv_goto (tgt := 2) hx hb d_A_takeFromRow_100 (by decide) ?_
          exact ih (i + 1) hp5 (laj ++ [yo]) ((rrj.set o9 yi).set i yo) (cs + 1) (ss + 100) H1 locs1 (by omega) I (by rw [et, el, tk]; exact C5) (((((F0.tr F1).tr F2).tr F3).tr F4).tr F5) ls (lv_sub hl [3, 4, 0] rfl)
  refine lv_iconst (v := 0) hx hb d_A_takeFromRow_0 (by decide) ?_
  refine lv_istore_n (lv' := [(2, .int 0), (0, .ref x), (1, .int (nI kk))]) hx hb d_A_takeFromRow_1 rfl hl (by decide) rfl (fun ls hl => ?_)
  exact loop (kk + 1) 0 hp la rr 0 0 s.heap [] (by omega) I (by rw [show lt ++ (sp_tk rw sd 0).2.1 = lt from List.append_nil _]; exact C) (fr.rf _ _ _) ls (lv_sub hl [1, 2, 0] rfl)
end
section
def sp_sm (f : Nat → Nat) : Nat → Nat
  | 0 => 0
  | j + 1 => sp_sm f j + f j
theorem sm_mono (f : Nat → Nat) {i j : Nat} (h : i ≤ j) : sp_sm f i ≤ sp_sm f j := by
  induction h with
  | refl => exact Nat.le_refl _
  | step _ ih => exact Nat.le_trans ih (Nat.le_add_right _ _)
theorem sm_add (f g : Nat → Nat) : ∀ j, sp_sm (fun i => f i + g i) j = sp_sm f j + sp_sm g j
  | 0 => rfl
  | j + 1 => by
    have := sm_add f g j
    simp only [sp_sm]
    omega
theorem sm_mul (c : Nat) (f : Nat → Nat) : ∀ j, sp_sm (fun i => c * f i) j = c * sp_sm f j
  | 0 => rfl
  | j + 1 => by
    have := sm_mul c f j
    simp only [sp_sm, Nat.mul_add]
    omega
theorem sm_le {f g : Nat → Nat} (h : ∀ i, f i ≤ g i) : ∀ j, sp_sm f j ≤ sp_sm g j
  | 0 => Nat.le_refl _
  | j + 1 => Nat.add_le_add (sm_le h j) (h j)
theorem sm_eq {f g : Nat → Nat} : ∀ {j : Nat}, (∀ i, i < j → f i = g i) → sp_sm f j = sp_sm g j
  | 0, _ => rfl
  | j + 1, h => by
    simp only [sp_sm]
    rw [sm_eq (fun i hi => h i (by omega)), h j (by omega)]
theorem sm_cnt (p : Nat → Bool) : ∀ j, sp_sm (fun i => if p i then 1 else 0) j = (List.range j).countP p
  | 0 => rfl
  | j + 1 => by
    rw [List.range_succ, List.countP_append, ← sm_cnt p j, List.countP_singleton]
    rfl
/-- counting -/
theorem cp_lt {α : Type} {p q : α → Bool} : ∀ {L : List α}, (∀ x ∈ L, p x = true → q x = true) → (∃ x ∈ L, q x = true ∧ p x = false) → L.countP p < L.countP q
  | [], _, h => by obtain ⟨x, hx, -⟩ := h; cases hx
  | y :: L, h1, h2 => by
    have hle : L.countP p ≤ L.countP q := List.countP_mono_left (fun x hx => h1 x (List.mem_cons_of_mem _ hx))
    rw [List.countP_cons, List.countP_cons]
    obtain ⟨x, hx, hq, hp⟩ := h2
    rcases List.mem_cons.mp hx with rfl | hx
    · simp [hq, hp]; omega
    · have := cp_lt (fun x hx => h1 x (List.mem_cons_of_mem _ hx)) ⟨x, hx, hq, hp⟩
      have h3 := h1 y (List.mem_cons_self)
      by_cases hy : p y = true
      · simp [hy, h3 hy]; omega
      · simp [hy]; omega
theorem cp_add {α : Type} {p q : α → Bool} : ∀ {L : List α}, (∀ x ∈ L, p x = true → q x = false) → L.countP (fun x => p x || q x) = L.countP p + L.countP q
  | [], _ => rfl
  | y :: L, h => by
    rw [List.countP_cons, List.countP_cons, List.countP_cons, cp_add (fun x hx => h x (List.mem_cons_of_mem _ hx))]
    have h3 := h y (List.mem_cons_self)
    by_cases hy : p y = true
    · simp [hy, h3 hy]; omega
    · simp [hy]; omega
/-- o comes ahead of s by the rests r -/
def sp_ah (r : Nat → Nat) (o s : Nat) : Bool := decide (r s < r o ∨ (r o = r s ∧ o < s))
def sp_rk (r : Nat → Nat) (s : Nat) : Nat := (List.range 6).countP (fun o => sp_ah r o s)
section RK
variable {r : Nat → Nat}
theorem ah_tr {x o s : Nat} (h1 : sp_ah r x o = true) (h2 : sp_ah r o s = true) : sp_ah r x s = true := by
  simp only [sp_ah, decide_eq_true_eq] at h1 h2 ⊢
  omega
theorem ah_tot {o s : Nat} (h : o ≠ s) : sp_ah r o s = true ∨ sp_ah r s o = true := by
  simp only [sp_ah, decide_eq_true_eq]
  omega
theorem ah_irr (o : Nat) : sp_ah r o o = false := by
  simp [sp_ah]
theorem rk_lt {o s : Nat} (ho : o < 6) (h : sp_ah r o s = true) : sp_rk r o < sp_rk r s :=
  cp_lt (fun x _ hx => ah_tr hx h) ⟨o, List.mem_range.mpr ho, h, ah_irr o⟩
theorem rk_inj {o s : Nat} (ho : o < 6) (hs : s < 6) (h : sp_rk r o = sp_rk r s) : o = s := by
  by_cases hos : o = s
  · exact hos
  · rcases ah_tot (r := r) hos with q | q
    · have := rk_lt ho q; omega
    · have := rk_lt hs q; omega
theorem ex_min (P : Nat → Prop) (f : Nat → Nat) : ∀ (b : Nat) (s : Nat), f s ≤ b → P s → ∃ m, P m ∧ ∀ x, P x → f m ≤ f x
  | 0, s, h, hs => ⟨s, hs, fun x _ => by omega⟩
  | b + 1, s, h, hs => by
    by_cases hx : ∃ x, P x ∧ f x < f s
    · obtain ⟨x, h1, h2⟩ := hx
      exact ex_min P f b x (by omega) h1
    · exact ⟨s, hs, fun x hp => Nat.not_lt.mp fun hlt => hx ⟨x, hp, hlt⟩⟩
theorem rk_c : ∀ m, m ≤ 6 → (List.range 6).countP (fun s => decide (sp_rk r s < m)) = m ∧ ∀ i, i < m → ∃ b, b < 6 ∧ sp_rk r b = i
  | 0, _ => ⟨by simp, fun i hi => by omega⟩
  | m + 1, h => by
    obtain ⟨h1, h2⟩ := rk_c m (by omega)
    obtain ⟨s, hs, hs2⟩ : ∃ s, s < 6 ∧ m ≤ sp_rk r s := by
      by_cases hx : ∃ s, s < 6 ∧ m ≤ sp_rk r s
      · exact hx
      · have : (List.range 6).countP (fun s => decide (sp_rk r s < m)) = (List.range 6).length := by
          rw [List.countP_eq_length]
          intro x hx2
          rw [decide_eq_true_eq]
          exact Nat.not_le.mp fun hle => hx ⟨x, List.mem_range.mp hx2, hle⟩
        rw [h1, List.length_range] at this
        omega
    obtain ⟨b, ⟨hb1, hb2⟩, hb3⟩ := ex_min (fun x => x < 6 ∧ m ≤ sp_rk r x) (sp_rk r) _ s (Nat.le_refl _) ⟨hs, hs2⟩
    have hb : sp_rk r b = m := by
      rw [← h1]
      refine List.countP_congr (fun o ho => ?_)
      have ho := List.mem_range.mp ho
      rw [decide_eq_true_eq]
      constructor
      · intro hah
        have h3 := rk_lt ho hah
        exact Nat.not_le.mp fun hle => by have := hb3 o ⟨ho, hle⟩; omega
      · intro hlt
        rcases ah_tot (r := r) (show o ≠ b from fun hh => by rw [hh] at hlt; omega) with q | q
        · exact q
        · have := rk_lt hb1 q; omega
    have e1 : (List.range 6).countP (fun s => decide (s = b)) = 1 := by
      have : b = 0 ∨ b = 1 ∨ b = 2 ∨ b = 3 ∨ b = 4 ∨ b = 5 := by omega
      rcases this with rfl | rfl | rfl | rfl | rfl | rfl <;> decide
    refine ⟨?_, fun i hi => ?_⟩
    · have e2 : (List.range 6).countP (fun s => decide (sp_rk r s < m + 1)) = (List.range 6).countP (fun s => decide (sp_rk r s < m) || decide (s = b)) := by
        refine List.countP_congr (fun s hs => ?_)
        have hs := List.mem_range.mp hs
        simp only [decide_eq_true_eq, Bool.or_eq_true]
        constructor
        · intro hlt
          by_cases hlt2 : sp_rk r s < m
          · exact Or.inl hlt2
          · exact Or.inr (rk_inj (r := r) hs hb1 (by omega))
        · rintro (q | rfl)
          · omega
          · omega
      rw [e2, cp_add (fun x hx hp => ?_), h1, e1]
      rw [decide_eq_true_eq] at hp
      rw [decide_eq_false_iff_not]
      intro hh
      rw [hh, hb] at hp
      omega
    · by_cases him : i = m
      · exact ⟨b, hb1, by rw [hb, him]⟩
      · exact h2 i (by omega)
end RK
/-- greatest rests, by repeated search -/
theorem rk_step {r : Nat → Nat} {fs : Nat → Int32} {m b : Nat} (hm : m < 6) (hr : ∀ s, s < 6 → r s < 2 ^ 30) (hfs : ∀ s, s < 6 → fs s = if sp_rk r s < m then -1 else nI (r s)) (hb : b < 6) (hbest : ∀ o9, o9 < 6 → fs o9 < fs b ∨ (fs o9 = fs b ∧ b ≤ o9)) : sp_rk r b = m := by
  obtain ⟨s, hs, hsr⟩ := (rk_c (r := r) 6 (Nat.le_refl _)).2 m hm
  have e1 : fs s = nI (r s) := by rw [hfs s hs, if_neg (by omega)]
  have hrs := hr s hs
  have hrb := hr b hb
  have hge : ¬ sp_rk r b < m := fun hlt => by
    have e2 : fs b = -1 := by rw [hfs b hb, if_pos hlt]
    have hm1 : ((-1 : Int32)).toInt = -1 := by decide
    have h4 := nI_toInt (n := r s) (by omega)
    rcases hbest s hs with q | ⟨q, -⟩
    · rw [e1, e2, Int32.lt_iff_toInt_lt, hm1, h4] at q
      omega
    · rw [e1, e2] at q
      have := congrArg Int32.toInt q
      rw [hm1, h4] at this
      omega
  have e2 : fs b = nI (r b) := by rw [hfs b hb, if_neg hge]
  by_cases hbs : b = s
  · rw [hbs]; exact hsr
  · have hah : sp_ah r b s = true := by
      simp only [sp_ah, decide_eq_true_eq]
      rcases hbest s hs with q | ⟨q, q2⟩
      · rw [e1, e2] at q
        exact Or.inl ((nI_ltI (by omega) (by omega)).mp q)
      · rw [e1, e2] at q
        have := (nI_eq (by omega) (by omega)).mp q
        exact Or.inr ⟨this.symm, by omega⟩
    have := rk_lt hb hah
    omega
def sp_m (ts : List TH) (n : Nat) : Nat := n - sp_sm (sp_f ts n) 6
def sp_g (ts : List TH) (n k : Nat) : Nat := sp_f ts n k + if sp_rk (sp_r ts n) k < sp_m ts n then 1 else 0
/-- every thing has a stratum -/
def wfs (ts : List TH) : Prop := ∀ t ∈ ts, ∃ k, k < 6 ∧ t.1 = nI k
theorem cn_sum : ∀ {ts : List TH}, wfs ts → sp_sm (sp_cn ts) 6 = ts.length
  | [], _ => rfl
  | t :: ts, h => by
    have ih := cn_sum (ts := ts) (fun x hx => h x (List.mem_cons_of_mem _ hx))
    obtain ⟨k, hk, e⟩ := h t (List.mem_cons_self)
    have e1 : ∀ i, i < 6 → sp_cn (t :: ts) i = sp_cn ts i + if i = k then 1 else 0 := by
      intro i hi
      unfold sp_cn
      rw [List.countP_cons]
      congr 1
      rw [e]
      by_cases hik : i = k
      · subst hik; simp
      · rw [if_neg hik, if_neg]
        rw [decide_eq_true_eq, nI_eq (by omega) (by omega)]
        omega
    have h0 := e1 0 (by omega)
    have h1 := e1 1 (by omega)
    have h2 := e1 2 (by omega)
    have h3 := e1 3 (by omega)
    have h4 := e1 4 (by omega)
    have h5 := e1 5 (by omega)
    simp only [sp_sm] at ih ⊢
    rw [h0, h1, h2, h3, h4, h5, List.length_cons]
    have : k = 0 ∨ k = 1 ∨ k = 2 ∨ k = 3 ∨ k = 4 ∨ k = 5 := by omega
    rcases this with rfl | rfl | rfl | rfl | rfl | rfl <;> simp <;> omega
section SHR
variable {ts : List TH} {n : Nat}
theorem nc_sum (hw : wfs ts) : sp_sm (fun i => n * sp_cn ts i) 6 = n * ts.length := by rw [sm_mul, cn_sum hw]
theorem f_sum (hw : wfs ts) (hn : n ≤ ts.length) : sp_sm (sp_f ts n) 6 ≤ n := by
  rcases Nat.eq_zero_or_pos ts.length with h0 | hp
  · have hf : sp_f ts n = fun _ => 0 := by funext i; simp [sp_f, h0]
    rw [hf]
    exact Nat.zero_le _
  · refine Nat.le_of_mul_le_mul_left ?_ hp
    rw [← sm_mul, Nat.mul_comm ts.length n, ← nc_sum hw]
    exact sm_le (fun i => Nat.mul_div_le _ _) 6
theorem m_r (hw : wfs ts) : ts.length * sp_m ts n = sp_sm (sp_r ts n) 6 := by
  have h1 : sp_sm (fun i => ts.length * sp_f ts n i + sp_r ts n i) 6 = n * ts.length := by
    rw [← nc_sum hw]
    exact sm_eq (fun i _ => Nat.div_add_mod _ _)
  rw [sm_add, sm_mul] at h1
  unfold sp_m
  rw [Nat.mul_sub, Nat.mul_comm ts.length n]
  omega
theorem m_P (hw : wfs ts) (hp : 0 < ts.length) : sp_m ts n ≤ (List.range 6).countP (fun k => decide (0 < sp_r ts n k)) := by
  refine Nat.le_of_mul_le_mul_left ?_ hp
  rw [m_r hw, ← sm_cnt, ← sm_mul]
  refine sm_le (fun i => ?_) 6
  have h := Nat.mod_lt (n * sp_cn ts i) hp
  have h2 : sp_r ts n i < ts.length := h
  by_cases h3 : 0 < sp_r ts n i
  · simp [h3]; omega
  · simp [h3]; omega
theorem m_6 (hw : wfs ts) (hn : n ≤ ts.length) : sp_m ts n ≤ 6 := by
  rcases Nat.eq_zero_or_pos ts.length with h0 | hp
  · unfold sp_m; omega
  · exact Nat.le_trans (m_P hw hp) List.countP_le_length
theorem g_sum (hw : wfs ts) (hn : n ≤ ts.length) : sp_sm (sp_g ts n) 6 = n := by
  have e : sp_g ts n = fun k => sp_f ts n k + (if (fun k => decide (sp_rk (sp_r ts n) k < sp_m ts n)) k then 1 else 0) := by
    funext k
    simp [sp_g]
  rw [e, sm_add, sm_cnt, (rk_c (r := sp_r ts n) _ (m_6 hw hn)).1]
  have := f_sum hw hn
  unfold sp_m
  omega
theorem g_le (hw : wfs ts) (hn : n ≤ ts.length) (k : Nat) : sp_g ts n k ≤ sp_cn ts k := by
  rcases Nat.eq_zero_or_pos ts.length with h0 | hp
  · have : n = 0 := by omega
    simp [sp_g, sp_f, sp_m, this]
  · have hfc : sp_f ts n k ≤ sp_cn ts k := by
      refine Nat.le_of_mul_le_mul_left (Nat.le_trans (Nat.mul_div_le (n * sp_cn ts k) ts.length) ?_) hp
      exact Nat.mul_le_mul_right _ hn
    unfold sp_g
    by_cases hx : sp_rk (sp_r ts n) k < sp_m ts n
    · rw [if_pos hx]
      have hpos : 0 < sp_r ts n k := by
        refine Nat.pos_of_ne_zero (fun hz => ?_)
        have h1 := m_P (n := n) hw hp
        have h2 : (List.range 6).countP (fun k => decide (0 < sp_r ts n k)) ≤ sp_rk (sp_r ts n) k := by
          refine List.countP_mono_left (fun o _ ho => ?_)
          simp only [decide_eq_true_eq] at ho
          simp only [sp_ah, decide_eq_true_eq]
          omega
        omega
      have h3 : ts.length * sp_f ts n k + sp_r ts n k = n * sp_cn ts k := Nat.div_add_mod _ _
      have h4 : n * sp_cn ts k ≤ ts.length * sp_cn ts k := Nat.mul_le_mul_right _ hn
      have h5 : ts.length * sp_f ts n k < ts.length * sp_cn ts k := by omega
      have h6 := Nat.lt_of_mul_lt_mul_left h5
      omega
    · rw [if_neg hx]
      exact hfc
end SHR
end
section
theorem sp_z_map (v : Int32) (ts : List TH) (i : Nat) : (sp_z v ts i).map (fun t => t.1) = ts.map (fun t => t.1) := by
  unfold sp_z
  cases h : ts[i]? with
  | none => rfl
  | some t =>
    obtain ⟨hi, e⟩ := List.getElem?_eq_some_iff.mp h
    apply List.ext_getElem?
    intro j
    simp only [List.getElem?_map, List.getElem?_set]
    by_cases hij : i = j
    · subst hij; simp [hi, e]
    · simp [hij]
theorem sp_zf_map (v : Int32) : ∀ (xs : List Nat) (ts : List TH), (xs.foldl (sp_z v) ts).map (fun t => t.1) = ts.map (fun t => t.1)
  | [], _ => rfl
  | x :: xs, ts => by
    rw [List.foldl_cons, sp_zf_map v xs, sp_z_map]
theorem st_len {ts us : List TH} (h : us.map (fun t => t.1) = ts.map (fun t => t.1)) : us.length = ts.length := by
  have := congrArg List.length h
  simpa using this
theorem st_cn {ts us : List TH} (h : us.map (fun t => t.1) = ts.map (fun t => t.1)) (k : Nat) : sp_cn us k = sp_cn ts k := by
  have e : ∀ xs : List TH, sp_cn xs k = (xs.map (fun t => t.1)).countP (fun x => decide (x = nI k)) := fun xs => by
    rw [List.countP_map]; rfl
  rw [e, e, h]
theorem st_row {ts us : List TH} (h : us.map (fun t => t.1) = ts.map (fun t => t.1)) (k : Nat) : ∀ j, sp_row us k j = sp_row ts k j
  | 0 => rfl
  | j + 1 => by
    have e : us[j]?.map (fun t => t.1) = ts[j]?.map (fun t => t.1) := by
      rw [← List.getElem?_map, ← List.getElem?_map, h]
    simp only [sp_row, st_row h k j, e]
theorem st_f {ts us : List TH} (h : us.map (fun t => t.1) = ts.map (fun t => t.1)) (n : Nat) : sp_f us n = sp_f ts n := by
  funext k; simp only [sp_f, st_cn h, st_len h]
theorem st_r {ts us : List TH} (h : us.map (fun t => t.1) = ts.map (fun t => t.1)) (n : Nat) : sp_r us n = sp_r ts n := by
  funext k; simp only [sp_r, st_cn h, st_len h]
theorem st_g {ts us : List TH} (h : us.map (fun t => t.1) = ts.map (fun t => t.1)) (n : Nat) : sp_g us n = sp_g ts n := by
  funext k; unfold sp_g sp_m; rw [st_f h, st_r h]
theorem st_wfs {ts us : List TH} (h : us.map (fun t => t.1) = ts.map (fun t => t.1)) (hw : wfs ts) : wfs us := by
  intro t ht
  have h1 : t.1 ∈ us.map (fun t => t.1) := List.mem_map_of_mem ht
  rw [h] at h1
  obtain ⟨t2, h2, h3⟩ := List.mem_map.mp h1
  obtain ⟨k, hk, e⟩ := hw t2 h2
  exact ⟨k, hk, by rw [← h3]; exact e⟩
/-- the latest list and the state after k strata -/
def sp_ls (ts : List TH) (n : Nat) (d : Int64) : Nat → List Nat × Int64
  | 0 => ([], d)
  | k + 1 => ((sp_ls ts n d k).1 ++ (sp_tk (sp_row ts k ts.length) (sp_ls ts n d k).2 (sp_g ts n k)).2.1, (sp_tk (sp_row ts k ts.length) (sp_ls ts n d k).2 (sp_g ts n k)).2.2)
theorem sp_ls_l (ts : List TH) (n : Nat) (d : Int64) : ∀ k, (sp_ls ts n d k).1.length = sp_sm (sp_g ts n) k
  | 0 => rfl
  | k + 1 => by
    simp only [sp_ls, List.length_append, sp_ls_l ts n d k, (sp_tk_l _ _ _).2]
    rfl
/-- the state of an audit: things, latest list, seed -/
abbrev AST : Type := List TH × List Nat × Int64
def q_ls (A : AST) (v : Int32) : (Nat × Int32) × AST := if ¬ v < 0 ∧ v ≤ nI A.1.length then ((0, v), ((sp_ls A.1 v.toNatClampNeg A.2.2 6).1.foldl (sp_z 0) (A.2.1.foldl (sp_z (-1)) A.1), (sp_ls A.1 v.toNatClampNeg A.2.2 6).1, (sp_ls A.1 v.toNatClampNeg A.2.2 6).2)) else ((1, 0), A)
theorem so_put {f r : Nat → Nat} {fg fs : Nat → Int32} {j : Nat} (h : ∀ s9, s9 < j → fg s9 = nI (f s9) ∧ fs s9 = nI (r s9)) : ∀ s9, s9 < j + 1 → upd fg j (nI (f j)) s9 = nI (f s9) ∧ upd fs j (nI (r j)) s9 = nI (r s9) := by
  intro s9 h9
  by_cases e : s9 = j
  · subst e; exact ⟨pk_us, pk_us⟩
  · rw [pk_un e, pk_un e]; exact h s9 (by omega)
theorem so_step {f r : Nat → Nat} {fg fs : Nat → Int32} {i b : Nat} (hb : b < 6) (hrb : sp_rk r b = i) (h : ∀ s9, s9 < 6 → fg s9 = nI (f s9 + if sp_rk r s9 < i then 1 else 0) ∧ fs s9 = if sp_rk r s9 < i then -1 else nI (r s9)) : ∀ s9, s9 < 6 → upd fg b (fg b + 1) s9 = nI (f s9 + if sp_rk r s9 < i + 1 then 1 else 0) ∧ upd fs b (-1) s9 = if sp_rk r s9 < i + 1 then -1 else nI (r s9) := by
  intro s9 h9
  by_cases e : s9 = b
  · subst e
    rw [pk_us, pk_us, if_pos (by omega), if_pos (by omega), (h s9 h9).1, if_neg (by omega)]
    exact ⟨nI_1 _, rfl⟩
  · rw [pk_un e, pk_un e]
    have hne : sp_rk r s9 ≠ i := fun hh => e (rk_inj (r := r) h9 hb (hh.trans hrb.symm))
    obtain ⟨h1, h2⟩ := h s9 h9
    by_cases hl : sp_rk r s9 < i
    · rw [if_pos (show sp_rk r s9 < i + 1 by omega), if_pos (show sp_rk r s9 < i + 1 by omega)]
      rw [if_pos hl] at h1 h2
      exact ⟨h1, h2⟩
    · rw [if_neg (show ¬ sp_rk r s9 < i + 1 by omega), if_neg (show ¬ sp_rk r s9 < i + 1 by omega)]
      rw [if_neg hl] at h1 h2
      exact ⟨h1, h2⟩
set_option maxHeartbeats 4000000 in
set_option maxRecDepth 100000 in
theorem c_A_shareOut (l : Launch) (G : ad_G) (lo : Nat) (hp : ad_H) (x dA tA lA rA gA sA : Nat) (ta ros : List Nat) (ts : List TH) (la lt rr rw : List Nat) (sd : Int64) (fg fs : Nat → Int32) (n0 : Nat)  (C : CR G hp x dA tA lA rA gA sA ta ros ts la lt rr rw sd fg fs) (hw : wfs ts) (hn0 : n0 ≤ ts.length) : ad_Ct l y_A_shareOut b_A_shareOut 4 rt_A_shareOut hs_A_shareOut 6 0 0 G lo hp [.ref x, .int (nI n0)] (fun r hp' => r = .inl none ∧ ∃ fg' fs' : Nat → Int32, CR G hp' x dA tA lA rA gA sA ta ros ts la lt rr rw sd fg' fs' ∧ fr gA sA hp hp' ∧ ∀ s9, s9 < 6 → fg' s9 = nI (sp_g ts n0 s9)) := by
  intro p e s m below meth c M hts hB hP
  have hx := M.1
  have hb := M.2.1
  have hml := M.2.2.1
  have hown : s.vm.findClass "AuditDraws" = some m.cls := M.2.2.2.1
  have S : CallFix p m c b_A_shareOut 4 s _ ad_T "AuditDraws" := ⟨hx, hb, hml, hown, hts⟩
  have I : ad_I G lo s hp s.heap [] := ad_I.rf hB hP
  have hl := lv_entry ([.ref x, .int (nI n0)]) (n := 4) (Nat.le_of_ble_eq_true rfl)
  rw [lg_entry_eq]
  generalize (lg_sl ([.ref x, .int (nI n0)]) ++ List.replicate (4 - (lg_sl ([.ref x, .int (nI n0)])).length) Slot.unset).toArray = ls at hl ⊢
  have hl : lv_has ls 4 [(0, .ref x), (1, .int (nI n0))] := hl
  have hn := C.hn
  have hm6 := m_6 hw hn0
  have hr30 : ∀ s9, s9 < 6 → sp_r ts n0 s9 < 2 ^ 30 := fun s9 _ => by have h8 := sp_cb s9 hn hn0; have h7 : sp_r ts n0 s9 ≤ n0 * sp_cn ts s9 := Nat.mod_le _ _; omega
  have loop2 : ∀ (n : Nat) (i : Nat) (hpj : ad_H) (fgj fsj : Nat → Int32) (H : Heap) (locs : List Loc), (sp_m ts n0 < i + n ∧ i ≤ sp_m ts n0) → ad_I G lo s hpj H locs → CR G hpj x dA tA lA rA gA sA ta ros ts la lt rr rw sd fgj fsj → fr gA sA hp hpj → (∀ s9, s9 < 6 → fgj s9 = nI (sp_f ts n0 s9 + if sp_rk (sp_r ts n0) s9 < i then 1 else 0) ∧ fsj s9 = if sp_rk (sp_r ts n0) s9 < i then -1 else nI (sp_r ts n0 s9)) → ∀ ls : Array Slot, lv_has ls 4 [(0, .ref x), (2, .int (nI (sp_m ts n0))), (3, .int (nI i))] → W p l e (ad_rm 6 0 0) s m ([.ref x, .int (nI n0)] : List Value).toArray below meth c H locs 0 0 (ad_Z below G lo (fun r hp' => r = .inl none ∧ ∃ fg' fs' : Nat → Int32, CR G hp' x dA tA lA rA gA sA ta ros ts la lt rr rw sd fg' fs' ∧ fr gA sA hp hp' ∧ ∀ s9, s9 < 6 → fg' s9 = nI (sp_g ts n0 s9)) s 0 0) (F0 m 33 ls []) := by
    intro n
    induction n with
    | zero => intro i hpj fgj fsj H locs h0; exact absurd h0 (by omega)
    | succ n ih =>
      intro i hpj fgj fsj H locs h0 I C F hfg ls hl
      refine lv_iload_n hx hb d_A_shareOut_33 rfl (lv_at hl 2 rfl) ?_
      refine lv_iload_n hx hb d_A_shareOut_34 rfl (lv_at hl 1 rfl) ?_
      refine lv_icmp_ge (tgt := 54) hx hb d_A_shareOut_35 (by decide) (fun c35 => ?_) (fun c35 => ?_)
      · obtain rfl : i = sp_m ts n0 := by have := ad_ge (j := i) (n := sp_m ts n0) (by omega) (by omega) c35; omega
        exact ad_vret M I (by omega) (by omega) (⟨rfl, fgj, fsj, C, F, fun s9 h9 => (hfg s9 h9).1⟩) d_A_shareOut_54
      · have hi : i < sp_m ts n0 := ad_lt (by omega) (by omega) c35
        refine lv_iload_n hx hb d_A_shareOut_38 rfl (lv_at hl 2 rfl) ?_
        refine lv_bipush (v := 6) hx hb d_A_shareOut_39 (by decide) ?_
        refine lv_icmp_ge (tgt := 54) hx hb d_A_shareOut_41 (by decide) (fun c41 => ?_) (fun c41 => ?_)
        · exact absurd c41 (nI_ge (a := i) (b := 6) (by omega) (by omega))
        · refine lv_aload_n hx hb d_A_shareOut_44 rfl (lv_at hl 0 rfl) ?_
          refine ad_cZi S I (ad_ivV (As := []) (rest := []) S (ad_recv I C.hX K_AD) w_338 w_340 sp_A_giveOneByGreatestRest Y_A_giveOneByGreatestRest ⟨by decide, by decide, np_A_giveOneByGreatestRest⟩ rfl d_A_shareOut_45) (c_A_giveOne l G lo hpj x dA tA lA rA gA sA ta ros ts la lt rr rw sd fgj fsj C) Y_A_giveOneByGreatestRest hl.1 ⟨Nat.le_of_ble_eq_true rfl, Nat.le_of_ble_eq_true rfl⟩ (Nat.le_of_ble_eq_true rfl) (Nat.le_of_ble_eq_true rfl) d_A_shareOut_45 (fun hp9 H1 locs1 hA I => ?_)
          obtain ⟨b, hb9, hbest, C9, F9⟩ := hA
          have hrb := rk_step (by omega) hr30 (fun s9 h9 => (hfg s9 h9).2) hb9 hbest
          refine lv_iinc (v := (nI (i + 1))) (lv' := [(3, .int (nI (i + 1))), (0, .ref x), (2, .int (nI (sp_m ts n0)))]) hx hb d_A_shareOut_48 hl (k := 2) rfl (nI_1 i) (by decide) rfl (fun ls hl => ?_)
          refine lv_goto (tgt := 33) hx hb d_A_shareOut_51 (by decide) ?_
          exact ih (i + 1) hp9 (upd fgj b (fgj b + 1)) (upd fsj b (-1)) H1 locs1 (by omega) I C9 (F.tr F9) (so_step hb9 hrb hfg) ls (lv_sub hl [1, 2, 0] rfl)
  have loop1 : ∀ (n : Nat) (j : Nat) (hpj : ad_H) (fgj fsj : Nat → Int32) (H : Heap) (locs : List Loc), (6 < j + n ∧ j ≤ 6) → ad_I G lo s hpj H locs → CR G hpj x dA tA lA rA gA sA ta ros ts la lt rr rw sd fgj fsj → fr gA sA hp hpj → (∀ s9, s9 < j → fgj s9 = nI (sp_f ts n0 s9) ∧ fsj s9 = nI (sp_r ts n0 s9)) → ∀ ls : Array Slot, lv_has ls 4 [(0, .ref x), (1, .int (nI n0)), (2, .int (nI (n0 - sp_sm (sp_f ts n0) j))), (3, .int (nI j))] → W p l e (ad_rm 6 0 0) s m ([.ref x, .int (nI n0)] : List Value).toArray below meth c H locs 0 0 (ad_Z below G lo (fun r hp' => r = .inl none ∧ ∃ fg' fs' : Nat → Int32, CR G hp' x dA tA lA rA gA sA ta ros ts la lt rr rw sd fg' fs' ∧ fr gA sA hp hp' ∧ ∀ s9, s9 < 6 → fg' s9 = nI (sp_g ts n0 s9)) s 0 0) (F0 m 4 ls []) := by
    intro n
    induction n with
    | zero => intro j hpj fgj fsj H locs h0; exact absurd h0 (by omega)
    | succ n ih =>
      intro j hpj fgj fsj H locs h0 I C F hfg ls hl
      refine lv_iload_n hx hb d_A_shareOut_4 rfl (lv_at hl 3 rfl) ?_
      refine lv_bipush (v := 6) hx hb d_A_shareOut_5 (by decide) ?_
      refine lv_icmp_ge (tgt := 31) hx hb d_A_shareOut_7 (by decide) (fun c7 => ?_) (fun c7 => ?_)
      · obtain rfl : j = 6 := by have := ad_ge (j := j) (n := 6) (by omega) (by omega) c7; omega
        refine lv_iconst (v := 0) hx hb d_A_shareOut_31 (by decide) ?_
        refine lv_istore_n (lv' := [(3, .int 0), (0, .ref x), (1, .int (nI n0)), (2, .int (nI (sp_m ts n0)))]) hx hb d_A_shareOut_32 rfl hl (by decide) rfl (fun ls hl => ?_)
        exact loop2 (sp_m ts n0 + 1) 0 hpj fgj fsj H locs (by omega) I C F (fun s9 h9 => by rw [if_neg (Nat.not_lt_zero _), if_neg (Nat.not_lt_zero _)]; exact hfg s9 (by omega)) ls (lv_sub hl [1, 3, 0] rfl)
      · have hj : j < 6 := ad_lt (n := 6) (by omega) (by omega) c7
        refine lv_aload_n hx hb d_A_shareOut_10 rfl (lv_at hl 0 rfl) ?_
        refine lv_iload_n hx hb d_A_shareOut_11 rfl (lv_at hl 3 rfl) ?_
        refine lv_iload_n hx hb d_A_shareOut_12 rfl (lv_at hl 1 rfl) ?_
        refine ad_cZi S I (ad_ivV (As := [.int (nI j), .int (nI n0)]) (rest := []) S (ad_recv I C.hX K_AD) w_330 w_332 sp_A_giveRoundedDown Y_A_giveRoundedDown ⟨by decide, by decide, np_A_giveRoundedDown⟩ rfl d_A_shareOut_13) (c_A_giveRoundedDown l G lo hpj x dA tA lA rA gA sA ta ros ts la lt rr rw sd fgj fsj j n0 C hj hn0) Y_A_giveRoundedDown hl.1 ⟨Nat.le_of_ble_eq_true rfl, Nat.le_of_ble_eq_true rfl⟩ (Nat.le_of_ble_eq_true rfl) (Nat.le_of_ble_eq_true rfl) d_A_shareOut_13 (fun hp9 H1 locs1 hA I => ?_)
        obtain ⟨C9, F9⟩ := hA
        refine lv_iload_n hx hb d_A_shareOut_16 rfl (lv_at hl 2 rfl) ?_
        refine lv_aload_n hx hb d_A_shareOut_17 rfl (lv_at hl 0 rfl) ?_
        refine ad_get S I C9.hX K_AD 4 (by decide) w_71 rfl d_A_shareOut_18 ?_
        refine lv_iload_n hx hb d_A_shareOut_21 rfl (lv_at hl 3 rfl) ?_
        refine ad_iald S I C9.hg (vp_in_nI (show j < 6 by omega) (by omega)) d_A_shareOut_22 ?_
        refine lv_isub hx hb d_A_shareOut_23 ?_
        have hs1 : sp_sm (sp_f ts n0) j + sp_f ts n0 j ≤ n0 := Nat.le_trans (sm_mono (sp_f ts n0) (i := j + 1) (by omega)) (f_sum hw hn0)
        refine ad_top (y := .int (nI (n0 - sp_sm (sp_f ts n0) (j + 1)))) (congrArg Value.int (by rw [show (nI j).toNatClampNeg = j from nI_clamp (by omega), pk_us, pk_sub (by omega)]; congr 1; show n0 - sp_sm (sp_f ts n0) j - sp_f ts n0 j = n0 - (sp_sm (sp_f ts n0) j + sp_f ts n0 j); omega)) ?_
        refine lv_istore_n (lv' := [(2, .int (nI (n0 - sp_sm (sp_f ts n0) (j + 1)))), (0, .ref x), (1, .int (nI n0)), (3, .int (nI j))]) hx hb d_A_shareOut_24 rfl hl (by decide) rfl (fun ls hl => ?_)
        refine lv_iinc (v := (nI (j + 1))) (lv' := [(3, .int (nI (j + 1))), (2, .int (nI (n0 - sp_sm (sp_f ts n0) (j + 1)))), (0, .ref x), (1, .int (nI n0))]) hx hb d_A_shareOut_25 hl (k := 3) rfl (nI_1 j) (by decide) rfl (fun ls hl => ?_)
        refine lv_goto (tgt := 4) hx hb d_A_shareOut_28 (by decide) ?_
        exact ih (j + 1) hp9 (upd fgj j (nI (sp_f ts n0 j))) (upd fsj j (nI (sp_r ts n0 j))) H1 locs1 (by omega) I C9 (F.tr F9) (so_put hfg) ls (lv_sub hl [2, 3, 1, 0] rfl)
  refine lv_iload_n hx hb d_A_shareOut_0 rfl (lv_at hl 1 rfl) ?_
  refine lv_istore_n (lv' := [(2, .int (nI n0)), (0, .ref x), (1, .int (nI n0))]) hx hb d_A_shareOut_1 rfl hl (by decide) rfl (fun ls hl => ?_)
  refine lv_iconst (v := 0) hx hb d_A_shareOut_2 (by decide) ?_
  refine lv_istore_n (lv' := [(3, .int 0), (2, .int (nI n0)), (0, .ref x), (1, .int (nI n0))]) hx hb d_A_shareOut_3 rfl hl (by decide) rfl (fun ls hl => ?_)
  exact loop1 7 0 hp fg fs s.heap [] (by omega) I C (fr.rf _ _ _) (fun s9 h9 => by omega) ls (lv_sub hl [2, 3, 1, 0] rfl)
set_option maxHeartbeats 4000000 in
set_option maxRecDepth 100000 in
theorem c_A_list (l : Launch) (G : ad_G) (lo : Nat) (hp : ad_H) (x dA tA lA rA gA sA : Nat) (ta ros : List Nat) (ts : List TH) (la lt rr rw : List Nat) (sd : Int64) (fg fs : Nat → Int32) (v : Int32)  (hT : l.stackTraces = false) (C : CR G hp x dA tA lA rA gA sA ta ros ts la lt rr rw sd fg fs) (hw : wfs ts) (hm : lt.length ≤ 64) : ad_Ct l y_A_list b_A_list 3 rt_A_list hs_A_list 9 128 12800 G lo hp [.ref x, .int v] (fun r hp' => r = q_ans [ad_IAE] (q_ls (ts, lt, sd) v).1 ∧ ∃ (la' rr' rw' : List Nat) (fg' fs' : Nat → Int32), CR G hp' x dA tA lA rA gA sA ta ros ((q_ls (ts, lt, sd) v).2.1) la' ((q_ls (ts, lt, sd) v).2.2.1) rr' rw' ((q_ls (ts, lt, sd) v).2.2.2) fg' fs' ∧ fr gA sA hp hp') := by
  intro p e s m below meth c M hts hB hP
  have hx := M.1
  have hb := M.2.1
  have hml := M.2.2.1
  have hown : s.vm.findClass "AuditDraws" = some m.cls := M.2.2.2.1
  have S : CallFix p m c b_A_list 3 s _ ad_T "AuditDraws" := ⟨hx, hb, hml, hown, hts⟩
  have I : ad_I G lo s hp s.heap [] := ad_I.rf hB hP
  have hl := lv_entry ([.ref x, .int v]) (n := 3) (Nat.le_of_ble_eq_true rfl)
  rw [lg_entry_eq]
  generalize (lg_sl ([.ref x, .int v]) ++ List.replicate (3 - (lg_sl ([.ref x, .int v])).length) Slot.unset).toArray = ls at hl ⊢
  have hl : lv_has ls 3 [(0, .ref x), (1, .int v)] := hl
  obtain ⟨_, htA⟩ := C.hA.self
  refine lv_iload_n hx hb d_A_list_0 rfl (lv_at hl 1 rfl) ?_
  refine lv_if_lt (tgt := 15) hx hb d_A_list_1 (by decide) (fun c1 => ?_) (fun c1 => ?_)
  · obtain ⟨q9, hq9⟩ := hB.2.2.2.2.2.2.1 (66, "not so many things") (by decide)
    refine ad_thr S hT (X := "java/lang/IllegalArgumentException") (Yn := "java/lang/RuntimeException") (names := ["java/lang/Exception"]) (ix := 7) (bx := prog_11_method_2_code) (ic := 68) w_288 w_289 w_17 hq9 (ad_hat hB hts at_IAE) (by decide +kernel) (by decide +kernel) (by decide +kernel) (by decide +kernel) (by decide +kernel) (by decide +kernel) (by decide +kernel) hl.1 d_A_list_15 d_A_list_18 d_A_list_19 d_A_list_21 d_A_list_24 (by decide) (by decide) (by decide) (by decide) (fun H1 cell h1 h2 h3 h4 h5 => ?_)
    exact ad_out M (I.grown h1 h2) h3 h4 h5 (by decide) (by decide) (by decide) (⟨by rw [(show q_ls (ts, lt, sd) v = ((1, 0), (ts, lt, sd)) by simp only [q_ls]; rw [if_neg (fun h => h.1 c1)])]; rfl, la, rr, rw, fg, fs, by rw [(show q_ls (ts, lt, sd) v = ((1, 0), (ts, lt, sd)) by simp only [q_ls]; rw [if_neg (fun h => h.1 c1)])]; exact C, fr.rf _ _ _⟩)
  · refine lv_iload_n hx hb d_A_list_4 rfl (lv_at hl 1 rfl) ?_
    refine lv_aload_n hx hb d_A_list_5 rfl (lv_at hl 0 rfl) ?_
    refine ad_get S I C.hX K_AD 1 (by decide) w_68 rfl d_A_list_6 ?_
    refine ad_cPi S I (ad_ivV (As := []) (rest := [.int v]) S (ad_recv I htA K_AL) w_171 w_172 w_173 Y_AL_size ⟨by decide, by decide, np_AL_size⟩ rfl d_A_list_9) (c_ALsize l G lo hp tA ta C.hA) Y_AL_size hl.1 ⟨Nat.le_of_ble_eq_true rfl, Nat.le_of_ble_eq_true rfl⟩ (Nat.le_of_ble_eq_true rfl) (Nat.le_of_ble_eq_true rfl) d_A_list_9 ?_
    refine ad_top (y := .int (nI ts.length)) (by rw [C.htt.1]) ?_
    refine lv_icmp_le (tgt := 25) hx hb d_A_list_12 (by decide) (fun c12 => ?_) (fun c12 => ?_)
    · obtain ⟨n0, hn31, rfl⟩ := nI_of c1
      have hn := C.hn
      have hn0 : n0 ≤ ts.length := (nI_leI hn31 (by omega)).mp c12
      have hcl : (nI n0).toNatClampNeg = n0 := nI_clamp hn31
      have hin9 : ¬ nI n0 < 0 ∧ nI n0 ≤ nI ts.length := ⟨c1, c12⟩
      refine lv_aload_n hx hb d_A_list_25 rfl (lv_at hl 0 rfl) ?_
      refine ad_cZi S I (ad_ivV (As := []) (rest := []) S (ad_recv I C.hX K_AD) w_304 w_306 sp_A_forgetLatest Y_A_forgetLatest ⟨by decide, by decide, np_A_forgetLatest⟩ rfl d_A_list_26) (c_A_forgetLatest l G lo hp x dA tA lA rA gA sA ta ros ts la lt rr rw sd fg fs C hm) Y_A_forgetLatest hl.1 ⟨Nat.le_of_ble_eq_true rfl, Nat.le_of_ble_eq_true rfl⟩ (Nat.le_of_ble_eq_true rfl) (Nat.le_of_ble_eq_true rfl) d_A_list_26 (fun hp1 H1 locs1 hA I => ?_)
      obtain ⟨C1, F1⟩ := hA
      have hmp := sp_zf_map (-1) lt ts
      refine lv_aload_n hx hb d_A_list_29 rfl (lv_at hl 0 rfl) ?_
      refine lv_iload_n hx hb d_A_list_30 rfl (lv_at hl 1 rfl) ?_
      refine ad_cZi S I (ad_ivV (As := [.int (nI n0)]) (rest := []) S (ad_recv I C1.hX K_AD) w_326 w_328 sp_A_shareOut Y_A_shareOut ⟨by decide, by decide, np_A_shareOut⟩ rfl d_A_list_31) (c_A_shareOut l G lo hp1 x dA tA lA rA gA sA ta ros _ [] [] rr rw sd fg fs n0 C1 (st_wfs hmp hw) (by rw [st_len hmp]; exact hn0)) Y_A_shareOut hl.1 ⟨Nat.le_of_ble_eq_true rfl, Nat.le_of_ble_eq_true rfl⟩ (Nat.le_of_ble_eq_true rfl) (Nat.le_of_ble_eq_true rfl) d_A_list_31 (fun hp2 H1 locs1 hA I => ?_)
      obtain ⟨fg2, fs2, C2, F2, hg2⟩ := hA
      rw [st_g hmp] at hg2
      refine lv_iconst (v := 0) hx hb d_A_list_34 (by decide) ?_
      refine lv_istore_n (lv' := [(2, .int 0), (0, .ref x), (1, .int (nI n0))]) hx hb d_A_list_35 rfl hl (by decide) rfl (fun ls hl => ?_)
      have loop : ∀ (n : Nat) (k : Nat) (fsj : Nat → Int32) (hpj : ad_H) (laj rrj rwj : List Nat) (cs ss : Nat) (H : Heap) (locs : List Loc), (6 < k + n ∧ k ≤ 6 ∧ cs = sp_sm (fun i => sp_cn ts i + sp_g ts n0 i) k ∧ ss = 100 * cs) → ad_I G lo s hpj H locs → CR G hpj x dA tA lA rA gA sA ta ros ((sp_ls ts n0 sd k).1.foldl (sp_z 0) (lt.foldl (sp_z (-1)) ts)) laj ((sp_ls ts n0 sd k).1) rrj rwj ((sp_ls ts n0 sd k).2) fg2 fsj → fr gA sA hp hpj → ∀ ls : Array Slot, lv_has ls 3 [(0, .ref x), (2, .int (nI k))] → W p l e (ad_rm 9 128 12800) s m ([.ref x, .int (nI n0)] : List Value).toArray below meth c H locs cs ss (ad_Z below G lo (fun r hp' => r = q_ans [ad_IAE] (q_ls (ts, lt, sd) (nI n0)).1 ∧ ∃ (la' rr' rw' : List Nat) (fg' fs' : Nat → Int32), CR G hp' x dA tA lA rA gA sA ta ros ((q_ls (ts, lt, sd) (nI n0)).2.1) la' ((q_ls (ts, lt, sd) (nI n0)).2.2.1) rr' rw' ((q_ls (ts, lt, sd) (nI n0)).2.2.2) fg' fs' ∧ fr gA sA hp hp') s 128 12800) (F0 m 36 ls []) := by
        intro n
        induction n with
        | zero => intro k fsj hpj laj rrj rwj cs ss H locs h0; exact absurd h0 (by omega)
        | succ n ih =>
          intro k fsj hpj laj rrj rwj cs ss H locs h0 I C F ls hl
          have hmk : ((sp_ls ts n0 sd k).1.foldl (sp_z 0) (lt.foldl (sp_z (-1)) ts)).map (fun t => t.1) = ts.map (fun t => t.1) := (sp_zf_map 0 _ _).trans hmp
          have ecn := st_cn hmk k
          have hll := sp_ls_l ts n0 sd k
          have hlm := sm_mono (sp_g ts n0) (i := k) (j := 6) (by omega)
          have hgs := g_sum hw hn0
          have hcsm := sm_mono (fun i => sp_cn ts i + sp_g ts n0 i) (i := k) (j := 6) (by omega)
          have hcs6 : sp_sm (fun i => sp_cn ts i + sp_g ts n0 i) 6 ≤ 128 := by rw [sm_add, cn_sum hw, hgs]; omega
          refine lv_iload_n hx hb d_A_list_36 rfl (lv_at hl 1 rfl) ?_
          refine lv_bipush (v := 6) hx hb d_A_list_37 (by decide) ?_
          refine lv_icmp_ge (tgt := 63) hx hb d_A_list_39 (by decide) (fun c39 => ?_) (fun c39 => ?_)
          · obtain rfl : k = 6 := by have := ad_ge (j := k) (n := 6) (by omega) (by omega) c39; omega
            refine lv_aload_n hx hb d_A_list_63 rfl (lv_at hl 0 rfl) ?_
            refine ad_get S I C.hX K_AD 2 (by decide) w_69 rfl d_A_list_64 ?_
            obtain ⟨_, hlA⟩ := C.hLa.self
            refine ad_cPi S I (ad_ivV (As := []) (rest := []) S (ad_recv I hlA K_AL) w_171 w_172 w_173 Y_AL_size ⟨by decide, by decide, np_AL_size⟩ rfl d_A_list_67) (c_ALsize l G lo hpj lA laj C.hLa) Y_AL_size hl.1 ⟨Nat.le_of_ble_eq_true rfl, Nat.le_of_ble_eq_true rfl⟩ (show cs + 0 ≤ 128 by omega) (show ss + 0 ≤ 12800 by omega) d_A_list_67 ?_
            refine ad_top (y := .int (nI n0)) (by rw [C.lkl.1, sp_ls_l, g_sum hw hn0]) ?_
            exact ad_iret M I rfl (by omega) (by omega) (⟨by rw [(show q_ls (ts, lt, sd) (nI n0) = ((0, nI n0), ((sp_ls ts n0 sd 6).1.foldl (sp_z 0) (lt.foldl (sp_z (-1)) ts), (sp_ls ts n0 sd 6).1, (sp_ls ts n0 sd 6).2)) by simp only [q_ls]; rw [if_pos hin9, hcl])]; rfl, laj, rrj, rwj, fg2, fsj, by rw [(show q_ls (ts, lt, sd) (nI n0) = ((0, nI n0), ((sp_ls ts n0 sd 6).1.foldl (sp_z 0) (lt.foldl (sp_z (-1)) ts), (sp_ls ts n0 sd 6).1, (sp_ls ts n0 sd 6).2)) by simp only [q_ls]; rw [if_pos hin9, hcl])]; exact C, F⟩) d_A_list_70
          · have hk : k < 6 := ad_lt (n := 6) (by omega) (by omega) c39
            have hgl := g_le hw hn0 k
            have hc1 := sm_mono (fun i => sp_cn ts i + sp_g ts n0 i) (i := k + 1) (j := 6) (by omega)
            have hg1 := sm_mono (sp_g ts n0) (i := k + 1) (j := 6) (by omega)
            have hcnl := sp_cn_le ts k
            simp only [sp_sm] at hc1 hg1
            have h024 := h0.2.2.1
            have h025 := h0.2.2.2
            simp only [sp_sm] at hcs6 hgs
            refine lv_aload_n hx hb d_A_list_42 rfl (lv_at hl 0 rfl) ?_
            refine lv_iload_n hx hb d_A_list_43 rfl (lv_at hl 1 rfl) ?_
            refine ad_cZi S I (ad_ivV (As := [.int (nI k)]) (rest := []) S (ad_recv I C.hX K_AD) w_342 w_344 sp_A_layRow Y_A_layRow ⟨by decide, by decide, np_A_layRow⟩ rfl d_A_list_44) (c_A_layRow l G lo hpj x dA tA lA rA gA sA ta ros _ laj (sp_ls ts n0 sd k).1 rrj rwj (sp_ls ts n0 sd k).2 fg2 fsj k C) Y_A_layRow hl.1 ⟨Nat.le_of_ble_eq_true rfl, Nat.le_of_ble_eq_true rfl⟩ (show cs + sp_cn ((sp_ls ts n0 sd k).1.foldl (sp_z 0) (lt.foldl (sp_z (-1)) ts)) k ≤ 128 by rw [ecn]; omega) (show ss + 100 * sp_cn ((sp_ls ts n0 sd k).1.foldl (sp_z 0) (lt.foldl (sp_z (-1)) ts)) k ≤ 12800 by rw [ecn]; omega) d_A_list_44 (fun hp3 H1 locs1 hA I => ?_)
            obtain ⟨rr3, C3, F3⟩ := hA
            rw [st_len hmk, st_row hmk] at C3
            refine lv_aload_n hx hb d_A_list_47 rfl (lv_at hl 0 rfl) ?_
            refine lv_aload_n hx hb d_A_list_48 rfl (lv_at hl 0 rfl) ?_
            refine ad_get S I C3.hX K_AD 4 (by decide) w_71 rfl d_A_list_49 ?_
            refine lv_iload_n hx hb d_A_list_52 rfl (lv_at hl 1 rfl) ?_
            refine ad_iald S I C3.hg (vp_in_nI (show k < 6 by omega) (by omega)) d_A_list_53 ?_
            refine ad_top (y := .int (nI (sp_g ts n0 k))) (congrArg Value.int (by rw [show (nI k).toNatClampNeg = k from nI_clamp (by omega)]; exact hg2 k hk)) ?_
            refine ad_cZi S I (ad_ivV (As := [.int (nI (sp_g ts n0 k))]) (rest := []) S (ad_recv I C3.hX K_AD) w_346 w_348 sp_A_takeFromRow Y_A_takeFromRow ⟨by decide, by decide, np_A_takeFromRow⟩ rfl d_A_list_54) (c_A_takeFromRow l G lo hp3 x dA tA lA rA gA sA ta ros _ laj (sp_ls ts n0 sd k).1 rr3 (sp_row ts k ts.length) (sp_ls ts n0 sd k).2 fg2 fsj (sp_g ts n0 k) C3 (by rw [sp_row_len]; exact hgl) (by rw [sp_row_len]; omega) (by omega)) Y_A_takeFromRow hl.1 ⟨Nat.le_of_ble_eq_true rfl, Nat.le_of_ble_eq_true rfl⟩ (show cs + sp_cn ((sp_ls ts n0 sd k).1.foldl (sp_z 0) (lt.foldl (sp_z (-1)) ts)) k + sp_g ts n0 k ≤ 128 by rw [ecn]; omega) (show ss + 100 * sp_cn ((sp_ls ts n0 sd k).1.foldl (sp_z 0) (lt.foldl (sp_z (-1)) ts)) k + 100 * sp_g ts n0 k ≤ 12800 by rw [ecn]; omega) d_A_list_54 (fun hp4 H1 locs1 hA I => ?_)
            obtain ⟨la4, rr4, C4, F4⟩ := hA
            rw [← List.foldl_append] at C4
            refine lv_iinc (v := (nI (k + 1))) (lv' := [(2, .int (nI (k + 1))), (0, .ref x)]) hx hb d_A_list_57 hl (k := 1) rfl (nI_1 k) (by decide) rfl (fun ls hl => ?_)
            refine lv_goto (tgt := 36) hx hb d_A_list_60 (by decide) ?_
            exact ih (k + 1) fsj hp4 la4 rr4 _ (cs + sp_cn ((sp_ls ts n0 sd k).1.foldl (sp_z 0) (lt.foldl (sp_z (-1)) ts)) k + sp_g ts n0 k) (ss + 100 * sp_cn ((sp_ls ts n0 sd k).1.foldl (sp_z 0) (lt.foldl (sp_z (-1)) ts)) k + 100 * sp_g ts n0 k) H1 locs1 ⟨by omega, by omega, by rw [ecn, h0.2.2.1]; simp only [sp_sm]; omega, by rw [h0.2.2.2]; omega⟩ I C4 ((F.tr F3).tr F4) ls (lv_sub hl [1, 0] rfl)
      exact loop 7 0 fs2 hp2 [] rr rw 0 0 H1 locs1 ⟨by omega, by omega, rfl, rfl⟩ I C2 (F1.tr F2) ls (lv_sub hl [1, 0] rfl)
    · obtain ⟨q9, hq9⟩ := hB.2.2.2.2.2.2.1 (66, "not so many things") (by decide)
      refine ad_thr S hT (X := "java/lang/IllegalArgumentException") (Yn := "java/lang/RuntimeException") (names := ["java/lang/Exception"]) (ix := 7) (bx := prog_11_method_2_code) (ic := 68) w_288 w_289 w_17 hq9 (ad_hat hB hts at_IAE) (by decide +kernel) (by decide +kernel) (by decide +kernel) (by decide +kernel) (by decide +kernel) (by decide +kernel) (by decide +kernel) hl.1 d_A_list_15 d_A_list_18 d_A_list_19 d_A_list_21 d_A_list_24 (by decide) (by decide) (by decide) (by decide) (fun H1 cell h1 h2 h3 h4 h5 => ?_)
      exact ad_out M (I.grown h1 h2) h3 h4 h5 (by decide) (by decide) (by decide) (⟨by rw [(show q_ls (ts, lt, sd) v = ((1, 0), (ts, lt, sd)) by simp only [q_ls]; rw [if_neg (fun h => c12 h.2)])]; rfl, la, rr, rw, fg, fs, by rw [(show q_ls (ts, lt, sd) v = ((1, 0), (ts, lt, sd)) by simp only [q_ls]; rw [if_neg (fun h => c12 h.2)])]; exact C, fr.rf _ _ _⟩)
end
