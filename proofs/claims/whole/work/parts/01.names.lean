def lw_okq (q : MethodName × Nat) : Prop := (q.1.cls ≠ "java/lang/invoke/MethodHandle" ∧ q.1.cls ≠ "java/lang/invoke/VarHandle") ∧ Cond.instantiable q.1.cls q.2 ∈ tables_1 ∧ Cond.privateMethod q.1 ∈ tables_1 ∧ Cond.instanceMethod q.1 ∈ tables_1
theorem lw_p0 : lw_okq (⟨"java/lang/Throwable", "fillInStackTrace", "(I)Ljava/lang/Throwable;"⟩, 6) := ⟨⟨by decide +kernel, by decide +kernel⟩, List.mem_of_getElem? (i := 142) (by decide +kernel), List.mem_of_getElem? (i := 140) (by decide +kernel), List.mem_of_getElem? (i := 141) (by decide +kernel)⟩
theorem lw_p1 : lw_okq (⟨"java/util/ArrayList", "add", "(Ljava/lang/Object;[Ljava/lang/Object;I)V"⟩, 3) := ⟨⟨by decide +kernel, by decide +kernel⟩, List.mem_of_getElem? (i := 42) (by decide +kernel), List.mem_of_getElem? (i := 229) (by decide +kernel), List.mem_of_getElem? (i := 230) (by decide +kernel)⟩
theorem lw_p2 : lw_okq (⟨"java/util/ArrayList", "grow", "()[Ljava/lang/Object;"⟩, 3) := ⟨⟨by decide +kernel, by decide +kernel⟩, List.mem_of_getElem? (i := 42) (by decide +kernel), List.mem_of_getElem? (i := 233) (by decide +kernel), List.mem_of_getElem? (i := 234) (by decide +kernel)⟩
theorem lw_p3 : lw_okq (⟨"java/util/ArrayList", "grow", "(I)[Ljava/lang/Object;"⟩, 3) := ⟨⟨by decide +kernel, by decide +kernel⟩, List.mem_of_getElem? (i := 42) (by decide +kernel), List.mem_of_getElem? (i := 237) (by decide +kernel), List.mem_of_getElem? (i := 238) (by decide +kernel)⟩
theorem lw_p4 : lw_okq (⟨"AuditDraws", "forgetLatest", "()V"⟩, 6) := ⟨⟨by decide +kernel, by decide +kernel⟩, List.mem_of_getElem? (i := 23) (by decide +kernel), List.mem_of_getElem? (i := 305) (by decide +kernel), List.mem_of_getElem? (i := 306) (by decide +kernel)⟩
theorem lw_p5 : lw_okq (⟨"AuditDraws", "shareOut", "(I)V"⟩, 6) := ⟨⟨by decide +kernel, by decide +kernel⟩, List.mem_of_getElem? (i := 23) (by decide +kernel), List.mem_of_getElem? (i := 327) (by decide +kernel), List.mem_of_getElem? (i := 328) (by decide +kernel)⟩
theorem lw_p6 : lw_okq (⟨"AuditDraws", "giveRoundedDown", "(II)V"⟩, 6) := ⟨⟨by decide +kernel, by decide +kernel⟩, List.mem_of_getElem? (i := 23) (by decide +kernel), List.mem_of_getElem? (i := 331) (by decide +kernel), List.mem_of_getElem? (i := 332) (by decide +kernel)⟩
theorem lw_p7 : lw_okq (⟨"AuditDraws", "countThings", "(I)I"⟩, 6) := ⟨⟨by decide +kernel, by decide +kernel⟩, List.mem_of_getElem? (i := 23) (by decide +kernel), List.mem_of_getElem? (i := 335) (by decide +kernel), List.mem_of_getElem? (i := 336) (by decide +kernel)⟩
theorem lw_p8 : lw_okq (⟨"AuditDraws", "giveOneByGreatestRest", "()V"⟩, 6) := ⟨⟨by decide +kernel, by decide +kernel⟩, List.mem_of_getElem? (i := 23) (by decide +kernel), List.mem_of_getElem? (i := 339) (by decide +kernel), List.mem_of_getElem? (i := 340) (by decide +kernel)⟩
theorem lw_p9 : lw_okq (⟨"AuditDraws", "layRow", "(I)V"⟩, 6) := ⟨⟨by decide +kernel, by decide +kernel⟩, List.mem_of_getElem? (i := 23) (by decide +kernel), List.mem_of_getElem? (i := 343) (by decide +kernel), List.mem_of_getElem? (i := 344) (by decide +kernel)⟩
theorem lw_p10 : lw_okq (⟨"AuditDraws", "takeFromRow", "(I)V"⟩, 6) := ⟨⟨by decide +kernel, by decide +kernel⟩, List.mem_of_getElem? (i := 23) (by decide +kernel), List.mem_of_getElem? (i := 347) (by decide +kernel), List.mem_of_getElem? (i := 348) (by decide +kernel)⟩
theorem lw_p11 : lw_okq (⟨"AuditDraws", "existing", "(I)LAuditDraws$Thing;"⟩, 6) := ⟨⟨by decide +kernel, by decide +kernel⟩, List.mem_of_getElem? (i := 23) (by decide +kernel), List.mem_of_getElem? (i := 375) (by decide +kernel), List.mem_of_getElem? (i := 376) (by decide +kernel)⟩
theorem lw_p12 : lw_okq (⟨"AuditDraws", "countChecked", "(I)I"⟩, 6) := ⟨⟨by decide +kernel, by decide +kernel⟩, List.mem_of_getElem? (i := 23) (by decide +kernel), List.mem_of_getElem? (i := 397) (by decide +kernel), List.mem_of_getElem? (i := 398) (by decide +kernel)⟩
theorem lw_p13 : lw_okq (⟨"AuditDraws", "countListed", "(II)I"⟩, 6) := ⟨⟨by decide +kernel, by decide +kernel⟩, List.mem_of_getElem? (i := 23) (by decide +kernel), List.mem_of_getElem? (i := 401) (by decide +kernel), List.mem_of_getElem? (i := 402) (by decide +kernel)⟩
theorem lw_p14 : lw_okq (⟨"AuditDraws", "countMissed", "(I)I"⟩, 6) := ⟨⟨by decide +kernel, by decide +kernel⟩, List.mem_of_getElem? (i := 23) (by decide +kernel), List.mem_of_getElem? (i := 405) (by decide +kernel), List.mem_of_getElem? (i := 406) (by decide +kernel)⟩
theorem lw_p15 : lw_okq (⟨"AuditDrawsModel", "fails", "(ZZZ)Z"⟩, 15) := ⟨⟨by decide +kernel, by decide +kernel⟩, List.mem_of_getElem? (i := 543) (by decide +kernel), List.mem_of_getElem? (i := 612) (by decide +kernel), List.mem_of_getElem? (i := 613) (by decide +kernel)⟩
def lw_privs_1 : List (MethodName × Nat) := [(⟨"java/lang/Throwable", "fillInStackTrace", "(I)Ljava/lang/Throwable;"⟩, 6), (⟨"java/util/ArrayList", "add", "(Ljava/lang/Object;[Ljava/lang/Object;I)V"⟩, 3), (⟨"java/util/ArrayList", "grow", "()[Ljava/lang/Object;"⟩, 3), (⟨"java/util/ArrayList", "grow", "(I)[Ljava/lang/Object;"⟩, 3), (⟨"AuditDraws", "forgetLatest", "()V"⟩, 6), (⟨"AuditDraws", "shareOut", "(I)V"⟩, 6), (⟨"AuditDraws", "giveRoundedDown", "(II)V"⟩, 6), (⟨"AuditDraws", "countThings", "(I)I"⟩, 6), (⟨"AuditDraws", "giveOneByGreatestRest", "()V"⟩, 6), (⟨"AuditDraws", "layRow", "(I)V"⟩, 6), (⟨"AuditDraws", "takeFromRow", "(I)V"⟩, 6), (⟨"AuditDraws", "existing", "(I)LAuditDraws$Thing;"⟩, 6), (⟨"AuditDraws", "countChecked", "(I)I"⟩, 6), (⟨"AuditDraws", "countListed", "(II)I"⟩, 6), (⟨"AuditDraws", "countMissed", "(I)I"⟩, 6), (⟨"AuditDrawsModel", "fails", "(ZZZ)Z"⟩, 15)]
theorem lw_r1 : ∀ q ∈ lw_privs_1, lw_okq q := List.forall_mem_cons.mpr ⟨lw_p0, List.forall_mem_cons.mpr ⟨lw_p1, List.forall_mem_cons.mpr ⟨lw_p2, List.forall_mem_cons.mpr ⟨lw_p3, List.forall_mem_cons.mpr ⟨lw_p4, List.forall_mem_cons.mpr ⟨lw_p5, List.forall_mem_cons.mpr ⟨lw_p6, List.forall_mem_cons.mpr ⟨lw_p7, List.forall_mem_cons.mpr ⟨lw_p8, List.forall_mem_cons.mpr ⟨lw_p9, List.forall_mem_cons.mpr ⟨lw_p10, List.forall_mem_cons.mpr ⟨lw_p11, List.forall_mem_cons.mpr ⟨lw_p12, List.forall_mem_cons.mpr ⟨lw_p13, List.forall_mem_cons.mpr ⟨lw_p14, List.forall_mem_cons.mpr ⟨lw_p15, fun _ h => absurd h List.not_mem_nil⟩⟩⟩⟩⟩⟩⟩⟩⟩⟩⟩⟩⟩⟩⟩⟩
theorem lw_p16 : lw_okq (⟨"AuditDrawsModel", "divide", "(I)V"⟩, 15) := ⟨⟨by decide +kernel, by decide +kernel⟩, List.mem_of_getElem? (i := 543) (by decide +kernel), List.mem_of_getElem? (i := 620) (by decide +kernel), List.mem_of_getElem? (i := 621) (by decide +kernel)⟩
theorem lw_p17 : lw_okq (⟨"AuditDrawsModel", "size", "(I)I"⟩, 15) := ⟨⟨by decide +kernel, by decide +kernel⟩, List.mem_of_getElem? (i := 543) (by decide +kernel), List.mem_of_getElem? (i := 624) (by decide +kernel), List.mem_of_getElem? (i := 625) (by decide +kernel)⟩
theorem lw_p18 : lw_okq (⟨"AuditDrawsModel", "rest", "(II)I"⟩, 15) := ⟨⟨by decide +kernel, by decide +kernel⟩, List.mem_of_getElem? (i := 543) (by decide +kernel), List.mem_of_getElem? (i := 628) (by decide +kernel), List.mem_of_getElem? (i := 629) (by decide +kernel)⟩
theorem lw_p19 : lw_okq (⟨"AuditDrawsModel", "drawFrom", "(I)V"⟩, 15) := ⟨⟨by decide +kernel, by decide +kernel⟩, List.mem_of_getElem? (i := 543) (by decide +kernel), List.mem_of_getElem? (i := 632) (by decide +kernel), List.mem_of_getElem? (i := 633) (by decide +kernel)⟩
theorem lw_p20 : lw_okq (⟨"AuditDrawsModel", "draw", "(I)I"⟩, 15) := ⟨⟨by decide +kernel, by decide +kernel⟩, List.mem_of_getElem? (i := 543) (by decide +kernel), List.mem_of_getElem? (i := 636) (by decide +kernel), List.mem_of_getElem? (i := 637) (by decide +kernel)⟩
theorem lw_p21 : lw_okq (⟨"AuditDrawsModel", "isThing", "(I)Z"⟩, 15) := ⟨⟨by decide +kernel, by decide +kernel⟩, List.mem_of_getElem? (i := 543) (by decide +kernel), List.mem_of_getElem? (i := 650) (by decide +kernel), List.mem_of_getElem? (i := 651) (by decide +kernel)⟩
theorem lw_p22 : lw_okq (⟨"AuditDrawsModel", "many", "(III)I"⟩, 15) := ⟨⟨by decide +kernel, by decide +kernel⟩, List.mem_of_getElem? (i := 543) (by decide +kernel), List.mem_of_getElem? (i := 663) (by decide +kernel), List.mem_of_getElem? (i := 664) (by decide +kernel)⟩
theorem lw_p23 : lw_okq (⟨"AuditDrawsModel", "best", "(II)I"⟩, 15) := ⟨⟨by decide +kernel, by decide +kernel⟩, List.mem_of_getElem? (i := 543) (by decide +kernel), List.mem_of_getElem? (i := 700) (by decide +kernel), List.mem_of_getElem? (i := 701) (by decide +kernel)⟩
def lw_privs_2 : List (MethodName × Nat) := [(⟨"AuditDrawsModel", "divide", "(I)V"⟩, 15), (⟨"AuditDrawsModel", "size", "(I)I"⟩, 15), (⟨"AuditDrawsModel", "rest", "(II)I"⟩, 15), (⟨"AuditDrawsModel", "drawFrom", "(I)V"⟩, 15), (⟨"AuditDrawsModel", "draw", "(I)I"⟩, 15), (⟨"AuditDrawsModel", "isThing", "(I)Z"⟩, 15), (⟨"AuditDrawsModel", "many", "(III)I"⟩, 15), (⟨"AuditDrawsModel", "best", "(II)I"⟩, 15)]
theorem lw_r2 : ∀ q ∈ lw_privs_2, lw_okq q := List.forall_mem_cons.mpr ⟨lw_p16, List.forall_mem_cons.mpr ⟨lw_p17, List.forall_mem_cons.mpr ⟨lw_p18, List.forall_mem_cons.mpr ⟨lw_p19, List.forall_mem_cons.mpr ⟨lw_p20, List.forall_mem_cons.mpr ⟨lw_p21, List.forall_mem_cons.mpr ⟨lw_p22, List.forall_mem_cons.mpr ⟨lw_p23, fun _ h => absurd h List.not_mem_nil⟩⟩⟩⟩⟩⟩⟩⟩
def lw_privs : List (MethodName × Nat) := lw_privs_1 ++ (lw_privs_2)
def lw_tbl : List Cond := k2_sels lw_privs ++ tables_1
theorem lw_privs_ok : ∀ q ∈ lw_privs, lw_okq q := by
  show ∀ q ∈ lw_privs_1 ++ (lw_privs_2), lw_okq q
  exact List.forall_mem_append.mpr ⟨lw_r1, lw_r2⟩
def R_Draw : String := "AuditDraws$Draw"
def F_Draw : u_T := fun k => match k with
  | _ => ("AuditDraws$Draw", "state", "J", false)
def t_Draw : Nat → FieldType := fun k => match k with
  | _ => .long
def R_Thing : String := "AuditDraws$Thing"
def F_Thing : u_T := fun k => match k with
  | 0 => ("AuditDraws$Thing", "number", "I", true)
  | 1 => ("AuditDraws$Thing", "stratum", "I", true)
  | 2 => ("AuditDraws$Thing", "rows", "Ljava/util/ArrayList;", true)
  | 3 => ("AuditDraws$Thing", "place", "I", false)
  | 4 => ("AuditDraws$Thing", "state", "I", false)
  | _ => ("AuditDraws$Thing", "grams", "I", false)
def t_Thing : Nat → FieldType := fun k => match k with
  | 0 => .int
  | 1 => .int
  | 2 => .object "java/util/ArrayList"
  | 3 => .int
  | 4 => .int
  | _ => .int
def R_Sight : String := "AuditDraws$Sighting"
def F_Sight : u_T := fun k => match k with
  | 0 => ("AuditDraws$Sighting", "hour", "I", true)
  | 1 => ("AuditDraws$Sighting", "place", "I", true)
  | _ => ("AuditDraws$Sighting", "told", "I", true)
def t_Sight : Nat → FieldType := fun k => match k with
  | 0 => .int
  | 1 => .int
  | _ => .int
def R_AL : String := "java/util/ArrayList"
def F_AL : u_T := fun k => match k with
  | 0 => ("java/util/ArrayList", "elementData", "[Ljava/lang/Object;", false)
  | 1 => ("java/util/ArrayList", "size", "I", false)
  | _ => ("java/util/AbstractList", "modCount", "I", false)
def t_AL : Nat → FieldType := fun k => match k with
  | 0 => .array (.object "java/lang/Object")
  | 1 => .int
  | _ => .int
def R_AD : String := "AuditDraws"
def F_AD : u_T := fun k => match k with
  | 0 => ("AuditDraws", "draw", "LAuditDraws$Draw;", true)
  | 1 => ("AuditDraws", "things", "Ljava/util/ArrayList;", true)
  | 2 => ("AuditDraws", "latest", "Ljava/util/ArrayList;", true)
  | 3 => ("AuditDraws", "row", "Ljava/util/ArrayList;", true)
  | 4 => ("AuditDraws", "given", "[I", true)
  | _ => ("AuditDraws", "rests", "[I", true)
def t_AD : Nat → FieldType := fun k => match k with
  | 0 => .object "AuditDraws$Draw"
  | 1 => .object "java/util/ArrayList"
  | 2 => .object "java/util/ArrayList"
  | 3 => .object "java/util/ArrayList"
  | 4 => .array .int
  | _ => .array .int
def R_Mod : String := "AuditDrawsModel"
def F_Mod : u_T := fun k => match k with
  | 0 => ("AuditDrawsModel", "thrown", "I", false)
  | 1 => ("AuditDrawsModel", "state", "J", false)
  | 2 => ("AuditDrawsModel", "things", "I", false)
  | 3 => ("AuditDrawsModel", "strata", "[I", true)
  | 4 => ("AuditDrawsModel", "places", "[I", true)
  | 5 => ("AuditDrawsModel", "weights", "[I", true)
  | 6 => ("AuditDrawsModel", "drawnMany", "I", false)
  | 7 => ("AuditDrawsModel", "drawn", "[I", true)
  | 8 => ("AuditDrawsModel", "states", "[I", true)
  | 9 => ("AuditDrawsModel", "row", "[I", true)
  | 10 => ("AuditDrawsModel", "gives", "[I", true)
  | 11 => ("AuditDrawsModel", "rowMany", "[I", true)
  | 12 => ("AuditDrawsModel", "hours", "[I", true)
  | 13 => ("AuditDrawsModel", "seenAt", "[I", true)
  | _ => ("AuditDrawsModel", "tolds", "[I", true)
def t_Mod : Nat → FieldType := fun k => match k with
  | 0 => .int
  | 1 => .long
  | 2 => .int
  | 3 => .array .int
  | 4 => .array .int
  | 5 => .array .int
  | 6 => .int
  | 7 => .array .int
  | 8 => .array .int
  | 9 => .array .int
  | 10 => .array .int
  | 11 => .array .int
  | 12 => .array .int
  | 13 => .array .int
  | _ => .array .int
abbrev vwCl : List vw_C := [(R_Draw, F_Draw, 1), (R_Thing, F_Thing, 6), (R_Sight, F_Sight, 3), (R_AL, F_AL, 3), (R_AD, F_AD, 6), (R_Mod, F_Mod, 15)]
abbrev b_A_init : ByteArray := prog_1_method_1_code
def y_A_init : MethodName := ⟨"AuditDraws", "<init>", "()V"⟩
abbrev b_D_init : ByteArray := prog_3_method_1_code
def y_D_init : MethodName := ⟨"AuditDraws$Draw", "<init>", "()V"⟩
abbrev b_AL_init : ByteArray := prog_21_method_2_code
def y_AL_init : MethodName := ⟨"java/util/ArrayList", "<init>", "()V"⟩
abbrev b_AB_init : ByteArray := prog_20_method_1_code
def y_AB_init : MethodName := ⟨"java/util/AbstractList", "<init>", "()V"⟩
abbrev b_AC_init : ByteArray := prog_19_method_1_code
def y_AC_init : MethodName := ⟨"java/util/AbstractCollection", "<init>", "()V"⟩
abbrev b_A_seed : ByteArray := prog_1_method_2_code
def y_A_seed : MethodName := ⟨"AuditDraws", "seed", "(J)V"⟩
abbrev b_L_thing : ByteArray := method_3_code
def y_L_thing : MethodName := ⟨"AuditDrawsLaw", "thing", "(LAuditDraws;II[J)I"⟩
abbrev b_A_thing : ByteArray := prog_1_method_3_code
def y_A_thing : MethodName := ⟨"AuditDraws", "thing", "(II)I"⟩
abbrev b_A_needBelow : ByteArray := prog_1_method_30_code
def y_A_needBelow : MethodName := ⟨"AuditDraws", "needBelow", "(II)V"⟩
abbrev b_AL_size : ByteArray := prog_21_method_8_code
def y_AL_size : MethodName := ⟨"java/util/ArrayList", "size", "()I"⟩
abbrev b_T_init : ByteArray := prog_5_method_1_code
def y_T_init : MethodName := ⟨"AuditDraws$Thing", "<init>", "(III)V"⟩
abbrev b_AL_add : ByteArray := prog_21_method_25_code
def y_AL_add : MethodName := ⟨"java/util/ArrayList", "add", "(Ljava/lang/Object;)Z"⟩
abbrev b_AL_add3 : ByteArray := prog_21_method_24_code
def y_AL_add3 : MethodName := ⟨"java/util/ArrayList", "add", "(Ljava/lang/Object;[Ljava/lang/Object;I)V"⟩
abbrev b_AL_grow : ByteArray := prog_21_method_7_code
def y_AL_grow : MethodName := ⟨"java/util/ArrayList", "grow", "()[Ljava/lang/Object;"⟩
abbrev b_AL_grow1 : ByteArray := prog_21_method_6_code
def y_AL_grow1 : MethodName := ⟨"java/util/ArrayList", "grow", "(I)[Ljava/lang/Object;"⟩
abbrev b_AS_newLength : ByteArray := prog_29_method_27_code
def y_AS_newLength : MethodName := ⟨"jdk/internal/util/ArraysSupport", "newLength", "(III)I"⟩
abbrev b_MA_max : ByteArray := prog_14_method_65_code
def y_MA_max : MethodName := ⟨"java/lang/Math", "max", "(II)I"⟩
abbrev b_AS_hugeLength : ByteArray := prog_29_method_28_code
def y_AS_hugeLength : MethodName := ⟨"jdk/internal/util/ArraysSupport", "hugeLength", "(II)I"⟩
abbrev b_AR_copyOf : ByteArray := prog_22_method_119_code
def y_AR_copyOf : MethodName := ⟨"java/util/Arrays", "copyOf", "([Ljava/lang/Object;I)[Ljava/lang/Object;"⟩
abbrev b_AR_copyOf3 : ByteArray := prog_22_method_120_code
def y_AR_copyOf3 : MethodName := ⟨"java/util/Arrays", "copyOf", "([Ljava/lang/Object;ILjava/lang/Class;)[Ljava/lang/Object;"⟩
abbrev b_MA_min : ByteArray := prog_14_method_69_code
def y_MA_min : MethodName := ⟨"java/lang/Math", "min", "(II)I"⟩
abbrev b_L_list : ByteArray := method_4_code
def y_L_list : MethodName := ⟨"AuditDrawsLaw", "list", "(LAuditDraws;I[J)I"⟩
abbrev b_A_list : ByteArray := prog_1_method_4_code
def y_A_list : MethodName := ⟨"AuditDraws", "list", "(I)I"⟩
abbrev b_A_forgetLatest : ByteArray := prog_1_method_18_code
def y_A_forgetLatest : MethodName := ⟨"AuditDraws", "forgetLatest", "()V"⟩
abbrev b_AL_get : ByteArray := prog_21_method_20_code
def y_AL_get : MethodName := ⟨"java/util/ArrayList", "get", "(I)Ljava/lang/Object;"⟩
abbrev b_OB_checkIndex : ByteArray := prog_26_method_17_code
def y_OB_checkIndex : MethodName := ⟨"java/util/Objects", "checkIndex", "(II)I"⟩
abbrev b_PR_checkIndex : ByteArray := prog_30_method_11_code
def y_PR_checkIndex : MethodName := ⟨"jdk/internal/util/Preconditions", "checkIndex", "(IILjava/util/function/BiFunction;)I"⟩
abbrev b_AL_elementData : ByteArray := prog_21_method_18_code
def y_AL_elementData : MethodName := ⟨"java/util/ArrayList", "elementData", "(I)Ljava/lang/Object;"⟩
abbrev b_AL_clear : ByteArray := prog_21_method_40_code
def y_AL_clear : MethodName := ⟨"java/util/ArrayList", "clear", "()V"⟩
abbrev b_A_shareOut : ByteArray := prog_1_method_19_code
def y_A_shareOut : MethodName := ⟨"AuditDraws", "shareOut", "(I)V"⟩
abbrev b_A_giveRoundedDown : ByteArray := prog_1_method_20_code
def y_A_giveRoundedDown : MethodName := ⟨"AuditDraws", "giveRoundedDown", "(II)V"⟩
abbrev b_A_countThings : ByteArray := prog_1_method_24_code
def y_A_countThings : MethodName := ⟨"AuditDraws", "countThings", "(I)I"⟩
abbrev b_A_giveOneByGreatestRest : ByteArray := prog_1_method_21_code
def y_A_giveOneByGreatestRest : MethodName := ⟨"AuditDraws", "giveOneByGreatestRest", "()V"⟩
abbrev b_A_layRow : ByteArray := prog_1_method_22_code
def y_A_layRow : MethodName := ⟨"AuditDraws", "layRow", "(I)V"⟩
abbrev b_A_takeFromRow : ByteArray := prog_1_method_23_code
def y_A_takeFromRow : MethodName := ⟨"AuditDraws", "takeFromRow", "(I)V"⟩
abbrev b_D_below : ByteArray := prog_3_method_2_code
def y_D_below : MethodName := ⟨"AuditDraws$Draw", "below", "(I)I"⟩
abbrev b_AL_set : ByteArray := prog_21_method_23_code
def y_AL_set : MethodName := ⟨"java/util/ArrayList", "set", "(ILjava/lang/Object;)Ljava/lang/Object;"⟩
abbrev b_L_drawn : ByteArray := method_5_code
def y_L_drawn : MethodName := ⟨"AuditDrawsLaw", "drawn", "(LAuditDraws;I[J)I"⟩
abbrev b_A_drawn : ByteArray := prog_1_method_5_code
def y_A_drawn : MethodName := ⟨"AuditDraws", "drawn", "(I)I"⟩
abbrev b_L_check : ByteArray := method_6_code
def y_L_check : MethodName := ⟨"AuditDrawsLaw", "check", "(LAuditDraws;IIII[J)I"⟩
abbrev b_A_check : ByteArray := prog_1_method_6_code
def y_A_check : MethodName := ⟨"AuditDraws", "check", "(IIII)I"⟩
abbrev b_A_existing : ByteArray := prog_1_method_29_code
def y_A_existing : MethodName := ⟨"AuditDraws", "existing", "(I)LAuditDraws$Thing;"⟩
abbrev b_A_needListed : ByteArray := prog_1_method_32_code
def y_A_needListed : MethodName := ⟨"AuditDraws", "needListed", "(LAuditDraws$Thing;)V"⟩
abbrev b_L_gone : ByteArray := method_7_code
def y_L_gone : MethodName := ⟨"AuditDrawsLaw", "gone", "(LAuditDraws;I[J)I"⟩
abbrev b_A_gone : ByteArray := prog_1_method_7_code
def y_A_gone : MethodName := ⟨"AuditDraws", "gone", "(I)Z"⟩
abbrev b_L_share : ByteArray := method_8_code
def y_L_share : MethodName := ⟨"AuditDrawsLaw", "share", "(LAuditDraws;II[J)I"⟩
abbrev b_A_share : ByteArray := prog_1_method_8_code
def y_A_share : MethodName := ⟨"AuditDraws", "share", "(II)I"⟩
abbrev b_A_countChecked : ByteArray := prog_1_method_27_code
def y_A_countChecked : MethodName := ⟨"AuditDraws", "countChecked", "(I)I"⟩
abbrev b_A_countListed : ByteArray := prog_1_method_25_code
def y_A_countListed : MethodName := ⟨"AuditDraws", "countListed", "(II)I"⟩
abbrev b_A_countMissed : ByteArray := prog_1_method_26_code
def y_A_countMissed : MethodName := ⟨"AuditDraws", "countMissed", "(I)I"⟩
abbrev b_A_commonDivisor : ByteArray := prog_1_method_28_code
def y_A_commonDivisor : MethodName := ⟨"AuditDraws", "commonDivisor", "(II)I"⟩
abbrev b_L_next : ByteArray := method_9_code
def y_L_next : MethodName := ⟨"AuditDrawsLaw", "next", "(LAuditDraws;I[J)I"⟩
abbrev b_A_next : ByteArray := prog_1_method_9_code
def y_A_next : MethodName := ⟨"AuditDraws", "next", "(I)I"⟩
abbrev b_L_digit : ByteArray := method_10_code
def y_L_digit : MethodName := ⟨"AuditDrawsLaw", "digit", "(LAuditDraws;IJ[J)I"⟩
abbrev b_A_digit : ByteArray := prog_1_method_10_code
def y_A_digit : MethodName := ⟨"AuditDraws", "digit", "(IJ)I"⟩
abbrev b_A_needNumber : ByteArray := prog_1_method_34_code
def y_A_needNumber : MethodName := ⟨"AuditDraws", "needNumber", "(J)V"⟩
abbrev b_C_of : ByteArray := prog_2_method_2_code
def y_C_of : MethodName := ⟨"AuditDraws$CheckDigits", "of", "(IJ)I"⟩
abbrev b_C_weighedSum : ByteArray := prog_2_method_4_code
def y_C_weighedSum : MethodName := ⟨"AuditDraws$CheckDigits", "weighedSum", "(IJ)I"⟩
abbrev b_C_weighed : ByteArray := prog_2_method_5_code
def y_C_weighed : MethodName := ⟨"AuditDraws$CheckDigits", "weighed", "(III)I"⟩
abbrev b_C_doubled : ByteArray := prog_2_method_6_code
def y_C_doubled : MethodName := ⟨"AuditDraws$CheckDigits", "doubled", "(I)I"⟩
abbrev b_L_good : ByteArray := method_11_code
def y_L_good : MethodName := ⟨"AuditDrawsLaw", "good", "(LAuditDraws;IJ[J)I"⟩
abbrev b_A_good : ByteArray := prog_1_method_11_code
def y_A_good : MethodName := ⟨"AuditDraws", "good", "(IJ)Z"⟩
abbrev b_C_closes : ByteArray := prog_2_method_3_code
def y_C_closes : MethodName := ⟨"AuditDraws$CheckDigits", "closes", "(IJ)Z"⟩
abbrev b_L_tag : ByteArray := method_12_code
def y_L_tag : MethodName := ⟨"AuditDrawsLaw", "tag", "(LAuditDraws;IIII[J)I"⟩
abbrev b_A_tag : ByteArray := prog_1_method_12_code
def y_A_tag : MethodName := ⟨"AuditDraws", "tag", "(IIII)I"⟩
abbrev b_A_needHour : ByteArray := prog_1_method_33_code
def y_A_needHour : MethodName := ⟨"AuditDraws", "needHour", "(I)V"⟩
abbrev b_S_init : ByteArray := prog_4_method_1_code
def y_S_init : MethodName := ⟨"AuditDraws$Sighting", "<init>", "(III)V"⟩
abbrev b_L_first : ByteArray := method_13_code
def y_L_first : MethodName := ⟨"AuditDrawsLaw", "first", "(LAuditDraws;II[J)I"⟩
abbrev b_A_first : ByteArray := prog_1_method_13_code
def y_A_first : MethodName := ⟨"AuditDraws", "first", "(II)I"⟩
abbrev b_T_lastToldBy : ByteArray := prog_5_method_2_code
def y_T_lastToldBy : MethodName := ⟨"AuditDraws$Thing", "lastToldBy", "(I)LAuditDraws$Sighting;"⟩
abbrev b_S_replaces : ByteArray := prog_4_method_2_code
def y_S_replaces : MethodName := ⟨"AuditDraws$Sighting", "replaces", "(LAuditDraws$Sighting;)Z"⟩
abbrev b_L_seen : ByteArray := method_14_code
def y_L_seen : MethodName := ⟨"AuditDrawsLaw", "seen", "(LAuditDraws;II[J)I"⟩
abbrev b_A_seen : ByteArray := prog_1_method_14_code
def y_A_seen : MethodName := ⟨"AuditDraws", "seen", "(II)I"⟩
abbrev b_L_weight : ByteArray := method_15_code
def y_L_weight : MethodName := ⟨"AuditDrawsLaw", "weight", "(LAuditDraws;II[J)I"⟩
abbrev b_A_weight : ByteArray := prog_1_method_15_code
def y_A_weight : MethodName := ⟨"AuditDraws", "weight", "(II)I"⟩
abbrev b_MA_abs : ByteArray := prog_14_method_59_code
def y_MA_abs : MethodName := ⟨"java/lang/Math", "abs", "(I)I"⟩
abbrev b_L_report : ByteArray := method_16_code
def y_L_report : MethodName := ⟨"AuditDrawsLaw", "report", "(LAuditDraws;II[J)I"⟩
abbrev b_A_report : ByteArray := prog_1_method_16_code
def y_A_report : MethodName := ⟨"AuditDraws", "report", "(II)I"⟩
abbrev b_A_needNotNegative : ByteArray := prog_1_method_31_code
def y_A_needNotNegative : MethodName := ⟨"AuditDraws", "needNotNegative", "(I)V"⟩
abbrev b_L_room : ByteArray := method_17_code
def y_L_room : MethodName := ⟨"AuditDrawsLaw", "room", "(LAuditDraws;II[J)I"⟩
abbrev b_A_room : ByteArray := prog_1_method_17_code
def y_A_room : MethodName := ⟨"AuditDraws", "room", "(II)I"⟩
abbrev b_M_init : ByteArray := prog_7_method_1_code
def y_M_init : MethodName := ⟨"AuditDrawsModel", "<init>", "()V"⟩
abbrev b_M_thrown : ByteArray := prog_7_method_2_code
def y_M_thrown : MethodName := ⟨"AuditDrawsModel", "thrown", "()I"⟩
abbrev b_M_seed : ByteArray := prog_7_method_6_code
def y_M_seed : MethodName := ⟨"AuditDrawsModel", "seed", "(J)V"⟩
abbrev b_M_thing : ByteArray := prog_7_method_7_code
def y_M_thing : MethodName := ⟨"AuditDrawsModel", "thing", "(II)I"⟩
abbrev b_M_in : ByteArray := prog_7_method_3_code
def y_M_in : MethodName := ⟨"AuditDrawsModel", "in", "(JJJ)Z"⟩
abbrev b_M_fails : ByteArray := prog_7_method_4_code
def y_M_fails : MethodName := ⟨"AuditDrawsModel", "fails", "(ZZZ)Z"⟩
abbrev b_M_list : ByteArray := prog_7_method_13_code
def y_M_list : MethodName := ⟨"AuditDrawsModel", "list", "(I)I"⟩
abbrev b_M_divide : ByteArray := prog_7_method_11_code
def y_M_divide : MethodName := ⟨"AuditDrawsModel", "divide", "(I)V"⟩
abbrev b_M_size : ByteArray := prog_7_method_9_code
def y_M_size : MethodName := ⟨"AuditDrawsModel", "size", "(I)I"⟩
abbrev b_M_rest : ByteArray := prog_7_method_10_code
def y_M_rest : MethodName := ⟨"AuditDrawsModel", "rest", "(II)I"⟩
abbrev b_M_drawFrom : ByteArray := prog_7_method_12_code
def y_M_drawFrom : MethodName := ⟨"AuditDrawsModel", "drawFrom", "(I)V"⟩
abbrev b_M_draw : ByteArray := prog_7_method_8_code
def y_M_draw : MethodName := ⟨"AuditDrawsModel", "draw", "(I)I"⟩
abbrev b_M_drawn : ByteArray := prog_7_method_14_code
def y_M_drawn : MethodName := ⟨"AuditDrawsModel", "drawn", "(I)I"⟩
abbrev b_M_check : ByteArray := prog_7_method_15_code
def y_M_check : MethodName := ⟨"AuditDrawsModel", "check", "(IIII)I"⟩
abbrev b_M_isThing : ByteArray := prog_7_method_5_code
def y_M_isThing : MethodName := ⟨"AuditDrawsModel", "isThing", "(I)Z"⟩
abbrev b_M_gone : ByteArray := prog_7_method_16_code
def y_M_gone : MethodName := ⟨"AuditDrawsModel", "gone", "(I)Z"⟩
abbrev b_M_share : ByteArray := prog_7_method_18_code
def y_M_share : MethodName := ⟨"AuditDrawsModel", "share", "(II)I"⟩
abbrev b_M_many : ByteArray := prog_7_method_17_code
def y_M_many : MethodName := ⟨"AuditDrawsModel", "many", "(III)I"⟩
abbrev b_M_next : ByteArray := prog_7_method_19_code
def y_M_next : MethodName := ⟨"AuditDrawsModel", "next", "(I)I"⟩
abbrev b_M_digit : ByteArray := prog_7_method_23_code
def y_M_digit : MethodName := ⟨"AuditDrawsModel", "digit", "(IJ)I"⟩
abbrev b_M_digitOf : ByteArray := prog_7_method_22_code
def y_M_digitOf : MethodName := ⟨"AuditDrawsModel", "digitOf", "(IJ)I"⟩
abbrev b_M_sum : ByteArray := prog_7_method_21_code
def y_M_sum : MethodName := ⟨"AuditDrawsModel", "sum", "(IJ)I"⟩
abbrev b_M_counts : ByteArray := prog_7_method_20_code
def y_M_counts : MethodName := ⟨"AuditDrawsModel", "counts", "(III)I"⟩
abbrev b_M_good : ByteArray := prog_7_method_24_code
def y_M_good : MethodName := ⟨"AuditDrawsModel", "good", "(IJ)Z"⟩
abbrev b_M_tag : ByteArray := prog_7_method_25_code
def y_M_tag : MethodName := ⟨"AuditDrawsModel", "tag", "(IIII)I"⟩
abbrev b_M_first : ByteArray := prog_7_method_27_code
def y_M_first : MethodName := ⟨"AuditDrawsModel", "first", "(II)I"⟩
abbrev b_M_best : ByteArray := prog_7_method_26_code
def y_M_best : MethodName := ⟨"AuditDrawsModel", "best", "(II)I"⟩
abbrev b_M_seen : ByteArray := prog_7_method_28_code
def y_M_seen : MethodName := ⟨"AuditDrawsModel", "seen", "(II)I"⟩
abbrev b_M_weight : ByteArray := prog_7_method_29_code
def y_M_weight : MethodName := ⟨"AuditDrawsModel", "weight", "(II)I"⟩
abbrev b_M_report : ByteArray := prog_7_method_30_code
def y_M_report : MethodName := ⟨"AuditDrawsModel", "report", "(II)I"⟩
abbrev b_M_room : ByteArray := prog_7_method_31_code
def y_M_room : MethodName := ⟨"AuditDrawsModel", "room", "(II)I"⟩
def ad_g : Cond → Bool
  | .arrayOver (.object _) => true
  | w => goodWord w || (w.onTables && w.faceAtom)
def ad_T : List Cond := lw_tbl.filter ad_g
theorem ad_in {w : Cond} (h : w ∈ tables_1) (hg : ad_g w = true) : w ∈ ad_T := List.mem_filter.mpr ⟨List.mem_append_right _ h, hg⟩
theorem ad_inS {w : Cond} (h : w ∈ k2_sels lw_privs) (hg : ad_g w = true) : w ∈ ad_T := List.mem_filter.mpr ⟨List.mem_append_left _ h, hg⟩
theorem w_0 : (Cond.initialized "AuditDrawsLaw" : Cond) ∈ ad_T := ad_in (List.mem_of_getElem? (i := 0) (by decide +kernel)) (by rfl)
theorem w_1 : (Cond.initialized "AuditDraws" : Cond) ∈ ad_T := ad_in (List.mem_of_getElem? (i := 1) (by decide +kernel)) (by rfl)
theorem w_2 : (Cond.initialized "AuditDraws$Draw" : Cond) ∈ ad_T := ad_in (List.mem_of_getElem? (i := 2) (by decide +kernel)) (by rfl)
theorem w_3 : (Cond.initialized "java/util/AbstractCollection" : Cond) ∈ ad_T := ad_in (List.mem_of_getElem? (i := 3) (by decide +kernel)) (by rfl)
theorem w_4 : (Cond.initialized "java/util/AbstractList" : Cond) ∈ ad_T := ad_in (List.mem_of_getElem? (i := 4) (by decide +kernel)) (by rfl)
theorem w_5 : (Cond.initialized "java/util/ArrayList" : Cond) ∈ ad_T := ad_in (List.mem_of_getElem? (i := 5) (by decide +kernel)) (by rfl)
theorem w_6 : (Cond.initialized "AuditDrawsModel" : Cond) ∈ ad_T := ad_in (List.mem_of_getElem? (i := 6) (by decide +kernel)) (by rfl)
theorem w_7 : (Cond.initialized "java/lang/Throwable" : Cond) ∈ ad_T := ad_in (List.mem_of_getElem? (i := 7) (by decide +kernel)) (by rfl)
theorem w_8 : (Cond.initialized "java/lang/Exception" : Cond) ∈ ad_T := ad_in (List.mem_of_getElem? (i := 8) (by decide +kernel)) (by rfl)
theorem w_9 : (Cond.initialized "java/lang/RuntimeException" : Cond) ∈ ad_T := ad_in (List.mem_of_getElem? (i := 9) (by decide +kernel)) (by rfl)
theorem w_10 : (Cond.initialized "java/util/NoSuchElementException" : Cond) ∈ ad_T := ad_in (List.mem_of_getElem? (i := 10) (by decide +kernel)) (by rfl)
theorem w_11 : (Cond.initialized "java/lang/IllegalStateException" : Cond) ∈ ad_T := ad_in (List.mem_of_getElem? (i := 11) (by decide +kernel)) (by rfl)
theorem w_12 : (Cond.initialized "AuditDraws$Thing" : Cond) ∈ ad_T := ad_in (List.mem_of_getElem? (i := 12) (by decide +kernel)) (by rfl)
theorem w_13 : (Cond.initialized "jdk/internal/util/ArraysSupport" : Cond) ∈ ad_T := ad_in (List.mem_of_getElem? (i := 13) (by decide +kernel)) (by rfl)
theorem w_14 : (Cond.initialized "java/lang/Math" : Cond) ∈ ad_T := ad_in (List.mem_of_getElem? (i := 14) (by decide +kernel)) (by rfl)
theorem w_15 : (Cond.initialized "java/util/Arrays" : Cond) ∈ ad_T := ad_in (List.mem_of_getElem? (i := 15) (by decide +kernel)) (by rfl)
theorem w_16 : (Cond.initialized "java/lang/System" : Cond) ∈ ad_T := ad_in (List.mem_of_getElem? (i := 16) (by decide +kernel)) (by rfl)
theorem w_17 : (Cond.initialized "java/lang/IllegalArgumentException" : Cond) ∈ ad_T := ad_in (List.mem_of_getElem? (i := 17) (by decide +kernel)) (by rfl)
theorem w_18 : (Cond.initialized "java/util/Objects" : Cond) ∈ ad_T := ad_in (List.mem_of_getElem? (i := 18) (by decide +kernel)) (by rfl)
theorem w_19 : (Cond.initialized "jdk/internal/util/Preconditions" : Cond) ∈ ad_T := ad_in (List.mem_of_getElem? (i := 19) (by decide +kernel)) (by rfl)
theorem w_20 : (Cond.initialized "AuditDraws$CheckDigits" : Cond) ∈ ad_T := ad_in (List.mem_of_getElem? (i := 20) (by decide +kernel)) (by rfl)
theorem w_21 : (Cond.initialized "AuditDraws$Sighting" : Cond) ∈ ad_T := ad_in (List.mem_of_getElem? (i := 21) (by decide +kernel)) (by rfl)
theorem w_22 : (Cond.classLink "AuditDrawsLaw" 8 "AuditDraws" : Cond) ∈ ad_T := ad_in (List.mem_of_getElem? (i := 22) (by decide +kernel)) (by rfl)
theorem w_23 : (Cond.instantiable "AuditDraws" 6 : Cond) ∈ ad_T := ad_in (List.mem_of_getElem? (i := 23) (by decide +kernel)) (by rfl)
theorem w_24 : (Cond.methodLink "AuditDrawsLaw" 66 ⟨"AuditDraws", "<init>", "()V"⟩ : Cond) ∈ ad_T := ad_in (List.mem_of_getElem? (i := 24) (by decide +kernel)) (by rfl)
theorem w_25 : (Cond.instanceMethod ⟨"AuditDraws", "<init>", "()V"⟩ : Cond) ∈ ad_T := ad_in (List.mem_of_getElem? (i := 25) (by decide +kernel)) (by rfl)
set_option maxRecDepth 100000 in
theorem w_26 : (Cond.code ⟨"AuditDraws", "<init>", "()V"⟩ prog_1_method_1_code 1 (none : Option FieldType) : Cond) ∈ ad_T := ad_in (List.mem_of_getElem? (i := 26) rfl) (by rfl)
theorem w_27 : (Cond.methodLink "AuditDraws" 1 ⟨"java/lang/Object", "<init>", "()V"⟩ : Cond) ∈ ad_T := ad_in (List.mem_of_getElem? (i := 27) (by decide +kernel)) (by rfl)
theorem w_28 : (Cond.instanceMethod ⟨"java/lang/Object", "<init>", "()V"⟩ : Cond) ∈ ad_T := ad_in (List.mem_of_getElem? (i := 28) (by decide +kernel)) (by rfl)
set_option maxRecDepth 100000 in
theorem w_29 : (Cond.code ⟨"java/lang/Object", "<init>", "()V"⟩ object_method_1_code 1 (none : Option FieldType) : Cond) ∈ ad_T := ad_in (List.mem_of_getElem? (i := 29) rfl) (by rfl)
theorem w_30 : (Cond.classLink "AuditDraws" 7 "AuditDraws$Draw" : Cond) ∈ ad_T := ad_in (List.mem_of_getElem? (i := 30) (by decide +kernel)) (by rfl)
theorem w_31 : (Cond.instantiable "AuditDraws$Draw" 1 : Cond) ∈ ad_T := ad_in (List.mem_of_getElem? (i := 31) (by decide +kernel)) (by rfl)
theorem w_33 : (Cond.instanceMethod ⟨"AuditDraws$Draw", "<init>", "()V"⟩ : Cond) ∈ ad_T := ad_in (List.mem_of_getElem? (i := 33) (by decide +kernel)) (by rfl)
set_option maxRecDepth 100000 in
theorem w_34 : (Cond.code ⟨"AuditDraws$Draw", "<init>", "()V"⟩ prog_3_method_1_code 1 (none : Option FieldType) : Cond) ∈ ad_T := ad_in (List.mem_of_getElem? (i := 34) rfl) (by rfl)
theorem w_35 : (Cond.methodLink "AuditDraws$Draw" 1 ⟨"java/lang/Object", "<init>", "()V"⟩ : Cond) ∈ ad_T := ad_in (List.mem_of_getElem? (i := 35) (by decide +kernel)) (by rfl)
theorem w_36 : (Cond.fieldLink "AuditDraws$Draw" 7 "AuditDraws$Draw" "state" "J" : Cond) ∈ ad_T := ad_in (List.mem_of_getElem? (i := 36) (by decide +kernel)) (by rfl)
theorem w_37 : (Cond.fieldLink "AuditDraws" 36 "AuditDraws$Draw" "state" "J" : Cond) ∈ ad_T := ad_in (List.mem_of_getElem? (i := 37) (by decide +kernel)) (by rfl)
theorem w_38 : (Cond.lays "AuditDraws$Draw" "AuditDraws$Draw" "state" "J" : Cond) ∈ ad_T := ad_in (List.mem_of_getElem? (i := 38) (by decide +kernel)) (by rfl)
theorem w_40 : (Cond.superclass "AuditDraws$Draw" "java/lang/Object" : Cond) ∈ ad_T := ad_in (List.mem_of_getElem? (i := 40) (by decide +kernel)) (by rfl)
theorem w_41 : (Cond.classLink "AuditDraws" 16 "java/util/ArrayList" : Cond) ∈ ad_T := ad_in (List.mem_of_getElem? (i := 41) (by decide +kernel)) (by rfl)
theorem w_42 : (Cond.instantiable "java/util/ArrayList" 3 : Cond) ∈ ad_T := ad_in (List.mem_of_getElem? (i := 42) (by decide +kernel)) (by rfl)
theorem w_43 : (Cond.methodLink "AuditDraws" 18 ⟨"java/util/ArrayList", "<init>", "()V"⟩ : Cond) ∈ ad_T := ad_in (List.mem_of_getElem? (i := 43) (by decide +kernel)) (by rfl)
theorem w_44 : (Cond.instanceMethod ⟨"java/util/ArrayList", "<init>", "()V"⟩ : Cond) ∈ ad_T := ad_in (List.mem_of_getElem? (i := 44) (by decide +kernel)) (by rfl)
set_option maxRecDepth 100000 in
theorem w_45 : (Cond.code ⟨"java/util/ArrayList", "<init>", "()V"⟩ prog_21_method_2_code 1 (none : Option FieldType) : Cond) ∈ ad_T := ad_in (List.mem_of_getElem? (i := 45) rfl) (by rfl)
theorem w_46 : (Cond.methodLink "java/util/ArrayList" 1 ⟨"java/util/AbstractList", "<init>", "()V"⟩ : Cond) ∈ ad_T := ad_in (List.mem_of_getElem? (i := 46) (by decide +kernel)) (by rfl)
theorem w_47 : (Cond.instanceMethod ⟨"java/util/AbstractList", "<init>", "()V"⟩ : Cond) ∈ ad_T := ad_in (List.mem_of_getElem? (i := 47) (by decide +kernel)) (by rfl)
set_option maxRecDepth 100000 in
theorem w_48 : (Cond.code ⟨"java/util/AbstractList", "<init>", "()V"⟩ prog_20_method_1_code 1 (none : Option FieldType) : Cond) ∈ ad_T := ad_in (List.mem_of_getElem? (i := 48) rfl) (by rfl)
theorem w_49 : (Cond.methodLink "java/util/AbstractList" 1 ⟨"java/util/AbstractCollection", "<init>", "()V"⟩ : Cond) ∈ ad_T := ad_in (List.mem_of_getElem? (i := 49) (by decide +kernel)) (by rfl)
theorem w_50 : (Cond.instanceMethod ⟨"java/util/AbstractCollection", "<init>", "()V"⟩ : Cond) ∈ ad_T := ad_in (List.mem_of_getElem? (i := 50) (by decide +kernel)) (by rfl)
set_option maxRecDepth 100000 in
theorem w_51 : (Cond.code ⟨"java/util/AbstractCollection", "<init>", "()V"⟩ prog_19_method_1_code 1 (none : Option FieldType) : Cond) ∈ ad_T := ad_in (List.mem_of_getElem? (i := 51) rfl) (by rfl)
theorem w_52 : (Cond.methodLink "java/util/AbstractCollection" 1 ⟨"java/lang/Object", "<init>", "()V"⟩ : Cond) ∈ ad_T := ad_in (List.mem_of_getElem? (i := 52) (by decide +kernel)) (by rfl)
theorem w_53 : (Cond.fieldLink "java/util/ArrayList" 39 "java/util/ArrayList" "DEFAULTCAPACITY_EMPTY_ELEMENTDATA" "[Ljava/lang/Object;" : Cond) ∈ ad_T := ad_in (List.mem_of_getElem? (i := 53) (by decide +kernel)) (by rfl)
theorem w_55 : (Cond.fieldLink "java/util/ArrayList" 9 "java/util/ArrayList" "elementData" "[Ljava/lang/Object;" : Cond) ∈ ad_T := ad_in (List.mem_of_getElem? (i := 55) (by decide +kernel)) (by rfl)
theorem w_56 : (Cond.fieldLink "java/util/ArrayList" 48 "java/util/ArrayList" "size" "I" : Cond) ∈ ad_T := ad_in (List.mem_of_getElem? (i := 56) (by decide +kernel)) (by rfl)
theorem w_57 : (Cond.fieldLink "java/util/AbstractList" 7 "java/util/AbstractList" "modCount" "I" : Cond) ∈ ad_T := ad_in (List.mem_of_getElem? (i := 57) (by decide +kernel)) (by rfl)
theorem w_58 : (Cond.fieldLink "java/util/ArrayList" 63 "java/util/ArrayList" "modCount" "I" : Cond) ∈ ad_T := ad_in (List.mem_of_getElem? (i := 58) (by decide +kernel)) (by rfl)
theorem w_60 : (Cond.lays "java/util/ArrayList" "java/util/ArrayList" "elementData" "[Ljava/lang/Object;" : Cond) ∈ ad_T := ad_in (List.mem_of_getElem? (i := 60) (by decide +kernel)) (by rfl)
theorem w_62 : (Cond.lays "java/util/ArrayList" "java/util/ArrayList" "size" "I" : Cond) ∈ ad_T := ad_in (List.mem_of_getElem? (i := 62) (by decide +kernel)) (by rfl)
theorem w_64 : (Cond.lays "java/util/ArrayList" "java/util/AbstractList" "modCount" "I" : Cond) ∈ ad_T := ad_in (List.mem_of_getElem? (i := 64) (by decide +kernel)) (by rfl)
theorem w_66 : (Cond.superclass "java/util/ArrayList" "java/util/AbstractList" : Cond) ∈ ad_T := ad_in (List.mem_of_getElem? (i := 66) (by decide +kernel)) (by rfl)
theorem w_67 : (Cond.fieldLink "AuditDraws" 10 "AuditDraws" "draw" "LAuditDraws$Draw;" : Cond) ∈ ad_T := ad_in (List.mem_of_getElem? (i := 67) (by decide +kernel)) (by rfl)
theorem w_68 : (Cond.fieldLink "AuditDraws" 19 "AuditDraws" "things" "Ljava/util/ArrayList;" : Cond) ∈ ad_T := ad_in (List.mem_of_getElem? (i := 68) (by decide +kernel)) (by rfl)
theorem w_69 : (Cond.fieldLink "AuditDraws" 23 "AuditDraws" "latest" "Ljava/util/ArrayList;" : Cond) ∈ ad_T := ad_in (List.mem_of_getElem? (i := 69) (by decide +kernel)) (by rfl)
theorem w_70 : (Cond.fieldLink "AuditDraws" 26 "AuditDraws" "row" "Ljava/util/ArrayList;" : Cond) ∈ ad_T := ad_in (List.mem_of_getElem? (i := 70) (by decide +kernel)) (by rfl)
theorem w_71 : (Cond.fieldLink "AuditDraws" 29 "AuditDraws" "given" "[I" : Cond) ∈ ad_T := ad_in (List.mem_of_getElem? (i := 71) (by decide +kernel)) (by rfl)
theorem w_72 : (Cond.fieldLink "AuditDraws" 33 "AuditDraws" "rests" "[I" : Cond) ∈ ad_T := ad_in (List.mem_of_getElem? (i := 72) (by decide +kernel)) (by rfl)
theorem w_73 : (Cond.laysFinal "AuditDraws" "AuditDraws" "draw" "LAuditDraws$Draw;" : Cond) ∈ ad_T := ad_in (List.mem_of_getElem? (i := 73) (by decide +kernel)) (by rfl)
theorem w_75 : (Cond.laysFinal "AuditDraws" "AuditDraws" "things" "Ljava/util/ArrayList;" : Cond) ∈ ad_T := ad_in (List.mem_of_getElem? (i := 75) (by decide +kernel)) (by rfl)
theorem w_77 : (Cond.laysFinal "AuditDraws" "AuditDraws" "latest" "Ljava/util/ArrayList;" : Cond) ∈ ad_T := ad_in (List.mem_of_getElem? (i := 77) (by decide +kernel)) (by rfl)
theorem w_79 : (Cond.laysFinal "AuditDraws" "AuditDraws" "row" "Ljava/util/ArrayList;" : Cond) ∈ ad_T := ad_in (List.mem_of_getElem? (i := 79) (by decide +kernel)) (by rfl)
theorem w_81 : (Cond.laysFinal "AuditDraws" "AuditDraws" "given" "[I" : Cond) ∈ ad_T := ad_in (List.mem_of_getElem? (i := 81) (by decide +kernel)) (by rfl)
theorem w_83 : (Cond.laysFinal "AuditDraws" "AuditDraws" "rests" "[I" : Cond) ∈ ad_T := ad_in (List.mem_of_getElem? (i := 83) (by decide +kernel)) (by rfl)
theorem w_85 : (Cond.superclass "AuditDraws" "java/lang/Object" : Cond) ∈ ad_T := ad_in (List.mem_of_getElem? (i := 85) (by decide +kernel)) (by rfl)
theorem w_86 : (Cond.arrayClass .int : Cond) ∈ ad_T := ad_in (List.mem_of_getElem? (i := 86) (by decide +kernel)) (by rfl)
theorem w_87 : (Cond.methodLink "AuditDrawsLaw" 72 ⟨"AuditDraws", "seed", "(J)V"⟩ : Cond) ∈ ad_T := ad_in (List.mem_of_getElem? (i := 87) (by decide +kernel)) (by rfl)
theorem w_88 : (Cond.instanceMethod ⟨"AuditDraws", "seed", "(J)V"⟩ : Cond) ∈ ad_T := ad_in (List.mem_of_getElem? (i := 88) (by decide +kernel)) (by rfl)
theorem w_89 : (Cond.selects "AuditDraws" ⟨"AuditDraws", "seed", "(J)V"⟩ ⟨"AuditDraws", "seed", "(J)V"⟩ : Cond) ∈ ad_T := ad_in (List.mem_of_getElem? (i := 89) (by decide +kernel)) (by rfl)
set_option maxRecDepth 100000 in
theorem w_90 : (Cond.code ⟨"AuditDraws", "seed", "(J)V"⟩ prog_1_method_2_code 3 (none : Option FieldType) : Cond) ∈ ad_T := ad_in (List.mem_of_getElem? (i := 90) rfl) (by rfl)
theorem w_91 : (Cond.methodLink "AuditDrawsLaw" 77 ⟨"AuditDrawsLaw", "thing", "(LAuditDraws;II[J)I"⟩ : Cond) ∈ ad_T := ad_in (List.mem_of_getElem? (i := 91) (by decide +kernel)) (by rfl)
theorem w_92 : (Cond.static ⟨"AuditDrawsLaw", "thing", "(LAuditDraws;II[J)I"⟩ : Cond) ∈ ad_T := ad_in (List.mem_of_getElem? (i := 92) (by decide +kernel)) (by rfl)
set_option maxRecDepth 100000 in
theorem w_93 : (Cond.codeWith ⟨"AuditDrawsLaw", "thing", "(LAuditDraws;II[J)I"⟩ method_3_code 5 (some .int) [(0, 10, 13, 13), (0, 10, 17, 15)] : Cond) ∈ ad_T := ad_in (List.mem_of_getElem? (i := 93) rfl) (by rfl)
theorem w_94 : (Cond.classLink "AuditDrawsLaw" 13 "java/util/NoSuchElementException" : Cond) ∈ ad_T := ad_in (List.mem_of_getElem? (i := 94) (by decide +kernel)) (by rfl)
theorem w_95 : (Cond.classLink "AuditDrawsLaw" 15 "java/lang/IllegalStateException" : Cond) ∈ ad_T := ad_in (List.mem_of_getElem? (i := 95) (by decide +kernel)) (by rfl)
theorem w_96 : (Cond.methodLink "AuditDrawsLaw" 7 ⟨"AuditDraws", "thing", "(II)I"⟩ : Cond) ∈ ad_T := ad_in (List.mem_of_getElem? (i := 96) (by decide +kernel)) (by rfl)
theorem w_97 : (Cond.instanceMethod ⟨"AuditDraws", "thing", "(II)I"⟩ : Cond) ∈ ad_T := ad_in (List.mem_of_getElem? (i := 97) (by decide +kernel)) (by rfl)
theorem w_98 : (Cond.selects "AuditDraws" ⟨"AuditDraws", "thing", "(II)I"⟩ ⟨"AuditDraws", "thing", "(II)I"⟩ : Cond) ∈ ad_T := ad_in (List.mem_of_getElem? (i := 98) (by decide +kernel)) (by rfl)
set_option maxRecDepth 100000 in
theorem w_99 : (Cond.code ⟨"AuditDraws", "thing", "(II)I"⟩ prog_1_method_3_code 4 (some .int) : Cond) ∈ ad_T := ad_in (List.mem_of_getElem? (i := 99) rfl) (by rfl)
theorem w_100 : (Cond.methodLink "AuditDraws" 40 ⟨"AuditDraws", "needBelow", "(II)V"⟩ : Cond) ∈ ad_T := ad_in (List.mem_of_getElem? (i := 100) (by decide +kernel)) (by rfl)
theorem w_101 : (Cond.static ⟨"AuditDraws", "needBelow", "(II)V"⟩ : Cond) ∈ ad_T := ad_in (List.mem_of_getElem? (i := 101) (by decide +kernel)) (by rfl)
set_option maxRecDepth 100000 in
theorem w_102 : (Cond.code ⟨"AuditDraws", "needBelow", "(II)V"⟩ prog_1_method_30_code 2 (none : Option FieldType) : Cond) ∈ ad_T := ad_in (List.mem_of_getElem? (i := 102) rfl) (by rfl)
theorem w_103 : (Cond.classLink "AuditDraws" 188 "java/util/NoSuchElementException" : Cond) ∈ ad_T := ad_in (List.mem_of_getElem? (i := 103) (by decide +kernel)) (by rfl)
theorem w_104 : (Cond.instantiable "java/util/NoSuchElementException" 6 : Cond) ∈ ad_T := ad_in (List.mem_of_getElem? (i := 104) (by decide +kernel)) (by rfl)
theorem w_105 : (Cond.castable "java/util/NoSuchElementException" "java/util/NoSuchElementException" : Cond) ∈ ad_T := ad_in (List.mem_of_getElem? (i := 105) (by decide +kernel)) (by rfl)
theorem w_106 : (Cond.declares ⟨"java/lang/RuntimeException", "<init>", "()V"⟩ : Cond) ∈ ad_T := ad_in (List.mem_of_getElem? (i := 106) (by decide +kernel)) (by rfl)
theorem w_107 : (Cond.declares ⟨"java/lang/RuntimeException", "<init>", "(Ljava/lang/String;)V"⟩ : Cond) ∈ ad_T := ad_in (List.mem_of_getElem? (i := 107) (by decide +kernel)) (by rfl)
theorem w_108 : (Cond.declares ⟨"java/lang/Exception", "<init>", "()V"⟩ : Cond) ∈ ad_T := ad_in (List.mem_of_getElem? (i := 108) (by decide +kernel)) (by rfl)
theorem w_109 : (Cond.declares ⟨"java/lang/Exception", "<init>", "(Ljava/lang/String;)V"⟩ : Cond) ∈ ad_T := ad_in (List.mem_of_getElem? (i := 109) (by decide +kernel)) (by rfl)
theorem w_110 : (Cond.declares ⟨"java/lang/Throwable", "<init>", "()V"⟩ : Cond) ∈ ad_T := ad_in (List.mem_of_getElem? (i := 110) (by decide +kernel)) (by rfl)
theorem w_111 : (Cond.declares ⟨"java/lang/Throwable", "<init>", "(Ljava/lang/String;)V"⟩ : Cond) ∈ ad_T := ad_in (List.mem_of_getElem? (i := 111) (by decide +kernel)) (by rfl)
theorem w_112 : (Cond.selects "java/util/NoSuchElementException" ⟨"java/lang/Throwable", "fillInStackTrace", "(I)Ljava/lang/Throwable;"⟩ ⟨"java/lang/Throwable", "fillInStackTrace", "(I)Ljava/lang/Throwable;"⟩ : Cond) ∈ ad_T := ad_in (List.mem_of_getElem? (i := 112) (by decide +kernel)) (by rfl)
theorem w_113 : (Cond.selects "java/util/NoSuchElementException" ⟨"java/lang/Throwable", "fillInStackTrace", "()Ljava/lang/Throwable;"⟩ ⟨"java/lang/Throwable", "fillInStackTrace", "()Ljava/lang/Throwable;"⟩ : Cond) ∈ ad_T := ad_in (List.mem_of_getElem? (i := 113) (by decide +kernel)) (by rfl)
theorem w_114 : (Cond.lays "java/util/NoSuchElementException" "java/lang/Throwable" "cause" "Ljava/lang/Throwable;" : Cond) ∈ ad_T := ad_in (List.mem_of_getElem? (i := 114) (by decide +kernel)) (by rfl)
theorem w_115 : (Cond.lays "java/lang/Throwable" "java/lang/Throwable" "cause" "Ljava/lang/Throwable;" : Cond) ∈ ad_T := ad_in (List.mem_of_getElem? (i := 115) (by decide +kernel)) (by rfl)
theorem w_116 : (Cond.lays "java/util/NoSuchElementException" "java/lang/Throwable" "stackTrace" "[Ljava/lang/StackTraceElement;" : Cond) ∈ ad_T := ad_in (List.mem_of_getElem? (i := 116) (by decide +kernel)) (by rfl)
theorem w_117 : (Cond.lays "java/lang/Throwable" "java/lang/Throwable" "stackTrace" "[Ljava/lang/StackTraceElement;" : Cond) ∈ ad_T := ad_in (List.mem_of_getElem? (i := 117) (by decide +kernel)) (by rfl)
theorem w_118 : (Cond.lays "java/util/NoSuchElementException" "java/lang/Throwable" "suppressedExceptions" "Ljava/util/List;" : Cond) ∈ ad_T := ad_in (List.mem_of_getElem? (i := 118) (by decide +kernel)) (by rfl)
theorem w_119 : (Cond.lays "java/lang/Throwable" "java/lang/Throwable" "suppressedExceptions" "Ljava/util/List;" : Cond) ∈ ad_T := ad_in (List.mem_of_getElem? (i := 119) (by decide +kernel)) (by rfl)
theorem w_120 : (Cond.lays "java/util/NoSuchElementException" "java/lang/Throwable" "detailMessage" "Ljava/lang/String;" : Cond) ∈ ad_T := ad_in (List.mem_of_getElem? (i := 120) (by decide +kernel)) (by rfl)
theorem w_121 : (Cond.lays "java/lang/Throwable" "java/lang/Throwable" "detailMessage" "Ljava/lang/String;" : Cond) ∈ ad_T := ad_in (List.mem_of_getElem? (i := 121) (by decide +kernel)) (by rfl)
theorem w_122 : (Cond.lays "java/util/NoSuchElementException" "java/lang/Throwable" "backtrace" "Ljava/lang/Object;" : Cond) ∈ ad_T := ad_in (List.mem_of_getElem? (i := 122) (by decide +kernel)) (by rfl)
theorem w_123 : (Cond.lays "java/lang/Throwable" "java/lang/Throwable" "backtrace" "Ljava/lang/Object;" : Cond) ∈ ad_T := ad_in (List.mem_of_getElem? (i := 123) (by decide +kernel)) (by rfl)
theorem w_124 : (Cond.fieldLink "java/lang/Throwable" 198 "java/lang/Throwable" "backtrace" "Ljava/lang/Object;" : Cond) ∈ ad_T := ad_in (List.mem_of_getElem? (i := 124) (by decide +kernel)) (by rfl)
theorem w_125 : (Cond.superclass "java/lang/Throwable" "java/lang/Object" : Cond) ∈ ad_T := ad_in (List.mem_of_getElem? (i := 125) (by decide +kernel)) (by rfl)
theorem w_126 : (Cond.instanceMethod ⟨"java/lang/Throwable", "<init>", "()V"⟩ : Cond) ∈ ad_T := ad_in (List.mem_of_getElem? (i := 126) (by decide +kernel)) (by rfl)
set_option maxRecDepth 100000 in
theorem w_127 : (Cond.code ⟨"java/lang/Throwable", "<init>", "()V"⟩ prog_18_method_1_code 1 (none : Option FieldType) : Cond) ∈ ad_T := ad_in (List.mem_of_getElem? (i := 127) rfl) (by rfl)
theorem w_128 : (Cond.methodLink "java/lang/Throwable" 1 ⟨"java/lang/Object", "<init>", "()V"⟩ : Cond) ∈ ad_T := ad_in (List.mem_of_getElem? (i := 128) (by decide +kernel)) (by rfl)
theorem w_129 : (Cond.fieldLink "java/lang/Throwable" 13 "java/lang/Throwable" "UNASSIGNED_STACK" "[Ljava/lang/StackTraceElement;" : Cond) ∈ ad_T := ad_in (List.mem_of_getElem? (i := 129) (by decide +kernel)) (by rfl)
theorem w_131 : (Cond.fieldLink "java/lang/Throwable" 20 "java/lang/Throwable" "SUPPRESSED_SENTINEL" "Ljava/util/List;" : Cond) ∈ ad_T := ad_in (List.mem_of_getElem? (i := 131) (by decide +kernel)) (by rfl)
theorem w_133 : (Cond.methodLink "java/lang/Throwable" 27 ⟨"java/lang/Throwable", "fillInStackTrace", "()Ljava/lang/Throwable;"⟩ : Cond) ∈ ad_T := ad_in (List.mem_of_getElem? (i := 133) (by decide +kernel)) (by rfl)
theorem w_134 : (Cond.instanceMethod ⟨"java/lang/Throwable", "fillInStackTrace", "()Ljava/lang/Throwable;"⟩ : Cond) ∈ ad_T := ad_in (List.mem_of_getElem? (i := 134) (by decide +kernel)) (by rfl)
theorem w_135 : (Cond.sameMethod "java/lang/Throwable" "java/lang/Throwable" "fillInStackTrace" "()Ljava/lang/Throwable;" : Cond) ∈ ad_T := ad_in (List.mem_of_getElem? (i := 135) (by decide +kernel)) (by rfl)
theorem w_136 : (Cond.selects "java/lang/IllegalArgumentException" ⟨"java/lang/Throwable", "fillInStackTrace", "()Ljava/lang/Throwable;"⟩ ⟨"java/lang/Throwable", "fillInStackTrace", "()Ljava/lang/Throwable;"⟩ : Cond) ∈ ad_T := ad_in (List.mem_of_getElem? (i := 136) (by decide +kernel)) (by rfl)
theorem w_137 : (Cond.selects "java/lang/IllegalStateException" ⟨"java/lang/Throwable", "fillInStackTrace", "()Ljava/lang/Throwable;"⟩ ⟨"java/lang/Throwable", "fillInStackTrace", "()Ljava/lang/Throwable;"⟩ : Cond) ∈ ad_T := ad_in (List.mem_of_getElem? (i := 137) (by decide +kernel)) (by rfl)
theorem w_138 : (Cond.codeSync ⟨"java/lang/Throwable", "fillInStackTrace", "()Ljava/lang/Throwable;"⟩ prog_18_method_18_code 1 (some (.object "java/lang/Throwable")) : Cond) ∈ ad_T := ad_in (List.mem_of_getElem? (i := 138) (by decide +kernel)) (by rfl)
theorem w_139 : (Cond.methodLink "java/lang/Throwable" 202 ⟨"java/lang/Throwable", "fillInStackTrace", "(I)Ljava/lang/Throwable;"⟩ : Cond) ∈ ad_T := ad_in (List.mem_of_getElem? (i := 139) (by decide +kernel)) (by rfl)
theorem w_140 : (Cond.privateMethod ⟨"java/lang/Throwable", "fillInStackTrace", "(I)Ljava/lang/Throwable;"⟩ : Cond) ∈ ad_T := ad_in (List.mem_of_getElem? (i := 140) (by decide +kernel)) (by rfl)
theorem w_141 : (Cond.instanceMethod ⟨"java/lang/Throwable", "fillInStackTrace", "(I)Ljava/lang/Throwable;"⟩ : Cond) ∈ ad_T := ad_in (List.mem_of_getElem? (i := 141) (by decide +kernel)) (by rfl)
theorem w_142 : (Cond.instantiable "java/lang/Throwable" 6 : Cond) ∈ ad_T := ad_in (List.mem_of_getElem? (i := 142) (by decide +kernel)) (by rfl)
theorem w_143 : (Cond.native ⟨"java/lang/Throwable", "fillInStackTrace", "(I)Ljava/lang/Throwable;"⟩ : Cond) ∈ ad_T := ad_in (List.mem_of_getElem? (i := 143) (by decide +kernel)) (by rfl)
theorem w_145 : (Cond.methodLink "AuditDraws" 192 ⟨"java/util/NoSuchElementException", "<init>", "(Ljava/lang/String;)V"⟩ : Cond) ∈ ad_T := ad_in (List.mem_of_getElem? (i := 145) (by decide +kernel)) (by rfl)
theorem w_146 : (Cond.instanceMethod ⟨"java/util/NoSuchElementException", "<init>", "(Ljava/lang/String;)V"⟩ : Cond) ∈ ad_T := ad_in (List.mem_of_getElem? (i := 146) (by decide +kernel)) (by rfl)
set_option maxRecDepth 100000 in
theorem w_147 : (Cond.code ⟨"java/util/NoSuchElementException", "<init>", "(Ljava/lang/String;)V"⟩ prog_25_method_4_code 2 (none : Option FieldType) : Cond) ∈ ad_T := ad_in (List.mem_of_getElem? (i := 147) rfl) (by rfl)
theorem w_148 : (Cond.methodLink "java/util/NoSuchElementException" 13 ⟨"java/lang/RuntimeException", "<init>", "(Ljava/lang/String;)V"⟩ : Cond) ∈ ad_T := ad_in (List.mem_of_getElem? (i := 148) (by decide +kernel)) (by rfl)
theorem w_149 : (Cond.instanceMethod ⟨"java/lang/RuntimeException", "<init>", "(Ljava/lang/String;)V"⟩ : Cond) ∈ ad_T := ad_in (List.mem_of_getElem? (i := 149) (by decide +kernel)) (by rfl)
set_option maxRecDepth 100000 in
theorem w_150 : (Cond.code ⟨"java/lang/RuntimeException", "<init>", "(Ljava/lang/String;)V"⟩ prog_15_method_2_code 2 (none : Option FieldType) : Cond) ∈ ad_T := ad_in (List.mem_of_getElem? (i := 150) rfl) (by rfl)
theorem w_151 : (Cond.methodLink "java/lang/RuntimeException" 7 ⟨"java/lang/Exception", "<init>", "(Ljava/lang/String;)V"⟩ : Cond) ∈ ad_T := ad_in (List.mem_of_getElem? (i := 151) (by decide +kernel)) (by rfl)
theorem w_152 : (Cond.instanceMethod ⟨"java/lang/Exception", "<init>", "(Ljava/lang/String;)V"⟩ : Cond) ∈ ad_T := ad_in (List.mem_of_getElem? (i := 152) (by decide +kernel)) (by rfl)
set_option maxRecDepth 100000 in
theorem w_153 : (Cond.code ⟨"java/lang/Exception", "<init>", "(Ljava/lang/String;)V"⟩ prog_10_method_2_code 2 (none : Option FieldType) : Cond) ∈ ad_T := ad_in (List.mem_of_getElem? (i := 153) rfl) (by rfl)
theorem w_154 : (Cond.methodLink "java/lang/Exception" 7 ⟨"java/lang/Throwable", "<init>", "(Ljava/lang/String;)V"⟩ : Cond) ∈ ad_T := ad_in (List.mem_of_getElem? (i := 154) (by decide +kernel)) (by rfl)
theorem w_155 : (Cond.instanceMethod ⟨"java/lang/Throwable", "<init>", "(Ljava/lang/String;)V"⟩ : Cond) ∈ ad_T := ad_in (List.mem_of_getElem? (i := 155) (by decide +kernel)) (by rfl)
set_option maxRecDepth 100000 in
theorem w_156 : (Cond.code ⟨"java/lang/Throwable", "<init>", "(Ljava/lang/String;)V"⟩ prog_18_method_2_code 2 (none : Option FieldType) : Cond) ∈ ad_T := ad_in (List.mem_of_getElem? (i := 156) rfl) (by rfl)
theorem w_157 : (Cond.fieldLink "java/lang/Throwable" 198 "java/lang/Throwable" "backtrace" "Ljava/lang/Object;" : Cond) ∈ ad_T := ad_in (List.mem_of_getElem? (i := 157) (by decide +kernel)) (by rfl)
theorem w_158 : (Cond.fieldLink "java/lang/Throwable" 31 "java/lang/Throwable" "detailMessage" "Ljava/lang/String;" : Cond) ∈ ad_T := ad_in (List.mem_of_getElem? (i := 158) (by decide +kernel)) (by rfl)
theorem w_159 : (Cond.fieldLink "java/lang/Throwable" 7 "java/lang/Throwable" "cause" "Ljava/lang/Throwable;" : Cond) ∈ ad_T := ad_in (List.mem_of_getElem? (i := 159) (by decide +kernel)) (by rfl)
theorem w_160 : (Cond.fieldLink "java/lang/Throwable" 17 "java/lang/Throwable" "stackTrace" "[Ljava/lang/StackTraceElement;" : Cond) ∈ ad_T := ad_in (List.mem_of_getElem? (i := 160) (by decide +kernel)) (by rfl)
theorem w_161 : (Cond.fieldLink "java/lang/Throwable" 24 "java/lang/Throwable" "suppressedExceptions" "Ljava/util/List;" : Cond) ∈ ad_T := ad_in (List.mem_of_getElem? (i := 161) (by decide +kernel)) (by rfl)
theorem w_166 : (Cond.lays "java/util/NoSuchElementException" "java/lang/Throwable" "depth" "I" : Cond) ∈ ad_T := ad_in (List.mem_of_getElem? (i := 166) (by decide +kernel)) (by rfl)
theorem w_169 : (Cond.superclass "java/util/NoSuchElementException" "java/lang/RuntimeException" : Cond) ∈ ad_T := ad_in (List.mem_of_getElem? (i := 169) (by decide +kernel)) (by rfl)
theorem w_170 : (Cond.arrayClass .byte : Cond) ∈ ad_T := ad_in (List.mem_of_getElem? (i := 170) (by decide +kernel)) (by rfl)
theorem w_171 : (Cond.methodLink "AuditDraws" 44 ⟨"java/util/ArrayList", "size", "()I"⟩ : Cond) ∈ ad_T := ad_in (List.mem_of_getElem? (i := 171) (by decide +kernel)) (by rfl)
theorem w_172 : (Cond.instanceMethod ⟨"java/util/ArrayList", "size", "()I"⟩ : Cond) ∈ ad_T := ad_in (List.mem_of_getElem? (i := 172) (by decide +kernel)) (by rfl)
theorem w_173 : (Cond.selects "java/util/ArrayList" ⟨"java/util/ArrayList", "size", "()I"⟩ ⟨"java/util/ArrayList", "size", "()I"⟩ : Cond) ∈ ad_T := ad_in (List.mem_of_getElem? (i := 173) (by decide +kernel)) (by rfl)
set_option maxRecDepth 100000 in
theorem w_174 : (Cond.code ⟨"java/util/ArrayList", "size", "()I"⟩ prog_21_method_8_code 1 (some .int) : Cond) ∈ ad_T := ad_in (List.mem_of_getElem? (i := 174) rfl) (by rfl)
theorem w_175 : (Cond.classLink "AuditDraws" 48 "java/lang/IllegalStateException" : Cond) ∈ ad_T := ad_in (List.mem_of_getElem? (i := 175) (by decide +kernel)) (by rfl)
theorem w_176 : (Cond.instantiable "java/lang/IllegalStateException" 6 : Cond) ∈ ad_T := ad_in (List.mem_of_getElem? (i := 176) (by decide +kernel)) (by rfl)
theorem w_177 : (Cond.castable "java/lang/IllegalStateException" "java/lang/IllegalStateException" : Cond) ∈ ad_T := ad_in (List.mem_of_getElem? (i := 177) (by decide +kernel)) (by rfl)
theorem w_178 : (Cond.selects "java/lang/IllegalStateException" ⟨"java/lang/Throwable", "fillInStackTrace", "(I)Ljava/lang/Throwable;"⟩ ⟨"java/lang/Throwable", "fillInStackTrace", "(I)Ljava/lang/Throwable;"⟩ : Cond) ∈ ad_T := ad_in (List.mem_of_getElem? (i := 178) (by decide +kernel)) (by rfl)
theorem w_179 : (Cond.lays "java/lang/IllegalStateException" "java/lang/Throwable" "cause" "Ljava/lang/Throwable;" : Cond) ∈ ad_T := ad_in (List.mem_of_getElem? (i := 179) (by decide +kernel)) (by rfl)
theorem w_180 : (Cond.lays "java/lang/IllegalStateException" "java/lang/Throwable" "stackTrace" "[Ljava/lang/StackTraceElement;" : Cond) ∈ ad_T := ad_in (List.mem_of_getElem? (i := 180) (by decide +kernel)) (by rfl)
theorem w_181 : (Cond.lays "java/lang/IllegalStateException" "java/lang/Throwable" "suppressedExceptions" "Ljava/util/List;" : Cond) ∈ ad_T := ad_in (List.mem_of_getElem? (i := 181) (by decide +kernel)) (by rfl)
theorem w_182 : (Cond.lays "java/lang/IllegalStateException" "java/lang/Throwable" "detailMessage" "Ljava/lang/String;" : Cond) ∈ ad_T := ad_in (List.mem_of_getElem? (i := 182) (by decide +kernel)) (by rfl)
theorem w_183 : (Cond.lays "java/lang/IllegalStateException" "java/lang/Throwable" "backtrace" "Ljava/lang/Object;" : Cond) ∈ ad_T := ad_in (List.mem_of_getElem? (i := 183) (by decide +kernel)) (by rfl)
theorem w_185 : (Cond.methodLink "AuditDraws" 52 ⟨"java/lang/IllegalStateException", "<init>", "(Ljava/lang/String;)V"⟩ : Cond) ∈ ad_T := ad_in (List.mem_of_getElem? (i := 185) (by decide +kernel)) (by rfl)
theorem w_186 : (Cond.instanceMethod ⟨"java/lang/IllegalStateException", "<init>", "(Ljava/lang/String;)V"⟩ : Cond) ∈ ad_T := ad_in (List.mem_of_getElem? (i := 186) (by decide +kernel)) (by rfl)
set_option maxRecDepth 100000 in
theorem w_187 : (Cond.code ⟨"java/lang/IllegalStateException", "<init>", "(Ljava/lang/String;)V"⟩ prog_12_method_2_code 2 (none : Option FieldType) : Cond) ∈ ad_T := ad_in (List.mem_of_getElem? (i := 187) rfl) (by rfl)
theorem w_188 : (Cond.methodLink "java/lang/IllegalStateException" 7 ⟨"java/lang/RuntimeException", "<init>", "(Ljava/lang/String;)V"⟩ : Cond) ∈ ad_T := ad_in (List.mem_of_getElem? (i := 188) (by decide +kernel)) (by rfl)
theorem w_189 : (Cond.lays "java/lang/IllegalStateException" "java/lang/Throwable" "depth" "I" : Cond) ∈ ad_T := ad_in (List.mem_of_getElem? (i := 189) (by decide +kernel)) (by rfl)
theorem w_190 : (Cond.superclass "java/lang/IllegalStateException" "java/lang/RuntimeException" : Cond) ∈ ad_T := ad_in (List.mem_of_getElem? (i := 190) (by decide +kernel)) (by rfl)
theorem w_191 : (Cond.classLink "AuditDraws" 55 "AuditDraws$Thing" : Cond) ∈ ad_T := ad_in (List.mem_of_getElem? (i := 191) (by decide +kernel)) (by rfl)
theorem w_192 : (Cond.instantiable "AuditDraws$Thing" 6 : Cond) ∈ ad_T := ad_in (List.mem_of_getElem? (i := 192) (by decide +kernel)) (by rfl)
theorem w_193 : (Cond.methodLink "AuditDraws" 57 ⟨"AuditDraws$Thing", "<init>", "(III)V"⟩ : Cond) ∈ ad_T := ad_in (List.mem_of_getElem? (i := 193) (by decide +kernel)) (by rfl)
theorem w_194 : (Cond.instanceMethod ⟨"AuditDraws$Thing", "<init>", "(III)V"⟩ : Cond) ∈ ad_T := ad_in (List.mem_of_getElem? (i := 194) (by decide +kernel)) (by rfl)
set_option maxRecDepth 100000 in
theorem w_195 : (Cond.code ⟨"AuditDraws$Thing", "<init>", "(III)V"⟩ prog_5_method_1_code 4 (none : Option FieldType) : Cond) ∈ ad_T := ad_in (List.mem_of_getElem? (i := 195) rfl) (by rfl)
theorem w_196 : (Cond.methodLink "AuditDraws$Thing" 3 ⟨"java/lang/Object", "<init>", "()V"⟩ : Cond) ∈ ad_T := ad_in (List.mem_of_getElem? (i := 196) (by decide +kernel)) (by rfl)
theorem w_197 : (Cond.classLink "AuditDraws$Thing" 9 "java/util/ArrayList" : Cond) ∈ ad_T := ad_in (List.mem_of_getElem? (i := 197) (by decide +kernel)) (by rfl)
theorem w_198 : (Cond.methodLink "AuditDraws$Thing" 11 ⟨"java/util/ArrayList", "<init>", "()V"⟩ : Cond) ∈ ad_T := ad_in (List.mem_of_getElem? (i := 198) (by decide +kernel)) (by rfl)
theorem w_199 : (Cond.fieldLink "AuditDraws$Thing" 25 "AuditDraws$Thing" "number" "I" : Cond) ∈ ad_T := ad_in (List.mem_of_getElem? (i := 199) (by decide +kernel)) (by rfl)
theorem w_200 : (Cond.fieldLink "AuditDraws" 86 "AuditDraws$Thing" "number" "I" : Cond) ∈ ad_T := ad_in (List.mem_of_getElem? (i := 200) (by decide +kernel)) (by rfl)
theorem w_201 : (Cond.fieldLink "AuditDraws$Thing" 28 "AuditDraws$Thing" "stratum" "I" : Cond) ∈ ad_T := ad_in (List.mem_of_getElem? (i := 201) (by decide +kernel)) (by rfl)
theorem w_202 : (Cond.fieldLink "AuditDraws" 178 "AuditDraws$Thing" "stratum" "I" : Cond) ∈ ad_T := ad_in (List.mem_of_getElem? (i := 202) (by decide +kernel)) (by rfl)
theorem w_203 : (Cond.fieldLink "AuditDraws$Thing" 12 "AuditDraws$Thing" "rows" "Ljava/util/ArrayList;" : Cond) ∈ ad_T := ad_in (List.mem_of_getElem? (i := 203) (by decide +kernel)) (by rfl)
theorem w_204 : (Cond.fieldLink "AuditDraws" 136 "AuditDraws$Thing" "rows" "Ljava/util/ArrayList;" : Cond) ∈ ad_T := ad_in (List.mem_of_getElem? (i := 204) (by decide +kernel)) (by rfl)
theorem w_205 : (Cond.fieldLink "AuditDraws$Thing" 31 "AuditDraws$Thing" "place" "I" : Cond) ∈ ad_T := ad_in (List.mem_of_getElem? (i := 205) (by decide +kernel)) (by rfl)
theorem w_206 : (Cond.fieldLink "AuditDraws" 98 "AuditDraws$Thing" "place" "I" : Cond) ∈ ad_T := ad_in (List.mem_of_getElem? (i := 206) (by decide +kernel)) (by rfl)
theorem w_207 : (Cond.fieldLink "AuditDraws$Thing" 18 "AuditDraws$Thing" "state" "I" : Cond) ∈ ad_T := ad_in (List.mem_of_getElem? (i := 207) (by decide +kernel)) (by rfl)
theorem w_208 : (Cond.fieldLink "AuditDraws" 101 "AuditDraws$Thing" "state" "I" : Cond) ∈ ad_T := ad_in (List.mem_of_getElem? (i := 208) (by decide +kernel)) (by rfl)
theorem w_209 : (Cond.fieldLink "AuditDraws$Thing" 22 "AuditDraws$Thing" "grams" "I" : Cond) ∈ ad_T := ad_in (List.mem_of_getElem? (i := 209) (by decide +kernel)) (by rfl)
theorem w_210 : (Cond.fieldLink "AuditDraws" 155 "AuditDraws$Thing" "grams" "I" : Cond) ∈ ad_T := ad_in (List.mem_of_getElem? (i := 210) (by decide +kernel)) (by rfl)
theorem w_211 : (Cond.laysFinal "AuditDraws$Thing" "AuditDraws$Thing" "number" "I" : Cond) ∈ ad_T := ad_in (List.mem_of_getElem? (i := 211) (by decide +kernel)) (by rfl)
theorem w_213 : (Cond.laysFinal "AuditDraws$Thing" "AuditDraws$Thing" "stratum" "I" : Cond) ∈ ad_T := ad_in (List.mem_of_getElem? (i := 213) (by decide +kernel)) (by rfl)
theorem w_215 : (Cond.laysFinal "AuditDraws$Thing" "AuditDraws$Thing" "rows" "Ljava/util/ArrayList;" : Cond) ∈ ad_T := ad_in (List.mem_of_getElem? (i := 215) (by decide +kernel)) (by rfl)
theorem w_217 : (Cond.lays "AuditDraws$Thing" "AuditDraws$Thing" "place" "I" : Cond) ∈ ad_T := ad_in (List.mem_of_getElem? (i := 217) (by decide +kernel)) (by rfl)
theorem w_219 : (Cond.lays "AuditDraws$Thing" "AuditDraws$Thing" "state" "I" : Cond) ∈ ad_T := ad_in (List.mem_of_getElem? (i := 219) (by decide +kernel)) (by rfl)
theorem w_221 : (Cond.lays "AuditDraws$Thing" "AuditDraws$Thing" "grams" "I" : Cond) ∈ ad_T := ad_in (List.mem_of_getElem? (i := 221) (by decide +kernel)) (by rfl)
theorem w_223 : (Cond.superclass "AuditDraws$Thing" "java/lang/Object" : Cond) ∈ ad_T := ad_in (List.mem_of_getElem? (i := 223) (by decide +kernel)) (by rfl)
theorem w_224 : (Cond.methodLink "AuditDraws" 60 ⟨"java/util/ArrayList", "add", "(Ljava/lang/Object;)Z"⟩ : Cond) ∈ ad_T := ad_in (List.mem_of_getElem? (i := 224) (by decide +kernel)) (by rfl)
theorem w_225 : (Cond.instanceMethod ⟨"java/util/ArrayList", "add", "(Ljava/lang/Object;)Z"⟩ : Cond) ∈ ad_T := ad_in (List.mem_of_getElem? (i := 225) (by decide +kernel)) (by rfl)
theorem w_226 : (Cond.selects "java/util/ArrayList" ⟨"java/util/ArrayList", "add", "(Ljava/lang/Object;)Z"⟩ ⟨"java/util/ArrayList", "add", "(Ljava/lang/Object;)Z"⟩ : Cond) ∈ ad_T := ad_in (List.mem_of_getElem? (i := 226) (by decide +kernel)) (by rfl)
set_option maxRecDepth 100000 in
theorem w_227 : (Cond.code ⟨"java/util/ArrayList", "add", "(Ljava/lang/Object;)Z"⟩ prog_21_method_25_code 2 (some .boolean) : Cond) ∈ ad_T := ad_in (List.mem_of_getElem? (i := 227) rfl) (by rfl)
theorem w_228 : (Cond.methodLink "java/util/ArrayList" 131 ⟨"java/util/ArrayList", "add", "(Ljava/lang/Object;[Ljava/lang/Object;I)V"⟩ : Cond) ∈ ad_T := ad_in (List.mem_of_getElem? (i := 228) (by decide +kernel)) (by rfl)
theorem w_229 : (Cond.privateMethod ⟨"java/util/ArrayList", "add", "(Ljava/lang/Object;[Ljava/lang/Object;I)V"⟩ : Cond) ∈ ad_T := ad_in (List.mem_of_getElem? (i := 229) (by decide +kernel)) (by rfl)
theorem w_230 : (Cond.instanceMethod ⟨"java/util/ArrayList", "add", "(Ljava/lang/Object;[Ljava/lang/Object;I)V"⟩ : Cond) ∈ ad_T := ad_in (List.mem_of_getElem? (i := 230) (by decide +kernel)) (by rfl)
set_option maxRecDepth 100000 in
theorem w_231 : (Cond.code ⟨"java/util/ArrayList", "add", "(Ljava/lang/Object;[Ljava/lang/Object;I)V"⟩ prog_21_method_24_code 4 (none : Option FieldType) : Cond) ∈ ad_T := ad_in (List.mem_of_getElem? (i := 231) rfl) (by rfl)
theorem w_232 : (Cond.methodLink "java/util/ArrayList" 129 ⟨"java/util/ArrayList", "grow", "()[Ljava/lang/Object;"⟩ : Cond) ∈ ad_T := ad_in (List.mem_of_getElem? (i := 232) (by decide +kernel)) (by rfl)
theorem w_233 : (Cond.privateMethod ⟨"java/util/ArrayList", "grow", "()[Ljava/lang/Object;"⟩ : Cond) ∈ ad_T := ad_in (List.mem_of_getElem? (i := 233) (by decide +kernel)) (by rfl)
theorem w_234 : (Cond.instanceMethod ⟨"java/util/ArrayList", "grow", "()[Ljava/lang/Object;"⟩ : Cond) ∈ ad_T := ad_in (List.mem_of_getElem? (i := 234) (by decide +kernel)) (by rfl)
set_option maxRecDepth 100000 in
theorem w_235 : (Cond.code ⟨"java/util/ArrayList", "grow", "()[Ljava/lang/Object;"⟩ prog_21_method_7_code 1 (some (.array (.object "java/lang/Object"))) : Cond) ∈ ad_T := ad_in (List.mem_of_getElem? (i := 235) rfl) (by rfl)
theorem w_236 : (Cond.methodLink "java/util/ArrayList" 69 ⟨"java/util/ArrayList", "grow", "(I)[Ljava/lang/Object;"⟩ : Cond) ∈ ad_T := ad_in (List.mem_of_getElem? (i := 236) (by decide +kernel)) (by rfl)
theorem w_237 : (Cond.privateMethod ⟨"java/util/ArrayList", "grow", "(I)[Ljava/lang/Object;"⟩ : Cond) ∈ ad_T := ad_in (List.mem_of_getElem? (i := 237) (by decide +kernel)) (by rfl)
theorem w_238 : (Cond.instanceMethod ⟨"java/util/ArrayList", "grow", "(I)[Ljava/lang/Object;"⟩ : Cond) ∈ ad_T := ad_in (List.mem_of_getElem? (i := 238) (by decide +kernel)) (by rfl)
set_option maxRecDepth 100000 in
theorem w_239 : (Cond.code ⟨"java/util/ArrayList", "grow", "(I)[Ljava/lang/Object;"⟩ prog_21_method_6_code 4 (some (.array (.object "java/lang/Object"))) : Cond) ∈ ad_T := ad_in (List.mem_of_getElem? (i := 239) rfl) (by rfl)
theorem w_240 : (Cond.methodLink "java/util/ArrayList" 73 ⟨"jdk/internal/util/ArraysSupport", "newLength", "(III)I"⟩ : Cond) ∈ ad_T := ad_in (List.mem_of_getElem? (i := 240) (by decide +kernel)) (by rfl)
theorem w_241 : (Cond.static ⟨"jdk/internal/util/ArraysSupport", "newLength", "(III)I"⟩ : Cond) ∈ ad_T := ad_in (List.mem_of_getElem? (i := 241) (by decide +kernel)) (by rfl)
set_option maxRecDepth 100000 in
theorem w_242 : (Cond.code ⟨"jdk/internal/util/ArraysSupport", "newLength", "(III)I"⟩ prog_29_method_27_code 4 (some .int) : Cond) ∈ ad_T := ad_in (List.mem_of_getElem? (i := 242) rfl) (by rfl)
theorem w_243 : (Cond.methodLink "jdk/internal/util/ArraysSupport" 194 ⟨"java/lang/Math", "max", "(II)I"⟩ : Cond) ∈ ad_T := ad_in (List.mem_of_getElem? (i := 243) (by decide +kernel)) (by rfl)
theorem w_244 : (Cond.static ⟨"java/lang/Math", "max", "(II)I"⟩ : Cond) ∈ ad_T := ad_in (List.mem_of_getElem? (i := 244) (by decide +kernel)) (by rfl)
set_option maxRecDepth 100000 in
theorem w_245 : (Cond.code ⟨"java/lang/Math", "max", "(II)I"⟩ prog_14_method_65_code 2 (some .int) : Cond) ∈ ad_T := ad_in (List.mem_of_getElem? (i := 245) rfl) (by rfl)
theorem w_246 : (Cond.constant "jdk/internal/util/ArraysSupport" 200 2147483639 : Cond) ∈ ad_T := ad_in (List.mem_of_getElem? (i := 246) (by decide +kernel)) (by rfl)
theorem w_247 : (Cond.methodLink "jdk/internal/util/ArraysSupport" 201 ⟨"jdk/internal/util/ArraysSupport", "hugeLength", "(II)I"⟩ : Cond) ∈ ad_T := ad_in (List.mem_of_getElem? (i := 247) (by decide +kernel)) (by rfl)
theorem w_248 : (Cond.static ⟨"jdk/internal/util/ArraysSupport", "hugeLength", "(II)I"⟩ : Cond) ∈ ad_T := ad_in (List.mem_of_getElem? (i := 248) (by decide +kernel)) (by rfl)
set_option maxRecDepth 100000 in
theorem w_249 : (Cond.code ⟨"jdk/internal/util/ArraysSupport", "hugeLength", "(II)I"⟩ prog_29_method_28_code 3 (some .int) : Cond) ∈ ad_T := ad_in (List.mem_of_getElem? (i := 249) rfl) (by rfl)
theorem w_250 : (Cond.methodLink "java/util/ArrayList" 66 ⟨"java/util/Arrays", "copyOf", "([Ljava/lang/Object;I)[Ljava/lang/Object;"⟩ : Cond) ∈ ad_T := ad_in (List.mem_of_getElem? (i := 250) (by decide +kernel)) (by rfl)
theorem w_251 : (Cond.static ⟨"java/util/Arrays", "copyOf", "([Ljava/lang/Object;I)[Ljava/lang/Object;"⟩ : Cond) ∈ ad_T := ad_in (List.mem_of_getElem? (i := 251) (by decide +kernel)) (by rfl)
set_option maxRecDepth 100000 in
theorem w_252 : (Cond.code ⟨"java/util/Arrays", "copyOf", "([Ljava/lang/Object;I)[Ljava/lang/Object;"⟩ prog_22_method_119_code 2 (some (.array (.object "java/lang/Object"))) : Cond) ∈ ad_T := ad_in (List.mem_of_getElem? (i := 252) rfl) (by rfl)
theorem w_253 : (Cond.methodLink "java/util/Arrays" 86 ⟨"java/lang/Object", "getClass", "()Ljava/lang/Class;"⟩ : Cond) ∈ ad_T := ad_in (List.mem_of_getElem? (i := 253) (by decide +kernel)) (by rfl)
theorem w_254 : (Cond.instanceMethod ⟨"java/lang/Object", "getClass", "()Ljava/lang/Class;"⟩ : Cond) ∈ ad_T := ad_in (List.mem_of_getElem? (i := 254) (by decide +kernel)) (by rfl)
theorem w_255 : (Cond.sameMethod "java/lang/Object" "java/lang/Object" "getClass" "()Ljava/lang/Class;" : Cond) ∈ ad_T := ad_in (List.mem_of_getElem? (i := 255) (by decide +kernel)) (by rfl)
theorem w_256 : (Cond.selects "AuditDraws" ⟨"java/lang/Object", "getClass", "()Ljava/lang/Class;"⟩ ⟨"java/lang/Object", "getClass", "()Ljava/lang/Class;"⟩ : Cond) ∈ ad_T := ad_in (List.mem_of_getElem? (i := 256) (by decide +kernel)) (by rfl)
theorem w_257 : (Cond.selects "AuditDraws$Draw" ⟨"java/lang/Object", "getClass", "()Ljava/lang/Class;"⟩ ⟨"java/lang/Object", "getClass", "()Ljava/lang/Class;"⟩ : Cond) ∈ ad_T := ad_in (List.mem_of_getElem? (i := 257) (by decide +kernel)) (by rfl)
theorem w_258 : (Cond.selects "AuditDraws$Sighting" ⟨"java/lang/Object", "getClass", "()Ljava/lang/Class;"⟩ ⟨"java/lang/Object", "getClass", "()Ljava/lang/Class;"⟩ : Cond) ∈ ad_T := ad_in (List.mem_of_getElem? (i := 258) (by decide +kernel)) (by rfl)
theorem w_259 : (Cond.selects "AuditDraws$Thing" ⟨"java/lang/Object", "getClass", "()Ljava/lang/Class;"⟩ ⟨"java/lang/Object", "getClass", "()Ljava/lang/Class;"⟩ : Cond) ∈ ad_T := ad_in (List.mem_of_getElem? (i := 259) (by decide +kernel)) (by rfl)
theorem w_260 : (Cond.selects "AuditDrawsModel" ⟨"java/lang/Object", "getClass", "()Ljava/lang/Class;"⟩ ⟨"java/lang/Object", "getClass", "()Ljava/lang/Class;"⟩ : Cond) ∈ ad_T := ad_in (List.mem_of_getElem? (i := 260) (by decide +kernel)) (by rfl)
theorem w_261 : (Cond.selects "java/lang/IllegalArgumentException" ⟨"java/lang/Object", "getClass", "()Ljava/lang/Class;"⟩ ⟨"java/lang/Object", "getClass", "()Ljava/lang/Class;"⟩ : Cond) ∈ ad_T := ad_in (List.mem_of_getElem? (i := 261) (by decide +kernel)) (by rfl)
theorem w_262 : (Cond.selects "java/lang/IllegalStateException" ⟨"java/lang/Object", "getClass", "()Ljava/lang/Class;"⟩ ⟨"java/lang/Object", "getClass", "()Ljava/lang/Class;"⟩ : Cond) ∈ ad_T := ad_in (List.mem_of_getElem? (i := 262) (by decide +kernel)) (by rfl)
theorem w_263 : (Cond.selects "java/util/ArrayList" ⟨"java/lang/Object", "getClass", "()Ljava/lang/Class;"⟩ ⟨"java/lang/Object", "getClass", "()Ljava/lang/Class;"⟩ : Cond) ∈ ad_T := ad_in (List.mem_of_getElem? (i := 263) (by decide +kernel)) (by rfl)
theorem w_264 : (Cond.selects "java/util/NoSuchElementException" ⟨"java/lang/Object", "getClass", "()Ljava/lang/Class;"⟩ ⟨"java/lang/Object", "getClass", "()Ljava/lang/Class;"⟩ : Cond) ∈ ad_T := ad_in (List.mem_of_getElem? (i := 264) (by decide +kernel)) (by rfl)
theorem w_265 : (Cond.native ⟨"java/lang/Object", "getClass", "()Ljava/lang/Class;"⟩ : Cond) ∈ ad_T := ad_in (List.mem_of_getElem? (i := 265) (by decide +kernel)) (by rfl)
theorem w_266 : (Cond.methodLink "java/util/Arrays" 300 ⟨"java/util/Arrays", "copyOf", "([Ljava/lang/Object;ILjava/lang/Class;)[Ljava/lang/Object;"⟩ : Cond) ∈ ad_T := ad_in (List.mem_of_getElem? (i := 266) (by decide +kernel)) (by rfl)
theorem w_267 : (Cond.static ⟨"java/util/Arrays", "copyOf", "([Ljava/lang/Object;ILjava/lang/Class;)[Ljava/lang/Object;"⟩ : Cond) ∈ ad_T := ad_in (List.mem_of_getElem? (i := 267) (by decide +kernel)) (by rfl)
set_option maxRecDepth 100000 in
theorem w_268 : (Cond.code ⟨"java/util/Arrays", "copyOf", "([Ljava/lang/Object;ILjava/lang/Class;)[Ljava/lang/Object;"⟩ prog_22_method_120_code 4 (some (.array (.object "java/lang/Object"))) : Cond) ∈ ad_T := ad_in (List.mem_of_getElem? (i := 268) rfl) (by rfl)
theorem w_269 : (Cond.classLink "java/util/Arrays" 110 "[Ljava/lang/Object;" : Cond) ∈ ad_T := ad_in (List.mem_of_getElem? (i := 269) (by decide +kernel)) (by rfl)
theorem w_270 : (Cond.arrayOver (.object "java/lang/Object") : Cond) ∈ ad_T := ad_in (List.mem_of_getElem? (i := 270) (by decide +kernel)) (by rfl)
theorem w_271 : (Cond.classLink "java/util/Arrays" 2 "java/lang/Object" : Cond) ∈ ad_T := ad_in (List.mem_of_getElem? (i := 271) (by decide +kernel)) (by rfl)
theorem w_272 : (Cond.methodLink "java/util/Arrays" 304 ⟨"java/lang/Math", "min", "(II)I"⟩ : Cond) ∈ ad_T := ad_in (List.mem_of_getElem? (i := 272) (by decide +kernel)) (by rfl)
theorem w_273 : (Cond.static ⟨"java/lang/Math", "min", "(II)I"⟩ : Cond) ∈ ad_T := ad_in (List.mem_of_getElem? (i := 273) (by decide +kernel)) (by rfl)
set_option maxRecDepth 100000 in
theorem w_274 : (Cond.code ⟨"java/lang/Math", "min", "(II)I"⟩ prog_14_method_69_code 2 (some .int) : Cond) ∈ ad_T := ad_in (List.mem_of_getElem? (i := 274) rfl) (by rfl)
theorem w_275 : (Cond.methodLink "java/util/Arrays" 150 ⟨"java/lang/System", "arraycopy", "(Ljava/lang/Object;ILjava/lang/Object;II)V"⟩ : Cond) ∈ ad_T := ad_in (List.mem_of_getElem? (i := 275) (by decide +kernel)) (by rfl)
theorem w_276 : (Cond.static ⟨"java/lang/System", "arraycopy", "(Ljava/lang/Object;ILjava/lang/Object;II)V"⟩ : Cond) ∈ ad_T := ad_in (List.mem_of_getElem? (i := 276) (by decide +kernel)) (by rfl)
theorem w_277 : (Cond.native ⟨"java/lang/System", "arraycopy", "(Ljava/lang/Object;ILjava/lang/Object;II)V"⟩ : Cond) ∈ ad_T := ad_in (List.mem_of_getElem? (i := 277) (by decide +kernel)) (by rfl)
theorem w_278 : (Cond.methodLink "java/util/ArrayList" 79 ⟨"java/lang/Math", "max", "(II)I"⟩ : Cond) ∈ ad_T := ad_in (List.mem_of_getElem? (i := 278) (by decide +kernel)) (by rfl)
theorem w_279 : (Cond.classLink "java/util/ArrayList" 7 "java/lang/Object" : Cond) ∈ ad_T := ad_in (List.mem_of_getElem? (i := 279) (by decide +kernel)) (by rfl)
theorem w_280 : (Cond.methodLink "AuditDrawsLaw" 87 ⟨"AuditDrawsLaw", "list", "(LAuditDraws;I[J)I"⟩ : Cond) ∈ ad_T := ad_in (List.mem_of_getElem? (i := 280) (by decide +kernel)) (by rfl)
theorem w_281 : (Cond.static ⟨"AuditDrawsLaw", "list", "(LAuditDraws;I[J)I"⟩ : Cond) ∈ ad_T := ad_in (List.mem_of_getElem? (i := 281) (by decide +kernel)) (by rfl)
set_option maxRecDepth 100000 in
theorem w_282 : (Cond.codeWith ⟨"AuditDrawsLaw", "list", "(LAuditDraws;I[J)I"⟩ method_4_code 4 (some .int) [(0, 9, 12, 21)] : Cond) ∈ ad_T := ad_in (List.mem_of_getElem? (i := 282) rfl) (by rfl)
theorem w_283 : (Cond.classLink "AuditDrawsLaw" 21 "java/lang/IllegalArgumentException" : Cond) ∈ ad_T := ad_in (List.mem_of_getElem? (i := 283) (by decide +kernel)) (by rfl)
theorem w_284 : (Cond.methodLink "AuditDrawsLaw" 17 ⟨"AuditDraws", "list", "(I)I"⟩ : Cond) ∈ ad_T := ad_in (List.mem_of_getElem? (i := 284) (by decide +kernel)) (by rfl)
theorem w_285 : (Cond.instanceMethod ⟨"AuditDraws", "list", "(I)I"⟩ : Cond) ∈ ad_T := ad_in (List.mem_of_getElem? (i := 285) (by decide +kernel)) (by rfl)
theorem w_286 : (Cond.selects "AuditDraws" ⟨"AuditDraws", "list", "(I)I"⟩ ⟨"AuditDraws", "list", "(I)I"⟩ : Cond) ∈ ad_T := ad_in (List.mem_of_getElem? (i := 286) (by decide +kernel)) (by rfl)
set_option maxRecDepth 100000 in
theorem w_287 : (Cond.code ⟨"AuditDraws", "list", "(I)I"⟩ prog_1_method_4_code 3 (some .int) : Cond) ∈ ad_T := ad_in (List.mem_of_getElem? (i := 287) rfl) (by rfl)
theorem w_288 : (Cond.classLink "AuditDraws" 64 "java/lang/IllegalArgumentException" : Cond) ∈ ad_T := ad_in (List.mem_of_getElem? (i := 288) (by decide +kernel)) (by rfl)
theorem w_289 : (Cond.instantiable "java/lang/IllegalArgumentException" 6 : Cond) ∈ ad_T := ad_in (List.mem_of_getElem? (i := 289) (by decide +kernel)) (by rfl)
theorem w_290 : (Cond.castable "java/lang/IllegalArgumentException" "java/lang/IllegalArgumentException" : Cond) ∈ ad_T := ad_in (List.mem_of_getElem? (i := 290) (by decide +kernel)) (by rfl)
theorem w_291 : (Cond.selects "java/lang/IllegalArgumentException" ⟨"java/lang/Throwable", "fillInStackTrace", "(I)Ljava/lang/Throwable;"⟩ ⟨"java/lang/Throwable", "fillInStackTrace", "(I)Ljava/lang/Throwable;"⟩ : Cond) ∈ ad_T := ad_in (List.mem_of_getElem? (i := 291) (by decide +kernel)) (by rfl)
theorem w_292 : (Cond.lays "java/lang/IllegalArgumentException" "java/lang/Throwable" "cause" "Ljava/lang/Throwable;" : Cond) ∈ ad_T := ad_in (List.mem_of_getElem? (i := 292) (by decide +kernel)) (by rfl)
theorem w_293 : (Cond.lays "java/lang/IllegalArgumentException" "java/lang/Throwable" "stackTrace" "[Ljava/lang/StackTraceElement;" : Cond) ∈ ad_T := ad_in (List.mem_of_getElem? (i := 293) (by decide +kernel)) (by rfl)
theorem w_294 : (Cond.lays "java/lang/IllegalArgumentException" "java/lang/Throwable" "suppressedExceptions" "Ljava/util/List;" : Cond) ∈ ad_T := ad_in (List.mem_of_getElem? (i := 294) (by decide +kernel)) (by rfl)
theorem w_295 : (Cond.lays "java/lang/IllegalArgumentException" "java/lang/Throwable" "detailMessage" "Ljava/lang/String;" : Cond) ∈ ad_T := ad_in (List.mem_of_getElem? (i := 295) (by decide +kernel)) (by rfl)
theorem w_296 : (Cond.lays "java/lang/IllegalArgumentException" "java/lang/Throwable" "backtrace" "Ljava/lang/Object;" : Cond) ∈ ad_T := ad_in (List.mem_of_getElem? (i := 296) (by decide +kernel)) (by rfl)
theorem w_298 : (Cond.methodLink "AuditDraws" 68 ⟨"java/lang/IllegalArgumentException", "<init>", "(Ljava/lang/String;)V"⟩ : Cond) ∈ ad_T := ad_in (List.mem_of_getElem? (i := 298) (by decide +kernel)) (by rfl)
theorem w_299 : (Cond.instanceMethod ⟨"java/lang/IllegalArgumentException", "<init>", "(Ljava/lang/String;)V"⟩ : Cond) ∈ ad_T := ad_in (List.mem_of_getElem? (i := 299) (by decide +kernel)) (by rfl)
set_option maxRecDepth 100000 in
theorem w_300 : (Cond.code ⟨"java/lang/IllegalArgumentException", "<init>", "(Ljava/lang/String;)V"⟩ prog_11_method_2_code 2 (none : Option FieldType) : Cond) ∈ ad_T := ad_in (List.mem_of_getElem? (i := 300) rfl) (by rfl)
theorem w_301 : (Cond.methodLink "java/lang/IllegalArgumentException" 7 ⟨"java/lang/RuntimeException", "<init>", "(Ljava/lang/String;)V"⟩ : Cond) ∈ ad_T := ad_in (List.mem_of_getElem? (i := 301) (by decide +kernel)) (by rfl)
theorem w_302 : (Cond.lays "java/lang/IllegalArgumentException" "java/lang/Throwable" "depth" "I" : Cond) ∈ ad_T := ad_in (List.mem_of_getElem? (i := 302) (by decide +kernel)) (by rfl)
theorem w_303 : (Cond.superclass "java/lang/IllegalArgumentException" "java/lang/RuntimeException" : Cond) ∈ ad_T := ad_in (List.mem_of_getElem? (i := 303) (by decide +kernel)) (by rfl)
theorem w_304 : (Cond.methodLink "AuditDraws" 69 ⟨"AuditDraws", "forgetLatest", "()V"⟩ : Cond) ∈ ad_T := ad_in (List.mem_of_getElem? (i := 304) (by decide +kernel)) (by rfl)
theorem w_305 : (Cond.privateMethod ⟨"AuditDraws", "forgetLatest", "()V"⟩ : Cond) ∈ ad_T := ad_in (List.mem_of_getElem? (i := 305) (by decide +kernel)) (by rfl)
theorem w_306 : (Cond.instanceMethod ⟨"AuditDraws", "forgetLatest", "()V"⟩ : Cond) ∈ ad_T := ad_in (List.mem_of_getElem? (i := 306) (by decide +kernel)) (by rfl)
set_option maxRecDepth 100000 in
theorem w_307 : (Cond.code ⟨"AuditDraws", "forgetLatest", "()V"⟩ prog_1_method_18_code 2 (none : Option FieldType) : Cond) ∈ ad_T := ad_in (List.mem_of_getElem? (i := 307) rfl) (by rfl)
theorem w_308 : (Cond.methodLink "AuditDraws" 82 ⟨"java/util/ArrayList", "get", "(I)Ljava/lang/Object;"⟩ : Cond) ∈ ad_T := ad_in (List.mem_of_getElem? (i := 308) (by decide +kernel)) (by rfl)
theorem w_309 : (Cond.instanceMethod ⟨"java/util/ArrayList", "get", "(I)Ljava/lang/Object;"⟩ : Cond) ∈ ad_T := ad_in (List.mem_of_getElem? (i := 309) (by decide +kernel)) (by rfl)
theorem w_310 : (Cond.selects "java/util/ArrayList" ⟨"java/util/ArrayList", "get", "(I)Ljava/lang/Object;"⟩ ⟨"java/util/ArrayList", "get", "(I)Ljava/lang/Object;"⟩ : Cond) ∈ ad_T := ad_in (List.mem_of_getElem? (i := 310) (by decide +kernel)) (by rfl)
set_option maxRecDepth 100000 in
theorem w_311 : (Cond.code ⟨"java/util/ArrayList", "get", "(I)Ljava/lang/Object;"⟩ prog_21_method_20_code 2 (some (.object "java/lang/Object")) : Cond) ∈ ad_T := ad_in (List.mem_of_getElem? (i := 311) rfl) (by rfl)
theorem w_312 : (Cond.methodLink "java/util/ArrayList" 118 ⟨"java/util/Objects", "checkIndex", "(II)I"⟩ : Cond) ∈ ad_T := ad_in (List.mem_of_getElem? (i := 312) (by decide +kernel)) (by rfl)
theorem w_313 : (Cond.static ⟨"java/util/Objects", "checkIndex", "(II)I"⟩ : Cond) ∈ ad_T := ad_in (List.mem_of_getElem? (i := 313) (by decide +kernel)) (by rfl)
set_option maxRecDepth 100000 in
theorem w_314 : (Cond.code ⟨"java/util/Objects", "checkIndex", "(II)I"⟩ prog_26_method_17_code 2 (some .int) : Cond) ∈ ad_T := ad_in (List.mem_of_getElem? (i := 314) rfl) (by rfl)
theorem w_315 : (Cond.methodLink "java/util/Objects" 105 ⟨"jdk/internal/util/Preconditions", "checkIndex", "(IILjava/util/function/BiFunction;)I"⟩ : Cond) ∈ ad_T := ad_in (List.mem_of_getElem? (i := 315) (by decide +kernel)) (by rfl)
theorem w_316 : (Cond.static ⟨"jdk/internal/util/Preconditions", "checkIndex", "(IILjava/util/function/BiFunction;)I"⟩ : Cond) ∈ ad_T := ad_in (List.mem_of_getElem? (i := 316) (by decide +kernel)) (by rfl)
set_option maxRecDepth 100000 in
theorem w_317 : (Cond.code ⟨"jdk/internal/util/Preconditions", "checkIndex", "(IILjava/util/function/BiFunction;)I"⟩ prog_30_method_11_code 3 (some .int) : Cond) ∈ ad_T := ad_in (List.mem_of_getElem? (i := 317) rfl) (by rfl)
theorem w_318 : (Cond.methodLink "java/util/ArrayList" 123 ⟨"java/util/ArrayList", "elementData", "(I)Ljava/lang/Object;"⟩ : Cond) ∈ ad_T := ad_in (List.mem_of_getElem? (i := 318) (by decide +kernel)) (by rfl)
theorem w_319 : (Cond.instanceMethod ⟨"java/util/ArrayList", "elementData", "(I)Ljava/lang/Object;"⟩ : Cond) ∈ ad_T := ad_in (List.mem_of_getElem? (i := 319) (by decide +kernel)) (by rfl)
theorem w_320 : (Cond.selects "java/util/ArrayList" ⟨"java/util/ArrayList", "elementData", "(I)Ljava/lang/Object;"⟩ ⟨"java/util/ArrayList", "elementData", "(I)Ljava/lang/Object;"⟩ : Cond) ∈ ad_T := ad_in (List.mem_of_getElem? (i := 320) (by decide +kernel)) (by rfl)
set_option maxRecDepth 100000 in
theorem w_321 : (Cond.code ⟨"java/util/ArrayList", "elementData", "(I)Ljava/lang/Object;"⟩ prog_21_method_18_code 2 (some (.object "java/lang/Object")) : Cond) ∈ ad_T := ad_in (List.mem_of_getElem? (i := 321) rfl) (by rfl)
theorem w_322 : (Cond.methodLink "AuditDraws" 166 ⟨"java/util/ArrayList", "clear", "()V"⟩ : Cond) ∈ ad_T := ad_in (List.mem_of_getElem? (i := 322) (by decide +kernel)) (by rfl)
theorem w_323 : (Cond.instanceMethod ⟨"java/util/ArrayList", "clear", "()V"⟩ : Cond) ∈ ad_T := ad_in (List.mem_of_getElem? (i := 323) (by decide +kernel)) (by rfl)
theorem w_324 : (Cond.selects "java/util/ArrayList" ⟨"java/util/ArrayList", "clear", "()V"⟩ ⟨"java/util/ArrayList", "clear", "()V"⟩ : Cond) ∈ ad_T := ad_in (List.mem_of_getElem? (i := 324) (by decide +kernel)) (by rfl)
set_option maxRecDepth 100000 in
theorem w_325 : (Cond.code ⟨"java/util/ArrayList", "clear", "()V"⟩ prog_21_method_40_code 4 (none : Option FieldType) : Cond) ∈ ad_T := ad_in (List.mem_of_getElem? (i := 325) rfl) (by rfl)
theorem w_326 : (Cond.methodLink "AuditDraws" 72 ⟨"AuditDraws", "shareOut", "(I)V"⟩ : Cond) ∈ ad_T := ad_in (List.mem_of_getElem? (i := 326) (by decide +kernel)) (by rfl)
theorem w_327 : (Cond.privateMethod ⟨"AuditDraws", "shareOut", "(I)V"⟩ : Cond) ∈ ad_T := ad_in (List.mem_of_getElem? (i := 327) (by decide +kernel)) (by rfl)
theorem w_328 : (Cond.instanceMethod ⟨"AuditDraws", "shareOut", "(I)V"⟩ : Cond) ∈ ad_T := ad_in (List.mem_of_getElem? (i := 328) (by decide +kernel)) (by rfl)
set_option maxRecDepth 100000 in
theorem w_329 : (Cond.code ⟨"AuditDraws", "shareOut", "(I)V"⟩ prog_1_method_19_code 4 (none : Option FieldType) : Cond) ∈ ad_T := ad_in (List.mem_of_getElem? (i := 329) rfl) (by rfl)
theorem w_330 : (Cond.methodLink "AuditDraws" 169 ⟨"AuditDraws", "giveRoundedDown", "(II)V"⟩ : Cond) ∈ ad_T := ad_in (List.mem_of_getElem? (i := 330) (by decide +kernel)) (by rfl)
theorem w_331 : (Cond.privateMethod ⟨"AuditDraws", "giveRoundedDown", "(II)V"⟩ : Cond) ∈ ad_T := ad_in (List.mem_of_getElem? (i := 331) (by decide +kernel)) (by rfl)
theorem w_332 : (Cond.instanceMethod ⟨"AuditDraws", "giveRoundedDown", "(II)V"⟩ : Cond) ∈ ad_T := ad_in (List.mem_of_getElem? (i := 332) (by decide +kernel)) (by rfl)
set_option maxRecDepth 100000 in
theorem w_333 : (Cond.code ⟨"AuditDraws", "giveRoundedDown", "(II)V"⟩ prog_1_method_20_code 5 (none : Option FieldType) : Cond) ∈ ad_T := ad_in (List.mem_of_getElem? (i := 333) rfl) (by rfl)
theorem w_334 : (Cond.methodLink "AuditDraws" 175 ⟨"AuditDraws", "countThings", "(I)I"⟩ : Cond) ∈ ad_T := ad_in (List.mem_of_getElem? (i := 334) (by decide +kernel)) (by rfl)
theorem w_335 : (Cond.privateMethod ⟨"AuditDraws", "countThings", "(I)I"⟩ : Cond) ∈ ad_T := ad_in (List.mem_of_getElem? (i := 335) (by decide +kernel)) (by rfl)
theorem w_336 : (Cond.instanceMethod ⟨"AuditDraws", "countThings", "(I)I"⟩ : Cond) ∈ ad_T := ad_in (List.mem_of_getElem? (i := 336) (by decide +kernel)) (by rfl)
set_option maxRecDepth 100000 in
theorem w_337 : (Cond.code ⟨"AuditDraws", "countThings", "(I)I"⟩ prog_1_method_24_code 4 (some .int) : Cond) ∈ ad_T := ad_in (List.mem_of_getElem? (i := 337) rfl) (by rfl)
theorem w_338 : (Cond.methodLink "AuditDraws" 172 ⟨"AuditDraws", "giveOneByGreatestRest", "()V"⟩ : Cond) ∈ ad_T := ad_in (List.mem_of_getElem? (i := 338) (by decide +kernel)) (by rfl)
theorem w_339 : (Cond.privateMethod ⟨"AuditDraws", "giveOneByGreatestRest", "()V"⟩ : Cond) ∈ ad_T := ad_in (List.mem_of_getElem? (i := 339) (by decide +kernel)) (by rfl)
theorem w_340 : (Cond.instanceMethod ⟨"AuditDraws", "giveOneByGreatestRest", "()V"⟩ : Cond) ∈ ad_T := ad_in (List.mem_of_getElem? (i := 340) (by decide +kernel)) (by rfl)
set_option maxRecDepth 100000 in
theorem w_341 : (Cond.code ⟨"AuditDraws", "giveOneByGreatestRest", "()V"⟩ prog_1_method_21_code 3 (none : Option FieldType) : Cond) ∈ ad_T := ad_in (List.mem_of_getElem? (i := 341) rfl) (by rfl)
theorem w_342 : (Cond.methodLink "AuditDraws" 76 ⟨"AuditDraws", "layRow", "(I)V"⟩ : Cond) ∈ ad_T := ad_in (List.mem_of_getElem? (i := 342) (by decide +kernel)) (by rfl)
theorem w_343 : (Cond.privateMethod ⟨"AuditDraws", "layRow", "(I)V"⟩ : Cond) ∈ ad_T := ad_in (List.mem_of_getElem? (i := 343) (by decide +kernel)) (by rfl)
theorem w_344 : (Cond.instanceMethod ⟨"AuditDraws", "layRow", "(I)V"⟩ : Cond) ∈ ad_T := ad_in (List.mem_of_getElem? (i := 344) (by decide +kernel)) (by rfl)
set_option maxRecDepth 100000 in
theorem w_345 : (Cond.code ⟨"AuditDraws", "layRow", "(I)V"⟩ prog_1_method_22_code 4 (none : Option FieldType) : Cond) ∈ ad_T := ad_in (List.mem_of_getElem? (i := 345) rfl) (by rfl)
theorem w_346 : (Cond.methodLink "AuditDraws" 79 ⟨"AuditDraws", "takeFromRow", "(I)V"⟩ : Cond) ∈ ad_T := ad_in (List.mem_of_getElem? (i := 346) (by decide +kernel)) (by rfl)
theorem w_347 : (Cond.privateMethod ⟨"AuditDraws", "takeFromRow", "(I)V"⟩ : Cond) ∈ ad_T := ad_in (List.mem_of_getElem? (i := 347) (by decide +kernel)) (by rfl)
theorem w_348 : (Cond.instanceMethod ⟨"AuditDraws", "takeFromRow", "(I)V"⟩ : Cond) ∈ ad_T := ad_in (List.mem_of_getElem? (i := 348) (by decide +kernel)) (by rfl)
set_option maxRecDepth 100000 in
theorem w_349 : (Cond.code ⟨"AuditDraws", "takeFromRow", "(I)V"⟩ prog_1_method_23_code 5 (none : Option FieldType) : Cond) ∈ ad_T := ad_in (List.mem_of_getElem? (i := 349) rfl) (by rfl)
theorem w_350 : (Cond.methodLink "AuditDraws" 181 ⟨"AuditDraws$Draw", "below", "(I)I"⟩ : Cond) ∈ ad_T := ad_in (List.mem_of_getElem? (i := 350) (by decide +kernel)) (by rfl)
theorem w_351 : (Cond.instanceMethod ⟨"AuditDraws$Draw", "below", "(I)I"⟩ : Cond) ∈ ad_T := ad_in (List.mem_of_getElem? (i := 351) (by decide +kernel)) (by rfl)
theorem w_352 : (Cond.selects "AuditDraws$Draw" ⟨"AuditDraws$Draw", "below", "(I)I"⟩ ⟨"AuditDraws$Draw", "below", "(I)I"⟩ : Cond) ∈ ad_T := ad_in (List.mem_of_getElem? (i := 352) (by decide +kernel)) (by rfl)
set_option maxRecDepth 100000 in
theorem w_353 : (Cond.code ⟨"AuditDraws$Draw", "below", "(I)I"⟩ prog_3_method_2_code 2 (some .int) : Cond) ∈ ad_T := ad_in (List.mem_of_getElem? (i := 353) rfl) (by rfl)
theorem w_354 : (Cond.constantLong "AuditDraws$Draw" 13 6364136223846793005 : Cond) ∈ ad_T := ad_in (List.mem_of_getElem? (i := 354) (by decide +kernel)) (by rfl)
theorem w_355 : (Cond.constantLong "AuditDraws$Draw" 15 1442695040888963407 : Cond) ∈ ad_T := ad_in (List.mem_of_getElem? (i := 355) (by decide +kernel)) (by rfl)
theorem w_356 : (Cond.methodLink "AuditDraws" 184 ⟨"java/util/ArrayList", "set", "(ILjava/lang/Object;)Ljava/lang/Object;"⟩ : Cond) ∈ ad_T := ad_in (List.mem_of_getElem? (i := 356) (by decide +kernel)) (by rfl)
theorem w_357 : (Cond.instanceMethod ⟨"java/util/ArrayList", "set", "(ILjava/lang/Object;)Ljava/lang/Object;"⟩ : Cond) ∈ ad_T := ad_in (List.mem_of_getElem? (i := 357) (by decide +kernel)) (by rfl)
theorem w_358 : (Cond.selects "java/util/ArrayList" ⟨"java/util/ArrayList", "set", "(ILjava/lang/Object;)Ljava/lang/Object;"⟩ ⟨"java/util/ArrayList", "set", "(ILjava/lang/Object;)Ljava/lang/Object;"⟩ : Cond) ∈ ad_T := ad_in (List.mem_of_getElem? (i := 358) (by decide +kernel)) (by rfl)
set_option maxRecDepth 100000 in
theorem w_359 : (Cond.code ⟨"java/util/ArrayList", "set", "(ILjava/lang/Object;)Ljava/lang/Object;"⟩ prog_21_method_23_code 4 (some (.object "java/lang/Object")) : Cond) ∈ ad_T := ad_in (List.mem_of_getElem? (i := 359) rfl) (by rfl)
theorem w_360 : (Cond.methodLink "AuditDrawsLaw" 91 ⟨"AuditDrawsLaw", "drawn", "(LAuditDraws;I[J)I"⟩ : Cond) ∈ ad_T := ad_in (List.mem_of_getElem? (i := 360) (by decide +kernel)) (by rfl)
theorem w_361 : (Cond.static ⟨"AuditDrawsLaw", "drawn", "(LAuditDraws;I[J)I"⟩ : Cond) ∈ ad_T := ad_in (List.mem_of_getElem? (i := 361) (by decide +kernel)) (by rfl)
set_option maxRecDepth 100000 in
theorem w_362 : (Cond.codeWith ⟨"AuditDrawsLaw", "drawn", "(LAuditDraws;I[J)I"⟩ method_5_code 4 (some .int) [(0, 9, 12, 13)] : Cond) ∈ ad_T := ad_in (List.mem_of_getElem? (i := 362) rfl) (by rfl)
theorem w_363 : (Cond.methodLink "AuditDrawsLaw" 23 ⟨"AuditDraws", "drawn", "(I)I"⟩ : Cond) ∈ ad_T := ad_in (List.mem_of_getElem? (i := 363) (by decide +kernel)) (by rfl)
theorem w_364 : (Cond.instanceMethod ⟨"AuditDraws", "drawn", "(I)I"⟩ : Cond) ∈ ad_T := ad_in (List.mem_of_getElem? (i := 364) (by decide +kernel)) (by rfl)
theorem w_365 : (Cond.selects "AuditDraws" ⟨"AuditDraws", "drawn", "(I)I"⟩ ⟨"AuditDraws", "drawn", "(I)I"⟩ : Cond) ∈ ad_T := ad_in (List.mem_of_getElem? (i := 365) (by decide +kernel)) (by rfl)
set_option maxRecDepth 100000 in
theorem w_366 : (Cond.code ⟨"AuditDraws", "drawn", "(I)I"⟩ prog_1_method_5_code 2 (some .int) : Cond) ∈ ad_T := ad_in (List.mem_of_getElem? (i := 366) rfl) (by rfl)
theorem w_367 : (Cond.methodLink "AuditDrawsLaw" 94 ⟨"AuditDrawsLaw", "check", "(LAuditDraws;IIII[J)I"⟩ : Cond) ∈ ad_T := ad_in (List.mem_of_getElem? (i := 367) (by decide +kernel)) (by rfl)
theorem w_368 : (Cond.static ⟨"AuditDrawsLaw", "check", "(LAuditDraws;IIII[J)I"⟩ : Cond) ∈ ad_T := ad_in (List.mem_of_getElem? (i := 368) (by decide +kernel)) (by rfl)
set_option maxRecDepth 100000 in
theorem w_369 : (Cond.codeWith ⟨"AuditDrawsLaw", "check", "(LAuditDraws;IIII[J)I"⟩ method_6_code 7 (some .int) [(0, 14, 17, 13), (0, 14, 21, 15)] : Cond) ∈ ad_T := ad_in (List.mem_of_getElem? (i := 369) rfl) (by rfl)
theorem w_370 : (Cond.methodLink "AuditDrawsLaw" 26 ⟨"AuditDraws", "check", "(IIII)I"⟩ : Cond) ∈ ad_T := ad_in (List.mem_of_getElem? (i := 370) (by decide +kernel)) (by rfl)
theorem w_371 : (Cond.instanceMethod ⟨"AuditDraws", "check", "(IIII)I"⟩ : Cond) ∈ ad_T := ad_in (List.mem_of_getElem? (i := 371) (by decide +kernel)) (by rfl)
theorem w_372 : (Cond.selects "AuditDraws" ⟨"AuditDraws", "check", "(IIII)I"⟩ ⟨"AuditDraws", "check", "(IIII)I"⟩ : Cond) ∈ ad_T := ad_in (List.mem_of_getElem? (i := 372) (by decide +kernel)) (by rfl)
set_option maxRecDepth 100000 in
theorem w_373 : (Cond.code ⟨"AuditDraws", "check", "(IIII)I"⟩ prog_1_method_6_code 6 (some .int) : Cond) ∈ ad_T := ad_in (List.mem_of_getElem? (i := 373) rfl) (by rfl)
theorem w_374 : (Cond.methodLink "AuditDraws" 90 ⟨"AuditDraws", "existing", "(I)LAuditDraws$Thing;"⟩ : Cond) ∈ ad_T := ad_in (List.mem_of_getElem? (i := 374) (by decide +kernel)) (by rfl)
theorem w_375 : (Cond.privateMethod ⟨"AuditDraws", "existing", "(I)LAuditDraws$Thing;"⟩ : Cond) ∈ ad_T := ad_in (List.mem_of_getElem? (i := 375) (by decide +kernel)) (by rfl)
theorem w_376 : (Cond.instanceMethod ⟨"AuditDraws", "existing", "(I)LAuditDraws$Thing;"⟩ : Cond) ∈ ad_T := ad_in (List.mem_of_getElem? (i := 376) (by decide +kernel)) (by rfl)
set_option maxRecDepth 100000 in
theorem w_377 : (Cond.code ⟨"AuditDraws", "existing", "(I)LAuditDraws$Thing;"⟩ prog_1_method_29_code 2 (some (.object "AuditDraws$Thing")) : Cond) ∈ ad_T := ad_in (List.mem_of_getElem? (i := 377) rfl) (by rfl)
theorem w_378 : (Cond.methodLink "AuditDraws" 94 ⟨"AuditDraws", "needListed", "(LAuditDraws$Thing;)V"⟩ : Cond) ∈ ad_T := ad_in (List.mem_of_getElem? (i := 378) (by decide +kernel)) (by rfl)
theorem w_379 : (Cond.static ⟨"AuditDraws", "needListed", "(LAuditDraws$Thing;)V"⟩ : Cond) ∈ ad_T := ad_in (List.mem_of_getElem? (i := 379) (by decide +kernel)) (by rfl)
set_option maxRecDepth 100000 in
theorem w_380 : (Cond.code ⟨"AuditDraws", "needListed", "(LAuditDraws$Thing;)V"⟩ prog_1_method_32_code 1 (none : Option FieldType) : Cond) ∈ ad_T := ad_in (List.mem_of_getElem? (i := 380) rfl) (by rfl)
theorem w_382 : (Cond.methodLink "AuditDrawsLaw" 98 ⟨"AuditDrawsLaw", "gone", "(LAuditDraws;I[J)I"⟩ : Cond) ∈ ad_T := ad_in (List.mem_of_getElem? (i := 382) (by decide +kernel)) (by rfl)
theorem w_383 : (Cond.static ⟨"AuditDrawsLaw", "gone", "(LAuditDraws;I[J)I"⟩ : Cond) ∈ ad_T := ad_in (List.mem_of_getElem? (i := 383) (by decide +kernel)) (by rfl)
set_option maxRecDepth 100000 in
theorem w_384 : (Cond.codeWith ⟨"AuditDrawsLaw", "gone", "(LAuditDraws;I[J)I"⟩ method_7_code 4 (some .int) [(0, 16, 19, 13), (0, 16, 22, 15)] : Cond) ∈ ad_T := ad_in (List.mem_of_getElem? (i := 384) rfl) (by rfl)
theorem w_385 : (Cond.methodLink "AuditDrawsLaw" 30 ⟨"AuditDraws", "gone", "(I)Z"⟩ : Cond) ∈ ad_T := ad_in (List.mem_of_getElem? (i := 385) (by decide +kernel)) (by rfl)
theorem w_386 : (Cond.instanceMethod ⟨"AuditDraws", "gone", "(I)Z"⟩ : Cond) ∈ ad_T := ad_in (List.mem_of_getElem? (i := 386) (by decide +kernel)) (by rfl)
theorem w_387 : (Cond.selects "AuditDraws" ⟨"AuditDraws", "gone", "(I)Z"⟩ ⟨"AuditDraws", "gone", "(I)Z"⟩ : Cond) ∈ ad_T := ad_in (List.mem_of_getElem? (i := 387) (by decide +kernel)) (by rfl)
set_option maxRecDepth 100000 in
theorem w_388 : (Cond.code ⟨"AuditDraws", "gone", "(I)Z"⟩ prog_1_method_7_code 4 (some .boolean) : Cond) ∈ ad_T := ad_in (List.mem_of_getElem? (i := 388) rfl) (by rfl)
theorem w_389 : (Cond.methodLink "AuditDrawsLaw" 101 ⟨"AuditDrawsLaw", "share", "(LAuditDraws;II[J)I"⟩ : Cond) ∈ ad_T := ad_in (List.mem_of_getElem? (i := 389) (by decide +kernel)) (by rfl)
theorem w_390 : (Cond.static ⟨"AuditDrawsLaw", "share", "(LAuditDraws;II[J)I"⟩ : Cond) ∈ ad_T := ad_in (List.mem_of_getElem? (i := 390) (by decide +kernel)) (by rfl)
set_option maxRecDepth 100000 in
theorem w_391 : (Cond.codeWith ⟨"AuditDrawsLaw", "share", "(LAuditDraws;II[J)I"⟩ method_8_code 5 (some .int) [(0, 10, 13, 13)] : Cond) ∈ ad_T := ad_in (List.mem_of_getElem? (i := 391) rfl) (by rfl)
theorem w_392 : (Cond.methodLink "AuditDrawsLaw" 34 ⟨"AuditDraws", "share", "(II)I"⟩ : Cond) ∈ ad_T := ad_in (List.mem_of_getElem? (i := 392) (by decide +kernel)) (by rfl)
theorem w_393 : (Cond.instanceMethod ⟨"AuditDraws", "share", "(II)I"⟩ : Cond) ∈ ad_T := ad_in (List.mem_of_getElem? (i := 393) (by decide +kernel)) (by rfl)
theorem w_394 : (Cond.selects "AuditDraws" ⟨"AuditDraws", "share", "(II)I"⟩ ⟨"AuditDraws", "share", "(II)I"⟩ : Cond) ∈ ad_T := ad_in (List.mem_of_getElem? (i := 394) (by decide +kernel)) (by rfl)
set_option maxRecDepth 100000 in
theorem w_395 : (Cond.code ⟨"AuditDraws", "share", "(II)I"⟩ prog_1_method_8_code 6 (some .int) : Cond) ∈ ad_T := ad_in (List.mem_of_getElem? (i := 395) rfl) (by rfl)
theorem w_396 : (Cond.methodLink "AuditDraws" 103 ⟨"AuditDraws", "countChecked", "(I)I"⟩ : Cond) ∈ ad_T := ad_in (List.mem_of_getElem? (i := 396) (by decide +kernel)) (by rfl)
theorem w_397 : (Cond.privateMethod ⟨"AuditDraws", "countChecked", "(I)I"⟩ : Cond) ∈ ad_T := ad_in (List.mem_of_getElem? (i := 397) (by decide +kernel)) (by rfl)
theorem w_398 : (Cond.instanceMethod ⟨"AuditDraws", "countChecked", "(I)I"⟩ : Cond) ∈ ad_T := ad_in (List.mem_of_getElem? (i := 398) (by decide +kernel)) (by rfl)
set_option maxRecDepth 100000 in
theorem w_399 : (Cond.code ⟨"AuditDraws", "countChecked", "(I)I"⟩ prog_1_method_27_code 2 (some .int) : Cond) ∈ ad_T := ad_in (List.mem_of_getElem? (i := 399) rfl) (by rfl)
theorem w_400 : (Cond.methodLink "AuditDraws" 107 ⟨"AuditDraws", "countListed", "(II)I"⟩ : Cond) ∈ ad_T := ad_in (List.mem_of_getElem? (i := 400) (by decide +kernel)) (by rfl)
theorem w_401 : (Cond.privateMethod ⟨"AuditDraws", "countListed", "(II)I"⟩ : Cond) ∈ ad_T := ad_in (List.mem_of_getElem? (i := 401) (by decide +kernel)) (by rfl)
theorem w_402 : (Cond.instanceMethod ⟨"AuditDraws", "countListed", "(II)I"⟩ : Cond) ∈ ad_T := ad_in (List.mem_of_getElem? (i := 402) (by decide +kernel)) (by rfl)
set_option maxRecDepth 100000 in
theorem w_403 : (Cond.code ⟨"AuditDraws", "countListed", "(II)I"⟩ prog_1_method_25_code 6 (some .int) : Cond) ∈ ad_T := ad_in (List.mem_of_getElem? (i := 403) rfl) (by rfl)
theorem w_404 : (Cond.methodLink "AuditDraws" 114 ⟨"AuditDraws", "countMissed", "(I)I"⟩ : Cond) ∈ ad_T := ad_in (List.mem_of_getElem? (i := 404) (by decide +kernel)) (by rfl)
theorem w_405 : (Cond.privateMethod ⟨"AuditDraws", "countMissed", "(I)I"⟩ : Cond) ∈ ad_T := ad_in (List.mem_of_getElem? (i := 405) (by decide +kernel)) (by rfl)
theorem w_406 : (Cond.instanceMethod ⟨"AuditDraws", "countMissed", "(I)I"⟩ : Cond) ∈ ad_T := ad_in (List.mem_of_getElem? (i := 406) (by decide +kernel)) (by rfl)
set_option maxRecDepth 100000 in
theorem w_407 : (Cond.code ⟨"AuditDraws", "countMissed", "(I)I"⟩ prog_1_method_26_code 2 (some .int) : Cond) ∈ ad_T := ad_in (List.mem_of_getElem? (i := 407) rfl) (by rfl)
theorem w_408 : (Cond.methodLink "AuditDraws" 111 ⟨"AuditDraws", "commonDivisor", "(II)I"⟩ : Cond) ∈ ad_T := ad_in (List.mem_of_getElem? (i := 408) (by decide +kernel)) (by rfl)
theorem w_409 : (Cond.static ⟨"AuditDraws", "commonDivisor", "(II)I"⟩ : Cond) ∈ ad_T := ad_in (List.mem_of_getElem? (i := 409) (by decide +kernel)) (by rfl)
set_option maxRecDepth 100000 in
theorem w_410 : (Cond.code ⟨"AuditDraws", "commonDivisor", "(II)I"⟩ prog_1_method_28_code 3 (some .int) : Cond) ∈ ad_T := ad_in (List.mem_of_getElem? (i := 410) rfl) (by rfl)
theorem w_411 : (Cond.methodLink "AuditDrawsLaw" 104 ⟨"AuditDrawsLaw", "next", "(LAuditDraws;I[J)I"⟩ : Cond) ∈ ad_T := ad_in (List.mem_of_getElem? (i := 411) (by decide +kernel)) (by rfl)
theorem w_412 : (Cond.static ⟨"AuditDrawsLaw", "next", "(LAuditDraws;I[J)I"⟩ : Cond) ∈ ad_T := ad_in (List.mem_of_getElem? (i := 412) (by decide +kernel)) (by rfl)
set_option maxRecDepth 100000 in
theorem w_413 : (Cond.codeWith ⟨"AuditDrawsLaw", "next", "(LAuditDraws;I[J)I"⟩ method_9_code 4 (some .int) [(0, 9, 12, 13)] : Cond) ∈ ad_T := ad_in (List.mem_of_getElem? (i := 413) rfl) (by rfl)
theorem w_414 : (Cond.methodLink "AuditDrawsLaw" 37 ⟨"AuditDraws", "next", "(I)I"⟩ : Cond) ∈ ad_T := ad_in (List.mem_of_getElem? (i := 414) (by decide +kernel)) (by rfl)
theorem w_415 : (Cond.instanceMethod ⟨"AuditDraws", "next", "(I)I"⟩ : Cond) ∈ ad_T := ad_in (List.mem_of_getElem? (i := 415) (by decide +kernel)) (by rfl)
theorem w_416 : (Cond.selects "AuditDraws" ⟨"AuditDraws", "next", "(I)I"⟩ ⟨"AuditDraws", "next", "(I)I"⟩ : Cond) ∈ ad_T := ad_in (List.mem_of_getElem? (i := 416) (by decide +kernel)) (by rfl)
set_option maxRecDepth 100000 in
theorem w_417 : (Cond.code ⟨"AuditDraws", "next", "(I)I"⟩ prog_1_method_9_code 4 (some .int) : Cond) ∈ ad_T := ad_in (List.mem_of_getElem? (i := 417) rfl) (by rfl)
theorem w_418 : (Cond.methodLink "AuditDrawsLaw" 107 ⟨"AuditDrawsLaw", "digit", "(LAuditDraws;IJ[J)I"⟩ : Cond) ∈ ad_T := ad_in (List.mem_of_getElem? (i := 418) (by decide +kernel)) (by rfl)
theorem w_419 : (Cond.static ⟨"AuditDrawsLaw", "digit", "(LAuditDraws;IJ[J)I"⟩ : Cond) ∈ ad_T := ad_in (List.mem_of_getElem? (i := 419) (by decide +kernel)) (by rfl)
set_option maxRecDepth 100000 in
theorem w_420 : (Cond.codeWith ⟨"AuditDrawsLaw", "digit", "(LAuditDraws;IJ[J)I"⟩ method_10_code 6 (some .int) [(0, 11, 14, 13), (0, 11, 18, 21)] : Cond) ∈ ad_T := ad_in (List.mem_of_getElem? (i := 420) rfl) (by rfl)
theorem w_421 : (Cond.methodLink "AuditDrawsLaw" 40 ⟨"AuditDraws", "digit", "(IJ)I"⟩ : Cond) ∈ ad_T := ad_in (List.mem_of_getElem? (i := 421) (by decide +kernel)) (by rfl)
theorem w_422 : (Cond.instanceMethod ⟨"AuditDraws", "digit", "(IJ)I"⟩ : Cond) ∈ ad_T := ad_in (List.mem_of_getElem? (i := 422) (by decide +kernel)) (by rfl)
theorem w_423 : (Cond.selects "AuditDraws" ⟨"AuditDraws", "digit", "(IJ)I"⟩ ⟨"AuditDraws", "digit", "(IJ)I"⟩ : Cond) ∈ ad_T := ad_in (List.mem_of_getElem? (i := 423) (by decide +kernel)) (by rfl)
set_option maxRecDepth 100000 in
theorem w_424 : (Cond.code ⟨"AuditDraws", "digit", "(IJ)I"⟩ prog_1_method_10_code 4 (some .int) : Cond) ∈ ad_T := ad_in (List.mem_of_getElem? (i := 424) rfl) (by rfl)
theorem w_425 : (Cond.methodLink "AuditDraws" 119 ⟨"AuditDraws", "needNumber", "(J)V"⟩ : Cond) ∈ ad_T := ad_in (List.mem_of_getElem? (i := 425) (by decide +kernel)) (by rfl)
theorem w_426 : (Cond.static ⟨"AuditDraws", "needNumber", "(J)V"⟩ : Cond) ∈ ad_T := ad_in (List.mem_of_getElem? (i := 426) (by decide +kernel)) (by rfl)
set_option maxRecDepth 100000 in
theorem w_427 : (Cond.code ⟨"AuditDraws", "needNumber", "(J)V"⟩ prog_1_method_34_code 2 (none : Option FieldType) : Cond) ∈ ad_T := ad_in (List.mem_of_getElem? (i := 427) rfl) (by rfl)
theorem w_428 : (Cond.constantLong "AuditDraws" 200 100000000000000000 : Cond) ∈ ad_T := ad_in (List.mem_of_getElem? (i := 428) (by decide +kernel)) (by rfl)
theorem w_430 : (Cond.methodLink "AuditDraws" 123 ⟨"AuditDraws$CheckDigits", "of", "(IJ)I"⟩ : Cond) ∈ ad_T := ad_in (List.mem_of_getElem? (i := 430) (by decide +kernel)) (by rfl)
theorem w_431 : (Cond.static ⟨"AuditDraws$CheckDigits", "of", "(IJ)I"⟩ : Cond) ∈ ad_T := ad_in (List.mem_of_getElem? (i := 431) (by decide +kernel)) (by rfl)
set_option maxRecDepth 100000 in
theorem w_432 : (Cond.code ⟨"AuditDraws$CheckDigits", "of", "(IJ)I"⟩ prog_2_method_2_code 4 (some .int) : Cond) ∈ ad_T := ad_in (List.mem_of_getElem? (i := 432) rfl) (by rfl)
theorem w_433 : (Cond.methodLink "AuditDraws$CheckDigits" 7 ⟨"AuditDraws$CheckDigits", "weighedSum", "(IJ)I"⟩ : Cond) ∈ ad_T := ad_in (List.mem_of_getElem? (i := 433) (by decide +kernel)) (by rfl)
theorem w_434 : (Cond.static ⟨"AuditDraws$CheckDigits", "weighedSum", "(IJ)I"⟩ : Cond) ∈ ad_T := ad_in (List.mem_of_getElem? (i := 434) (by decide +kernel)) (by rfl)
set_option maxRecDepth 100000 in
theorem w_435 : (Cond.code ⟨"AuditDraws$CheckDigits", "weighedSum", "(IJ)I"⟩ prog_2_method_4_code 7 (some .int) : Cond) ∈ ad_T := ad_in (List.mem_of_getElem? (i := 435) rfl) (by rfl)
theorem w_436 : (Cond.constantLong "AuditDraws$CheckDigits" 13 10 : Cond) ∈ ad_T := ad_in (List.mem_of_getElem? (i := 436) (by decide +kernel)) (by rfl)
theorem w_437 : (Cond.methodLink "AuditDraws$CheckDigits" 18 ⟨"AuditDraws$CheckDigits", "weighed", "(III)I"⟩ : Cond) ∈ ad_T := ad_in (List.mem_of_getElem? (i := 437) (by decide +kernel)) (by rfl)
theorem w_438 : (Cond.static ⟨"AuditDraws$CheckDigits", "weighed", "(III)I"⟩ : Cond) ∈ ad_T := ad_in (List.mem_of_getElem? (i := 438) (by decide +kernel)) (by rfl)
set_option maxRecDepth 100000 in
theorem w_439 : (Cond.code ⟨"AuditDraws$CheckDigits", "weighed", "(III)I"⟩ prog_2_method_5_code 4 (some .int) : Cond) ∈ ad_T := ad_in (List.mem_of_getElem? (i := 439) rfl) (by rfl)
theorem w_440 : (Cond.methodLink "AuditDraws$CheckDigits" 22 ⟨"AuditDraws$CheckDigits", "doubled", "(I)I"⟩ : Cond) ∈ ad_T := ad_in (List.mem_of_getElem? (i := 440) (by decide +kernel)) (by rfl)
theorem w_441 : (Cond.static ⟨"AuditDraws$CheckDigits", "doubled", "(I)I"⟩ : Cond) ∈ ad_T := ad_in (List.mem_of_getElem? (i := 441) (by decide +kernel)) (by rfl)
set_option maxRecDepth 100000 in
theorem w_442 : (Cond.code ⟨"AuditDraws$CheckDigits", "doubled", "(I)I"⟩ prog_2_method_6_code 2 (some .int) : Cond) ∈ ad_T := ad_in (List.mem_of_getElem? (i := 442) rfl) (by rfl)
theorem w_443 : (Cond.methodLink "AuditDrawsLaw" 111 ⟨"AuditDrawsLaw", "good", "(LAuditDraws;IJ[J)I"⟩ : Cond) ∈ ad_T := ad_in (List.mem_of_getElem? (i := 443) (by decide +kernel)) (by rfl)
theorem w_444 : (Cond.static ⟨"AuditDrawsLaw", "good", "(LAuditDraws;IJ[J)I"⟩ : Cond) ∈ ad_T := ad_in (List.mem_of_getElem? (i := 444) (by decide +kernel)) (by rfl)
set_option maxRecDepth 100000 in
theorem w_445 : (Cond.codeWith ⟨"AuditDrawsLaw", "good", "(LAuditDraws;IJ[J)I"⟩ method_11_code 6 (some .int) [(0, 18, 21, 13), (0, 18, 25, 21)] : Cond) ∈ ad_T := ad_in (List.mem_of_getElem? (i := 445) rfl) (by rfl)
theorem w_446 : (Cond.methodLink "AuditDrawsLaw" 44 ⟨"AuditDraws", "good", "(IJ)Z"⟩ : Cond) ∈ ad_T := ad_in (List.mem_of_getElem? (i := 446) (by decide +kernel)) (by rfl)
theorem w_447 : (Cond.instanceMethod ⟨"AuditDraws", "good", "(IJ)Z"⟩ : Cond) ∈ ad_T := ad_in (List.mem_of_getElem? (i := 447) (by decide +kernel)) (by rfl)
theorem w_448 : (Cond.selects "AuditDraws" ⟨"AuditDraws", "good", "(IJ)Z"⟩ ⟨"AuditDraws", "good", "(IJ)Z"⟩ : Cond) ∈ ad_T := ad_in (List.mem_of_getElem? (i := 448) (by decide +kernel)) (by rfl)
set_option maxRecDepth 100000 in
theorem w_449 : (Cond.code ⟨"AuditDraws", "good", "(IJ)Z"⟩ prog_1_method_11_code 4 (some .boolean) : Cond) ∈ ad_T := ad_in (List.mem_of_getElem? (i := 449) rfl) (by rfl)
theorem w_450 : (Cond.methodLink "AuditDraws" 127 ⟨"AuditDraws$CheckDigits", "closes", "(IJ)Z"⟩ : Cond) ∈ ad_T := ad_in (List.mem_of_getElem? (i := 450) (by decide +kernel)) (by rfl)
theorem w_451 : (Cond.static ⟨"AuditDraws$CheckDigits", "closes", "(IJ)Z"⟩ : Cond) ∈ ad_T := ad_in (List.mem_of_getElem? (i := 451) (by decide +kernel)) (by rfl)
set_option maxRecDepth 100000 in
theorem w_452 : (Cond.code ⟨"AuditDraws$CheckDigits", "closes", "(IJ)Z"⟩ prog_2_method_3_code 4 (some .boolean) : Cond) ∈ ad_T := ad_in (List.mem_of_getElem? (i := 452) rfl) (by rfl)
theorem w_453 : (Cond.methodLink "AuditDraws$CheckDigits" 15 ⟨"AuditDraws$CheckDigits", "of", "(IJ)I"⟩ : Cond) ∈ ad_T := ad_in (List.mem_of_getElem? (i := 453) (by decide +kernel)) (by rfl)
theorem w_454 : (Cond.methodLink "AuditDrawsLaw" 114 ⟨"AuditDrawsLaw", "tag", "(LAuditDraws;IIII[J)I"⟩ : Cond) ∈ ad_T := ad_in (List.mem_of_getElem? (i := 454) (by decide +kernel)) (by rfl)
theorem w_455 : (Cond.static ⟨"AuditDrawsLaw", "tag", "(LAuditDraws;IIII[J)I"⟩ : Cond) ∈ ad_T := ad_in (List.mem_of_getElem? (i := 455) (by decide +kernel)) (by rfl)
set_option maxRecDepth 100000 in
theorem w_456 : (Cond.codeWith ⟨"AuditDrawsLaw", "tag", "(LAuditDraws;IIII[J)I"⟩ method_12_code 7 (some .int) [(0, 14, 17, 13), (0, 14, 21, 21), (0, 14, 25, 15)] : Cond) ∈ ad_T := ad_in (List.mem_of_getElem? (i := 456) rfl) (by rfl)
theorem w_457 : (Cond.methodLink "AuditDrawsLaw" 48 ⟨"AuditDraws", "tag", "(IIII)I"⟩ : Cond) ∈ ad_T := ad_in (List.mem_of_getElem? (i := 457) (by decide +kernel)) (by rfl)
theorem w_458 : (Cond.instanceMethod ⟨"AuditDraws", "tag", "(IIII)I"⟩ : Cond) ∈ ad_T := ad_in (List.mem_of_getElem? (i := 458) (by decide +kernel)) (by rfl)
theorem w_459 : (Cond.selects "AuditDraws" ⟨"AuditDraws", "tag", "(IIII)I"⟩ ⟨"AuditDraws", "tag", "(IIII)I"⟩ : Cond) ∈ ad_T := ad_in (List.mem_of_getElem? (i := 459) (by decide +kernel)) (by rfl)
set_option maxRecDepth 100000 in
theorem w_460 : (Cond.code ⟨"AuditDraws", "tag", "(IIII)I"⟩ prog_1_method_12_code 6 (some .int) : Cond) ∈ ad_T := ad_in (List.mem_of_getElem? (i := 460) rfl) (by rfl)
theorem w_461 : (Cond.methodLink "AuditDraws" 131 ⟨"AuditDraws", "needHour", "(I)V"⟩ : Cond) ∈ ad_T := ad_in (List.mem_of_getElem? (i := 461) (by decide +kernel)) (by rfl)
theorem w_462 : (Cond.static ⟨"AuditDraws", "needHour", "(I)V"⟩ : Cond) ∈ ad_T := ad_in (List.mem_of_getElem? (i := 462) (by decide +kernel)) (by rfl)
set_option maxRecDepth 100000 in
theorem w_463 : (Cond.code ⟨"AuditDraws", "needHour", "(I)V"⟩ prog_1_method_33_code 1 (none : Option FieldType) : Cond) ∈ ad_T := ad_in (List.mem_of_getElem? (i := 463) rfl) (by rfl)
theorem w_464 : (Cond.constant "AuditDraws" 197 1000000 : Cond) ∈ ad_T := ad_in (List.mem_of_getElem? (i := 464) (by decide +kernel)) (by rfl)
theorem w_468 : (Cond.classLink "AuditDraws" 141 "AuditDraws$Sighting" : Cond) ∈ ad_T := ad_in (List.mem_of_getElem? (i := 468) (by decide +kernel)) (by rfl)
theorem w_469 : (Cond.instantiable "AuditDraws$Sighting" 3 : Cond) ∈ ad_T := ad_in (List.mem_of_getElem? (i := 469) (by decide +kernel)) (by rfl)
theorem w_470 : (Cond.methodLink "AuditDraws" 143 ⟨"AuditDraws$Sighting", "<init>", "(III)V"⟩ : Cond) ∈ ad_T := ad_in (List.mem_of_getElem? (i := 470) (by decide +kernel)) (by rfl)
theorem w_471 : (Cond.instanceMethod ⟨"AuditDraws$Sighting", "<init>", "(III)V"⟩ : Cond) ∈ ad_T := ad_in (List.mem_of_getElem? (i := 471) (by decide +kernel)) (by rfl)
set_option maxRecDepth 100000 in
theorem w_472 : (Cond.code ⟨"AuditDraws$Sighting", "<init>", "(III)V"⟩ prog_4_method_1_code 4 (none : Option FieldType) : Cond) ∈ ad_T := ad_in (List.mem_of_getElem? (i := 472) rfl) (by rfl)
theorem w_473 : (Cond.methodLink "AuditDraws$Sighting" 1 ⟨"java/lang/Object", "<init>", "()V"⟩ : Cond) ∈ ad_T := ad_in (List.mem_of_getElem? (i := 473) (by decide +kernel)) (by rfl)
theorem w_474 : (Cond.fieldLink "AuditDraws$Sighting" 7 "AuditDraws$Sighting" "hour" "I" : Cond) ∈ ad_T := ad_in (List.mem_of_getElem? (i := 474) (by decide +kernel)) (by rfl)
theorem w_475 : (Cond.fieldLink "AuditDraws" 148 "AuditDraws$Sighting" "hour" "I" : Cond) ∈ ad_T := ad_in (List.mem_of_getElem? (i := 475) (by decide +kernel)) (by rfl)
theorem w_476 : (Cond.fieldLink "AuditDraws$Sighting" 13 "AuditDraws$Sighting" "place" "I" : Cond) ∈ ad_T := ad_in (List.mem_of_getElem? (i := 476) (by decide +kernel)) (by rfl)
theorem w_477 : (Cond.fieldLink "AuditDraws" 151 "AuditDraws$Sighting" "place" "I" : Cond) ∈ ad_T := ad_in (List.mem_of_getElem? (i := 477) (by decide +kernel)) (by rfl)
theorem w_478 : (Cond.fieldLink "AuditDraws$Sighting" 16 "AuditDraws$Sighting" "told" "I" : Cond) ∈ ad_T := ad_in (List.mem_of_getElem? (i := 478) (by decide +kernel)) (by rfl)
theorem w_479 : (Cond.fieldLink "AuditDraws$Thing" 44 "AuditDraws$Sighting" "told" "I" : Cond) ∈ ad_T := ad_in (List.mem_of_getElem? (i := 479) (by decide +kernel)) (by rfl)
theorem w_480 : (Cond.laysFinal "AuditDraws$Sighting" "AuditDraws$Sighting" "hour" "I" : Cond) ∈ ad_T := ad_in (List.mem_of_getElem? (i := 480) (by decide +kernel)) (by rfl)
theorem w_482 : (Cond.laysFinal "AuditDraws$Sighting" "AuditDraws$Sighting" "place" "I" : Cond) ∈ ad_T := ad_in (List.mem_of_getElem? (i := 482) (by decide +kernel)) (by rfl)
theorem w_484 : (Cond.laysFinal "AuditDraws$Sighting" "AuditDraws$Sighting" "told" "I" : Cond) ∈ ad_T := ad_in (List.mem_of_getElem? (i := 484) (by decide +kernel)) (by rfl)
theorem w_486 : (Cond.superclass "AuditDraws$Sighting" "java/lang/Object" : Cond) ∈ ad_T := ad_in (List.mem_of_getElem? (i := 486) (by decide +kernel)) (by rfl)
theorem w_487 : (Cond.methodLink "AuditDrawsLaw" 117 ⟨"AuditDrawsLaw", "first", "(LAuditDraws;II[J)I"⟩ : Cond) ∈ ad_T := ad_in (List.mem_of_getElem? (i := 487) (by decide +kernel)) (by rfl)
theorem w_488 : (Cond.static ⟨"AuditDrawsLaw", "first", "(LAuditDraws;II[J)I"⟩ : Cond) ∈ ad_T := ad_in (List.mem_of_getElem? (i := 488) (by decide +kernel)) (by rfl)
set_option maxRecDepth 100000 in
theorem w_489 : (Cond.codeWith ⟨"AuditDrawsLaw", "first", "(LAuditDraws;II[J)I"⟩ method_13_code 5 (some .int) [(0, 10, 13, 13), (0, 10, 17, 21)] : Cond) ∈ ad_T := ad_in (List.mem_of_getElem? (i := 489) rfl) (by rfl)
theorem w_490 : (Cond.methodLink "AuditDrawsLaw" 51 ⟨"AuditDraws", "first", "(II)I"⟩ : Cond) ∈ ad_T := ad_in (List.mem_of_getElem? (i := 490) (by decide +kernel)) (by rfl)
theorem w_491 : (Cond.instanceMethod ⟨"AuditDraws", "first", "(II)I"⟩ : Cond) ∈ ad_T := ad_in (List.mem_of_getElem? (i := 491) (by decide +kernel)) (by rfl)
theorem w_492 : (Cond.selects "AuditDraws" ⟨"AuditDraws", "first", "(II)I"⟩ ⟨"AuditDraws", "first", "(II)I"⟩ : Cond) ∈ ad_T := ad_in (List.mem_of_getElem? (i := 492) (by decide +kernel)) (by rfl)
set_option maxRecDepth 100000 in
theorem w_493 : (Cond.code ⟨"AuditDraws", "first", "(II)I"⟩ prog_1_method_13_code 5 (some .int) : Cond) ∈ ad_T := ad_in (List.mem_of_getElem? (i := 493) rfl) (by rfl)
theorem w_494 : (Cond.methodLink "AuditDraws" 144 ⟨"AuditDraws$Thing", "lastToldBy", "(I)LAuditDraws$Sighting;"⟩ : Cond) ∈ ad_T := ad_in (List.mem_of_getElem? (i := 494) (by decide +kernel)) (by rfl)
theorem w_495 : (Cond.instanceMethod ⟨"AuditDraws$Thing", "lastToldBy", "(I)LAuditDraws$Sighting;"⟩ : Cond) ∈ ad_T := ad_in (List.mem_of_getElem? (i := 495) (by decide +kernel)) (by rfl)
theorem w_496 : (Cond.selects "AuditDraws$Thing" ⟨"AuditDraws$Thing", "lastToldBy", "(I)LAuditDraws$Sighting;"⟩ ⟨"AuditDraws$Thing", "lastToldBy", "(I)LAuditDraws$Sighting;"⟩ : Cond) ∈ ad_T := ad_in (List.mem_of_getElem? (i := 496) (by decide +kernel)) (by rfl)
set_option maxRecDepth 100000 in
theorem w_497 : (Cond.code ⟨"AuditDraws$Thing", "lastToldBy", "(I)LAuditDraws$Sighting;"⟩ prog_5_method_2_code 5 (some (.object "AuditDraws$Sighting")) : Cond) ∈ ad_T := ad_in (List.mem_of_getElem? (i := 497) rfl) (by rfl)
theorem w_498 : (Cond.methodLink "AuditDraws$Thing" 34 ⟨"java/util/ArrayList", "size", "()I"⟩ : Cond) ∈ ad_T := ad_in (List.mem_of_getElem? (i := 498) (by decide +kernel)) (by rfl)
theorem w_499 : (Cond.methodLink "AuditDraws$Thing" 38 ⟨"java/util/ArrayList", "get", "(I)Ljava/lang/Object;"⟩ : Cond) ∈ ad_T := ad_in (List.mem_of_getElem? (i := 499) (by decide +kernel)) (by rfl)
theorem w_500 : (Cond.classLink "AuditDraws$Thing" 42 "AuditDraws$Sighting" : Cond) ∈ ad_T := ad_in (List.mem_of_getElem? (i := 500) (by decide +kernel)) (by rfl)
theorem w_501 : (Cond.methodLink "AuditDraws$Thing" 47 ⟨"AuditDraws$Sighting", "replaces", "(LAuditDraws$Sighting;)Z"⟩ : Cond) ∈ ad_T := ad_in (List.mem_of_getElem? (i := 501) (by decide +kernel)) (by rfl)
theorem w_502 : (Cond.instanceMethod ⟨"AuditDraws$Sighting", "replaces", "(LAuditDraws$Sighting;)Z"⟩ : Cond) ∈ ad_T := ad_in (List.mem_of_getElem? (i := 502) (by decide +kernel)) (by rfl)
theorem w_503 : (Cond.selects "AuditDraws$Sighting" ⟨"AuditDraws$Sighting", "replaces", "(LAuditDraws$Sighting;)Z"⟩ ⟨"AuditDraws$Sighting", "replaces", "(LAuditDraws$Sighting;)Z"⟩ : Cond) ∈ ad_T := ad_in (List.mem_of_getElem? (i := 503) (by decide +kernel)) (by rfl)
set_option maxRecDepth 100000 in
theorem w_504 : (Cond.code ⟨"AuditDraws$Sighting", "replaces", "(LAuditDraws$Sighting;)Z"⟩ prog_4_method_2_code 2 (some .boolean) : Cond) ∈ ad_T := ad_in (List.mem_of_getElem? (i := 504) rfl) (by rfl)
theorem w_505 : (Cond.methodLink "AuditDrawsLaw" 120 ⟨"AuditDrawsLaw", "seen", "(LAuditDraws;II[J)I"⟩ : Cond) ∈ ad_T := ad_in (List.mem_of_getElem? (i := 505) (by decide +kernel)) (by rfl)
theorem w_506 : (Cond.static ⟨"AuditDrawsLaw", "seen", "(LAuditDraws;II[J)I"⟩ : Cond) ∈ ad_T := ad_in (List.mem_of_getElem? (i := 506) (by decide +kernel)) (by rfl)
set_option maxRecDepth 100000 in
theorem w_507 : (Cond.codeWith ⟨"AuditDrawsLaw", "seen", "(LAuditDraws;II[J)I"⟩ method_14_code 5 (some .int) [(0, 10, 13, 13), (0, 10, 17, 21)] : Cond) ∈ ad_T := ad_in (List.mem_of_getElem? (i := 507) rfl) (by rfl)
theorem w_508 : (Cond.methodLink "AuditDrawsLaw" 54 ⟨"AuditDraws", "seen", "(II)I"⟩ : Cond) ∈ ad_T := ad_in (List.mem_of_getElem? (i := 508) (by decide +kernel)) (by rfl)
theorem w_509 : (Cond.instanceMethod ⟨"AuditDraws", "seen", "(II)I"⟩ : Cond) ∈ ad_T := ad_in (List.mem_of_getElem? (i := 509) (by decide +kernel)) (by rfl)
theorem w_510 : (Cond.selects "AuditDraws" ⟨"AuditDraws", "seen", "(II)I"⟩ ⟨"AuditDraws", "seen", "(II)I"⟩ : Cond) ∈ ad_T := ad_in (List.mem_of_getElem? (i := 510) (by decide +kernel)) (by rfl)
set_option maxRecDepth 100000 in
theorem w_511 : (Cond.code ⟨"AuditDraws", "seen", "(II)I"⟩ prog_1_method_14_code 5 (some .int) : Cond) ∈ ad_T := ad_in (List.mem_of_getElem? (i := 511) rfl) (by rfl)
theorem w_512 : (Cond.methodLink "AuditDrawsLaw" 123 ⟨"AuditDrawsLaw", "weight", "(LAuditDraws;II[J)I"⟩ : Cond) ∈ ad_T := ad_in (List.mem_of_getElem? (i := 512) (by decide +kernel)) (by rfl)
theorem w_513 : (Cond.static ⟨"AuditDrawsLaw", "weight", "(LAuditDraws;II[J)I"⟩ : Cond) ∈ ad_T := ad_in (List.mem_of_getElem? (i := 513) (by decide +kernel)) (by rfl)
set_option maxRecDepth 100000 in
theorem w_514 : (Cond.codeWith ⟨"AuditDrawsLaw", "weight", "(LAuditDraws;II[J)I"⟩ method_15_code 5 (some .int) [(0, 10, 13, 13), (0, 10, 17, 21)] : Cond) ∈ ad_T := ad_in (List.mem_of_getElem? (i := 514) rfl) (by rfl)
theorem w_515 : (Cond.methodLink "AuditDrawsLaw" 57 ⟨"AuditDraws", "weight", "(II)I"⟩ : Cond) ∈ ad_T := ad_in (List.mem_of_getElem? (i := 515) (by decide +kernel)) (by rfl)
theorem w_516 : (Cond.instanceMethod ⟨"AuditDraws", "weight", "(II)I"⟩ : Cond) ∈ ad_T := ad_in (List.mem_of_getElem? (i := 516) (by decide +kernel)) (by rfl)
theorem w_517 : (Cond.selects "AuditDraws" ⟨"AuditDraws", "weight", "(II)I"⟩ ⟨"AuditDraws", "weight", "(II)I"⟩ : Cond) ∈ ad_T := ad_in (List.mem_of_getElem? (i := 517) (by decide +kernel)) (by rfl)
set_option maxRecDepth 100000 in
theorem w_518 : (Cond.code ⟨"AuditDraws", "weight", "(II)I"⟩ prog_1_method_15_code 5 (some .int) : Cond) ∈ ad_T := ad_in (List.mem_of_getElem? (i := 518) rfl) (by rfl)
theorem w_519 : (Cond.constant "AuditDraws" 152 1000000000 : Cond) ∈ ad_T := ad_in (List.mem_of_getElem? (i := 519) (by decide +kernel)) (by rfl)
theorem w_521 : (Cond.methodLink "AuditDraws" 158 ⟨"java/lang/Math", "abs", "(I)I"⟩ : Cond) ∈ ad_T := ad_in (List.mem_of_getElem? (i := 521) (by decide +kernel)) (by rfl)
theorem w_522 : (Cond.static ⟨"java/lang/Math", "abs", "(I)I"⟩ : Cond) ∈ ad_T := ad_in (List.mem_of_getElem? (i := 522) (by decide +kernel)) (by rfl)
set_option maxRecDepth 100000 in
theorem w_523 : (Cond.code ⟨"java/lang/Math", "abs", "(I)I"⟩ prog_14_method_59_code 1 (some .int) : Cond) ∈ ad_T := ad_in (List.mem_of_getElem? (i := 523) rfl) (by rfl)
theorem w_524 : (Cond.methodLink "AuditDrawsLaw" 126 ⟨"AuditDrawsLaw", "report", "(LAuditDraws;II[J)I"⟩ : Cond) ∈ ad_T := ad_in (List.mem_of_getElem? (i := 524) (by decide +kernel)) (by rfl)
theorem w_525 : (Cond.static ⟨"AuditDrawsLaw", "report", "(LAuditDraws;II[J)I"⟩ : Cond) ∈ ad_T := ad_in (List.mem_of_getElem? (i := 525) (by decide +kernel)) (by rfl)
set_option maxRecDepth 100000 in
theorem w_526 : (Cond.codeWith ⟨"AuditDrawsLaw", "report", "(LAuditDraws;II[J)I"⟩ method_16_code 5 (some .int) [(0, 10, 13, 13)] : Cond) ∈ ad_T := ad_in (List.mem_of_getElem? (i := 526) rfl) (by rfl)
theorem w_527 : (Cond.methodLink "AuditDrawsLaw" 60 ⟨"AuditDraws", "report", "(II)I"⟩ : Cond) ∈ ad_T := ad_in (List.mem_of_getElem? (i := 527) (by decide +kernel)) (by rfl)
theorem w_528 : (Cond.instanceMethod ⟨"AuditDraws", "report", "(II)I"⟩ : Cond) ∈ ad_T := ad_in (List.mem_of_getElem? (i := 528) (by decide +kernel)) (by rfl)
theorem w_529 : (Cond.selects "AuditDraws" ⟨"AuditDraws", "report", "(II)I"⟩ ⟨"AuditDraws", "report", "(II)I"⟩ : Cond) ∈ ad_T := ad_in (List.mem_of_getElem? (i := 529) (by decide +kernel)) (by rfl)
set_option maxRecDepth 100000 in
theorem w_530 : (Cond.code ⟨"AuditDraws", "report", "(II)I"⟩ prog_1_method_16_code 5 (some .int) : Cond) ∈ ad_T := ad_in (List.mem_of_getElem? (i := 530) rfl) (by rfl)
theorem w_531 : (Cond.methodLink "AuditDraws" 163 ⟨"AuditDraws", "needNotNegative", "(I)V"⟩ : Cond) ∈ ad_T := ad_in (List.mem_of_getElem? (i := 531) (by decide +kernel)) (by rfl)
theorem w_532 : (Cond.static ⟨"AuditDraws", "needNotNegative", "(I)V"⟩ : Cond) ∈ ad_T := ad_in (List.mem_of_getElem? (i := 532) (by decide +kernel)) (by rfl)
set_option maxRecDepth 100000 in
theorem w_533 : (Cond.code ⟨"AuditDraws", "needNotNegative", "(I)V"⟩ prog_1_method_31_code 1 (none : Option FieldType) : Cond) ∈ ad_T := ad_in (List.mem_of_getElem? (i := 533) rfl) (by rfl)
theorem w_535 : (Cond.methodLink "AuditDrawsLaw" 129 ⟨"AuditDrawsLaw", "room", "(LAuditDraws;II[J)I"⟩ : Cond) ∈ ad_T := ad_in (List.mem_of_getElem? (i := 535) (by decide +kernel)) (by rfl)
theorem w_536 : (Cond.static ⟨"AuditDrawsLaw", "room", "(LAuditDraws;II[J)I"⟩ : Cond) ∈ ad_T := ad_in (List.mem_of_getElem? (i := 536) (by decide +kernel)) (by rfl)
set_option maxRecDepth 100000 in
theorem w_537 : (Cond.codeWith ⟨"AuditDrawsLaw", "room", "(LAuditDraws;II[J)I"⟩ method_17_code 5 (some .int) [(0, 10, 13, 13)] : Cond) ∈ ad_T := ad_in (List.mem_of_getElem? (i := 537) rfl) (by rfl)
theorem w_538 : (Cond.methodLink "AuditDrawsLaw" 63 ⟨"AuditDraws", "room", "(II)I"⟩ : Cond) ∈ ad_T := ad_in (List.mem_of_getElem? (i := 538) (by decide +kernel)) (by rfl)
theorem w_539 : (Cond.instanceMethod ⟨"AuditDraws", "room", "(II)I"⟩ : Cond) ∈ ad_T := ad_in (List.mem_of_getElem? (i := 539) (by decide +kernel)) (by rfl)
theorem w_540 : (Cond.selects "AuditDraws" ⟨"AuditDraws", "room", "(II)I"⟩ ⟨"AuditDraws", "room", "(II)I"⟩ : Cond) ∈ ad_T := ad_in (List.mem_of_getElem? (i := 540) (by decide +kernel)) (by rfl)
set_option maxRecDepth 100000 in
theorem w_541 : (Cond.code ⟨"AuditDraws", "room", "(II)I"⟩ prog_1_method_17_code 5 (some .int) : Cond) ∈ ad_T := ad_in (List.mem_of_getElem? (i := 541) rfl) (by rfl)
theorem w_542 : (Cond.classLink "AuditDrawsLaw" 67 "AuditDrawsModel" : Cond) ∈ ad_T := ad_in (List.mem_of_getElem? (i := 542) (by decide +kernel)) (by rfl)
theorem w_543 : (Cond.instantiable "AuditDrawsModel" 15 : Cond) ∈ ad_T := ad_in (List.mem_of_getElem? (i := 543) (by decide +kernel)) (by rfl)
theorem w_544 : (Cond.methodLink "AuditDrawsLaw" 69 ⟨"AuditDrawsModel", "<init>", "()V"⟩ : Cond) ∈ ad_T := ad_in (List.mem_of_getElem? (i := 544) (by decide +kernel)) (by rfl)
theorem w_545 : (Cond.instanceMethod ⟨"AuditDrawsModel", "<init>", "()V"⟩ : Cond) ∈ ad_T := ad_in (List.mem_of_getElem? (i := 545) (by decide +kernel)) (by rfl)
set_option maxRecDepth 100000 in
theorem w_546 : (Cond.code ⟨"AuditDrawsModel", "<init>", "()V"⟩ prog_7_method_1_code 1 (none : Option FieldType) : Cond) ∈ ad_T := ad_in (List.mem_of_getElem? (i := 546) rfl) (by rfl)
theorem w_547 : (Cond.methodLink "AuditDrawsModel" 1 ⟨"java/lang/Object", "<init>", "()V"⟩ : Cond) ∈ ad_T := ad_in (List.mem_of_getElem? (i := 547) (by decide +kernel)) (by rfl)
theorem w_548 : (Cond.fieldLink "AuditDrawsModel" 43 "AuditDrawsModel" "thrown" "I" : Cond) ∈ ad_T := ad_in (List.mem_of_getElem? (i := 548) (by decide +kernel)) (by rfl)
theorem w_549 : (Cond.fieldLink "AuditDrawsModel" 54 "AuditDrawsModel" "state" "J" : Cond) ∈ ad_T := ad_in (List.mem_of_getElem? (i := 549) (by decide +kernel)) (by rfl)
theorem w_550 : (Cond.fieldLink "AuditDrawsModel" 47 "AuditDrawsModel" "things" "I" : Cond) ∈ ad_T := ad_in (List.mem_of_getElem? (i := 550) (by decide +kernel)) (by rfl)
theorem w_551 : (Cond.fieldLink "AuditDrawsModel" 7 "AuditDrawsModel" "strata" "[I" : Cond) ∈ ad_T := ad_in (List.mem_of_getElem? (i := 551) (by decide +kernel)) (by rfl)
theorem w_552 : (Cond.fieldLink "AuditDrawsModel" 13 "AuditDrawsModel" "places" "[I" : Cond) ∈ ad_T := ad_in (List.mem_of_getElem? (i := 552) (by decide +kernel)) (by rfl)
theorem w_553 : (Cond.fieldLink "AuditDrawsModel" 16 "AuditDrawsModel" "weights" "[I" : Cond) ∈ ad_T := ad_in (List.mem_of_getElem? (i := 553) (by decide +kernel)) (by rfl)
theorem w_554 : (Cond.fieldLink "AuditDrawsModel" 81 "AuditDrawsModel" "drawnMany" "I" : Cond) ∈ ad_T := ad_in (List.mem_of_getElem? (i := 554) (by decide +kernel)) (by rfl)
theorem w_555 : (Cond.fieldLink "AuditDrawsModel" 19 "AuditDrawsModel" "drawn" "[I" : Cond) ∈ ad_T := ad_in (List.mem_of_getElem? (i := 555) (by decide +kernel)) (by rfl)
theorem w_556 : (Cond.fieldLink "AuditDrawsModel" 22 "AuditDrawsModel" "states" "[I" : Cond) ∈ ad_T := ad_in (List.mem_of_getElem? (i := 556) (by decide +kernel)) (by rfl)
theorem w_557 : (Cond.fieldLink "AuditDrawsModel" 25 "AuditDrawsModel" "row" "[I" : Cond) ∈ ad_T := ad_in (List.mem_of_getElem? (i := 557) (by decide +kernel)) (by rfl)
theorem w_558 : (Cond.fieldLink "AuditDrawsModel" 28 "AuditDrawsModel" "gives" "[I" : Cond) ∈ ad_T := ad_in (List.mem_of_getElem? (i := 558) (by decide +kernel)) (by rfl)
theorem w_559 : (Cond.fieldLink "AuditDrawsModel" 31 "AuditDrawsModel" "rowMany" "[I" : Cond) ∈ ad_T := ad_in (List.mem_of_getElem? (i := 559) (by decide +kernel)) (by rfl)
theorem w_560 : (Cond.fieldLink "AuditDrawsModel" 34 "AuditDrawsModel" "hours" "[I" : Cond) ∈ ad_T := ad_in (List.mem_of_getElem? (i := 560) (by decide +kernel)) (by rfl)
theorem w_561 : (Cond.fieldLink "AuditDrawsModel" 37 "AuditDrawsModel" "seenAt" "[I" : Cond) ∈ ad_T := ad_in (List.mem_of_getElem? (i := 561) (by decide +kernel)) (by rfl)
theorem w_562 : (Cond.fieldLink "AuditDrawsModel" 40 "AuditDrawsModel" "tolds" "[I" : Cond) ∈ ad_T := ad_in (List.mem_of_getElem? (i := 562) (by decide +kernel)) (by rfl)
theorem w_563 : (Cond.lays "AuditDrawsModel" "AuditDrawsModel" "thrown" "I" : Cond) ∈ ad_T := ad_in (List.mem_of_getElem? (i := 563) (by decide +kernel)) (by rfl)
theorem w_565 : (Cond.lays "AuditDrawsModel" "AuditDrawsModel" "state" "J" : Cond) ∈ ad_T := ad_in (List.mem_of_getElem? (i := 565) (by decide +kernel)) (by rfl)
theorem w_567 : (Cond.lays "AuditDrawsModel" "AuditDrawsModel" "things" "I" : Cond) ∈ ad_T := ad_in (List.mem_of_getElem? (i := 567) (by decide +kernel)) (by rfl)
theorem w_569 : (Cond.laysFinal "AuditDrawsModel" "AuditDrawsModel" "strata" "[I" : Cond) ∈ ad_T := ad_in (List.mem_of_getElem? (i := 569) (by decide +kernel)) (by rfl)
theorem w_571 : (Cond.laysFinal "AuditDrawsModel" "AuditDrawsModel" "places" "[I" : Cond) ∈ ad_T := ad_in (List.mem_of_getElem? (i := 571) (by decide +kernel)) (by rfl)
theorem w_573 : (Cond.laysFinal "AuditDrawsModel" "AuditDrawsModel" "weights" "[I" : Cond) ∈ ad_T := ad_in (List.mem_of_getElem? (i := 573) (by decide +kernel)) (by rfl)
theorem w_575 : (Cond.lays "AuditDrawsModel" "AuditDrawsModel" "drawnMany" "I" : Cond) ∈ ad_T := ad_in (List.mem_of_getElem? (i := 575) (by decide +kernel)) (by rfl)
theorem w_577 : (Cond.laysFinal "AuditDrawsModel" "AuditDrawsModel" "drawn" "[I" : Cond) ∈ ad_T := ad_in (List.mem_of_getElem? (i := 577) (by decide +kernel)) (by rfl)
theorem w_579 : (Cond.laysFinal "AuditDrawsModel" "AuditDrawsModel" "states" "[I" : Cond) ∈ ad_T := ad_in (List.mem_of_getElem? (i := 579) (by decide +kernel)) (by rfl)
theorem w_581 : (Cond.laysFinal "AuditDrawsModel" "AuditDrawsModel" "row" "[I" : Cond) ∈ ad_T := ad_in (List.mem_of_getElem? (i := 581) (by decide +kernel)) (by rfl)
theorem w_583 : (Cond.laysFinal "AuditDrawsModel" "AuditDrawsModel" "gives" "[I" : Cond) ∈ ad_T := ad_in (List.mem_of_getElem? (i := 583) (by decide +kernel)) (by rfl)
theorem w_585 : (Cond.laysFinal "AuditDrawsModel" "AuditDrawsModel" "rowMany" "[I" : Cond) ∈ ad_T := ad_in (List.mem_of_getElem? (i := 585) (by decide +kernel)) (by rfl)
theorem w_587 : (Cond.laysFinal "AuditDrawsModel" "AuditDrawsModel" "hours" "[I" : Cond) ∈ ad_T := ad_in (List.mem_of_getElem? (i := 587) (by decide +kernel)) (by rfl)
theorem w_589 : (Cond.laysFinal "AuditDrawsModel" "AuditDrawsModel" "seenAt" "[I" : Cond) ∈ ad_T := ad_in (List.mem_of_getElem? (i := 589) (by decide +kernel)) (by rfl)
theorem w_591 : (Cond.laysFinal "AuditDrawsModel" "AuditDrawsModel" "tolds" "[I" : Cond) ∈ ad_T := ad_in (List.mem_of_getElem? (i := 591) (by decide +kernel)) (by rfl)
theorem w_593 : (Cond.superclass "AuditDrawsModel" "java/lang/Object" : Cond) ∈ ad_T := ad_in (List.mem_of_getElem? (i := 593) (by decide +kernel)) (by rfl)
theorem w_594 : (Cond.methodLink "AuditDrawsLaw" 83 ⟨"AuditDrawsModel", "thrown", "()I"⟩ : Cond) ∈ ad_T := ad_in (List.mem_of_getElem? (i := 594) (by decide +kernel)) (by rfl)
theorem w_595 : (Cond.instanceMethod ⟨"AuditDrawsModel", "thrown", "()I"⟩ : Cond) ∈ ad_T := ad_in (List.mem_of_getElem? (i := 595) (by decide +kernel)) (by rfl)
theorem w_596 : (Cond.selects "AuditDrawsModel" ⟨"AuditDrawsModel", "thrown", "()I"⟩ ⟨"AuditDrawsModel", "thrown", "()I"⟩ : Cond) ∈ ad_T := ad_in (List.mem_of_getElem? (i := 596) (by decide +kernel)) (by rfl)
set_option maxRecDepth 100000 in
theorem w_597 : (Cond.code ⟨"AuditDrawsModel", "thrown", "()I"⟩ prog_7_method_2_code 1 (some .int) : Cond) ∈ ad_T := ad_in (List.mem_of_getElem? (i := 597) rfl) (by rfl)
theorem w_598 : (Cond.methodLink "AuditDrawsLaw" 76 ⟨"AuditDrawsModel", "seed", "(J)V"⟩ : Cond) ∈ ad_T := ad_in (List.mem_of_getElem? (i := 598) (by decide +kernel)) (by rfl)
theorem w_599 : (Cond.instanceMethod ⟨"AuditDrawsModel", "seed", "(J)V"⟩ : Cond) ∈ ad_T := ad_in (List.mem_of_getElem? (i := 599) (by decide +kernel)) (by rfl)
theorem w_600 : (Cond.selects "AuditDrawsModel" ⟨"AuditDrawsModel", "seed", "(J)V"⟩ ⟨"AuditDrawsModel", "seed", "(J)V"⟩ : Cond) ∈ ad_T := ad_in (List.mem_of_getElem? (i := 600) (by decide +kernel)) (by rfl)
set_option maxRecDepth 100000 in
theorem w_601 : (Cond.code ⟨"AuditDrawsModel", "seed", "(J)V"⟩ prog_7_method_6_code 3 (none : Option FieldType) : Cond) ∈ ad_T := ad_in (List.mem_of_getElem? (i := 601) rfl) (by rfl)
theorem w_602 : (Cond.methodLink "AuditDrawsLaw" 82 ⟨"AuditDrawsModel", "thing", "(II)I"⟩ : Cond) ∈ ad_T := ad_in (List.mem_of_getElem? (i := 602) (by decide +kernel)) (by rfl)
theorem w_603 : (Cond.instanceMethod ⟨"AuditDrawsModel", "thing", "(II)I"⟩ : Cond) ∈ ad_T := ad_in (List.mem_of_getElem? (i := 603) (by decide +kernel)) (by rfl)
theorem w_604 : (Cond.selects "AuditDrawsModel" ⟨"AuditDrawsModel", "thing", "(II)I"⟩ ⟨"AuditDrawsModel", "thing", "(II)I"⟩ : Cond) ∈ ad_T := ad_in (List.mem_of_getElem? (i := 604) (by decide +kernel)) (by rfl)
set_option maxRecDepth 100000 in
theorem w_605 : (Cond.code ⟨"AuditDrawsModel", "thing", "(II)I"⟩ prog_7_method_7_code 3 (some .int) : Cond) ∈ ad_T := ad_in (List.mem_of_getElem? (i := 605) rfl) (by rfl)
theorem w_606 : (Cond.constantLong "AuditDrawsModel" 58 5 : Cond) ∈ ad_T := ad_in (List.mem_of_getElem? (i := 606) (by decide +kernel)) (by rfl)
theorem w_607 : (Cond.methodLink "AuditDrawsModel" 50 ⟨"AuditDrawsModel", "in", "(JJJ)Z"⟩ : Cond) ∈ ad_T := ad_in (List.mem_of_getElem? (i := 607) (by decide +kernel)) (by rfl)
theorem w_608 : (Cond.static ⟨"AuditDrawsModel", "in", "(JJJ)Z"⟩ : Cond) ∈ ad_T := ad_in (List.mem_of_getElem? (i := 608) (by decide +kernel)) (by rfl)
set_option maxRecDepth 100000 in
theorem w_609 : (Cond.code ⟨"AuditDrawsModel", "in", "(JJJ)Z"⟩ prog_7_method_3_code 6 (some .boolean) : Cond) ∈ ad_T := ad_in (List.mem_of_getElem? (i := 609) rfl) (by rfl)
theorem w_610 : (Cond.constantLong "AuditDrawsModel" 60 15 : Cond) ∈ ad_T := ad_in (List.mem_of_getElem? (i := 610) (by decide +kernel)) (by rfl)
theorem w_611 : (Cond.methodLink "AuditDrawsModel" 62 ⟨"AuditDrawsModel", "fails", "(ZZZ)Z"⟩ : Cond) ∈ ad_T := ad_in (List.mem_of_getElem? (i := 611) (by decide +kernel)) (by rfl)
theorem w_612 : (Cond.privateMethod ⟨"AuditDrawsModel", "fails", "(ZZZ)Z"⟩ : Cond) ∈ ad_T := ad_in (List.mem_of_getElem? (i := 612) (by decide +kernel)) (by rfl)
theorem w_613 : (Cond.instanceMethod ⟨"AuditDrawsModel", "fails", "(ZZZ)Z"⟩ : Cond) ∈ ad_T := ad_in (List.mem_of_getElem? (i := 613) (by decide +kernel)) (by rfl)
set_option maxRecDepth 100000 in
theorem w_614 : (Cond.code ⟨"AuditDrawsModel", "fails", "(ZZZ)Z"⟩ prog_7_method_4_code 4 (some .boolean) : Cond) ∈ ad_T := ad_in (List.mem_of_getElem? (i := 614) rfl) (by rfl)
theorem w_615 : (Cond.methodLink "AuditDrawsLaw" 90 ⟨"AuditDrawsModel", "list", "(I)I"⟩ : Cond) ∈ ad_T := ad_in (List.mem_of_getElem? (i := 615) (by decide +kernel)) (by rfl)
theorem w_616 : (Cond.instanceMethod ⟨"AuditDrawsModel", "list", "(I)I"⟩ : Cond) ∈ ad_T := ad_in (List.mem_of_getElem? (i := 616) (by decide +kernel)) (by rfl)
theorem w_617 : (Cond.selects "AuditDrawsModel" ⟨"AuditDrawsModel", "list", "(I)I"⟩ ⟨"AuditDrawsModel", "list", "(I)I"⟩ : Cond) ∈ ad_T := ad_in (List.mem_of_getElem? (i := 617) (by decide +kernel)) (by rfl)
set_option maxRecDepth 100000 in
theorem w_618 : (Cond.code ⟨"AuditDrawsModel", "list", "(I)I"⟩ prog_7_method_13_code 3 (some .int) : Cond) ∈ ad_T := ad_in (List.mem_of_getElem? (i := 618) rfl) (by rfl)
theorem w_619 : (Cond.methodLink "AuditDrawsModel" 84 ⟨"AuditDrawsModel", "divide", "(I)V"⟩ : Cond) ∈ ad_T := ad_in (List.mem_of_getElem? (i := 619) (by decide +kernel)) (by rfl)
theorem w_620 : (Cond.privateMethod ⟨"AuditDrawsModel", "divide", "(I)V"⟩ : Cond) ∈ ad_T := ad_in (List.mem_of_getElem? (i := 620) (by decide +kernel)) (by rfl)
theorem w_621 : (Cond.instanceMethod ⟨"AuditDrawsModel", "divide", "(I)V"⟩ : Cond) ∈ ad_T := ad_in (List.mem_of_getElem? (i := 621) (by decide +kernel)) (by rfl)
set_option maxRecDepth 100000 in
theorem w_622 : (Cond.code ⟨"AuditDrawsModel", "divide", "(I)V"⟩ prog_7_method_11_code 7 (none : Option FieldType) : Cond) ∈ ad_T := ad_in (List.mem_of_getElem? (i := 622) rfl) (by rfl)
theorem w_623 : (Cond.methodLink "AuditDrawsModel" 70 ⟨"AuditDrawsModel", "size", "(I)I"⟩ : Cond) ∈ ad_T := ad_in (List.mem_of_getElem? (i := 623) (by decide +kernel)) (by rfl)
theorem w_624 : (Cond.privateMethod ⟨"AuditDrawsModel", "size", "(I)I"⟩ : Cond) ∈ ad_T := ad_in (List.mem_of_getElem? (i := 624) (by decide +kernel)) (by rfl)
theorem w_625 : (Cond.instanceMethod ⟨"AuditDrawsModel", "size", "(I)I"⟩ : Cond) ∈ ad_T := ad_in (List.mem_of_getElem? (i := 625) (by decide +kernel)) (by rfl)
set_option maxRecDepth 100000 in
theorem w_626 : (Cond.code ⟨"AuditDrawsModel", "size", "(I)I"⟩ prog_7_method_9_code 4 (some .int) : Cond) ∈ ad_T := ad_in (List.mem_of_getElem? (i := 626) rfl) (by rfl)
theorem w_627 : (Cond.methodLink "AuditDrawsModel" 74 ⟨"AuditDrawsModel", "rest", "(II)I"⟩ : Cond) ∈ ad_T := ad_in (List.mem_of_getElem? (i := 627) (by decide +kernel)) (by rfl)
theorem w_628 : (Cond.privateMethod ⟨"AuditDrawsModel", "rest", "(II)I"⟩ : Cond) ∈ ad_T := ad_in (List.mem_of_getElem? (i := 628) (by decide +kernel)) (by rfl)
theorem w_629 : (Cond.instanceMethod ⟨"AuditDrawsModel", "rest", "(II)I"⟩ : Cond) ∈ ad_T := ad_in (List.mem_of_getElem? (i := 629) (by decide +kernel)) (by rfl)
set_option maxRecDepth 100000 in
theorem w_630 : (Cond.code ⟨"AuditDrawsModel", "rest", "(II)I"⟩ prog_7_method_10_code 3 (some .int) : Cond) ∈ ad_T := ad_in (List.mem_of_getElem? (i := 630) rfl) (by rfl)
theorem w_631 : (Cond.methodLink "AuditDrawsModel" 88 ⟨"AuditDrawsModel", "drawFrom", "(I)V"⟩ : Cond) ∈ ad_T := ad_in (List.mem_of_getElem? (i := 631) (by decide +kernel)) (by rfl)
theorem w_632 : (Cond.privateMethod ⟨"AuditDrawsModel", "drawFrom", "(I)V"⟩ : Cond) ∈ ad_T := ad_in (List.mem_of_getElem? (i := 632) (by decide +kernel)) (by rfl)
theorem w_633 : (Cond.instanceMethod ⟨"AuditDrawsModel", "drawFrom", "(I)V"⟩ : Cond) ∈ ad_T := ad_in (List.mem_of_getElem? (i := 633) (by decide +kernel)) (by rfl)
set_option maxRecDepth 100000 in
theorem w_634 : (Cond.code ⟨"AuditDrawsModel", "drawFrom", "(I)V"⟩ prog_7_method_12_code 6 (none : Option FieldType) : Cond) ∈ ad_T := ad_in (List.mem_of_getElem? (i := 634) rfl) (by rfl)
theorem w_635 : (Cond.methodLink "AuditDrawsModel" 78 ⟨"AuditDrawsModel", "draw", "(I)I"⟩ : Cond) ∈ ad_T := ad_in (List.mem_of_getElem? (i := 635) (by decide +kernel)) (by rfl)
theorem w_636 : (Cond.privateMethod ⟨"AuditDrawsModel", "draw", "(I)I"⟩ : Cond) ∈ ad_T := ad_in (List.mem_of_getElem? (i := 636) (by decide +kernel)) (by rfl)
theorem w_637 : (Cond.instanceMethod ⟨"AuditDrawsModel", "draw", "(I)I"⟩ : Cond) ∈ ad_T := ad_in (List.mem_of_getElem? (i := 637) (by decide +kernel)) (by rfl)
set_option maxRecDepth 100000 in
theorem w_638 : (Cond.code ⟨"AuditDrawsModel", "draw", "(I)I"⟩ prog_7_method_8_code 2 (some .int) : Cond) ∈ ad_T := ad_in (List.mem_of_getElem? (i := 638) rfl) (by rfl)
theorem w_639 : (Cond.constantLong "AuditDrawsModel" 66 6364136223846793005 : Cond) ∈ ad_T := ad_in (List.mem_of_getElem? (i := 639) (by decide +kernel)) (by rfl)
theorem w_640 : (Cond.constantLong "AuditDrawsModel" 68 1442695040888963407 : Cond) ∈ ad_T := ad_in (List.mem_of_getElem? (i := 640) (by decide +kernel)) (by rfl)
theorem w_641 : (Cond.methodLink "AuditDrawsLaw" 93 ⟨"AuditDrawsModel", "drawn", "(I)I"⟩ : Cond) ∈ ad_T := ad_in (List.mem_of_getElem? (i := 641) (by decide +kernel)) (by rfl)
theorem w_642 : (Cond.instanceMethod ⟨"AuditDrawsModel", "drawn", "(I)I"⟩ : Cond) ∈ ad_T := ad_in (List.mem_of_getElem? (i := 642) (by decide +kernel)) (by rfl)
theorem w_643 : (Cond.selects "AuditDrawsModel" ⟨"AuditDrawsModel", "drawn", "(I)I"⟩ ⟨"AuditDrawsModel", "drawn", "(I)I"⟩ : Cond) ∈ ad_T := ad_in (List.mem_of_getElem? (i := 643) (by decide +kernel)) (by rfl)
set_option maxRecDepth 100000 in
theorem w_644 : (Cond.code ⟨"AuditDrawsModel", "drawn", "(I)I"⟩ prog_7_method_14_code 2 (some .int) : Cond) ∈ ad_T := ad_in (List.mem_of_getElem? (i := 644) rfl) (by rfl)
theorem w_645 : (Cond.methodLink "AuditDrawsLaw" 97 ⟨"AuditDrawsModel", "check", "(IIII)I"⟩ : Cond) ∈ ad_T := ad_in (List.mem_of_getElem? (i := 645) (by decide +kernel)) (by rfl)
theorem w_646 : (Cond.instanceMethod ⟨"AuditDrawsModel", "check", "(IIII)I"⟩ : Cond) ∈ ad_T := ad_in (List.mem_of_getElem? (i := 646) (by decide +kernel)) (by rfl)
theorem w_647 : (Cond.selects "AuditDrawsModel" ⟨"AuditDrawsModel", "check", "(IIII)I"⟩ ⟨"AuditDrawsModel", "check", "(IIII)I"⟩ : Cond) ∈ ad_T := ad_in (List.mem_of_getElem? (i := 647) (by decide +kernel)) (by rfl)
set_option maxRecDepth 100000 in
theorem w_648 : (Cond.code ⟨"AuditDrawsModel", "check", "(IIII)I"⟩ prog_7_method_15_code 8 (some .int) : Cond) ∈ ad_T := ad_in (List.mem_of_getElem? (i := 648) rfl) (by rfl)
theorem w_649 : (Cond.methodLink "AuditDrawsModel" 91 ⟨"AuditDrawsModel", "isThing", "(I)Z"⟩ : Cond) ∈ ad_T := ad_in (List.mem_of_getElem? (i := 649) (by decide +kernel)) (by rfl)
theorem w_650 : (Cond.privateMethod ⟨"AuditDrawsModel", "isThing", "(I)Z"⟩ : Cond) ∈ ad_T := ad_in (List.mem_of_getElem? (i := 650) (by decide +kernel)) (by rfl)
theorem w_651 : (Cond.instanceMethod ⟨"AuditDrawsModel", "isThing", "(I)Z"⟩ : Cond) ∈ ad_T := ad_in (List.mem_of_getElem? (i := 651) (by decide +kernel)) (by rfl)
set_option maxRecDepth 100000 in
theorem w_652 : (Cond.code ⟨"AuditDrawsModel", "isThing", "(I)Z"⟩ prog_7_method_5_code 2 (some .boolean) : Cond) ∈ ad_T := ad_in (List.mem_of_getElem? (i := 652) rfl) (by rfl)
theorem w_653 : (Cond.constantLong "AuditDrawsModel" 95 9 : Cond) ∈ ad_T := ad_in (List.mem_of_getElem? (i := 653) (by decide +kernel)) (by rfl)
theorem w_654 : (Cond.methodLink "AuditDrawsLaw" 100 ⟨"AuditDrawsModel", "gone", "(I)Z"⟩ : Cond) ∈ ad_T := ad_in (List.mem_of_getElem? (i := 654) (by decide +kernel)) (by rfl)
theorem w_655 : (Cond.instanceMethod ⟨"AuditDrawsModel", "gone", "(I)Z"⟩ : Cond) ∈ ad_T := ad_in (List.mem_of_getElem? (i := 655) (by decide +kernel)) (by rfl)
theorem w_656 : (Cond.selects "AuditDrawsModel" ⟨"AuditDrawsModel", "gone", "(I)Z"⟩ ⟨"AuditDrawsModel", "gone", "(I)Z"⟩ : Cond) ∈ ad_T := ad_in (List.mem_of_getElem? (i := 656) (by decide +kernel)) (by rfl)
set_option maxRecDepth 100000 in
theorem w_657 : (Cond.code ⟨"AuditDrawsModel", "gone", "(I)Z"⟩ prog_7_method_16_code 4 (some .boolean) : Cond) ∈ ad_T := ad_in (List.mem_of_getElem? (i := 657) rfl) (by rfl)
theorem w_658 : (Cond.methodLink "AuditDrawsLaw" 103 ⟨"AuditDrawsModel", "share", "(II)I"⟩ : Cond) ∈ ad_T := ad_in (List.mem_of_getElem? (i := 658) (by decide +kernel)) (by rfl)
theorem w_659 : (Cond.instanceMethod ⟨"AuditDrawsModel", "share", "(II)I"⟩ : Cond) ∈ ad_T := ad_in (List.mem_of_getElem? (i := 659) (by decide +kernel)) (by rfl)
theorem w_660 : (Cond.selects "AuditDrawsModel" ⟨"AuditDrawsModel", "share", "(II)I"⟩ ⟨"AuditDrawsModel", "share", "(II)I"⟩ : Cond) ∈ ad_T := ad_in (List.mem_of_getElem? (i := 660) (by decide +kernel)) (by rfl)
set_option maxRecDepth 100000 in
theorem w_661 : (Cond.code ⟨"AuditDrawsModel", "share", "(II)I"⟩ prog_7_method_18_code 6 (some .int) : Cond) ∈ ad_T := ad_in (List.mem_of_getElem? (i := 661) rfl) (by rfl)
theorem w_662 : (Cond.methodLink "AuditDrawsModel" 97 ⟨"AuditDrawsModel", "many", "(III)I"⟩ : Cond) ∈ ad_T := ad_in (List.mem_of_getElem? (i := 662) (by decide +kernel)) (by rfl)
theorem w_663 : (Cond.privateMethod ⟨"AuditDrawsModel", "many", "(III)I"⟩ : Cond) ∈ ad_T := ad_in (List.mem_of_getElem? (i := 663) (by decide +kernel)) (by rfl)
theorem w_664 : (Cond.instanceMethod ⟨"AuditDrawsModel", "many", "(III)I"⟩ : Cond) ∈ ad_T := ad_in (List.mem_of_getElem? (i := 664) (by decide +kernel)) (by rfl)
set_option maxRecDepth 100000 in
theorem w_665 : (Cond.code ⟨"AuditDrawsModel", "many", "(III)I"⟩ prog_7_method_17_code 6 (some .int) : Cond) ∈ ad_T := ad_in (List.mem_of_getElem? (i := 665) rfl) (by rfl)
theorem w_666 : (Cond.methodLink "AuditDrawsLaw" 106 ⟨"AuditDrawsModel", "next", "(I)I"⟩ : Cond) ∈ ad_T := ad_in (List.mem_of_getElem? (i := 666) (by decide +kernel)) (by rfl)
theorem w_667 : (Cond.instanceMethod ⟨"AuditDrawsModel", "next", "(I)I"⟩ : Cond) ∈ ad_T := ad_in (List.mem_of_getElem? (i := 667) (by decide +kernel)) (by rfl)
theorem w_668 : (Cond.selects "AuditDrawsModel" ⟨"AuditDrawsModel", "next", "(I)I"⟩ ⟨"AuditDrawsModel", "next", "(I)I"⟩ : Cond) ∈ ad_T := ad_in (List.mem_of_getElem? (i := 668) (by decide +kernel)) (by rfl)
set_option maxRecDepth 100000 in
theorem w_669 : (Cond.code ⟨"AuditDrawsModel", "next", "(I)I"⟩ prog_7_method_19_code 4 (some .int) : Cond) ∈ ad_T := ad_in (List.mem_of_getElem? (i := 669) rfl) (by rfl)
theorem w_670 : (Cond.methodLink "AuditDrawsLaw" 110 ⟨"AuditDrawsModel", "digit", "(IJ)I"⟩ : Cond) ∈ ad_T := ad_in (List.mem_of_getElem? (i := 670) (by decide +kernel)) (by rfl)
theorem w_671 : (Cond.instanceMethod ⟨"AuditDrawsModel", "digit", "(IJ)I"⟩ : Cond) ∈ ad_T := ad_in (List.mem_of_getElem? (i := 671) (by decide +kernel)) (by rfl)
theorem w_672 : (Cond.selects "AuditDrawsModel" ⟨"AuditDrawsModel", "digit", "(IJ)I"⟩ ⟨"AuditDrawsModel", "digit", "(IJ)I"⟩ : Cond) ∈ ad_T := ad_in (List.mem_of_getElem? (i := 672) (by decide +kernel)) (by rfl)
set_option maxRecDepth 100000 in
theorem w_673 : (Cond.code ⟨"AuditDrawsModel", "digit", "(IJ)I"⟩ prog_7_method_23_code 4 (some .int) : Cond) ∈ ad_T := ad_in (List.mem_of_getElem? (i := 673) rfl) (by rfl)
theorem w_674 : (Cond.constantLong "AuditDrawsModel" 110 2 : Cond) ∈ ad_T := ad_in (List.mem_of_getElem? (i := 674) (by decide +kernel)) (by rfl)
theorem w_675 : (Cond.constantLong "AuditDrawsModel" 112 100000000000000000 : Cond) ∈ ad_T := ad_in (List.mem_of_getElem? (i := 675) (by decide +kernel)) (by rfl)
theorem w_676 : (Cond.methodLink "AuditDrawsModel" 114 ⟨"AuditDrawsModel", "digitOf", "(IJ)I"⟩ : Cond) ∈ ad_T := ad_in (List.mem_of_getElem? (i := 676) (by decide +kernel)) (by rfl)
theorem w_677 : (Cond.static ⟨"AuditDrawsModel", "digitOf", "(IJ)I"⟩ : Cond) ∈ ad_T := ad_in (List.mem_of_getElem? (i := 677) (by decide +kernel)) (by rfl)
set_option maxRecDepth 100000 in
theorem w_678 : (Cond.code ⟨"AuditDrawsModel", "digitOf", "(IJ)I"⟩ prog_7_method_22_code 4 (some .int) : Cond) ∈ ad_T := ad_in (List.mem_of_getElem? (i := 678) rfl) (by rfl)
theorem w_679 : (Cond.methodLink "AuditDrawsModel" 106 ⟨"AuditDrawsModel", "sum", "(IJ)I"⟩ : Cond) ∈ ad_T := ad_in (List.mem_of_getElem? (i := 679) (by decide +kernel)) (by rfl)
theorem w_680 : (Cond.static ⟨"AuditDrawsModel", "sum", "(IJ)I"⟩ : Cond) ∈ ad_T := ad_in (List.mem_of_getElem? (i := 680) (by decide +kernel)) (by rfl)
set_option maxRecDepth 100000 in
theorem w_681 : (Cond.code ⟨"AuditDrawsModel", "sum", "(IJ)I"⟩ prog_7_method_21_code 7 (some .int) : Cond) ∈ ad_T := ad_in (List.mem_of_getElem? (i := 681) rfl) (by rfl)
theorem w_682 : (Cond.constantLong "AuditDrawsModel" 101 10 : Cond) ∈ ad_T := ad_in (List.mem_of_getElem? (i := 682) (by decide +kernel)) (by rfl)
theorem w_683 : (Cond.methodLink "AuditDrawsModel" 103 ⟨"AuditDrawsModel", "counts", "(III)I"⟩ : Cond) ∈ ad_T := ad_in (List.mem_of_getElem? (i := 683) (by decide +kernel)) (by rfl)
theorem w_684 : (Cond.static ⟨"AuditDrawsModel", "counts", "(III)I"⟩ : Cond) ∈ ad_T := ad_in (List.mem_of_getElem? (i := 684) (by decide +kernel)) (by rfl)
set_option maxRecDepth 100000 in
theorem w_685 : (Cond.code ⟨"AuditDrawsModel", "counts", "(III)I"⟩ prog_7_method_20_code 3 (some .int) : Cond) ∈ ad_T := ad_in (List.mem_of_getElem? (i := 685) rfl) (by rfl)
theorem w_686 : (Cond.methodLink "AuditDrawsLaw" 113 ⟨"AuditDrawsModel", "good", "(IJ)Z"⟩ : Cond) ∈ ad_T := ad_in (List.mem_of_getElem? (i := 686) (by decide +kernel)) (by rfl)
theorem w_687 : (Cond.instanceMethod ⟨"AuditDrawsModel", "good", "(IJ)Z"⟩ : Cond) ∈ ad_T := ad_in (List.mem_of_getElem? (i := 687) (by decide +kernel)) (by rfl)
theorem w_688 : (Cond.selects "AuditDrawsModel" ⟨"AuditDrawsModel", "good", "(IJ)Z"⟩ ⟨"AuditDrawsModel", "good", "(IJ)Z"⟩ : Cond) ∈ ad_T := ad_in (List.mem_of_getElem? (i := 688) (by decide +kernel)) (by rfl)
set_option maxRecDepth 100000 in
theorem w_689 : (Cond.code ⟨"AuditDrawsModel", "good", "(IJ)Z"⟩ prog_7_method_24_code 4 (some .boolean) : Cond) ∈ ad_T := ad_in (List.mem_of_getElem? (i := 689) rfl) (by rfl)
theorem w_690 : (Cond.methodLink "AuditDrawsLaw" 116 ⟨"AuditDrawsModel", "tag", "(IIII)I"⟩ : Cond) ∈ ad_T := ad_in (List.mem_of_getElem? (i := 690) (by decide +kernel)) (by rfl)
theorem w_691 : (Cond.instanceMethod ⟨"AuditDrawsModel", "tag", "(IIII)I"⟩ : Cond) ∈ ad_T := ad_in (List.mem_of_getElem? (i := 691) (by decide +kernel)) (by rfl)
theorem w_692 : (Cond.selects "AuditDrawsModel" ⟨"AuditDrawsModel", "tag", "(IIII)I"⟩ ⟨"AuditDrawsModel", "tag", "(IIII)I"⟩ : Cond) ∈ ad_T := ad_in (List.mem_of_getElem? (i := 692) (by decide +kernel)) (by rfl)
set_option maxRecDepth 100000 in
theorem w_693 : (Cond.code ⟨"AuditDrawsModel", "tag", "(IIII)I"⟩ prog_7_method_25_code 8 (some .int) : Cond) ∈ ad_T := ad_in (List.mem_of_getElem? (i := 693) rfl) (by rfl)
theorem w_694 : (Cond.constantLong "AuditDrawsModel" 117 1000000 : Cond) ∈ ad_T := ad_in (List.mem_of_getElem? (i := 694) (by decide +kernel)) (by rfl)
theorem w_695 : (Cond.methodLink "AuditDrawsLaw" 119 ⟨"AuditDrawsModel", "first", "(II)I"⟩ : Cond) ∈ ad_T := ad_in (List.mem_of_getElem? (i := 695) (by decide +kernel)) (by rfl)
theorem w_696 : (Cond.instanceMethod ⟨"AuditDrawsModel", "first", "(II)I"⟩ : Cond) ∈ ad_T := ad_in (List.mem_of_getElem? (i := 696) (by decide +kernel)) (by rfl)
theorem w_697 : (Cond.selects "AuditDrawsModel" ⟨"AuditDrawsModel", "first", "(II)I"⟩ ⟨"AuditDrawsModel", "first", "(II)I"⟩ : Cond) ∈ ad_T := ad_in (List.mem_of_getElem? (i := 697) (by decide +kernel)) (by rfl)
set_option maxRecDepth 100000 in
theorem w_698 : (Cond.code ⟨"AuditDrawsModel", "first", "(II)I"⟩ prog_7_method_27_code 4 (some .int) : Cond) ∈ ad_T := ad_in (List.mem_of_getElem? (i := 698) rfl) (by rfl)
theorem w_699 : (Cond.methodLink "AuditDrawsModel" 119 ⟨"AuditDrawsModel", "best", "(II)I"⟩ : Cond) ∈ ad_T := ad_in (List.mem_of_getElem? (i := 699) (by decide +kernel)) (by rfl)
theorem w_700 : (Cond.privateMethod ⟨"AuditDrawsModel", "best", "(II)I"⟩ : Cond) ∈ ad_T := ad_in (List.mem_of_getElem? (i := 700) (by decide +kernel)) (by rfl)
theorem w_701 : (Cond.instanceMethod ⟨"AuditDrawsModel", "best", "(II)I"⟩ : Cond) ∈ ad_T := ad_in (List.mem_of_getElem? (i := 701) (by decide +kernel)) (by rfl)
set_option maxRecDepth 100000 in
theorem w_702 : (Cond.code ⟨"AuditDrawsModel", "best", "(II)I"⟩ prog_7_method_26_code 6 (some .int) : Cond) ∈ ad_T := ad_in (List.mem_of_getElem? (i := 702) rfl) (by rfl)
theorem w_703 : (Cond.methodLink "AuditDrawsLaw" 122 ⟨"AuditDrawsModel", "seen", "(II)I"⟩ : Cond) ∈ ad_T := ad_in (List.mem_of_getElem? (i := 703) (by decide +kernel)) (by rfl)
theorem w_704 : (Cond.instanceMethod ⟨"AuditDrawsModel", "seen", "(II)I"⟩ : Cond) ∈ ad_T := ad_in (List.mem_of_getElem? (i := 704) (by decide +kernel)) (by rfl)
theorem w_705 : (Cond.selects "AuditDrawsModel" ⟨"AuditDrawsModel", "seen", "(II)I"⟩ ⟨"AuditDrawsModel", "seen", "(II)I"⟩ : Cond) ∈ ad_T := ad_in (List.mem_of_getElem? (i := 705) (by decide +kernel)) (by rfl)
set_option maxRecDepth 100000 in
theorem w_706 : (Cond.code ⟨"AuditDrawsModel", "seen", "(II)I"⟩ prog_7_method_28_code 4 (some .int) : Cond) ∈ ad_T := ad_in (List.mem_of_getElem? (i := 706) rfl) (by rfl)
theorem w_707 : (Cond.methodLink "AuditDrawsLaw" 125 ⟨"AuditDrawsModel", "weight", "(II)I"⟩ : Cond) ∈ ad_T := ad_in (List.mem_of_getElem? (i := 707) (by decide +kernel)) (by rfl)
theorem w_708 : (Cond.instanceMethod ⟨"AuditDrawsModel", "weight", "(II)I"⟩ : Cond) ∈ ad_T := ad_in (List.mem_of_getElem? (i := 708) (by decide +kernel)) (by rfl)
theorem w_709 : (Cond.selects "AuditDrawsModel" ⟨"AuditDrawsModel", "weight", "(II)I"⟩ ⟨"AuditDrawsModel", "weight", "(II)I"⟩ : Cond) ∈ ad_T := ad_in (List.mem_of_getElem? (i := 709) (by decide +kernel)) (by rfl)
set_option maxRecDepth 100000 in
theorem w_710 : (Cond.code ⟨"AuditDrawsModel", "weight", "(II)I"⟩ prog_7_method_29_code 4 (some .int) : Cond) ∈ ad_T := ad_in (List.mem_of_getElem? (i := 710) rfl) (by rfl)
theorem w_711 : (Cond.constantLong "AuditDrawsModel" 122 1000000000 : Cond) ∈ ad_T := ad_in (List.mem_of_getElem? (i := 711) (by decide +kernel)) (by rfl)
theorem w_712 : (Cond.methodLink "AuditDrawsLaw" 128 ⟨"AuditDrawsModel", "report", "(II)I"⟩ : Cond) ∈ ad_T := ad_in (List.mem_of_getElem? (i := 712) (by decide +kernel)) (by rfl)
theorem w_713 : (Cond.instanceMethod ⟨"AuditDrawsModel", "report", "(II)I"⟩ : Cond) ∈ ad_T := ad_in (List.mem_of_getElem? (i := 713) (by decide +kernel)) (by rfl)
theorem w_714 : (Cond.selects "AuditDrawsModel" ⟨"AuditDrawsModel", "report", "(II)I"⟩ ⟨"AuditDrawsModel", "report", "(II)I"⟩ : Cond) ∈ ad_T := ad_in (List.mem_of_getElem? (i := 714) (by decide +kernel)) (by rfl)
set_option maxRecDepth 100000 in
theorem w_715 : (Cond.code ⟨"AuditDrawsModel", "report", "(II)I"⟩ prog_7_method_30_code 5 (some .int) : Cond) ∈ ad_T := ad_in (List.mem_of_getElem? (i := 715) rfl) (by rfl)
theorem w_716 : (Cond.constantLong "AuditDrawsModel" 124 3 : Cond) ∈ ad_T := ad_in (List.mem_of_getElem? (i := 716) (by decide +kernel)) (by rfl)
theorem w_717 : (Cond.methodLink "AuditDrawsLaw" 131 ⟨"AuditDrawsModel", "room", "(II)I"⟩ : Cond) ∈ ad_T := ad_in (List.mem_of_getElem? (i := 717) (by decide +kernel)) (by rfl)
theorem w_718 : (Cond.instanceMethod ⟨"AuditDrawsModel", "room", "(II)I"⟩ : Cond) ∈ ad_T := ad_in (List.mem_of_getElem? (i := 718) (by decide +kernel)) (by rfl)
theorem w_719 : (Cond.selects "AuditDrawsModel" ⟨"AuditDrawsModel", "room", "(II)I"⟩ ⟨"AuditDrawsModel", "room", "(II)I"⟩ : Cond) ∈ ad_T := ad_in (List.mem_of_getElem? (i := 719) (by decide +kernel)) (by rfl)
set_option maxRecDepth 100000 in
theorem w_720 : (Cond.code ⟨"AuditDrawsModel", "room", "(II)I"⟩ prog_7_method_31_code 5 (some .int) : Cond) ∈ ad_T := ad_in (List.mem_of_getElem? (i := 720) rfl) (by rfl)
theorem w_721 : (Cond.constantLong "AuditDrawsLaw" 70 4294967295 : Cond) ∈ ad_T := ad_in (List.mem_of_getElem? (i := 721) (by decide +kernel)) (by rfl)
theorem w_722 : (Cond.arrayClass .long : Cond) ∈ ad_T := ad_in (List.mem_of_getElem? (i := 722) (by decide +kernel)) (by rfl)
theorem w_723 : (Cond.sameMethod "java/lang/Throwable" "java/lang/Throwable" "fillInStackTrace" "(I)Ljava/lang/Throwable;" : Cond) ∈ ad_T := ad_in (List.mem_of_getElem? (i := 723) (by decide +kernel)) (by rfl)
theorem w_724 : (Cond.castable "AuditDraws$Thing" "AuditDraws$Thing" : Cond) ∈ ad_T := ad_in (List.mem_of_getElem? (i := 724) (by decide +kernel)) (by rfl)
theorem w_725 : (Cond.castable "AuditDraws$Sighting" "AuditDraws$Sighting" : Cond) ∈ ad_T := ad_in (List.mem_of_getElem? (i := 725) (by decide +kernel)) (by rfl)
theorem w_726 : (Cond.sameMethod "[Ljava/lang/Object;" "java/lang/Object" "getClass" "()Ljava/lang/Class;" : Cond) ∈ ad_T := ad_in (List.mem_of_getElem? (i := 726) (by decide +kernel)) (by rfl)
theorem w_727 : (Cond.selects "[Ljava/lang/Object;" ⟨"java/lang/Object", "getClass", "()Ljava/lang/Class;"⟩ ⟨"java/lang/Object", "getClass", "()Ljava/lang/Class;"⟩ : Cond) ∈ ad_T := ad_in (List.mem_of_getElem? (i := 727) (by decide +kernel)) (by rfl)
theorem w_728 : (Cond.declares ⟨"java/lang/Object", "getClass", "()Ljava/lang/Class;"⟩ : Cond) ∈ ad_T := ad_in (List.mem_of_getElem? (i := 728) (by decide +kernel)) (by rfl)
theorem w_729 : (Cond.castable "AuditDraws" "java/lang/Object" : Cond) ∈ ad_T := ad_in (List.mem_of_getElem? (i := 729) (by decide +kernel)) (by rfl)
theorem w_730 : (Cond.castable "AuditDraws$Draw" "java/lang/Object" : Cond) ∈ ad_T := ad_in (List.mem_of_getElem? (i := 730) (by decide +kernel)) (by rfl)
theorem w_731 : (Cond.castable "AuditDrawsModel" "java/lang/Object" : Cond) ∈ ad_T := ad_in (List.mem_of_getElem? (i := 731) (by decide +kernel)) (by rfl)
theorem w_732 : (Cond.castable "AuditDraws$Thing" "java/lang/Object" : Cond) ∈ ad_T := ad_in (List.mem_of_getElem? (i := 732) (by decide +kernel)) (by rfl)
theorem w_733 : (Cond.castable "AuditDraws$Sighting" "java/lang/Object" : Cond) ∈ ad_T := ad_in (List.mem_of_getElem? (i := 733) (by decide +kernel)) (by rfl)
theorem w_734 : (Cond.castable "java/lang/String" "java/lang/Object" : Cond) ∈ ad_T := ad_in (List.mem_of_getElem? (i := 734) (by decide +kernel)) (by rfl)
theorem sp_AL_add3 : Cond.selects "java/util/ArrayList" y_AL_add3 y_AL_add3 ∈ ad_T := ad_inS (List.mem_of_getElem? (i := 1) (by decide +kernel)) (by rfl)
theorem sp_AL_grow : Cond.selects "java/util/ArrayList" y_AL_grow y_AL_grow ∈ ad_T := ad_inS (List.mem_of_getElem? (i := 2) (by decide +kernel)) (by rfl)
theorem sp_AL_grow1 : Cond.selects "java/util/ArrayList" y_AL_grow1 y_AL_grow1 ∈ ad_T := ad_inS (List.mem_of_getElem? (i := 3) (by decide +kernel)) (by rfl)
theorem sp_A_forgetLatest : Cond.selects "AuditDraws" y_A_forgetLatest y_A_forgetLatest ∈ ad_T := ad_inS (List.mem_of_getElem? (i := 4) (by decide +kernel)) (by rfl)
theorem sp_A_shareOut : Cond.selects "AuditDraws" y_A_shareOut y_A_shareOut ∈ ad_T := ad_inS (List.mem_of_getElem? (i := 5) (by decide +kernel)) (by rfl)
theorem sp_A_giveRoundedDown : Cond.selects "AuditDraws" y_A_giveRoundedDown y_A_giveRoundedDown ∈ ad_T := ad_inS (List.mem_of_getElem? (i := 6) (by decide +kernel)) (by rfl)
theorem sp_A_countThings : Cond.selects "AuditDraws" y_A_countThings y_A_countThings ∈ ad_T := ad_inS (List.mem_of_getElem? (i := 7) (by decide +kernel)) (by rfl)
theorem sp_A_giveOneByGreatestRest : Cond.selects "AuditDraws" y_A_giveOneByGreatestRest y_A_giveOneByGreatestRest ∈ ad_T := ad_inS (List.mem_of_getElem? (i := 8) (by decide +kernel)) (by rfl)
theorem sp_A_layRow : Cond.selects "AuditDraws" y_A_layRow y_A_layRow ∈ ad_T := ad_inS (List.mem_of_getElem? (i := 9) (by decide +kernel)) (by rfl)
theorem sp_A_takeFromRow : Cond.selects "AuditDraws" y_A_takeFromRow y_A_takeFromRow ∈ ad_T := ad_inS (List.mem_of_getElem? (i := 10) (by decide +kernel)) (by rfl)
theorem sp_A_existing : Cond.selects "AuditDraws" y_A_existing y_A_existing ∈ ad_T := ad_inS (List.mem_of_getElem? (i := 11) (by decide +kernel)) (by rfl)
theorem sp_A_countChecked : Cond.selects "AuditDraws" y_A_countChecked y_A_countChecked ∈ ad_T := ad_inS (List.mem_of_getElem? (i := 12) (by decide +kernel)) (by rfl)
theorem sp_A_countListed : Cond.selects "AuditDraws" y_A_countListed y_A_countListed ∈ ad_T := ad_inS (List.mem_of_getElem? (i := 13) (by decide +kernel)) (by rfl)
theorem sp_A_countMissed : Cond.selects "AuditDraws" y_A_countMissed y_A_countMissed ∈ ad_T := ad_inS (List.mem_of_getElem? (i := 14) (by decide +kernel)) (by rfl)
theorem sp_M_fails : Cond.selects "AuditDrawsModel" y_M_fails y_M_fails ∈ ad_T := ad_inS (List.mem_of_getElem? (i := 15) (by decide +kernel)) (by rfl)
theorem sp_M_divide : Cond.selects "AuditDrawsModel" y_M_divide y_M_divide ∈ ad_T := ad_inS (List.mem_of_getElem? (i := 16) (by decide +kernel)) (by rfl)
theorem sp_M_size : Cond.selects "AuditDrawsModel" y_M_size y_M_size ∈ ad_T := ad_inS (List.mem_of_getElem? (i := 17) (by decide +kernel)) (by rfl)
theorem sp_M_rest : Cond.selects "AuditDrawsModel" y_M_rest y_M_rest ∈ ad_T := ad_inS (List.mem_of_getElem? (i := 18) (by decide +kernel)) (by rfl)
theorem sp_M_drawFrom : Cond.selects "AuditDrawsModel" y_M_drawFrom y_M_drawFrom ∈ ad_T := ad_inS (List.mem_of_getElem? (i := 19) (by decide +kernel)) (by rfl)
theorem sp_M_draw : Cond.selects "AuditDrawsModel" y_M_draw y_M_draw ∈ ad_T := ad_inS (List.mem_of_getElem? (i := 20) (by decide +kernel)) (by rfl)
theorem sp_M_isThing : Cond.selects "AuditDrawsModel" y_M_isThing y_M_isThing ∈ ad_T := ad_inS (List.mem_of_getElem? (i := 21) (by decide +kernel)) (by rfl)
theorem sp_M_many : Cond.selects "AuditDrawsModel" y_M_many y_M_many ∈ ad_T := ad_inS (List.mem_of_getElem? (i := 22) (by decide +kernel)) (by rfl)
theorem sp_M_best : Cond.selects "AuditDrawsModel" y_M_best y_M_best ∈ ad_T := ad_inS (List.mem_of_getElem? (i := 23) (by decide +kernel)) (by rfl)
