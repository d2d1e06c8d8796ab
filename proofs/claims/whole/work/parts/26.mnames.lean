abbrev b_Mod_init : ByteArray := prog_4_method_1_code
def y_Mod_init : MethodName := ⟨R_Mod, "<init>", "()V"⟩
def w_Mod_init : List Cond := .code y_Mod_init b_Mod_init 1 (none) :: wsA
abbrev b_Mod_thrown : ByteArray := prog_4_method_2_code
def y_Mod_thrown : MethodName := ⟨R_Mod, "thrown", "()I"⟩
def w_Mod_thrown : List Cond := .code y_Mod_thrown b_Mod_thrown 1 (some .int) :: wsA
abbrev b_Mod_put : ByteArray := prog_4_method_21_code
def y_Mod_put : MethodName := ⟨R_Mod, "put", "(III)Z"⟩
def w_Mod_put : List Cond := .code y_Mod_put b_Mod_put 5 (some .boolean) :: wsA
abbrev b_Mod_isMap : ByteArray := prog_4_method_4_code
def y_Mod_isMap : MethodName := ⟨R_Mod, "isMap", "(I)Z"⟩
def w_Mod_isMap : List Cond := .code y_Mod_isMap b_Mod_isMap 2 (some .boolean) :: wsA
abbrev b_Mod_within : ByteArray := prog_4_method_3_code
def y_Mod_within : MethodName := ⟨R_Mod, "within", "(III)Z"⟩
def w_Mod_within : List Cond := .code y_Mod_within b_Mod_within 3 (some .boolean) :: wsA
abbrev b_Mod_placeOf : ByteArray := prog_4_method_7_code
def y_Mod_placeOf : MethodName := ⟨R_Mod, "placeOf", "(II)I"⟩
def w_Mod_placeOf : List Cond := .code y_Mod_placeOf b_Mod_placeOf 5 (some .int) :: wsA
abbrev b_Mod_insert : ByteArray := prog_4_method_12_code
def y_Mod_insert : MethodName := ⟨R_Mod, "insert", "(III)Z"⟩
def w_Mod_insert : List Cond := .code y_Mod_insert b_Mod_insert 8 (some .boolean) :: wsA
abbrev b_Mod_homeOf : ByteArray := prog_4_method_5_code
def y_Mod_homeOf : MethodName := ⟨R_Mod, "homeOf", "(II)I"⟩
def w_Mod_homeOf : List Cond := .code y_Mod_homeOf b_Mod_homeOf 3 (some .int) :: wsA
abbrev b_Mod_behind : ByteArray := prog_4_method_6_code
def y_Mod_behind : MethodName := ⟨R_Mod, "behind", "(III)I"⟩
def w_Mod_behind : List Cond := .code y_Mod_behind b_Mod_behind 4 (some .int) :: wsA
abbrev b_Mod_mover : ByteArray := prog_4_method_11_code
def y_Mod_mover : MethodName := ⟨R_Mod, "mover", "(II)I"⟩
def w_Mod_mover : List Cond := .code y_Mod_mover b_Mod_mover 7 (some .int) :: wsA
abbrev b_Mod_move : ByteArray := prog_4_method_10_code
def y_Mod_move : MethodName := ⟨R_Mod, "move", "(III)V"⟩
def w_Mod_move : List Cond := .code y_Mod_move b_Mod_move 6 (none) :: wsA
abbrev b_Mod_hold : ByteArray := prog_4_method_14_code
def y_Mod_hold : MethodName := ⟨R_Mod, "hold", "(I)V"⟩
def w_Mod_hold : List Cond := .code y_Mod_hold b_Mod_hold 3 (none) :: wsA
abbrev b_Mod_grow : ByteArray := prog_4_method_20_code
def y_Mod_grow : MethodName := ⟨R_Mod, "grow", "(I)Z"⟩
def w_Mod_grow : List Cond := .code y_Mod_grow b_Mod_grow 9 (some .boolean) :: wsA
abbrev b_Mod_endOfAll : ByteArray := prog_4_method_18_code
def y_Mod_endOfAll : MethodName := ⟨R_Mod, "endOfAll", "(II)I"⟩
def w_Mod_endOfAll : List Cond := .code y_Mod_endOfAll b_Mod_endOfAll 6 (some .int) :: wsA
abbrev b_Mod_endOf : ByteArray := prog_4_method_17_code
def y_Mod_endOf : MethodName := ⟨R_Mod, "endOf", "(III)I"⟩
def w_Mod_endOf : List Cond := .code y_Mod_endOf b_Mod_endOf 4 (some .int) :: wsA
abbrev b_Mod_pushTogether : ByteArray := prog_4_method_19_code
def y_Mod_pushTogether : MethodName := ⟨R_Mod, "pushTogether", "(II)V"⟩
def w_Mod_pushTogether : List Cond := .code y_Mod_pushTogether b_Mod_pushTogether 7 (none) :: wsA
abbrev b_Mod_nextFrom : ByteArray := prog_4_method_16_code
def y_Mod_nextFrom : MethodName := ⟨R_Mod, "nextFrom", "(I)I"⟩
def w_Mod_nextFrom : List Cond := .code y_Mod_nextFrom b_Mod_nextFrom 5 (some .int) :: wsA
abbrev b_Mod_empty : ByteArray := prog_4_method_13_code
def y_Mod_empty : MethodName := ⟨R_Mod, "empty", "(I)V"⟩
def w_Mod_empty : List Cond := .code y_Mod_empty b_Mod_empty 3 (none) :: wsA
abbrev b_Mod_putBack : ByteArray := prog_4_method_15_code
def y_Mod_putBack : MethodName := ⟨R_Mod, "putBack", "(III)V"⟩
def w_Mod_putBack : List Cond := .code y_Mod_putBack b_Mod_putBack 5 (none) :: wsA
abbrev b_Mod_get : ByteArray := prog_4_method_23_code
def y_Mod_get : MethodName := ⟨R_Mod, "get", "(II)I"⟩
def w_Mod_get : List Cond := .code y_Mod_get b_Mod_get 4 (some .int) :: wsA
abbrev b_Mod_find : ByteArray := prog_4_method_22_code
def y_Mod_find : MethodName := ⟨R_Mod, "find", "(II)I"⟩
def w_Mod_find : List Cond := .code y_Mod_find b_Mod_find 4 (some .int) :: wsA
abbrev b_Mod_remove : ByteArray := prog_4_method_24_code
def y_Mod_remove : MethodName := ⟨R_Mod, "remove", "(II)I"⟩
def w_Mod_remove : List Cond := .code y_Mod_remove b_Mod_remove 4 (some .int) :: wsA
abbrev b_Mod_has : ByteArray := prog_4_method_25_code
def y_Mod_has : MethodName := ⟨R_Mod, "has", "(II)Z"⟩
def w_Mod_has : List Cond := .code y_Mod_has b_Mod_has 3 (some .boolean) :: wsA
abbrev b_Mod_size : ByteArray := prog_4_method_27_code
def y_Mod_size : MethodName := ⟨R_Mod, "size", "(I)I"⟩
def w_Mod_size : List Cond := .code y_Mod_size b_Mod_size 2 (some .int) :: wsA
abbrev b_Mod_sizeOf : ByteArray := prog_4_method_26_code
def y_Mod_sizeOf : MethodName := ⟨R_Mod, "sizeOf", "(I)I"⟩
def w_Mod_sizeOf : List Cond := .code y_Mod_sizeOf b_Mod_sizeOf 4 (some .int) :: wsA
abbrev b_Mod_clear : ByteArray := prog_4_method_28_code
def y_Mod_clear : MethodName := ⟨R_Mod, "clear", "(I)I"⟩
def w_Mod_clear : List Cond := .code y_Mod_clear b_Mod_clear 3 (some .int) :: wsA
abbrev b_Mod_about : ByteArray := prog_4_method_29_code
def y_Mod_about : MethodName := ⟨R_Mod, "about", "(II)I"⟩
def w_Mod_about : List Cond := .code y_Mod_about b_Mod_about 3 (some .int) :: wsA
abbrev b_Mod_home : ByteArray := prog_4_method_30_code
def y_Mod_home : MethodName := ⟨R_Mod, "home", "(II)I"⟩
def w_Mod_home : List Cond := .code y_Mod_home b_Mod_home 3 (some .int) :: wsA
abbrev b_Mod_distance : ByteArray := prog_4_method_31_code
def y_Mod_distance : MethodName := ⟨R_Mod, "distance", "(II)I"⟩
def w_Mod_distance : List Cond := .code y_Mod_distance b_Mod_distance 4 (some .int) :: wsA
abbrev b_Mod_distanceAt : ByteArray := prog_4_method_8_code
def y_Mod_distanceAt : MethodName := ⟨R_Mod, "distanceAt", "(II)I"⟩
def w_Mod_distanceAt : List Cond := .code y_Mod_distanceAt b_Mod_distanceAt 4 (some .int) :: wsA
abbrev b_Mod_bits : ByteArray := prog_4_method_33_code
def y_Mod_bits : MethodName := ⟨R_Mod, "bits", "(II)I"⟩
def w_Mod_bits : List Cond := .code y_Mod_bits b_Mod_bits 3 (some .int) :: wsA
abbrev b_Mod_isPlace : ByteArray := prog_4_method_32_code
def y_Mod_isPlace : MethodName := ⟨R_Mod, "isPlace", "(II)Z"⟩
def w_Mod_isPlace : List Cond := .code y_Mod_isPlace b_Mod_isPlace 3 (some .boolean) :: wsA
abbrev b_Mod_bitsOf : ByteArray := prog_4_method_9_code
def y_Mod_bitsOf : MethodName := ⟨R_Mod, "bitsOf", "(II)I"⟩
def w_Mod_bitsOf : List Cond := .code y_Mod_bitsOf b_Mod_bitsOf 7 (some .int) :: wsA
abbrev b_Mod_next : ByteArray := prog_4_method_34_code
def y_Mod_next : MethodName := ⟨R_Mod, "next", "(II)I"⟩
def w_Mod_next : List Cond := .code y_Mod_next b_Mod_next 4 (some .int) :: wsA
abbrev b_Mod_key : ByteArray := prog_4_method_35_code
def y_Mod_key : MethodName := ⟨R_Mod, "key", "(II)I"⟩
def w_Mod_key : List Cond := .code y_Mod_key b_Mod_key 3 (some .int) :: wsA
abbrev b_Mod_count : ByteArray := prog_4_method_36_code
def y_Mod_count : MethodName := ⟨R_Mod, "count", "(I)I"⟩
def w_Mod_count : List Cond := .code y_Mod_count b_Mod_count 2 (some .int) :: wsA
def F_Mod : u_T := fun k => match k with
  | 0 => ("HopArenaModel", "code", "I", false)
  | 1 => ("HopArenaModel", "full", "[Z", false)
  | 2 => ("HopArenaModel", "keys", "[I", false)
  | 3 => ("HopArenaModel", "values", "[I", false)
  | 4 => ("HopArenaModel", "capacity", "[I", false)
  | 5 => ("HopArenaModel", "base", "[I", false)
  | 6 => ("HopArenaModel", "seed", "[I", false)
  | 7 => ("HopArenaModel", "counts", "[I", false)
  | 8 => ("HopArenaModel", "held", "I", false)
  | 9 => ("HopArenaModel", "heldKeys", "[I", false)
  | 10 => ("HopArenaModel", "heldValues", "[I", false)
  | 11 => ("HopArenaModel", "oldFull", "[Z", false)
  | 12 => ("HopArenaModel", "oldKeys", "[I", false)
  | _ => ("HopArenaModel", "oldValues", "[I", false)
def t_Mod : Nat → FieldType := fun k => match k with
  | 0 => .int
  | 1 => .array .boolean
  | 2 => .array .int
  | 3 => .array .int
  | 4 => .array .int
  | 5 => .array .int
  | 6 => .array .int
  | 7 => .array .int
  | 8 => .int
  | 9 => .array .int
  | 10 => .array .int
  | 11 => .array .boolean
  | 12 => .array .int
  | _ => .array .int
theorem n_Mod : ∀ a, a < 14 → ∀ b, b < 14 → a ≠ b → (F_Mod a).2.1 ≠ (F_Mod b).2.1 := by decide +kernel
theorem t_Mod_ok : ∀ k, k < 14 → parseFieldDescriptor (F_Mod k).2.2.1 = some (t_Mod k) := by decide +kernel
theorem hin_Mod : ∀ w ∈ u_ws R_Mod F_Mod 14, w ∈ wsA := by decide +kernel
theorem g_Mod_homeOf : GoodIn wsA (wsV R_Mod 56 R_Mod y_Mod_homeOf w_Mod_homeOf) := gV m_488 m_490 m_22 m_42 m_491
theorem g_Mod_behind : GoodIn wsA (wsV R_Mod 60 R_Mod y_Mod_behind w_Mod_behind) := gV m_493 m_495 m_23 m_42 m_496
theorem g_Mod_mover : GoodIn wsA (wsV R_Mod 64 R_Mod y_Mod_mover w_Mod_mover) := gV m_497 m_499 m_24 m_42 m_500
theorem g_Mod_move : GoodIn wsA (wsV R_Mod 67 R_Mod y_Mod_move w_Mod_move) := gV m_501 m_503 m_25 m_42 m_504
theorem g_Mod_endOf : GoodIn wsA (wsV R_Mod 74 R_Mod y_Mod_endOf w_Mod_endOf) := gV m_517 m_519 m_29 m_42 m_520
theorem g_Mod_nextFrom : GoodIn wsA (wsV R_Mod 77 R_Mod y_Mod_nextFrom w_Mod_nextFrom) := gV m_525 m_527 m_31 m_42 m_528
theorem g_Mod_endOfAll : GoodIn wsA (wsV R_Mod 81 R_Mod y_Mod_endOfAll w_Mod_endOfAll) := gV m_513 m_515 m_28 m_42 m_516
theorem g_Mod_pushTogether : GoodIn wsA (wsV R_Mod 84 R_Mod y_Mod_pushTogether w_Mod_pushTogether) := gV m_521 m_523 m_30 m_42 m_524
theorem g_Mod_empty : GoodIn wsA (wsV R_Mod 90 R_Mod y_Mod_empty w_Mod_empty) := gV m_531 m_533 m_32 m_42 m_534
theorem g_Mod_insert : GoodIn wsA (wsV R_Mod 94 R_Mod y_Mod_insert w_Mod_insert) := gV m_484 m_486 m_21 m_42 m_487
theorem g_Mod_putBack : GoodIn wsA (wsV R_Mod 97 R_Mod y_Mod_putBack w_Mod_putBack) := gV m_535 m_537 m_33 m_42 m_538
theorem g_Mod_isMap : GoodIn wsA (wsV R_Mod 100 R_Mod y_Mod_isMap w_Mod_isMap) := gV m_473 m_475 m_19 m_42 m_476
theorem g_Mod_placeOf : GoodIn wsA (wsV R_Mod 104 R_Mod y_Mod_placeOf w_Mod_placeOf) := gV m_480 m_482 m_20 m_42 m_483
theorem g_Mod_hold : GoodIn wsA (wsV R_Mod 107 R_Mod y_Mod_hold w_Mod_hold) := gV m_505 m_507 m_26 m_42 m_508
theorem g_Mod_grow : GoodIn wsA (wsV R_Mod 110 R_Mod y_Mod_grow w_Mod_grow) := gV m_509 m_511 m_27 m_42 m_512
theorem g_Mod_find : GoodIn wsA (wsV R_Mod 113 R_Mod y_Mod_find w_Mod_find) := gV m_543 m_545 m_34 m_42 m_546
theorem g_Mod_sizeOf : GoodIn wsA (wsV R_Mod 116 R_Mod y_Mod_sizeOf w_Mod_sizeOf) := gV m_559 m_561 m_35 m_42 m_562
theorem g_Mod_distanceAt : GoodIn wsA (wsV R_Mod 119 R_Mod y_Mod_distanceAt w_Mod_distanceAt) := gV m_579 m_581 m_36 m_42 m_582
theorem g_Mod_isPlace : GoodIn wsA (wsV R_Mod 122 R_Mod y_Mod_isPlace w_Mod_isPlace) := gV m_587 m_589 m_37 m_42 m_590
theorem g_Mod_bitsOf : GoodIn wsA (wsV R_Mod 126 R_Mod y_Mod_bitsOf w_Mod_bitsOf) := gV m_591 m_593 m_38 m_42 m_594
theorem g_Mod_within : GoodIn wsA (wsS R_Mod 51 y_Mod_within w_Mod_within) := gS m_477 m_478 m_42 m_479
theorem d_Mod_init_0 : decode b_Mod_init 0 = .ok (.aload_n 0, 1) := by decide +kernel
theorem d_Mod_init_1 : decode b_Mod_init 1 = .ok (.invokespecial 1, 3) := by decide +kernel
theorem d_Mod_init_4 : decode b_Mod_init 4 = .ok (.aload_n 0, 1) := by decide +kernel
theorem d_Mod_init_5 : decode b_Mod_init 5 = .ok (.sipush 384, 3) := by decide +kernel
theorem d_Mod_init_8 : decode b_Mod_init 8 = .ok (.newarray .boolean, 2) := by decide +kernel
theorem d_Mod_init_10 : decode b_Mod_init 10 = .ok (.putfield 7, 3) := by decide +kernel
theorem d_Mod_init_13 : decode b_Mod_init 13 = .ok (.aload_n 0, 1) := by decide +kernel
theorem d_Mod_init_14 : decode b_Mod_init 14 = .ok (.sipush 384, 3) := by decide +kernel
theorem d_Mod_init_17 : decode b_Mod_init 17 = .ok (.newarray .int, 2) := by decide +kernel
theorem d_Mod_init_19 : decode b_Mod_init 19 = .ok (.putfield 13, 3) := by decide +kernel
theorem d_Mod_init_22 : decode b_Mod_init 22 = .ok (.aload_n 0, 1) := by decide +kernel
theorem d_Mod_init_23 : decode b_Mod_init 23 = .ok (.sipush 384, 3) := by decide +kernel
theorem d_Mod_init_26 : decode b_Mod_init 26 = .ok (.newarray .int, 2) := by decide +kernel
theorem d_Mod_init_28 : decode b_Mod_init 28 = .ok (.putfield 17, 3) := by decide +kernel
theorem d_Mod_init_31 : decode b_Mod_init 31 = .ok (.aload_n 0, 1) := by decide +kernel
theorem d_Mod_init_32 : decode b_Mod_init 32 = .ok (.iconst 3, 1) := by decide +kernel
theorem d_Mod_init_33 : decode b_Mod_init 33 = .ok (.newarray .int, 2) := by decide +kernel
theorem d_Mod_init_35 : decode b_Mod_init 35 = .ok (.dup, 1) := by decide +kernel
theorem d_Mod_init_36 : decode b_Mod_init 36 = .ok (.iconst 0, 1) := by decide +kernel
theorem d_Mod_init_37 : decode b_Mod_init 37 = .ok (.bipush 8, 2) := by decide +kernel
theorem d_Mod_init_39 : decode b_Mod_init 39 = .ok (.iastore, 1) := by decide +kernel
theorem d_Mod_init_40 : decode b_Mod_init 40 = .ok (.dup, 1) := by decide +kernel
theorem d_Mod_init_41 : decode b_Mod_init 41 = .ok (.iconst 1, 1) := by decide +kernel
theorem d_Mod_init_42 : decode b_Mod_init 42 = .ok (.bipush 8, 2) := by decide +kernel
theorem d_Mod_init_44 : decode b_Mod_init 44 = .ok (.iastore, 1) := by decide +kernel
theorem d_Mod_init_45 : decode b_Mod_init 45 = .ok (.dup, 1) := by decide +kernel
theorem d_Mod_init_46 : decode b_Mod_init 46 = .ok (.iconst 2, 1) := by decide +kernel
theorem d_Mod_init_47 : decode b_Mod_init 47 = .ok (.bipush 8, 2) := by decide +kernel
theorem d_Mod_init_49 : decode b_Mod_init 49 = .ok (.iastore, 1) := by decide +kernel
theorem d_Mod_init_50 : decode b_Mod_init 50 = .ok (.putfield 20, 3) := by decide +kernel
theorem d_Mod_init_53 : decode b_Mod_init 53 = .ok (.aload_n 0, 1) := by decide +kernel
theorem d_Mod_init_54 : decode b_Mod_init 54 = .ok (.iconst 3, 1) := by decide +kernel
theorem d_Mod_init_55 : decode b_Mod_init 55 = .ok (.newarray .int, 2) := by decide +kernel
theorem d_Mod_init_57 : decode b_Mod_init 57 = .ok (.dup, 1) := by decide +kernel
theorem d_Mod_init_58 : decode b_Mod_init 58 = .ok (.iconst 0, 1) := by decide +kernel
theorem d_Mod_init_59 : decode b_Mod_init 59 = .ok (.iconst 0, 1) := by decide +kernel
theorem d_Mod_init_60 : decode b_Mod_init 60 = .ok (.iastore, 1) := by decide +kernel
theorem d_Mod_init_61 : decode b_Mod_init 61 = .ok (.dup, 1) := by decide +kernel
theorem d_Mod_init_62 : decode b_Mod_init 62 = .ok (.iconst 1, 1) := by decide +kernel
theorem d_Mod_init_63 : decode b_Mod_init 63 = .ok (.bipush 8, 2) := by decide +kernel
theorem d_Mod_init_65 : decode b_Mod_init 65 = .ok (.iastore, 1) := by decide +kernel
theorem d_Mod_init_66 : decode b_Mod_init 66 = .ok (.dup, 1) := by decide +kernel
theorem d_Mod_init_67 : decode b_Mod_init 67 = .ok (.iconst 2, 1) := by decide +kernel
theorem d_Mod_init_68 : decode b_Mod_init 68 = .ok (.bipush 16, 2) := by decide +kernel
theorem d_Mod_init_70 : decode b_Mod_init 70 = .ok (.iastore, 1) := by decide +kernel
theorem d_Mod_init_71 : decode b_Mod_init 71 = .ok (.putfield 23, 3) := by decide +kernel
theorem d_Mod_init_74 : decode b_Mod_init 74 = .ok (.aload_n 0, 1) := by decide +kernel
theorem d_Mod_init_75 : decode b_Mod_init 75 = .ok (.iconst 3, 1) := by decide +kernel
theorem d_Mod_init_76 : decode b_Mod_init 76 = .ok (.newarray .int, 2) := by decide +kernel
theorem d_Mod_init_78 : decode b_Mod_init 78 = .ok (.dup, 1) := by decide +kernel
theorem d_Mod_init_79 : decode b_Mod_init 79 = .ok (.iconst 0, 1) := by decide +kernel
theorem d_Mod_init_80 : decode b_Mod_init 80 = .ok (.iconst 1, 1) := by decide +kernel
theorem d_Mod_init_81 : decode b_Mod_init 81 = .ok (.iastore, 1) := by decide +kernel
theorem d_Mod_init_82 : decode b_Mod_init 82 = .ok (.dup, 1) := by decide +kernel
theorem d_Mod_init_83 : decode b_Mod_init 83 = .ok (.iconst 1, 1) := by decide +kernel
theorem d_Mod_init_84 : decode b_Mod_init 84 = .ok (.iconst 2, 1) := by decide +kernel
theorem d_Mod_init_85 : decode b_Mod_init 85 = .ok (.iastore, 1) := by decide +kernel
theorem d_Mod_init_86 : decode b_Mod_init 86 = .ok (.dup, 1) := by decide +kernel
theorem d_Mod_init_87 : decode b_Mod_init 87 = .ok (.iconst 2, 1) := by decide +kernel
theorem d_Mod_init_88 : decode b_Mod_init 88 = .ok (.iconst 3, 1) := by decide +kernel
theorem d_Mod_init_89 : decode b_Mod_init 89 = .ok (.iastore, 1) := by decide +kernel
theorem d_Mod_init_90 : decode b_Mod_init 90 = .ok (.putfield 26, 3) := by decide +kernel
theorem d_Mod_init_93 : decode b_Mod_init 93 = .ok (.aload_n 0, 1) := by decide +kernel
theorem d_Mod_init_94 : decode b_Mod_init 94 = .ok (.iconst 3, 1) := by decide +kernel
theorem d_Mod_init_95 : decode b_Mod_init 95 = .ok (.newarray .int, 2) := by decide +kernel
theorem d_Mod_init_97 : decode b_Mod_init 97 = .ok (.putfield 29, 3) := by decide +kernel
theorem d_Mod_init_100 : decode b_Mod_init 100 = .ok (.aload_n 0, 1) := by decide +kernel
theorem d_Mod_init_101 : decode b_Mod_init 101 = .ok (.sipush 129, 3) := by decide +kernel
theorem d_Mod_init_104 : decode b_Mod_init 104 = .ok (.newarray .int, 2) := by decide +kernel
theorem d_Mod_init_106 : decode b_Mod_init 106 = .ok (.putfield 32, 3) := by decide +kernel
theorem d_Mod_init_109 : decode b_Mod_init 109 = .ok (.aload_n 0, 1) := by decide +kernel
theorem d_Mod_init_110 : decode b_Mod_init 110 = .ok (.sipush 129, 3) := by decide +kernel
theorem d_Mod_init_113 : decode b_Mod_init 113 = .ok (.newarray .int, 2) := by decide +kernel
theorem d_Mod_init_115 : decode b_Mod_init 115 = .ok (.putfield 35, 3) := by decide +kernel
theorem d_Mod_init_118 : decode b_Mod_init 118 = .ok (.aload_n 0, 1) := by decide +kernel
theorem d_Mod_init_119 : decode b_Mod_init 119 = .ok (.sipush 128, 3) := by decide +kernel
theorem d_Mod_init_122 : decode b_Mod_init 122 = .ok (.newarray .boolean, 2) := by decide +kernel
theorem d_Mod_init_124 : decode b_Mod_init 124 = .ok (.putfield 38, 3) := by decide +kernel
theorem d_Mod_init_127 : decode b_Mod_init 127 = .ok (.aload_n 0, 1) := by decide +kernel
theorem d_Mod_init_128 : decode b_Mod_init 128 = .ok (.sipush 128, 3) := by decide +kernel
theorem d_Mod_init_131 : decode b_Mod_init 131 = .ok (.newarray .int, 2) := by decide +kernel
theorem d_Mod_init_133 : decode b_Mod_init 133 = .ok (.putfield 41, 3) := by decide +kernel
theorem d_Mod_init_136 : decode b_Mod_init 136 = .ok (.aload_n 0, 1) := by decide +kernel
theorem d_Mod_init_137 : decode b_Mod_init 137 = .ok (.sipush 128, 3) := by decide +kernel
theorem d_Mod_init_140 : decode b_Mod_init 140 = .ok (.newarray .int, 2) := by decide +kernel
theorem d_Mod_init_142 : decode b_Mod_init 142 = .ok (.putfield 44, 3) := by decide +kernel
theorem d_Mod_init_145 : decode b_Mod_init 145 = .ok (.return_, 1) := by decide +kernel
theorem d_Mod_thrown_0 : decode b_Mod_thrown 0 = .ok (.aload_n 0, 1) := by decide +kernel
theorem d_Mod_thrown_1 : decode b_Mod_thrown 1 = .ok (.getfield 47, 3) := by decide +kernel
theorem d_Mod_thrown_4 : decode b_Mod_thrown 4 = .ok (.ireturn, 1) := by decide +kernel
theorem d_Mod_within_0 : decode b_Mod_within 0 = .ok (.iload_n 0, 1) := by decide +kernel
theorem d_Mod_within_1 : decode b_Mod_within 1 = .ok (.iload_n 1, 1) := by decide +kernel
theorem d_Mod_within_2 : decode b_Mod_within 2 = .ok (.if_icmp .lt 12, 3) := by decide +kernel
theorem d_Mod_within_5 : decode b_Mod_within 5 = .ok (.iload_n 0, 1) := by decide +kernel
theorem d_Mod_within_6 : decode b_Mod_within 6 = .ok (.iload_n 2, 1) := by decide +kernel
theorem d_Mod_within_7 : decode b_Mod_within 7 = .ok (.if_icmp .gt 7, 3) := by decide +kernel
theorem d_Mod_within_10 : decode b_Mod_within 10 = .ok (.iconst 1, 1) := by decide +kernel
theorem d_Mod_within_11 : decode b_Mod_within 11 = .ok (.goto 4, 3) := by decide +kernel
theorem d_Mod_within_14 : decode b_Mod_within 14 = .ok (.iconst 0, 1) := by decide +kernel
theorem d_Mod_within_15 : decode b_Mod_within 15 = .ok (.ireturn, 1) := by decide +kernel
theorem d_Mod_isMap_0 : decode b_Mod_isMap 0 = .ok (.aload_n 0, 1) := by decide +kernel
theorem d_Mod_isMap_1 : decode b_Mod_isMap 1 = .ok (.iload_n 1, 1) := by decide +kernel
theorem d_Mod_isMap_2 : decode b_Mod_isMap 2 = .ok (.iconst 0, 1) := by decide +kernel
theorem d_Mod_isMap_3 : decode b_Mod_isMap 3 = .ok (.iconst 2, 1) := by decide +kernel
theorem d_Mod_isMap_4 : decode b_Mod_isMap 4 = .ok (.invokestatic 51, 3) := by decide +kernel
theorem d_Mod_isMap_7 : decode b_Mod_isMap 7 = .ok (.ifCond .eq 7, 3) := by decide +kernel
theorem d_Mod_isMap_10 : decode b_Mod_isMap 10 = .ok (.iconst 0, 1) := by decide +kernel
theorem d_Mod_isMap_11 : decode b_Mod_isMap 11 = .ok (.goto 4, 3) := by decide +kernel
theorem d_Mod_isMap_14 : decode b_Mod_isMap 14 = .ok (.iconst 1, 1) := by decide +kernel
theorem d_Mod_isMap_15 : decode b_Mod_isMap 15 = .ok (.putfield 47, 3) := by decide +kernel
theorem d_Mod_isMap_18 : decode b_Mod_isMap 18 = .ok (.aload_n 0, 1) := by decide +kernel
theorem d_Mod_isMap_19 : decode b_Mod_isMap 19 = .ok (.getfield 47, 3) := by decide +kernel
theorem d_Mod_isMap_22 : decode b_Mod_isMap 22 = .ok (.ifCond .ne 7, 3) := by decide +kernel
theorem d_Mod_isMap_25 : decode b_Mod_isMap 25 = .ok (.iconst 1, 1) := by decide +kernel
theorem d_Mod_isMap_26 : decode b_Mod_isMap 26 = .ok (.goto 4, 3) := by decide +kernel
theorem d_Mod_isMap_29 : decode b_Mod_isMap 29 = .ok (.iconst 0, 1) := by decide +kernel
theorem d_Mod_isMap_30 : decode b_Mod_isMap 30 = .ok (.ireturn, 1) := by decide +kernel
theorem d_Mod_homeOf_0 : decode b_Mod_homeOf 0 = .ok (.iload_n 2, 1) := by decide +kernel
theorem d_Mod_homeOf_1 : decode b_Mod_homeOf 1 = .ok (.aload_n 0, 1) := by decide +kernel
theorem d_Mod_homeOf_2 : decode b_Mod_homeOf 2 = .ok (.getfield 26, 3) := by decide +kernel
theorem d_Mod_homeOf_5 : decode b_Mod_homeOf 5 = .ok (.iload_n 1, 1) := by decide +kernel
theorem d_Mod_homeOf_6 : decode b_Mod_homeOf 6 = .ok (.iaload, 1) := by decide +kernel
theorem d_Mod_homeOf_7 : decode b_Mod_homeOf 7 = .ok (.ixor, 1) := by decide +kernel
theorem d_Mod_homeOf_8 : decode b_Mod_homeOf 8 = .ok (.ldc 55, 2) := by decide +kernel
theorem d_Mod_homeOf_10 : decode b_Mod_homeOf 10 = .ok (.imul, 1) := by decide +kernel
theorem d_Mod_homeOf_11 : decode b_Mod_homeOf 11 = .ok (.bipush 9, 2) := by decide +kernel
theorem d_Mod_homeOf_13 : decode b_Mod_homeOf 13 = .ok (.iushr, 1) := by decide +kernel
theorem d_Mod_homeOf_14 : decode b_Mod_homeOf 14 = .ok (.aload_n 0, 1) := by decide +kernel
theorem d_Mod_homeOf_15 : decode b_Mod_homeOf 15 = .ok (.getfield 20, 3) := by decide +kernel
theorem d_Mod_homeOf_18 : decode b_Mod_homeOf 18 = .ok (.iload_n 1, 1) := by decide +kernel
theorem d_Mod_homeOf_19 : decode b_Mod_homeOf 19 = .ok (.iaload, 1) := by decide +kernel
theorem d_Mod_homeOf_20 : decode b_Mod_homeOf 20 = .ok (.iconst 1, 1) := by decide +kernel
theorem d_Mod_homeOf_21 : decode b_Mod_homeOf 21 = .ok (.isub, 1) := by decide +kernel
theorem d_Mod_homeOf_22 : decode b_Mod_homeOf 22 = .ok (.iand, 1) := by decide +kernel
theorem d_Mod_homeOf_23 : decode b_Mod_homeOf 23 = .ok (.ireturn, 1) := by decide +kernel
theorem d_Mod_behind_0 : decode b_Mod_behind 0 = .ok (.iload_n 2, 1) := by decide +kernel
theorem d_Mod_behind_1 : decode b_Mod_behind 1 = .ok (.iload_n 3, 1) := by decide +kernel
theorem d_Mod_behind_2 : decode b_Mod_behind 2 = .ok (.iadd, 1) := by decide +kernel
theorem d_Mod_behind_3 : decode b_Mod_behind 3 = .ok (.aload_n 0, 1) := by decide +kernel
theorem d_Mod_behind_4 : decode b_Mod_behind 4 = .ok (.getfield 20, 3) := by decide +kernel
theorem d_Mod_behind_7 : decode b_Mod_behind 7 = .ok (.iload_n 1, 1) := by decide +kernel
theorem d_Mod_behind_8 : decode b_Mod_behind 8 = .ok (.iaload, 1) := by decide +kernel
theorem d_Mod_behind_9 : decode b_Mod_behind 9 = .ok (.iconst 1, 1) := by decide +kernel
theorem d_Mod_behind_10 : decode b_Mod_behind 10 = .ok (.isub, 1) := by decide +kernel
theorem d_Mod_behind_11 : decode b_Mod_behind 11 = .ok (.iand, 1) := by decide +kernel
theorem d_Mod_behind_12 : decode b_Mod_behind 12 = .ok (.ireturn, 1) := by decide +kernel
theorem d_Mod_placeOf_0 : decode b_Mod_placeOf 0 = .ok (.iconst (-1), 1) := by decide +kernel
theorem d_Mod_placeOf_1 : decode b_Mod_placeOf 1 = .ok (.istore_n 3, 1) := by decide +kernel
theorem d_Mod_placeOf_2 : decode b_Mod_placeOf 2 = .ok (.iconst 0, 1) := by decide +kernel
theorem d_Mod_placeOf_3 : decode b_Mod_placeOf 3 = .ok (.istore 4, 2) := by decide +kernel
theorem d_Mod_placeOf_5 : decode b_Mod_placeOf 5 = .ok (.iload 4, 2) := by decide +kernel
theorem d_Mod_placeOf_7 : decode b_Mod_placeOf 7 = .ok (.aload_n 0, 1) := by decide +kernel
theorem d_Mod_placeOf_8 : decode b_Mod_placeOf 8 = .ok (.getfield 20, 3) := by decide +kernel
theorem d_Mod_placeOf_11 : decode b_Mod_placeOf 11 = .ok (.iload_n 1, 1) := by decide +kernel
theorem d_Mod_placeOf_12 : decode b_Mod_placeOf 12 = .ok (.iaload, 1) := by decide +kernel
theorem d_Mod_placeOf_13 : decode b_Mod_placeOf 13 = .ok (.if_icmp .ge 49, 3) := by decide +kernel
theorem d_Mod_placeOf_16 : decode b_Mod_placeOf 16 = .ok (.aload_n 0, 1) := by decide +kernel
theorem d_Mod_placeOf_17 : decode b_Mod_placeOf 17 = .ok (.getfield 7, 3) := by decide +kernel
theorem d_Mod_placeOf_20 : decode b_Mod_placeOf 20 = .ok (.sipush 128, 3) := by decide +kernel
theorem d_Mod_placeOf_23 : decode b_Mod_placeOf 23 = .ok (.iload_n 1, 1) := by decide +kernel
theorem d_Mod_placeOf_24 : decode b_Mod_placeOf 24 = .ok (.imul, 1) := by decide +kernel
theorem d_Mod_placeOf_25 : decode b_Mod_placeOf 25 = .ok (.iload 4, 2) := by decide +kernel
theorem d_Mod_placeOf_27 : decode b_Mod_placeOf 27 = .ok (.iadd, 1) := by decide +kernel
theorem d_Mod_placeOf_28 : decode b_Mod_placeOf 28 = .ok (.baload, 1) := by decide +kernel
theorem d_Mod_placeOf_29 : decode b_Mod_placeOf 29 = .ok (.ifCond .eq 25, 3) := by decide +kernel
theorem d_Mod_placeOf_32 : decode b_Mod_placeOf 32 = .ok (.aload_n 0, 1) := by decide +kernel
theorem d_Mod_placeOf_33 : decode b_Mod_placeOf 33 = .ok (.getfield 13, 3) := by decide +kernel
theorem d_Mod_placeOf_36 : decode b_Mod_placeOf 36 = .ok (.sipush 128, 3) := by decide +kernel
theorem d_Mod_placeOf_39 : decode b_Mod_placeOf 39 = .ok (.iload_n 1, 1) := by decide +kernel
theorem d_Mod_placeOf_40 : decode b_Mod_placeOf 40 = .ok (.imul, 1) := by decide +kernel
theorem d_Mod_placeOf_41 : decode b_Mod_placeOf 41 = .ok (.iload 4, 2) := by decide +kernel
theorem d_Mod_placeOf_43 : decode b_Mod_placeOf 43 = .ok (.iadd, 1) := by decide +kernel
theorem d_Mod_placeOf_44 : decode b_Mod_placeOf 44 = .ok (.iaload, 1) := by decide +kernel
theorem d_Mod_placeOf_45 : decode b_Mod_placeOf 45 = .ok (.iload_n 2, 1) := by decide +kernel
theorem d_Mod_placeOf_46 : decode b_Mod_placeOf 46 = .ok (.if_icmp .ne 8, 3) := by decide +kernel
theorem d_Mod_placeOf_49 : decode b_Mod_placeOf 49 = .ok (.iload 4, 2) := by decide +kernel
theorem d_Mod_placeOf_51 : decode b_Mod_placeOf 51 = .ok (.goto 4, 3) := by decide +kernel
theorem d_Mod_placeOf_54 : decode b_Mod_placeOf 54 = .ok (.iload_n 3, 1) := by decide +kernel
theorem d_Mod_placeOf_55 : decode b_Mod_placeOf 55 = .ok (.istore_n 3, 1) := by decide +kernel
theorem d_Mod_placeOf_56 : decode b_Mod_placeOf 56 = .ok (.iinc 4 1, 3) := by decide +kernel
theorem d_Mod_placeOf_59 : decode b_Mod_placeOf 59 = .ok (.goto (-54), 3) := by decide +kernel
theorem d_Mod_placeOf_62 : decode b_Mod_placeOf 62 = .ok (.iload_n 3, 1) := by decide +kernel
theorem d_Mod_placeOf_63 : decode b_Mod_placeOf 63 = .ok (.ireturn, 1) := by decide +kernel
theorem d_Mod_distanceAt_0 : decode b_Mod_distanceAt 0 = .ok (.aload_n 0, 1) := by decide +kernel
theorem d_Mod_distanceAt_1 : decode b_Mod_distanceAt 1 = .ok (.iload_n 1, 1) := by decide +kernel
theorem d_Mod_distanceAt_2 : decode b_Mod_distanceAt 2 = .ok (.aload_n 0, 1) := by decide +kernel
theorem d_Mod_distanceAt_3 : decode b_Mod_distanceAt 3 = .ok (.getfield 13, 3) := by decide +kernel
theorem d_Mod_distanceAt_6 : decode b_Mod_distanceAt 6 = .ok (.sipush 128, 3) := by decide +kernel
theorem d_Mod_distanceAt_9 : decode b_Mod_distanceAt 9 = .ok (.iload_n 1, 1) := by decide +kernel
theorem d_Mod_distanceAt_10 : decode b_Mod_distanceAt 10 = .ok (.imul, 1) := by decide +kernel
theorem d_Mod_distanceAt_11 : decode b_Mod_distanceAt 11 = .ok (.iload_n 2, 1) := by decide +kernel
theorem d_Mod_distanceAt_12 : decode b_Mod_distanceAt 12 = .ok (.iadd, 1) := by decide +kernel
theorem d_Mod_distanceAt_13 : decode b_Mod_distanceAt 13 = .ok (.iaload, 1) := by decide +kernel
theorem d_Mod_distanceAt_14 : decode b_Mod_distanceAt 14 = .ok (.invokevirtual 56, 3) := by decide +kernel
theorem d_Mod_distanceAt_17 : decode b_Mod_distanceAt 17 = .ok (.istore_n 3, 1) := by decide +kernel
theorem d_Mod_distanceAt_18 : decode b_Mod_distanceAt 18 = .ok (.iload_n 2, 1) := by decide +kernel
theorem d_Mod_distanceAt_19 : decode b_Mod_distanceAt 19 = .ok (.iload_n 3, 1) := by decide +kernel
theorem d_Mod_distanceAt_20 : decode b_Mod_distanceAt 20 = .ok (.isub, 1) := by decide +kernel
theorem d_Mod_distanceAt_21 : decode b_Mod_distanceAt 21 = .ok (.aload_n 0, 1) := by decide +kernel
theorem d_Mod_distanceAt_22 : decode b_Mod_distanceAt 22 = .ok (.getfield 20, 3) := by decide +kernel
theorem d_Mod_distanceAt_25 : decode b_Mod_distanceAt 25 = .ok (.iload_n 1, 1) := by decide +kernel
theorem d_Mod_distanceAt_26 : decode b_Mod_distanceAt 26 = .ok (.iaload, 1) := by decide +kernel
theorem d_Mod_distanceAt_27 : decode b_Mod_distanceAt 27 = .ok (.iconst 1, 1) := by decide +kernel
theorem d_Mod_distanceAt_28 : decode b_Mod_distanceAt 28 = .ok (.isub, 1) := by decide +kernel
theorem d_Mod_distanceAt_29 : decode b_Mod_distanceAt 29 = .ok (.iand, 1) := by decide +kernel
theorem d_Mod_distanceAt_30 : decode b_Mod_distanceAt 30 = .ok (.ireturn, 1) := by decide +kernel
theorem d_Mod_bitsOf_0 : decode b_Mod_bitsOf 0 = .ok (.iconst 0, 1) := by decide +kernel
theorem d_Mod_bitsOf_1 : decode b_Mod_bitsOf 1 = .ok (.istore_n 3, 1) := by decide +kernel
theorem d_Mod_bitsOf_2 : decode b_Mod_bitsOf 2 = .ok (.iconst 0, 1) := by decide +kernel
theorem d_Mod_bitsOf_3 : decode b_Mod_bitsOf 3 = .ok (.istore 4, 2) := by decide +kernel
theorem d_Mod_bitsOf_5 : decode b_Mod_bitsOf 5 = .ok (.iload 4, 2) := by decide +kernel
theorem d_Mod_bitsOf_7 : decode b_Mod_bitsOf 7 = .ok (.bipush 8, 2) := by decide +kernel
theorem d_Mod_bitsOf_9 : decode b_Mod_bitsOf 9 = .ok (.if_icmp .ge 80, 3) := by decide +kernel
theorem d_Mod_bitsOf_12 : decode b_Mod_bitsOf 12 = .ok (.aload_n 0, 1) := by decide +kernel
theorem d_Mod_bitsOf_13 : decode b_Mod_bitsOf 13 = .ok (.iload_n 1, 1) := by decide +kernel
theorem d_Mod_bitsOf_14 : decode b_Mod_bitsOf 14 = .ok (.iload_n 2, 1) := by decide +kernel
theorem d_Mod_bitsOf_15 : decode b_Mod_bitsOf 15 = .ok (.iload 4, 2) := by decide +kernel
theorem d_Mod_bitsOf_17 : decode b_Mod_bitsOf 17 = .ok (.invokevirtual 60, 3) := by decide +kernel
theorem d_Mod_bitsOf_20 : decode b_Mod_bitsOf 20 = .ok (.istore 5, 2) := by decide +kernel
theorem d_Mod_bitsOf_22 : decode b_Mod_bitsOf 22 = .ok (.aload_n 0, 1) := by decide +kernel
theorem d_Mod_bitsOf_23 : decode b_Mod_bitsOf 23 = .ok (.getfield 7, 3) := by decide +kernel
theorem d_Mod_bitsOf_26 : decode b_Mod_bitsOf 26 = .ok (.sipush 128, 3) := by decide +kernel
theorem d_Mod_bitsOf_29 : decode b_Mod_bitsOf 29 = .ok (.iload_n 1, 1) := by decide +kernel
theorem d_Mod_bitsOf_30 : decode b_Mod_bitsOf 30 = .ok (.imul, 1) := by decide +kernel
theorem d_Mod_bitsOf_31 : decode b_Mod_bitsOf 31 = .ok (.iload 5, 2) := by decide +kernel
theorem d_Mod_bitsOf_33 : decode b_Mod_bitsOf 33 = .ok (.iadd, 1) := by decide +kernel
theorem d_Mod_bitsOf_34 : decode b_Mod_bitsOf 34 = .ok (.baload, 1) := by decide +kernel
theorem d_Mod_bitsOf_35 : decode b_Mod_bitsOf 35 = .ok (.ifCond .eq 29, 3) := by decide +kernel
theorem d_Mod_bitsOf_38 : decode b_Mod_bitsOf 38 = .ok (.aload_n 0, 1) := by decide +kernel
theorem d_Mod_bitsOf_39 : decode b_Mod_bitsOf 39 = .ok (.iload_n 1, 1) := by decide +kernel
theorem d_Mod_bitsOf_40 : decode b_Mod_bitsOf 40 = .ok (.aload_n 0, 1) := by decide +kernel
theorem d_Mod_bitsOf_41 : decode b_Mod_bitsOf 41 = .ok (.getfield 13, 3) := by decide +kernel
theorem d_Mod_bitsOf_44 : decode b_Mod_bitsOf 44 = .ok (.sipush 128, 3) := by decide +kernel
theorem d_Mod_bitsOf_47 : decode b_Mod_bitsOf 47 = .ok (.iload_n 1, 1) := by decide +kernel
theorem d_Mod_bitsOf_48 : decode b_Mod_bitsOf 48 = .ok (.imul, 1) := by decide +kernel
theorem d_Mod_bitsOf_49 : decode b_Mod_bitsOf 49 = .ok (.iload 5, 2) := by decide +kernel
theorem d_Mod_bitsOf_51 : decode b_Mod_bitsOf 51 = .ok (.iadd, 1) := by decide +kernel
theorem d_Mod_bitsOf_52 : decode b_Mod_bitsOf 52 = .ok (.iaload, 1) := by decide +kernel
theorem d_Mod_bitsOf_53 : decode b_Mod_bitsOf 53 = .ok (.invokevirtual 56, 3) := by decide +kernel
theorem d_Mod_bitsOf_56 : decode b_Mod_bitsOf 56 = .ok (.iload_n 2, 1) := by decide +kernel
theorem d_Mod_bitsOf_57 : decode b_Mod_bitsOf 57 = .ok (.if_icmp .ne 7, 3) := by decide +kernel
theorem d_Mod_bitsOf_60 : decode b_Mod_bitsOf 60 = .ok (.iconst 1, 1) := by decide +kernel
theorem d_Mod_bitsOf_61 : decode b_Mod_bitsOf 61 = .ok (.goto 4, 3) := by decide +kernel
theorem d_Mod_bitsOf_64 : decode b_Mod_bitsOf 64 = .ok (.iconst 0, 1) := by decide +kernel
theorem d_Mod_bitsOf_65 : decode b_Mod_bitsOf 65 = .ok (.istore 6, 2) := by decide +kernel
theorem d_Mod_bitsOf_67 : decode b_Mod_bitsOf 67 = .ok (.iload 6, 2) := by decide +kernel
theorem d_Mod_bitsOf_69 : decode b_Mod_bitsOf 69 = .ok (.ifCond .eq 12, 3) := by decide +kernel
theorem d_Mod_bitsOf_72 : decode b_Mod_bitsOf 72 = .ok (.iload_n 3, 1) := by decide +kernel
theorem d_Mod_bitsOf_73 : decode b_Mod_bitsOf 73 = .ok (.iconst 1, 1) := by decide +kernel
theorem d_Mod_bitsOf_74 : decode b_Mod_bitsOf 74 = .ok (.iload 4, 2) := by decide +kernel
theorem d_Mod_bitsOf_76 : decode b_Mod_bitsOf 76 = .ok (.ishl, 1) := by decide +kernel
theorem d_Mod_bitsOf_77 : decode b_Mod_bitsOf 77 = .ok (.ior, 1) := by decide +kernel
theorem d_Mod_bitsOf_78 : decode b_Mod_bitsOf 78 = .ok (.goto 4, 3) := by decide +kernel
theorem d_Mod_bitsOf_81 : decode b_Mod_bitsOf 81 = .ok (.iload_n 3, 1) := by decide +kernel
theorem d_Mod_bitsOf_82 : decode b_Mod_bitsOf 82 = .ok (.istore_n 3, 1) := by decide +kernel
theorem d_Mod_bitsOf_83 : decode b_Mod_bitsOf 83 = .ok (.iinc 4 1, 3) := by decide +kernel
theorem d_Mod_bitsOf_86 : decode b_Mod_bitsOf 86 = .ok (.goto (-81), 3) := by decide +kernel
theorem d_Mod_bitsOf_89 : decode b_Mod_bitsOf 89 = .ok (.iload_n 3, 1) := by decide +kernel
theorem d_Mod_bitsOf_90 : decode b_Mod_bitsOf 90 = .ok (.ireturn, 1) := by decide +kernel
theorem d_Mod_move_0 : decode b_Mod_move 0 = .ok (.sipush 128, 3) := by decide +kernel
theorem d_Mod_move_3 : decode b_Mod_move 3 = .ok (.iload_n 1, 1) := by decide +kernel
theorem d_Mod_move_4 : decode b_Mod_move 4 = .ok (.imul, 1) := by decide +kernel
theorem d_Mod_move_5 : decode b_Mod_move 5 = .ok (.iload_n 2, 1) := by decide +kernel
theorem d_Mod_move_6 : decode b_Mod_move 6 = .ok (.iadd, 1) := by decide +kernel
theorem d_Mod_move_7 : decode b_Mod_move 7 = .ok (.istore 4, 2) := by decide +kernel
theorem d_Mod_move_9 : decode b_Mod_move 9 = .ok (.sipush 128, 3) := by decide +kernel
theorem d_Mod_move_12 : decode b_Mod_move 12 = .ok (.iload_n 1, 1) := by decide +kernel
theorem d_Mod_move_13 : decode b_Mod_move 13 = .ok (.imul, 1) := by decide +kernel
theorem d_Mod_move_14 : decode b_Mod_move 14 = .ok (.iload_n 3, 1) := by decide +kernel
theorem d_Mod_move_15 : decode b_Mod_move 15 = .ok (.iadd, 1) := by decide +kernel
theorem d_Mod_move_16 : decode b_Mod_move 16 = .ok (.istore 5, 2) := by decide +kernel
theorem d_Mod_move_18 : decode b_Mod_move 18 = .ok (.aload_n 0, 1) := by decide +kernel
theorem d_Mod_move_19 : decode b_Mod_move 19 = .ok (.getfield 7, 3) := by decide +kernel
theorem d_Mod_move_22 : decode b_Mod_move 22 = .ok (.iload 5, 2) := by decide +kernel
theorem d_Mod_move_24 : decode b_Mod_move 24 = .ok (.iconst 1, 1) := by decide +kernel
theorem d_Mod_move_25 : decode b_Mod_move 25 = .ok (.bastore, 1) := by decide +kernel
theorem d_Mod_move_26 : decode b_Mod_move 26 = .ok (.aload_n 0, 1) := by decide +kernel
theorem d_Mod_move_27 : decode b_Mod_move 27 = .ok (.getfield 13, 3) := by decide +kernel
theorem d_Mod_move_30 : decode b_Mod_move 30 = .ok (.iload 5, 2) := by decide +kernel
theorem d_Mod_move_32 : decode b_Mod_move 32 = .ok (.aload_n 0, 1) := by decide +kernel
theorem d_Mod_move_33 : decode b_Mod_move 33 = .ok (.getfield 13, 3) := by decide +kernel
theorem d_Mod_move_36 : decode b_Mod_move 36 = .ok (.iload 4, 2) := by decide +kernel
theorem d_Mod_move_38 : decode b_Mod_move 38 = .ok (.iaload, 1) := by decide +kernel
theorem d_Mod_move_39 : decode b_Mod_move 39 = .ok (.iastore, 1) := by decide +kernel
theorem d_Mod_move_40 : decode b_Mod_move 40 = .ok (.aload_n 0, 1) := by decide +kernel
theorem d_Mod_move_41 : decode b_Mod_move 41 = .ok (.getfield 17, 3) := by decide +kernel
theorem d_Mod_move_44 : decode b_Mod_move 44 = .ok (.iload 5, 2) := by decide +kernel
theorem d_Mod_move_46 : decode b_Mod_move 46 = .ok (.aload_n 0, 1) := by decide +kernel
theorem d_Mod_move_47 : decode b_Mod_move 47 = .ok (.getfield 17, 3) := by decide +kernel
theorem d_Mod_move_50 : decode b_Mod_move 50 = .ok (.iload 4, 2) := by decide +kernel
theorem d_Mod_move_52 : decode b_Mod_move 52 = .ok (.iaload, 1) := by decide +kernel
theorem d_Mod_move_53 : decode b_Mod_move 53 = .ok (.iastore, 1) := by decide +kernel
theorem d_Mod_move_54 : decode b_Mod_move 54 = .ok (.aload_n 0, 1) := by decide +kernel
theorem d_Mod_move_55 : decode b_Mod_move 55 = .ok (.getfield 7, 3) := by decide +kernel
theorem d_Mod_move_58 : decode b_Mod_move 58 = .ok (.iload 4, 2) := by decide +kernel
theorem d_Mod_move_60 : decode b_Mod_move 60 = .ok (.iconst 0, 1) := by decide +kernel
theorem d_Mod_move_61 : decode b_Mod_move 61 = .ok (.bastore, 1) := by decide +kernel
theorem d_Mod_move_62 : decode b_Mod_move 62 = .ok (.aload_n 0, 1) := by decide +kernel
theorem d_Mod_move_63 : decode b_Mod_move 63 = .ok (.getfield 29, 3) := by decide +kernel
theorem d_Mod_move_66 : decode b_Mod_move 66 = .ok (.iconst 0, 1) := by decide +kernel
theorem d_Mod_move_67 : decode b_Mod_move 67 = .ok (.aload_n 0, 1) := by decide +kernel
theorem d_Mod_move_68 : decode b_Mod_move 68 = .ok (.getfield 29, 3) := by decide +kernel
theorem d_Mod_move_71 : decode b_Mod_move 71 = .ok (.iconst 0, 1) := by decide +kernel
theorem d_Mod_move_72 : decode b_Mod_move 72 = .ok (.iaload, 1) := by decide +kernel
theorem d_Mod_move_73 : decode b_Mod_move 73 = .ok (.iconst 1, 1) := by decide +kernel
theorem d_Mod_move_74 : decode b_Mod_move 74 = .ok (.iadd, 1) := by decide +kernel
theorem d_Mod_move_75 : decode b_Mod_move 75 = .ok (.iastore, 1) := by decide +kernel
theorem d_Mod_move_76 : decode b_Mod_move 76 = .ok (.return_, 1) := by decide +kernel
theorem d_Mod_mover_0 : decode b_Mod_mover 0 = .ok (.bipush 7, 2) := by decide +kernel
theorem d_Mod_mover_2 : decode b_Mod_mover 2 = .ok (.istore_n 3, 1) := by decide +kernel
theorem d_Mod_mover_3 : decode b_Mod_mover 3 = .ok (.iload_n 3, 1) := by decide +kernel
theorem d_Mod_mover_4 : decode b_Mod_mover 4 = .ok (.ifCond .le 87, 3) := by decide +kernel
theorem d_Mod_mover_7 : decode b_Mod_mover 7 = .ok (.aload_n 0, 1) := by decide +kernel
theorem d_Mod_mover_8 : decode b_Mod_mover 8 = .ok (.iload_n 1, 1) := by decide +kernel
theorem d_Mod_mover_9 : decode b_Mod_mover 9 = .ok (.iload_n 2, 1) := by decide +kernel
theorem d_Mod_mover_10 : decode b_Mod_mover 10 = .ok (.iload_n 3, 1) := by decide +kernel
theorem d_Mod_mover_11 : decode b_Mod_mover 11 = .ok (.ineg, 1) := by decide +kernel
theorem d_Mod_mover_12 : decode b_Mod_mover 12 = .ok (.invokevirtual 60, 3) := by decide +kernel
theorem d_Mod_mover_15 : decode b_Mod_mover 15 = .ok (.istore 4, 2) := by decide +kernel
theorem d_Mod_mover_17 : decode b_Mod_mover 17 = .ok (.iconst 0, 1) := by decide +kernel
theorem d_Mod_mover_18 : decode b_Mod_mover 18 = .ok (.istore 5, 2) := by decide +kernel
theorem d_Mod_mover_20 : decode b_Mod_mover 20 = .ok (.iload 5, 2) := by decide +kernel
theorem d_Mod_mover_22 : decode b_Mod_mover 22 = .ok (.iload_n 3, 1) := by decide +kernel
theorem d_Mod_mover_23 : decode b_Mod_mover 23 = .ok (.if_icmp .ge 62, 3) := by decide +kernel
theorem d_Mod_mover_26 : decode b_Mod_mover 26 = .ok (.aload_n 0, 1) := by decide +kernel
theorem d_Mod_mover_27 : decode b_Mod_mover 27 = .ok (.iload_n 1, 1) := by decide +kernel
theorem d_Mod_mover_28 : decode b_Mod_mover 28 = .ok (.iload 4, 2) := by decide +kernel
theorem d_Mod_mover_30 : decode b_Mod_mover 30 = .ok (.iload 5, 2) := by decide +kernel
theorem d_Mod_mover_32 : decode b_Mod_mover 32 = .ok (.invokevirtual 60, 3) := by decide +kernel
theorem d_Mod_mover_35 : decode b_Mod_mover 35 = .ok (.istore 6, 2) := by decide +kernel
theorem d_Mod_mover_37 : decode b_Mod_mover 37 = .ok (.aload_n 0, 1) := by decide +kernel
theorem d_Mod_mover_38 : decode b_Mod_mover 38 = .ok (.getfield 7, 3) := by decide +kernel
theorem d_Mod_mover_41 : decode b_Mod_mover 41 = .ok (.sipush 128, 3) := by decide +kernel
theorem d_Mod_mover_44 : decode b_Mod_mover 44 = .ok (.iload_n 1, 1) := by decide +kernel
theorem d_Mod_mover_45 : decode b_Mod_mover 45 = .ok (.imul, 1) := by decide +kernel
theorem d_Mod_mover_46 : decode b_Mod_mover 46 = .ok (.iload 6, 2) := by decide +kernel
theorem d_Mod_mover_48 : decode b_Mod_mover 48 = .ok (.iadd, 1) := by decide +kernel
theorem d_Mod_mover_49 : decode b_Mod_mover 49 = .ok (.baload, 1) := by decide +kernel
theorem d_Mod_mover_50 : decode b_Mod_mover 50 = .ok (.ifCond .eq 29, 3) := by decide +kernel
theorem d_Mod_mover_53 : decode b_Mod_mover 53 = .ok (.aload_n 0, 1) := by decide +kernel
theorem d_Mod_mover_54 : decode b_Mod_mover 54 = .ok (.iload_n 1, 1) := by decide +kernel
theorem d_Mod_mover_55 : decode b_Mod_mover 55 = .ok (.aload_n 0, 1) := by decide +kernel
theorem d_Mod_mover_56 : decode b_Mod_mover 56 = .ok (.getfield 13, 3) := by decide +kernel
theorem d_Mod_mover_59 : decode b_Mod_mover 59 = .ok (.sipush 128, 3) := by decide +kernel
theorem d_Mod_mover_62 : decode b_Mod_mover 62 = .ok (.iload_n 1, 1) := by decide +kernel
theorem d_Mod_mover_63 : decode b_Mod_mover 63 = .ok (.imul, 1) := by decide +kernel
theorem d_Mod_mover_64 : decode b_Mod_mover 64 = .ok (.iload 6, 2) := by decide +kernel
theorem d_Mod_mover_66 : decode b_Mod_mover 66 = .ok (.iadd, 1) := by decide +kernel
theorem d_Mod_mover_67 : decode b_Mod_mover 67 = .ok (.iaload, 1) := by decide +kernel
theorem d_Mod_mover_68 : decode b_Mod_mover 68 = .ok (.invokevirtual 56, 3) := by decide +kernel
theorem d_Mod_mover_71 : decode b_Mod_mover 71 = .ok (.iload 4, 2) := by decide +kernel
theorem d_Mod_mover_73 : decode b_Mod_mover 73 = .ok (.if_icmp .ne 6, 3) := by decide +kernel
theorem d_Mod_mover_76 : decode b_Mod_mover 76 = .ok (.iload 6, 2) := by decide +kernel
theorem d_Mod_mover_78 : decode b_Mod_mover 78 = .ok (.ireturn, 1) := by decide +kernel
theorem d_Mod_mover_79 : decode b_Mod_mover 79 = .ok (.iinc 5 1, 3) := by decide +kernel
theorem d_Mod_mover_82 : decode b_Mod_mover 82 = .ok (.goto (-62), 3) := by decide +kernel
theorem d_Mod_mover_85 : decode b_Mod_mover 85 = .ok (.iinc 3 (-1), 3) := by decide +kernel
theorem d_Mod_mover_88 : decode b_Mod_mover 88 = .ok (.goto (-85), 3) := by decide +kernel
theorem d_Mod_mover_91 : decode b_Mod_mover 91 = .ok (.iconst (-1), 1) := by decide +kernel
theorem d_Mod_mover_92 : decode b_Mod_mover 92 = .ok (.ireturn, 1) := by decide +kernel
theorem d_Mod_insert_0 : decode b_Mod_insert 0 = .ok (.aload_n 0, 1) := by decide +kernel
theorem d_Mod_insert_1 : decode b_Mod_insert 1 = .ok (.iload_n 1, 1) := by decide +kernel
theorem d_Mod_insert_2 : decode b_Mod_insert 2 = .ok (.iload_n 2, 1) := by decide +kernel
theorem d_Mod_insert_3 : decode b_Mod_insert 3 = .ok (.invokevirtual 56, 3) := by decide +kernel
theorem d_Mod_insert_6 : decode b_Mod_insert 6 = .ok (.istore 4, 2) := by decide +kernel
theorem d_Mod_insert_8 : decode b_Mod_insert 8 = .ok (.iconst 0, 1) := by decide +kernel
theorem d_Mod_insert_9 : decode b_Mod_insert 9 = .ok (.istore 5, 2) := by decide +kernel
theorem d_Mod_insert_11 : decode b_Mod_insert 11 = .ok (.iload 5, 2) := by decide +kernel
theorem d_Mod_insert_13 : decode b_Mod_insert 13 = .ok (.aload_n 0, 1) := by decide +kernel
theorem d_Mod_insert_14 : decode b_Mod_insert 14 = .ok (.getfield 20, 3) := by decide +kernel
theorem d_Mod_insert_17 : decode b_Mod_insert 17 = .ok (.iload_n 1, 1) := by decide +kernel
theorem d_Mod_insert_18 : decode b_Mod_insert 18 = .ok (.iaload, 1) := by decide +kernel
theorem d_Mod_insert_19 : decode b_Mod_insert 19 = .ok (.if_icmp .ge 32, 3) := by decide +kernel
theorem d_Mod_insert_22 : decode b_Mod_insert 22 = .ok (.aload_n 0, 1) := by decide +kernel
theorem d_Mod_insert_23 : decode b_Mod_insert 23 = .ok (.getfield 7, 3) := by decide +kernel
theorem d_Mod_insert_26 : decode b_Mod_insert 26 = .ok (.sipush 128, 3) := by decide +kernel
theorem d_Mod_insert_29 : decode b_Mod_insert 29 = .ok (.iload_n 1, 1) := by decide +kernel
theorem d_Mod_insert_30 : decode b_Mod_insert 30 = .ok (.imul, 1) := by decide +kernel
theorem d_Mod_insert_31 : decode b_Mod_insert 31 = .ok (.aload_n 0, 1) := by decide +kernel
theorem d_Mod_insert_32 : decode b_Mod_insert 32 = .ok (.iload_n 1, 1) := by decide +kernel
theorem d_Mod_insert_33 : decode b_Mod_insert 33 = .ok (.iload 4, 2) := by decide +kernel
theorem d_Mod_insert_35 : decode b_Mod_insert 35 = .ok (.iload 5, 2) := by decide +kernel
theorem d_Mod_insert_37 : decode b_Mod_insert 37 = .ok (.invokevirtual 60, 3) := by decide +kernel
theorem d_Mod_insert_40 : decode b_Mod_insert 40 = .ok (.iadd, 1) := by decide +kernel
theorem d_Mod_insert_41 : decode b_Mod_insert 41 = .ok (.baload, 1) := by decide +kernel
theorem d_Mod_insert_42 : decode b_Mod_insert 42 = .ok (.ifCond .eq 9, 3) := by decide +kernel
theorem d_Mod_insert_45 : decode b_Mod_insert 45 = .ok (.iinc 5 1, 3) := by decide +kernel
theorem d_Mod_insert_48 : decode b_Mod_insert 48 = .ok (.goto (-37), 3) := by decide +kernel
theorem d_Mod_insert_51 : decode b_Mod_insert 51 = .ok (.iload 5, 2) := by decide +kernel
theorem d_Mod_insert_53 : decode b_Mod_insert 53 = .ok (.aload_n 0, 1) := by decide +kernel
theorem d_Mod_insert_54 : decode b_Mod_insert 54 = .ok (.getfield 20, 3) := by decide +kernel
theorem d_Mod_insert_57 : decode b_Mod_insert 57 = .ok (.iload_n 1, 1) := by decide +kernel
theorem d_Mod_insert_58 : decode b_Mod_insert 58 = .ok (.iaload, 1) := by decide +kernel
theorem d_Mod_insert_59 : decode b_Mod_insert 59 = .ok (.if_icmp .ne 5, 3) := by decide +kernel
theorem d_Mod_insert_62 : decode b_Mod_insert 62 = .ok (.iconst 0, 1) := by decide +kernel
theorem d_Mod_insert_63 : decode b_Mod_insert 63 = .ok (.ireturn, 1) := by decide +kernel
theorem d_Mod_insert_64 : decode b_Mod_insert 64 = .ok (.aload_n 0, 1) := by decide +kernel
theorem d_Mod_insert_65 : decode b_Mod_insert 65 = .ok (.iload_n 1, 1) := by decide +kernel
theorem d_Mod_insert_66 : decode b_Mod_insert 66 = .ok (.iload 4, 2) := by decide +kernel
theorem d_Mod_insert_68 : decode b_Mod_insert 68 = .ok (.iload 5, 2) := by decide +kernel
theorem d_Mod_insert_70 : decode b_Mod_insert 70 = .ok (.invokevirtual 60, 3) := by decide +kernel
theorem d_Mod_insert_73 : decode b_Mod_insert 73 = .ok (.istore 6, 2) := by decide +kernel
theorem d_Mod_insert_75 : decode b_Mod_insert 75 = .ok (.iload 5, 2) := by decide +kernel
theorem d_Mod_insert_77 : decode b_Mod_insert 77 = .ok (.bipush 7, 2) := by decide +kernel
theorem d_Mod_insert_79 : decode b_Mod_insert 79 = .ok (.if_icmp .le 52, 3) := by decide +kernel
theorem d_Mod_insert_82 : decode b_Mod_insert 82 = .ok (.aload_n 0, 1) := by decide +kernel
theorem d_Mod_insert_83 : decode b_Mod_insert 83 = .ok (.iload_n 1, 1) := by decide +kernel
theorem d_Mod_insert_84 : decode b_Mod_insert 84 = .ok (.iload 6, 2) := by decide +kernel
theorem d_Mod_insert_86 : decode b_Mod_insert 86 = .ok (.invokevirtual 64, 3) := by decide +kernel
theorem d_Mod_insert_89 : decode b_Mod_insert 89 = .ok (.istore 7, 2) := by decide +kernel
theorem d_Mod_insert_91 : decode b_Mod_insert 91 = .ok (.iload 7, 2) := by decide +kernel
theorem d_Mod_insert_93 : decode b_Mod_insert 93 = .ok (.iconst (-1), 1) := by decide +kernel
theorem d_Mod_insert_94 : decode b_Mod_insert 94 = .ok (.if_icmp .ne 5, 3) := by decide +kernel
theorem d_Mod_insert_97 : decode b_Mod_insert 97 = .ok (.iconst 0, 1) := by decide +kernel
theorem d_Mod_insert_98 : decode b_Mod_insert 98 = .ok (.ireturn, 1) := by decide +kernel
theorem d_Mod_insert_99 : decode b_Mod_insert 99 = .ok (.aload_n 0, 1) := by decide +kernel
theorem d_Mod_insert_100 : decode b_Mod_insert 100 = .ok (.iload_n 1, 1) := by decide +kernel
theorem d_Mod_insert_101 : decode b_Mod_insert 101 = .ok (.iload 7, 2) := by decide +kernel
theorem d_Mod_insert_103 : decode b_Mod_insert 103 = .ok (.iload 6, 2) := by decide +kernel
theorem d_Mod_insert_105 : decode b_Mod_insert 105 = .ok (.invokevirtual 67, 3) := by decide +kernel
theorem d_Mod_insert_108 : decode b_Mod_insert 108 = .ok (.iload 7, 2) := by decide +kernel
theorem d_Mod_insert_110 : decode b_Mod_insert 110 = .ok (.istore 6, 2) := by decide +kernel
theorem d_Mod_insert_112 : decode b_Mod_insert 112 = .ok (.iload 6, 2) := by decide +kernel
theorem d_Mod_insert_114 : decode b_Mod_insert 114 = .ok (.iload 4, 2) := by decide +kernel
theorem d_Mod_insert_116 : decode b_Mod_insert 116 = .ok (.isub, 1) := by decide +kernel
theorem d_Mod_insert_117 : decode b_Mod_insert 117 = .ok (.aload_n 0, 1) := by decide +kernel
theorem d_Mod_insert_118 : decode b_Mod_insert 118 = .ok (.getfield 20, 3) := by decide +kernel
theorem d_Mod_insert_121 : decode b_Mod_insert 121 = .ok (.iload_n 1, 1) := by decide +kernel
theorem d_Mod_insert_122 : decode b_Mod_insert 122 = .ok (.iaload, 1) := by decide +kernel
theorem d_Mod_insert_123 : decode b_Mod_insert 123 = .ok (.iconst 1, 1) := by decide +kernel
theorem d_Mod_insert_124 : decode b_Mod_insert 124 = .ok (.isub, 1) := by decide +kernel
theorem d_Mod_insert_125 : decode b_Mod_insert 125 = .ok (.iand, 1) := by decide +kernel
theorem d_Mod_insert_126 : decode b_Mod_insert 126 = .ok (.istore 5, 2) := by decide +kernel
theorem d_Mod_insert_128 : decode b_Mod_insert 128 = .ok (.goto (-53), 3) := by decide +kernel
theorem d_Mod_insert_131 : decode b_Mod_insert 131 = .ok (.aload_n 0, 1) := by decide +kernel
theorem d_Mod_insert_132 : decode b_Mod_insert 132 = .ok (.getfield 7, 3) := by decide +kernel
theorem d_Mod_insert_135 : decode b_Mod_insert 135 = .ok (.sipush 128, 3) := by decide +kernel
theorem d_Mod_insert_138 : decode b_Mod_insert 138 = .ok (.iload_n 1, 1) := by decide +kernel
theorem d_Mod_insert_139 : decode b_Mod_insert 139 = .ok (.imul, 1) := by decide +kernel
theorem d_Mod_insert_140 : decode b_Mod_insert 140 = .ok (.iload 6, 2) := by decide +kernel
theorem d_Mod_insert_142 : decode b_Mod_insert 142 = .ok (.iadd, 1) := by decide +kernel
theorem d_Mod_insert_143 : decode b_Mod_insert 143 = .ok (.iconst 1, 1) := by decide +kernel
theorem d_Mod_insert_144 : decode b_Mod_insert 144 = .ok (.bastore, 1) := by decide +kernel
theorem d_Mod_insert_145 : decode b_Mod_insert 145 = .ok (.aload_n 0, 1) := by decide +kernel
theorem d_Mod_insert_146 : decode b_Mod_insert 146 = .ok (.getfield 13, 3) := by decide +kernel
theorem d_Mod_insert_149 : decode b_Mod_insert 149 = .ok (.sipush 128, 3) := by decide +kernel
theorem d_Mod_insert_152 : decode b_Mod_insert 152 = .ok (.iload_n 1, 1) := by decide +kernel
theorem d_Mod_insert_153 : decode b_Mod_insert 153 = .ok (.imul, 1) := by decide +kernel
theorem d_Mod_insert_154 : decode b_Mod_insert 154 = .ok (.iload 6, 2) := by decide +kernel
theorem d_Mod_insert_156 : decode b_Mod_insert 156 = .ok (.iadd, 1) := by decide +kernel
theorem d_Mod_insert_157 : decode b_Mod_insert 157 = .ok (.iload_n 2, 1) := by decide +kernel
theorem d_Mod_insert_158 : decode b_Mod_insert 158 = .ok (.iastore, 1) := by decide +kernel
theorem d_Mod_insert_159 : decode b_Mod_insert 159 = .ok (.aload_n 0, 1) := by decide +kernel
theorem d_Mod_insert_160 : decode b_Mod_insert 160 = .ok (.getfield 17, 3) := by decide +kernel
theorem d_Mod_insert_163 : decode b_Mod_insert 163 = .ok (.sipush 128, 3) := by decide +kernel
theorem d_Mod_insert_166 : decode b_Mod_insert 166 = .ok (.iload_n 1, 1) := by decide +kernel
theorem d_Mod_insert_167 : decode b_Mod_insert 167 = .ok (.imul, 1) := by decide +kernel
theorem d_Mod_insert_168 : decode b_Mod_insert 168 = .ok (.iload 6, 2) := by decide +kernel
theorem d_Mod_insert_170 : decode b_Mod_insert 170 = .ok (.iadd, 1) := by decide +kernel
theorem d_Mod_insert_171 : decode b_Mod_insert 171 = .ok (.iload_n 3, 1) := by decide +kernel
theorem d_Mod_insert_172 : decode b_Mod_insert 172 = .ok (.iastore, 1) := by decide +kernel
theorem d_Mod_insert_173 : decode b_Mod_insert 173 = .ok (.iconst 1, 1) := by decide +kernel
theorem d_Mod_insert_174 : decode b_Mod_insert 174 = .ok (.ireturn, 1) := by decide +kernel
theorem d_Mod_empty_0 : decode b_Mod_empty 0 = .ok (.iconst 0, 1) := by decide +kernel
theorem d_Mod_empty_1 : decode b_Mod_empty 1 = .ok (.istore_n 2, 1) := by decide +kernel
theorem d_Mod_empty_2 : decode b_Mod_empty 2 = .ok (.iload_n 2, 1) := by decide +kernel
theorem d_Mod_empty_3 : decode b_Mod_empty 3 = .ok (.sipush 128, 3) := by decide +kernel
theorem d_Mod_empty_6 : decode b_Mod_empty 6 = .ok (.if_icmp .ge 22, 3) := by decide +kernel
theorem d_Mod_empty_9 : decode b_Mod_empty 9 = .ok (.aload_n 0, 1) := by decide +kernel
theorem d_Mod_empty_10 : decode b_Mod_empty 10 = .ok (.getfield 7, 3) := by decide +kernel
theorem d_Mod_empty_13 : decode b_Mod_empty 13 = .ok (.sipush 128, 3) := by decide +kernel
theorem d_Mod_empty_16 : decode b_Mod_empty 16 = .ok (.iload_n 1, 1) := by decide +kernel
theorem d_Mod_empty_17 : decode b_Mod_empty 17 = .ok (.imul, 1) := by decide +kernel
theorem d_Mod_empty_18 : decode b_Mod_empty 18 = .ok (.iload_n 2, 1) := by decide +kernel
theorem d_Mod_empty_19 : decode b_Mod_empty 19 = .ok (.iadd, 1) := by decide +kernel
theorem d_Mod_empty_20 : decode b_Mod_empty 20 = .ok (.iconst 0, 1) := by decide +kernel
theorem d_Mod_empty_21 : decode b_Mod_empty 21 = .ok (.bastore, 1) := by decide +kernel
theorem d_Mod_empty_22 : decode b_Mod_empty 22 = .ok (.iinc 2 1, 3) := by decide +kernel
theorem d_Mod_empty_25 : decode b_Mod_empty 25 = .ok (.goto (-23), 3) := by decide +kernel
theorem d_Mod_empty_28 : decode b_Mod_empty 28 = .ok (.return_, 1) := by decide +kernel
theorem d_Mod_hold_0 : decode b_Mod_hold 0 = .ok (.aload_n 0, 1) := by decide +kernel
theorem d_Mod_hold_1 : decode b_Mod_hold 1 = .ok (.iconst 0, 1) := by decide +kernel
theorem d_Mod_hold_2 : decode b_Mod_hold 2 = .ok (.putfield 71, 3) := by decide +kernel
theorem d_Mod_hold_5 : decode b_Mod_hold 5 = .ok (.iconst 0, 1) := by decide +kernel
theorem d_Mod_hold_6 : decode b_Mod_hold 6 = .ok (.istore_n 2, 1) := by decide +kernel
theorem d_Mod_hold_7 : decode b_Mod_hold 7 = .ok (.iload_n 2, 1) := by decide +kernel
theorem d_Mod_hold_8 : decode b_Mod_hold 8 = .ok (.sipush 128, 3) := by decide +kernel
theorem d_Mod_hold_11 : decode b_Mod_hold 11 = .ok (.if_icmp .ge 122, 3) := by decide +kernel
theorem d_Mod_hold_14 : decode b_Mod_hold 14 = .ok (.aload_n 0, 1) := by decide +kernel
theorem d_Mod_hold_15 : decode b_Mod_hold 15 = .ok (.getfield 38, 3) := by decide +kernel
theorem d_Mod_hold_18 : decode b_Mod_hold 18 = .ok (.iload_n 2, 1) := by decide +kernel
theorem d_Mod_hold_19 : decode b_Mod_hold 19 = .ok (.aload_n 0, 1) := by decide +kernel
theorem d_Mod_hold_20 : decode b_Mod_hold 20 = .ok (.getfield 7, 3) := by decide +kernel
theorem d_Mod_hold_23 : decode b_Mod_hold 23 = .ok (.sipush 128, 3) := by decide +kernel
theorem d_Mod_hold_26 : decode b_Mod_hold 26 = .ok (.iload_n 1, 1) := by decide +kernel
theorem d_Mod_hold_27 : decode b_Mod_hold 27 = .ok (.imul, 1) := by decide +kernel
theorem d_Mod_hold_28 : decode b_Mod_hold 28 = .ok (.iload_n 2, 1) := by decide +kernel
theorem d_Mod_hold_29 : decode b_Mod_hold 29 = .ok (.iadd, 1) := by decide +kernel
theorem d_Mod_hold_30 : decode b_Mod_hold 30 = .ok (.baload, 1) := by decide +kernel
theorem d_Mod_hold_31 : decode b_Mod_hold 31 = .ok (.bastore, 1) := by decide +kernel
theorem d_Mod_hold_32 : decode b_Mod_hold 32 = .ok (.aload_n 0, 1) := by decide +kernel
theorem d_Mod_hold_33 : decode b_Mod_hold 33 = .ok (.getfield 41, 3) := by decide +kernel
theorem d_Mod_hold_36 : decode b_Mod_hold 36 = .ok (.iload_n 2, 1) := by decide +kernel
theorem d_Mod_hold_37 : decode b_Mod_hold 37 = .ok (.aload_n 0, 1) := by decide +kernel
theorem d_Mod_hold_38 : decode b_Mod_hold 38 = .ok (.getfield 13, 3) := by decide +kernel
theorem d_Mod_hold_41 : decode b_Mod_hold 41 = .ok (.sipush 128, 3) := by decide +kernel
theorem d_Mod_hold_44 : decode b_Mod_hold 44 = .ok (.iload_n 1, 1) := by decide +kernel
theorem d_Mod_hold_45 : decode b_Mod_hold 45 = .ok (.imul, 1) := by decide +kernel
theorem d_Mod_hold_46 : decode b_Mod_hold 46 = .ok (.iload_n 2, 1) := by decide +kernel
theorem d_Mod_hold_47 : decode b_Mod_hold 47 = .ok (.iadd, 1) := by decide +kernel
theorem d_Mod_hold_48 : decode b_Mod_hold 48 = .ok (.iaload, 1) := by decide +kernel
theorem d_Mod_hold_49 : decode b_Mod_hold 49 = .ok (.iastore, 1) := by decide +kernel
theorem d_Mod_hold_50 : decode b_Mod_hold 50 = .ok (.aload_n 0, 1) := by decide +kernel
theorem d_Mod_hold_51 : decode b_Mod_hold 51 = .ok (.getfield 44, 3) := by decide +kernel
theorem d_Mod_hold_54 : decode b_Mod_hold 54 = .ok (.iload_n 2, 1) := by decide +kernel
theorem d_Mod_hold_55 : decode b_Mod_hold 55 = .ok (.aload_n 0, 1) := by decide +kernel
theorem d_Mod_hold_56 : decode b_Mod_hold 56 = .ok (.getfield 17, 3) := by decide +kernel
theorem d_Mod_hold_59 : decode b_Mod_hold 59 = .ok (.sipush 128, 3) := by decide +kernel
theorem d_Mod_hold_62 : decode b_Mod_hold 62 = .ok (.iload_n 1, 1) := by decide +kernel
theorem d_Mod_hold_63 : decode b_Mod_hold 63 = .ok (.imul, 1) := by decide +kernel
theorem d_Mod_hold_64 : decode b_Mod_hold 64 = .ok (.iload_n 2, 1) := by decide +kernel
theorem d_Mod_hold_65 : decode b_Mod_hold 65 = .ok (.iadd, 1) := by decide +kernel
theorem d_Mod_hold_66 : decode b_Mod_hold 66 = .ok (.iaload, 1) := by decide +kernel
theorem d_Mod_hold_67 : decode b_Mod_hold 67 = .ok (.iastore, 1) := by decide +kernel
theorem d_Mod_hold_68 : decode b_Mod_hold 68 = .ok (.iload_n 2, 1) := by decide +kernel
theorem d_Mod_hold_69 : decode b_Mod_hold 69 = .ok (.aload_n 0, 1) := by decide +kernel
theorem d_Mod_hold_70 : decode b_Mod_hold 70 = .ok (.getfield 20, 3) := by decide +kernel
theorem d_Mod_hold_73 : decode b_Mod_hold 73 = .ok (.iload_n 1, 1) := by decide +kernel
theorem d_Mod_hold_74 : decode b_Mod_hold 74 = .ok (.iaload, 1) := by decide +kernel
theorem d_Mod_hold_75 : decode b_Mod_hold 75 = .ok (.if_icmp .ge 52, 3) := by decide +kernel
theorem d_Mod_hold_78 : decode b_Mod_hold 78 = .ok (.aload_n 0, 1) := by decide +kernel
theorem d_Mod_hold_79 : decode b_Mod_hold 79 = .ok (.getfield 38, 3) := by decide +kernel
theorem d_Mod_hold_82 : decode b_Mod_hold 82 = .ok (.iload_n 2, 1) := by decide +kernel
theorem d_Mod_hold_83 : decode b_Mod_hold 83 = .ok (.baload, 1) := by decide +kernel
theorem d_Mod_hold_84 : decode b_Mod_hold 84 = .ok (.ifCond .eq 43, 3) := by decide +kernel
theorem d_Mod_hold_87 : decode b_Mod_hold 87 = .ok (.aload_n 0, 1) := by decide +kernel
theorem d_Mod_hold_88 : decode b_Mod_hold 88 = .ok (.getfield 32, 3) := by decide +kernel
theorem d_Mod_hold_91 : decode b_Mod_hold 91 = .ok (.aload_n 0, 1) := by decide +kernel
theorem d_Mod_hold_92 : decode b_Mod_hold 92 = .ok (.getfield 71, 3) := by decide +kernel
theorem d_Mod_hold_95 : decode b_Mod_hold 95 = .ok (.aload_n 0, 1) := by decide +kernel
theorem d_Mod_hold_96 : decode b_Mod_hold 96 = .ok (.getfield 41, 3) := by decide +kernel
theorem d_Mod_hold_99 : decode b_Mod_hold 99 = .ok (.iload_n 2, 1) := by decide +kernel
theorem d_Mod_hold_100 : decode b_Mod_hold 100 = .ok (.iaload, 1) := by decide +kernel
theorem d_Mod_hold_101 : decode b_Mod_hold 101 = .ok (.iastore, 1) := by decide +kernel
theorem d_Mod_hold_102 : decode b_Mod_hold 102 = .ok (.aload_n 0, 1) := by decide +kernel
theorem d_Mod_hold_103 : decode b_Mod_hold 103 = .ok (.getfield 35, 3) := by decide +kernel
theorem d_Mod_hold_106 : decode b_Mod_hold 106 = .ok (.aload_n 0, 1) := by decide +kernel
theorem d_Mod_hold_107 : decode b_Mod_hold 107 = .ok (.getfield 71, 3) := by decide +kernel
theorem d_Mod_hold_110 : decode b_Mod_hold 110 = .ok (.aload_n 0, 1) := by decide +kernel
theorem d_Mod_hold_111 : decode b_Mod_hold 111 = .ok (.getfield 44, 3) := by decide +kernel
theorem d_Mod_hold_114 : decode b_Mod_hold 114 = .ok (.iload_n 2, 1) := by decide +kernel
theorem d_Mod_hold_115 : decode b_Mod_hold 115 = .ok (.iaload, 1) := by decide +kernel
theorem d_Mod_hold_116 : decode b_Mod_hold 116 = .ok (.iastore, 1) := by decide +kernel
theorem d_Mod_hold_117 : decode b_Mod_hold 117 = .ok (.aload_n 0, 1) := by decide +kernel
theorem d_Mod_hold_118 : decode b_Mod_hold 118 = .ok (.dup, 1) := by decide +kernel
theorem d_Mod_hold_119 : decode b_Mod_hold 119 = .ok (.getfield 71, 3) := by decide +kernel
theorem d_Mod_hold_122 : decode b_Mod_hold 122 = .ok (.iconst 1, 1) := by decide +kernel
theorem d_Mod_hold_123 : decode b_Mod_hold 123 = .ok (.iadd, 1) := by decide +kernel
theorem d_Mod_hold_124 : decode b_Mod_hold 124 = .ok (.putfield 71, 3) := by decide +kernel
theorem d_Mod_hold_127 : decode b_Mod_hold 127 = .ok (.iinc 2 1, 3) := by decide +kernel
theorem d_Mod_hold_130 : decode b_Mod_hold 130 = .ok (.goto (-123), 3) := by decide +kernel
theorem d_Mod_hold_133 : decode b_Mod_hold 133 = .ok (.return_, 1) := by decide +kernel
theorem d_Mod_putBack_0 : decode b_Mod_putBack 0 = .ok (.aload_n 0, 1) := by decide +kernel
theorem d_Mod_putBack_1 : decode b_Mod_putBack 1 = .ok (.getfield 20, 3) := by decide +kernel
theorem d_Mod_putBack_4 : decode b_Mod_putBack 4 = .ok (.iload_n 1, 1) := by decide +kernel
theorem d_Mod_putBack_5 : decode b_Mod_putBack 5 = .ok (.iload_n 2, 1) := by decide +kernel
theorem d_Mod_putBack_6 : decode b_Mod_putBack 6 = .ok (.iastore, 1) := by decide +kernel
theorem d_Mod_putBack_7 : decode b_Mod_putBack 7 = .ok (.aload_n 0, 1) := by decide +kernel
theorem d_Mod_putBack_8 : decode b_Mod_putBack 8 = .ok (.getfield 26, 3) := by decide +kernel
theorem d_Mod_putBack_11 : decode b_Mod_putBack 11 = .ok (.iload_n 1, 1) := by decide +kernel
theorem d_Mod_putBack_12 : decode b_Mod_putBack 12 = .ok (.iload_n 3, 1) := by decide +kernel
theorem d_Mod_putBack_13 : decode b_Mod_putBack 13 = .ok (.iastore, 1) := by decide +kernel
theorem d_Mod_putBack_14 : decode b_Mod_putBack 14 = .ok (.iconst 0, 1) := by decide +kernel
theorem d_Mod_putBack_15 : decode b_Mod_putBack 15 = .ok (.istore 4, 2) := by decide +kernel
theorem d_Mod_putBack_17 : decode b_Mod_putBack 17 = .ok (.iload 4, 2) := by decide +kernel
theorem d_Mod_putBack_19 : decode b_Mod_putBack 19 = .ok (.sipush 128, 3) := by decide +kernel
theorem d_Mod_putBack_22 : decode b_Mod_putBack 22 = .ok (.if_icmp .ge 69, 3) := by decide +kernel
theorem d_Mod_putBack_25 : decode b_Mod_putBack 25 = .ok (.aload_n 0, 1) := by decide +kernel
theorem d_Mod_putBack_26 : decode b_Mod_putBack 26 = .ok (.getfield 7, 3) := by decide +kernel
theorem d_Mod_putBack_29 : decode b_Mod_putBack 29 = .ok (.sipush 128, 3) := by decide +kernel
theorem d_Mod_putBack_32 : decode b_Mod_putBack 32 = .ok (.iload_n 1, 1) := by decide +kernel
theorem d_Mod_putBack_33 : decode b_Mod_putBack 33 = .ok (.imul, 1) := by decide +kernel
theorem d_Mod_putBack_34 : decode b_Mod_putBack 34 = .ok (.iload 4, 2) := by decide +kernel
theorem d_Mod_putBack_36 : decode b_Mod_putBack 36 = .ok (.iadd, 1) := by decide +kernel
theorem d_Mod_putBack_37 : decode b_Mod_putBack 37 = .ok (.aload_n 0, 1) := by decide +kernel
theorem d_Mod_putBack_38 : decode b_Mod_putBack 38 = .ok (.getfield 38, 3) := by decide +kernel
theorem d_Mod_putBack_41 : decode b_Mod_putBack 41 = .ok (.iload 4, 2) := by decide +kernel
theorem d_Mod_putBack_43 : decode b_Mod_putBack 43 = .ok (.baload, 1) := by decide +kernel
theorem d_Mod_putBack_44 : decode b_Mod_putBack 44 = .ok (.bastore, 1) := by decide +kernel
theorem d_Mod_putBack_45 : decode b_Mod_putBack 45 = .ok (.aload_n 0, 1) := by decide +kernel
theorem d_Mod_putBack_46 : decode b_Mod_putBack 46 = .ok (.getfield 13, 3) := by decide +kernel
theorem d_Mod_putBack_49 : decode b_Mod_putBack 49 = .ok (.sipush 128, 3) := by decide +kernel
theorem d_Mod_putBack_52 : decode b_Mod_putBack 52 = .ok (.iload_n 1, 1) := by decide +kernel
theorem d_Mod_putBack_53 : decode b_Mod_putBack 53 = .ok (.imul, 1) := by decide +kernel
theorem d_Mod_putBack_54 : decode b_Mod_putBack 54 = .ok (.iload 4, 2) := by decide +kernel
theorem d_Mod_putBack_56 : decode b_Mod_putBack 56 = .ok (.iadd, 1) := by decide +kernel
theorem d_Mod_putBack_57 : decode b_Mod_putBack 57 = .ok (.aload_n 0, 1) := by decide +kernel
theorem d_Mod_putBack_58 : decode b_Mod_putBack 58 = .ok (.getfield 41, 3) := by decide +kernel
theorem d_Mod_putBack_61 : decode b_Mod_putBack 61 = .ok (.iload 4, 2) := by decide +kernel
theorem d_Mod_putBack_63 : decode b_Mod_putBack 63 = .ok (.iaload, 1) := by decide +kernel
theorem d_Mod_putBack_64 : decode b_Mod_putBack 64 = .ok (.iastore, 1) := by decide +kernel
theorem d_Mod_putBack_65 : decode b_Mod_putBack 65 = .ok (.aload_n 0, 1) := by decide +kernel
theorem d_Mod_putBack_66 : decode b_Mod_putBack 66 = .ok (.getfield 17, 3) := by decide +kernel
theorem d_Mod_putBack_69 : decode b_Mod_putBack 69 = .ok (.sipush 128, 3) := by decide +kernel
theorem d_Mod_putBack_72 : decode b_Mod_putBack 72 = .ok (.iload_n 1, 1) := by decide +kernel
theorem d_Mod_putBack_73 : decode b_Mod_putBack 73 = .ok (.imul, 1) := by decide +kernel
theorem d_Mod_putBack_74 : decode b_Mod_putBack 74 = .ok (.iload 4, 2) := by decide +kernel
theorem d_Mod_putBack_76 : decode b_Mod_putBack 76 = .ok (.iadd, 1) := by decide +kernel
theorem d_Mod_putBack_77 : decode b_Mod_putBack 77 = .ok (.aload_n 0, 1) := by decide +kernel
theorem d_Mod_putBack_78 : decode b_Mod_putBack 78 = .ok (.getfield 44, 3) := by decide +kernel
theorem d_Mod_putBack_81 : decode b_Mod_putBack 81 = .ok (.iload 4, 2) := by decide +kernel
theorem d_Mod_putBack_83 : decode b_Mod_putBack 83 = .ok (.iaload, 1) := by decide +kernel
theorem d_Mod_putBack_84 : decode b_Mod_putBack 84 = .ok (.iastore, 1) := by decide +kernel
theorem d_Mod_putBack_85 : decode b_Mod_putBack 85 = .ok (.iinc 4 1, 3) := by decide +kernel
theorem d_Mod_putBack_88 : decode b_Mod_putBack 88 = .ok (.goto (-71), 3) := by decide +kernel
theorem d_Mod_putBack_91 : decode b_Mod_putBack 91 = .ok (.return_, 1) := by decide +kernel
theorem d_Mod_nextFrom_0 : decode b_Mod_nextFrom 0 = .ok (.iconst (-1), 1) := by decide +kernel
theorem d_Mod_nextFrom_1 : decode b_Mod_nextFrom 1 = .ok (.istore_n 2, 1) := by decide +kernel
theorem d_Mod_nextFrom_2 : decode b_Mod_nextFrom 2 = .ok (.iconst 0, 1) := by decide +kernel
theorem d_Mod_nextFrom_3 : decode b_Mod_nextFrom 3 = .ok (.istore_n 3, 1) := by decide +kernel
theorem d_Mod_nextFrom_4 : decode b_Mod_nextFrom 4 = .ok (.iload_n 3, 1) := by decide +kernel
theorem d_Mod_nextFrom_5 : decode b_Mod_nextFrom 5 = .ok (.iconst 3, 1) := by decide +kernel
theorem d_Mod_nextFrom_6 : decode b_Mod_nextFrom 6 = .ok (.if_icmp .ge 57, 3) := by decide +kernel
theorem d_Mod_nextFrom_9 : decode b_Mod_nextFrom 9 = .ok (.aload_n 0, 1) := by decide +kernel
theorem d_Mod_nextFrom_10 : decode b_Mod_nextFrom 10 = .ok (.getfield 23, 3) := by decide +kernel
theorem d_Mod_nextFrom_13 : decode b_Mod_nextFrom 13 = .ok (.iload_n 3, 1) := by decide +kernel
theorem d_Mod_nextFrom_14 : decode b_Mod_nextFrom 14 = .ok (.iaload, 1) := by decide +kernel
theorem d_Mod_nextFrom_15 : decode b_Mod_nextFrom 15 = .ok (.iload_n 1, 1) := by decide +kernel
theorem d_Mod_nextFrom_16 : decode b_Mod_nextFrom 16 = .ok (.if_icmp .lt 7, 3) := by decide +kernel
theorem d_Mod_nextFrom_19 : decode b_Mod_nextFrom 19 = .ok (.iconst 1, 1) := by decide +kernel
theorem d_Mod_nextFrom_20 : decode b_Mod_nextFrom 20 = .ok (.goto 4, 3) := by decide +kernel
theorem d_Mod_nextFrom_23 : decode b_Mod_nextFrom 23 = .ok (.iconst 0, 1) := by decide +kernel
theorem d_Mod_nextFrom_24 : decode b_Mod_nextFrom 24 = .ok (.istore 4, 2) := by decide +kernel
theorem d_Mod_nextFrom_26 : decode b_Mod_nextFrom 26 = .ok (.iload 4, 2) := by decide +kernel
theorem d_Mod_nextFrom_28 : decode b_Mod_nextFrom 28 = .ok (.ifCond .eq 27, 3) := by decide +kernel
theorem d_Mod_nextFrom_31 : decode b_Mod_nextFrom 31 = .ok (.iload_n 2, 1) := by decide +kernel
theorem d_Mod_nextFrom_32 : decode b_Mod_nextFrom 32 = .ok (.iconst (-1), 1) := by decide +kernel
theorem d_Mod_nextFrom_33 : decode b_Mod_nextFrom 33 = .ok (.if_icmp .eq 18, 3) := by decide +kernel
theorem d_Mod_nextFrom_36 : decode b_Mod_nextFrom 36 = .ok (.aload_n 0, 1) := by decide +kernel
theorem d_Mod_nextFrom_37 : decode b_Mod_nextFrom 37 = .ok (.getfield 23, 3) := by decide +kernel
theorem d_Mod_nextFrom_40 : decode b_Mod_nextFrom 40 = .ok (.iload_n 3, 1) := by decide +kernel
theorem d_Mod_nextFrom_41 : decode b_Mod_nextFrom 41 = .ok (.iaload, 1) := by decide +kernel
theorem d_Mod_nextFrom_42 : decode b_Mod_nextFrom 42 = .ok (.aload_n 0, 1) := by decide +kernel
theorem d_Mod_nextFrom_43 : decode b_Mod_nextFrom 43 = .ok (.getfield 23, 3) := by decide +kernel
theorem d_Mod_nextFrom_46 : decode b_Mod_nextFrom 46 = .ok (.iload_n 2, 1) := by decide +kernel
theorem d_Mod_nextFrom_47 : decode b_Mod_nextFrom 47 = .ok (.iaload, 1) := by decide +kernel
theorem d_Mod_nextFrom_48 : decode b_Mod_nextFrom 48 = .ok (.if_icmp .ge 7, 3) := by decide +kernel
theorem d_Mod_nextFrom_51 : decode b_Mod_nextFrom 51 = .ok (.iload_n 3, 1) := by decide +kernel
theorem d_Mod_nextFrom_52 : decode b_Mod_nextFrom 52 = .ok (.goto 4, 3) := by decide +kernel
theorem d_Mod_nextFrom_55 : decode b_Mod_nextFrom 55 = .ok (.iload_n 2, 1) := by decide +kernel
theorem d_Mod_nextFrom_56 : decode b_Mod_nextFrom 56 = .ok (.istore_n 2, 1) := by decide +kernel
theorem d_Mod_nextFrom_57 : decode b_Mod_nextFrom 57 = .ok (.iinc 3 1, 3) := by decide +kernel
theorem d_Mod_nextFrom_60 : decode b_Mod_nextFrom 60 = .ok (.goto (-56), 3) := by decide +kernel
theorem d_Mod_nextFrom_63 : decode b_Mod_nextFrom 63 = .ok (.iload_n 2, 1) := by decide +kernel
theorem d_Mod_nextFrom_64 : decode b_Mod_nextFrom 64 = .ok (.ireturn, 1) := by decide +kernel
theorem d_Mod_endOf_0 : decode b_Mod_endOf 0 = .ok (.aload_n 0, 1) := by decide +kernel
theorem d_Mod_endOf_1 : decode b_Mod_endOf 1 = .ok (.getfield 23, 3) := by decide +kernel
theorem d_Mod_endOf_4 : decode b_Mod_endOf 4 = .ok (.iload_n 1, 1) := by decide +kernel
theorem d_Mod_endOf_5 : decode b_Mod_endOf 5 = .ok (.iaload, 1) := by decide +kernel
theorem d_Mod_endOf_6 : decode b_Mod_endOf 6 = .ok (.iload_n 1, 1) := by decide +kernel
theorem d_Mod_endOf_7 : decode b_Mod_endOf 7 = .ok (.iload_n 2, 1) := by decide +kernel
theorem d_Mod_endOf_8 : decode b_Mod_endOf 8 = .ok (.if_icmp .ne 7, 3) := by decide +kernel
theorem d_Mod_endOf_11 : decode b_Mod_endOf 11 = .ok (.iload_n 3, 1) := by decide +kernel
theorem d_Mod_endOf_12 : decode b_Mod_endOf 12 = .ok (.goto 9, 3) := by decide +kernel
theorem d_Mod_endOf_15 : decode b_Mod_endOf 15 = .ok (.aload_n 0, 1) := by decide +kernel
theorem d_Mod_endOf_16 : decode b_Mod_endOf 16 = .ok (.getfield 20, 3) := by decide +kernel
theorem d_Mod_endOf_19 : decode b_Mod_endOf 19 = .ok (.iload_n 1, 1) := by decide +kernel
theorem d_Mod_endOf_20 : decode b_Mod_endOf 20 = .ok (.iaload, 1) := by decide +kernel
theorem d_Mod_endOf_21 : decode b_Mod_endOf 21 = .ok (.iadd, 1) := by decide +kernel
theorem d_Mod_endOf_22 : decode b_Mod_endOf 22 = .ok (.ireturn, 1) := by decide +kernel
theorem d_Mod_endOfAll_0 : decode b_Mod_endOfAll 0 = .ok (.iconst 0, 1) := by decide +kernel
theorem d_Mod_endOfAll_1 : decode b_Mod_endOfAll 1 = .ok (.istore_n 3, 1) := by decide +kernel
theorem d_Mod_endOfAll_2 : decode b_Mod_endOfAll 2 = .ok (.iconst 0, 1) := by decide +kernel
theorem d_Mod_endOfAll_3 : decode b_Mod_endOfAll 3 = .ok (.istore 4, 2) := by decide +kernel
theorem d_Mod_endOfAll_5 : decode b_Mod_endOfAll 5 = .ok (.iload 4, 2) := by decide +kernel
theorem d_Mod_endOfAll_7 : decode b_Mod_endOfAll 7 = .ok (.iconst 3, 1) := by decide +kernel
theorem d_Mod_endOfAll_8 : decode b_Mod_endOfAll 8 = .ok (.if_icmp .ge 32, 3) := by decide +kernel
theorem d_Mod_endOfAll_11 : decode b_Mod_endOfAll 11 = .ok (.aload_n 0, 1) := by decide +kernel
theorem d_Mod_endOfAll_12 : decode b_Mod_endOfAll 12 = .ok (.iload 4, 2) := by decide +kernel
theorem d_Mod_endOfAll_14 : decode b_Mod_endOfAll 14 = .ok (.iload_n 1, 1) := by decide +kernel
theorem d_Mod_endOfAll_15 : decode b_Mod_endOfAll 15 = .ok (.iload_n 2, 1) := by decide +kernel
theorem d_Mod_endOfAll_16 : decode b_Mod_endOfAll 16 = .ok (.invokevirtual 74, 3) := by decide +kernel
theorem d_Mod_endOfAll_19 : decode b_Mod_endOfAll 19 = .ok (.istore 5, 2) := by decide +kernel
theorem d_Mod_endOfAll_21 : decode b_Mod_endOfAll 21 = .ok (.iload 5, 2) := by decide +kernel
theorem d_Mod_endOfAll_23 : decode b_Mod_endOfAll 23 = .ok (.iload_n 3, 1) := by decide +kernel
theorem d_Mod_endOfAll_24 : decode b_Mod_endOfAll 24 = .ok (.if_icmp .le 8, 3) := by decide +kernel
theorem d_Mod_endOfAll_27 : decode b_Mod_endOfAll 27 = .ok (.iload 5, 2) := by decide +kernel
theorem d_Mod_endOfAll_29 : decode b_Mod_endOfAll 29 = .ok (.goto 4, 3) := by decide +kernel
theorem d_Mod_endOfAll_32 : decode b_Mod_endOfAll 32 = .ok (.iload_n 3, 1) := by decide +kernel
theorem d_Mod_endOfAll_33 : decode b_Mod_endOfAll 33 = .ok (.istore_n 3, 1) := by decide +kernel
theorem d_Mod_endOfAll_34 : decode b_Mod_endOfAll 34 = .ok (.iinc 4 1, 3) := by decide +kernel
theorem d_Mod_endOfAll_37 : decode b_Mod_endOfAll 37 = .ok (.goto (-32), 3) := by decide +kernel
theorem d_Mod_endOfAll_40 : decode b_Mod_endOfAll 40 = .ok (.iload_n 3, 1) := by decide +kernel
theorem d_Mod_endOfAll_41 : decode b_Mod_endOfAll 41 = .ok (.ireturn, 1) := by decide +kernel
theorem d_Mod_pushTogether_0 : decode b_Mod_pushTogether 0 = .ok (.iconst 0, 1) := by decide +kernel
theorem d_Mod_pushTogether_1 : decode b_Mod_pushTogether 1 = .ok (.istore_n 3, 1) := by decide +kernel
theorem d_Mod_pushTogether_2 : decode b_Mod_pushTogether 2 = .ok (.iconst 0, 1) := by decide +kernel
theorem d_Mod_pushTogether_3 : decode b_Mod_pushTogether 3 = .ok (.istore 4, 2) := by decide +kernel
theorem d_Mod_pushTogether_5 : decode b_Mod_pushTogether 5 = .ok (.iconst 0, 1) := by decide +kernel
theorem d_Mod_pushTogether_6 : decode b_Mod_pushTogether 6 = .ok (.istore 5, 2) := by decide +kernel
theorem d_Mod_pushTogether_8 : decode b_Mod_pushTogether 8 = .ok (.iload 5, 2) := by decide +kernel
theorem d_Mod_pushTogether_10 : decode b_Mod_pushTogether 10 = .ok (.iconst 3, 1) := by decide +kernel
theorem d_Mod_pushTogether_11 : decode b_Mod_pushTogether 11 = .ok (.if_icmp .ge 44, 3) := by decide +kernel
theorem d_Mod_pushTogether_14 : decode b_Mod_pushTogether 14 = .ok (.aload_n 0, 1) := by decide +kernel
theorem d_Mod_pushTogether_15 : decode b_Mod_pushTogether 15 = .ok (.iload 4, 2) := by decide +kernel
theorem d_Mod_pushTogether_17 : decode b_Mod_pushTogether 17 = .ok (.invokevirtual 77, 3) := by decide +kernel
theorem d_Mod_pushTogether_20 : decode b_Mod_pushTogether 20 = .ok (.istore 6, 2) := by decide +kernel
theorem d_Mod_pushTogether_22 : decode b_Mod_pushTogether 22 = .ok (.aload_n 0, 1) := by decide +kernel
theorem d_Mod_pushTogether_23 : decode b_Mod_pushTogether 23 = .ok (.iload 6, 2) := by decide +kernel
theorem d_Mod_pushTogether_25 : decode b_Mod_pushTogether 25 = .ok (.iload_n 1, 1) := by decide +kernel
theorem d_Mod_pushTogether_26 : decode b_Mod_pushTogether 26 = .ok (.iload_n 2, 1) := by decide +kernel
theorem d_Mod_pushTogether_27 : decode b_Mod_pushTogether 27 = .ok (.invokevirtual 74, 3) := by decide +kernel
theorem d_Mod_pushTogether_30 : decode b_Mod_pushTogether 30 = .ok (.istore 4, 2) := by decide +kernel
theorem d_Mod_pushTogether_32 : decode b_Mod_pushTogether 32 = .ok (.aload_n 0, 1) := by decide +kernel
theorem d_Mod_pushTogether_33 : decode b_Mod_pushTogether 33 = .ok (.getfield 23, 3) := by decide +kernel
theorem d_Mod_pushTogether_36 : decode b_Mod_pushTogether 36 = .ok (.iload 6, 2) := by decide +kernel
theorem d_Mod_pushTogether_38 : decode b_Mod_pushTogether 38 = .ok (.iload_n 3, 1) := by decide +kernel
theorem d_Mod_pushTogether_39 : decode b_Mod_pushTogether 39 = .ok (.iastore, 1) := by decide +kernel
theorem d_Mod_pushTogether_40 : decode b_Mod_pushTogether 40 = .ok (.aload_n 0, 1) := by decide +kernel
theorem d_Mod_pushTogether_41 : decode b_Mod_pushTogether 41 = .ok (.iload 6, 2) := by decide +kernel
theorem d_Mod_pushTogether_43 : decode b_Mod_pushTogether 43 = .ok (.iload_n 1, 1) := by decide +kernel
theorem d_Mod_pushTogether_44 : decode b_Mod_pushTogether 44 = .ok (.iload_n 2, 1) := by decide +kernel
theorem d_Mod_pushTogether_45 : decode b_Mod_pushTogether 45 = .ok (.invokevirtual 74, 3) := by decide +kernel
theorem d_Mod_pushTogether_48 : decode b_Mod_pushTogether 48 = .ok (.istore_n 3, 1) := by decide +kernel
theorem d_Mod_pushTogether_49 : decode b_Mod_pushTogether 49 = .ok (.iinc 5 1, 3) := by decide +kernel
theorem d_Mod_pushTogether_52 : decode b_Mod_pushTogether 52 = .ok (.goto (-44), 3) := by decide +kernel
theorem d_Mod_pushTogether_55 : decode b_Mod_pushTogether 55 = .ok (.aload_n 0, 1) := by decide +kernel
theorem d_Mod_pushTogether_56 : decode b_Mod_pushTogether 56 = .ok (.getfield 29, 3) := by decide +kernel
theorem d_Mod_pushTogether_59 : decode b_Mod_pushTogether 59 = .ok (.iconst 2, 1) := by decide +kernel
theorem d_Mod_pushTogether_60 : decode b_Mod_pushTogether 60 = .ok (.aload_n 0, 1) := by decide +kernel
theorem d_Mod_pushTogether_61 : decode b_Mod_pushTogether 61 = .ok (.getfield 29, 3) := by decide +kernel
theorem d_Mod_pushTogether_64 : decode b_Mod_pushTogether 64 = .ok (.iconst 2, 1) := by decide +kernel
theorem d_Mod_pushTogether_65 : decode b_Mod_pushTogether 65 = .ok (.iaload, 1) := by decide +kernel
theorem d_Mod_pushTogether_66 : decode b_Mod_pushTogether 66 = .ok (.iconst 1, 1) := by decide +kernel
theorem d_Mod_pushTogether_67 : decode b_Mod_pushTogether 67 = .ok (.iadd, 1) := by decide +kernel
theorem d_Mod_pushTogether_68 : decode b_Mod_pushTogether 68 = .ok (.iastore, 1) := by decide +kernel
theorem d_Mod_pushTogether_69 : decode b_Mod_pushTogether 69 = .ok (.return_, 1) := by decide +kernel
theorem d_Mod_grow_0 : decode b_Mod_grow 0 = .ok (.aload_n 0, 1) := by decide +kernel
theorem d_Mod_grow_1 : decode b_Mod_grow 1 = .ok (.getfield 20, 3) := by decide +kernel
theorem d_Mod_grow_4 : decode b_Mod_grow 4 = .ok (.iload_n 1, 1) := by decide +kernel
theorem d_Mod_grow_5 : decode b_Mod_grow 5 = .ok (.iaload, 1) := by decide +kernel
theorem d_Mod_grow_6 : decode b_Mod_grow 6 = .ok (.istore_n 2, 1) := by decide +kernel
theorem d_Mod_grow_7 : decode b_Mod_grow 7 = .ok (.aload_n 0, 1) := by decide +kernel
theorem d_Mod_grow_8 : decode b_Mod_grow 8 = .ok (.getfield 26, 3) := by decide +kernel
theorem d_Mod_grow_11 : decode b_Mod_grow 11 = .ok (.iload_n 1, 1) := by decide +kernel
theorem d_Mod_grow_12 : decode b_Mod_grow 12 = .ok (.iaload, 1) := by decide +kernel
theorem d_Mod_grow_13 : decode b_Mod_grow 13 = .ok (.istore_n 3, 1) := by decide +kernel
theorem d_Mod_grow_14 : decode b_Mod_grow 14 = .ok (.aload_n 0, 1) := by decide +kernel
theorem d_Mod_grow_15 : decode b_Mod_grow 15 = .ok (.getfield 20, 3) := by decide +kernel
theorem d_Mod_grow_18 : decode b_Mod_grow 18 = .ok (.iconst 0, 1) := by decide +kernel
theorem d_Mod_grow_19 : decode b_Mod_grow 19 = .ok (.iaload, 1) := by decide +kernel
theorem d_Mod_grow_20 : decode b_Mod_grow 20 = .ok (.aload_n 0, 1) := by decide +kernel
theorem d_Mod_grow_21 : decode b_Mod_grow 21 = .ok (.getfield 20, 3) := by decide +kernel
theorem d_Mod_grow_24 : decode b_Mod_grow 24 = .ok (.iconst 1, 1) := by decide +kernel
theorem d_Mod_grow_25 : decode b_Mod_grow 25 = .ok (.iaload, 1) := by decide +kernel
theorem d_Mod_grow_26 : decode b_Mod_grow 26 = .ok (.iadd, 1) := by decide +kernel
theorem d_Mod_grow_27 : decode b_Mod_grow 27 = .ok (.aload_n 0, 1) := by decide +kernel
theorem d_Mod_grow_28 : decode b_Mod_grow 28 = .ok (.getfield 20, 3) := by decide +kernel
theorem d_Mod_grow_31 : decode b_Mod_grow 31 = .ok (.iconst 2, 1) := by decide +kernel
theorem d_Mod_grow_32 : decode b_Mod_grow 32 = .ok (.iaload, 1) := by decide +kernel
theorem d_Mod_grow_33 : decode b_Mod_grow 33 = .ok (.iadd, 1) := by decide +kernel
theorem d_Mod_grow_34 : decode b_Mod_grow 34 = .ok (.iload_n 2, 1) := by decide +kernel
theorem d_Mod_grow_35 : decode b_Mod_grow 35 = .ok (.isub, 1) := by decide +kernel
theorem d_Mod_grow_36 : decode b_Mod_grow 36 = .ok (.istore 4, 2) := by decide +kernel
theorem d_Mod_grow_38 : decode b_Mod_grow 38 = .ok (.iconst 2, 1) := by decide +kernel
theorem d_Mod_grow_39 : decode b_Mod_grow 39 = .ok (.aload_n 0, 1) := by decide +kernel
theorem d_Mod_grow_40 : decode b_Mod_grow 40 = .ok (.getfield 20, 3) := by decide +kernel
theorem d_Mod_grow_43 : decode b_Mod_grow 43 = .ok (.iload_n 1, 1) := by decide +kernel
theorem d_Mod_grow_44 : decode b_Mod_grow 44 = .ok (.iaload, 1) := by decide +kernel
theorem d_Mod_grow_45 : decode b_Mod_grow 45 = .ok (.imul, 1) := by decide +kernel
theorem d_Mod_grow_46 : decode b_Mod_grow 46 = .ok (.sipush 128, 3) := by decide +kernel
theorem d_Mod_grow_49 : decode b_Mod_grow 49 = .ok (.if_icmp .gt 175, 3) := by decide +kernel
theorem d_Mod_grow_52 : decode b_Mod_grow 52 = .ok (.iload 4, 2) := by decide +kernel
theorem d_Mod_grow_54 : decode b_Mod_grow 54 = .ok (.iload_n 2, 1) := by decide +kernel
theorem d_Mod_grow_55 : decode b_Mod_grow 55 = .ok (.iadd, 1) := by decide +kernel
theorem d_Mod_grow_56 : decode b_Mod_grow 56 = .ok (.iconst 2, 1) := by decide +kernel
theorem d_Mod_grow_57 : decode b_Mod_grow 57 = .ok (.aload_n 0, 1) := by decide +kernel
theorem d_Mod_grow_58 : decode b_Mod_grow 58 = .ok (.getfield 20, 3) := by decide +kernel
theorem d_Mod_grow_61 : decode b_Mod_grow 61 = .ok (.iload_n 1, 1) := by decide +kernel
theorem d_Mod_grow_62 : decode b_Mod_grow 62 = .ok (.iaload, 1) := by decide +kernel
theorem d_Mod_grow_63 : decode b_Mod_grow 63 = .ok (.imul, 1) := by decide +kernel
theorem d_Mod_grow_64 : decode b_Mod_grow 64 = .ok (.iadd, 1) := by decide +kernel
theorem d_Mod_grow_65 : decode b_Mod_grow 65 = .ok (.sipush 256, 3) := by decide +kernel
theorem d_Mod_grow_68 : decode b_Mod_grow 68 = .ok (.if_icmp .gt 156, 3) := by decide +kernel
theorem d_Mod_grow_71 : decode b_Mod_grow 71 = .ok (.iconst 2, 1) := by decide +kernel
theorem d_Mod_grow_72 : decode b_Mod_grow 72 = .ok (.aload_n 0, 1) := by decide +kernel
theorem d_Mod_grow_73 : decode b_Mod_grow 73 = .ok (.getfield 20, 3) := by decide +kernel
theorem d_Mod_grow_76 : decode b_Mod_grow 76 = .ok (.iload_n 1, 1) := by decide +kernel
theorem d_Mod_grow_77 : decode b_Mod_grow 77 = .ok (.iaload, 1) := by decide +kernel
theorem d_Mod_grow_78 : decode b_Mod_grow 78 = .ok (.imul, 1) := by decide +kernel
theorem d_Mod_grow_79 : decode b_Mod_grow 79 = .ok (.istore 5, 2) := by decide +kernel
theorem d_Mod_grow_81 : decode b_Mod_grow 81 = .ok (.aload_n 0, 1) := by decide +kernel
theorem d_Mod_grow_82 : decode b_Mod_grow 82 = .ok (.iload_n 1, 1) := by decide +kernel
theorem d_Mod_grow_83 : decode b_Mod_grow 83 = .ok (.iload_n 2, 1) := by decide +kernel
theorem d_Mod_grow_84 : decode b_Mod_grow 84 = .ok (.invokevirtual 81, 3) := by decide +kernel
theorem d_Mod_grow_87 : decode b_Mod_grow 87 = .ok (.istore 6, 2) := by decide +kernel
theorem d_Mod_grow_89 : decode b_Mod_grow 89 = .ok (.iload 6, 2) := by decide +kernel
theorem d_Mod_grow_91 : decode b_Mod_grow 91 = .ok (.iload 5, 2) := by decide +kernel
theorem d_Mod_grow_93 : decode b_Mod_grow 93 = .ok (.iadd, 1) := by decide +kernel
theorem d_Mod_grow_94 : decode b_Mod_grow 94 = .ok (.sipush 256, 3) := by decide +kernel
theorem d_Mod_grow_97 : decode b_Mod_grow 97 = .ok (.if_icmp .le 17, 3) := by decide +kernel
theorem d_Mod_grow_100 : decode b_Mod_grow 100 = .ok (.aload_n 0, 1) := by decide +kernel
theorem d_Mod_grow_101 : decode b_Mod_grow 101 = .ok (.iload_n 1, 1) := by decide +kernel
theorem d_Mod_grow_102 : decode b_Mod_grow 102 = .ok (.iload_n 2, 1) := by decide +kernel
theorem d_Mod_grow_103 : decode b_Mod_grow 103 = .ok (.invokevirtual 84, 3) := by decide +kernel
theorem d_Mod_grow_106 : decode b_Mod_grow 106 = .ok (.aload_n 0, 1) := by decide +kernel
theorem d_Mod_grow_107 : decode b_Mod_grow 107 = .ok (.iload_n 1, 1) := by decide +kernel
theorem d_Mod_grow_108 : decode b_Mod_grow 108 = .ok (.iload_n 2, 1) := by decide +kernel
theorem d_Mod_grow_109 : decode b_Mod_grow 109 = .ok (.invokevirtual 81, 3) := by decide +kernel
theorem d_Mod_grow_112 : decode b_Mod_grow 112 = .ok (.istore 6, 2) := by decide +kernel
theorem d_Mod_grow_114 : decode b_Mod_grow 114 = .ok (.aload_n 0, 1) := by decide +kernel
theorem d_Mod_grow_115 : decode b_Mod_grow 115 = .ok (.getfield 20, 3) := by decide +kernel
theorem d_Mod_grow_118 : decode b_Mod_grow 118 = .ok (.iload_n 1, 1) := by decide +kernel
theorem d_Mod_grow_119 : decode b_Mod_grow 119 = .ok (.iload 5, 2) := by decide +kernel
theorem d_Mod_grow_121 : decode b_Mod_grow 121 = .ok (.iastore, 1) := by decide +kernel
theorem d_Mod_grow_122 : decode b_Mod_grow 122 = .ok (.aload_n 0, 1) := by decide +kernel
theorem d_Mod_grow_123 : decode b_Mod_grow 123 = .ok (.getfield 26, 3) := by decide +kernel
theorem d_Mod_grow_126 : decode b_Mod_grow 126 = .ok (.iload_n 1, 1) := by decide +kernel
theorem d_Mod_grow_127 : decode b_Mod_grow 127 = .ok (.aload_n 0, 1) := by decide +kernel
theorem d_Mod_grow_128 : decode b_Mod_grow 128 = .ok (.getfield 26, 3) := by decide +kernel
theorem d_Mod_grow_131 : decode b_Mod_grow 131 = .ok (.iload_n 1, 1) := by decide +kernel
theorem d_Mod_grow_132 : decode b_Mod_grow 132 = .ok (.iaload, 1) := by decide +kernel
theorem d_Mod_grow_133 : decode b_Mod_grow 133 = .ok (.ldc 88, 2) := by decide +kernel
theorem d_Mod_grow_135 : decode b_Mod_grow 135 = .ok (.imul, 1) := by decide +kernel
theorem d_Mod_grow_136 : decode b_Mod_grow 136 = .ok (.ldc 89, 2) := by decide +kernel
theorem d_Mod_grow_138 : decode b_Mod_grow 138 = .ok (.iadd, 1) := by decide +kernel
theorem d_Mod_grow_139 : decode b_Mod_grow 139 = .ok (.iastore, 1) := by decide +kernel
theorem d_Mod_grow_140 : decode b_Mod_grow 140 = .ok (.aload_n 0, 1) := by decide +kernel
theorem d_Mod_grow_141 : decode b_Mod_grow 141 = .ok (.getfield 29, 3) := by decide +kernel
theorem d_Mod_grow_144 : decode b_Mod_grow 144 = .ok (.iconst 1, 1) := by decide +kernel
theorem d_Mod_grow_145 : decode b_Mod_grow 145 = .ok (.aload_n 0, 1) := by decide +kernel
theorem d_Mod_grow_146 : decode b_Mod_grow 146 = .ok (.getfield 29, 3) := by decide +kernel
theorem d_Mod_grow_149 : decode b_Mod_grow 149 = .ok (.iconst 1, 1) := by decide +kernel
theorem d_Mod_grow_150 : decode b_Mod_grow 150 = .ok (.iaload, 1) := by decide +kernel
theorem d_Mod_grow_151 : decode b_Mod_grow 151 = .ok (.iconst 1, 1) := by decide +kernel
theorem d_Mod_grow_152 : decode b_Mod_grow 152 = .ok (.iadd, 1) := by decide +kernel
theorem d_Mod_grow_153 : decode b_Mod_grow 153 = .ok (.iastore, 1) := by decide +kernel
theorem d_Mod_grow_154 : decode b_Mod_grow 154 = .ok (.aload_n 0, 1) := by decide +kernel
theorem d_Mod_grow_155 : decode b_Mod_grow 155 = .ok (.iload_n 1, 1) := by decide +kernel
theorem d_Mod_grow_156 : decode b_Mod_grow 156 = .ok (.invokevirtual 90, 3) := by decide +kernel
theorem d_Mod_grow_159 : decode b_Mod_grow 159 = .ok (.iconst 1, 1) := by decide +kernel
theorem d_Mod_grow_160 : decode b_Mod_grow 160 = .ok (.istore 7, 2) := by decide +kernel
theorem d_Mod_grow_162 : decode b_Mod_grow 162 = .ok (.iconst 0, 1) := by decide +kernel
theorem d_Mod_grow_163 : decode b_Mod_grow 163 = .ok (.istore 8, 2) := by decide +kernel
theorem d_Mod_grow_165 : decode b_Mod_grow 165 = .ok (.iload 8, 2) := by decide +kernel
theorem d_Mod_grow_167 : decode b_Mod_grow 167 = .ok (.aload_n 0, 1) := by decide +kernel
theorem d_Mod_grow_168 : decode b_Mod_grow 168 = .ok (.getfield 71, 3) := by decide +kernel
theorem d_Mod_grow_171 : decode b_Mod_grow 171 = .ok (.if_icmp .ge 35, 3) := by decide +kernel
theorem d_Mod_grow_174 : decode b_Mod_grow 174 = .ok (.iload 7, 2) := by decide +kernel
theorem d_Mod_grow_176 : decode b_Mod_grow 176 = .ok (.ifCond .eq 30, 3) := by decide +kernel
theorem d_Mod_grow_179 : decode b_Mod_grow 179 = .ok (.aload_n 0, 1) := by decide +kernel
theorem d_Mod_grow_180 : decode b_Mod_grow 180 = .ok (.iload_n 1, 1) := by decide +kernel
theorem d_Mod_grow_181 : decode b_Mod_grow 181 = .ok (.aload_n 0, 1) := by decide +kernel
theorem d_Mod_grow_182 : decode b_Mod_grow 182 = .ok (.getfield 32, 3) := by decide +kernel
theorem d_Mod_grow_185 : decode b_Mod_grow 185 = .ok (.iload 8, 2) := by decide +kernel
theorem d_Mod_grow_187 : decode b_Mod_grow 187 = .ok (.iaload, 1) := by decide +kernel
theorem d_Mod_grow_188 : decode b_Mod_grow 188 = .ok (.aload_n 0, 1) := by decide +kernel
theorem d_Mod_grow_189 : decode b_Mod_grow 189 = .ok (.getfield 35, 3) := by decide +kernel
theorem d_Mod_grow_192 : decode b_Mod_grow 192 = .ok (.iload 8, 2) := by decide +kernel
theorem d_Mod_grow_194 : decode b_Mod_grow 194 = .ok (.iaload, 1) := by decide +kernel
theorem d_Mod_grow_195 : decode b_Mod_grow 195 = .ok (.invokevirtual 94, 3) := by decide +kernel
theorem d_Mod_grow_198 : decode b_Mod_grow 198 = .ok (.istore 7, 2) := by decide +kernel
theorem d_Mod_grow_200 : decode b_Mod_grow 200 = .ok (.iinc 8 1, 3) := by decide +kernel
theorem d_Mod_grow_203 : decode b_Mod_grow 203 = .ok (.goto (-38), 3) := by decide +kernel
theorem d_Mod_grow_206 : decode b_Mod_grow 206 = .ok (.iload 7, 2) := by decide +kernel
theorem d_Mod_grow_208 : decode b_Mod_grow 208 = .ok (.ifCond .eq 13, 3) := by decide +kernel
theorem d_Mod_grow_211 : decode b_Mod_grow 211 = .ok (.aload_n 0, 1) := by decide +kernel
theorem d_Mod_grow_212 : decode b_Mod_grow 212 = .ok (.getfield 23, 3) := by decide +kernel
theorem d_Mod_grow_215 : decode b_Mod_grow 215 = .ok (.iload_n 1, 1) := by decide +kernel
theorem d_Mod_grow_216 : decode b_Mod_grow 216 = .ok (.iload 6, 2) := by decide +kernel
theorem d_Mod_grow_218 : decode b_Mod_grow 218 = .ok (.iastore, 1) := by decide +kernel
theorem d_Mod_grow_219 : decode b_Mod_grow 219 = .ok (.iconst 1, 1) := by decide +kernel
theorem d_Mod_grow_220 : decode b_Mod_grow 220 = .ok (.ireturn, 1) := by decide +kernel
theorem d_Mod_grow_221 : decode b_Mod_grow 221 = .ok (.goto (-183), 3) := by decide +kernel
theorem d_Mod_grow_224 : decode b_Mod_grow 224 = .ok (.aload_n 0, 1) := by decide +kernel
theorem d_Mod_grow_225 : decode b_Mod_grow 225 = .ok (.iload_n 1, 1) := by decide +kernel
theorem d_Mod_grow_226 : decode b_Mod_grow 226 = .ok (.iload_n 2, 1) := by decide +kernel
theorem d_Mod_grow_227 : decode b_Mod_grow 227 = .ok (.iload_n 3, 1) := by decide +kernel
theorem d_Mod_grow_228 : decode b_Mod_grow 228 = .ok (.invokevirtual 97, 3) := by decide +kernel
theorem d_Mod_grow_231 : decode b_Mod_grow 231 = .ok (.iconst 0, 1) := by decide +kernel
theorem d_Mod_grow_232 : decode b_Mod_grow 232 = .ok (.ireturn, 1) := by decide +kernel
theorem d_Mod_put_0 : decode b_Mod_put 0 = .ok (.aload_n 0, 1) := by decide +kernel
theorem d_Mod_put_1 : decode b_Mod_put 1 = .ok (.iload_n 1, 1) := by decide +kernel
theorem d_Mod_put_2 : decode b_Mod_put 2 = .ok (.invokevirtual 100, 3) := by decide +kernel
theorem d_Mod_put_5 : decode b_Mod_put 5 = .ok (.ifCond .ne 5, 3) := by decide +kernel
theorem d_Mod_put_8 : decode b_Mod_put 8 = .ok (.iconst 0, 1) := by decide +kernel
theorem d_Mod_put_9 : decode b_Mod_put 9 = .ok (.ireturn, 1) := by decide +kernel
theorem d_Mod_put_10 : decode b_Mod_put 10 = .ok (.aload_n 0, 1) := by decide +kernel
theorem d_Mod_put_11 : decode b_Mod_put 11 = .ok (.iload_n 1, 1) := by decide +kernel
theorem d_Mod_put_12 : decode b_Mod_put 12 = .ok (.iload_n 2, 1) := by decide +kernel
theorem d_Mod_put_13 : decode b_Mod_put 13 = .ok (.invokevirtual 104, 3) := by decide +kernel
theorem d_Mod_put_16 : decode b_Mod_put 16 = .ok (.istore 4, 2) := by decide +kernel
theorem d_Mod_put_18 : decode b_Mod_put 18 = .ok (.iload 4, 2) := by decide +kernel
theorem d_Mod_put_20 : decode b_Mod_put 20 = .ok (.iconst (-1), 1) := by decide +kernel
theorem d_Mod_put_21 : decode b_Mod_put 21 = .ok (.if_icmp .eq 19, 3) := by decide +kernel
theorem d_Mod_put_24 : decode b_Mod_put 24 = .ok (.aload_n 0, 1) := by decide +kernel
theorem d_Mod_put_25 : decode b_Mod_put 25 = .ok (.getfield 17, 3) := by decide +kernel
theorem d_Mod_put_28 : decode b_Mod_put 28 = .ok (.sipush 128, 3) := by decide +kernel
theorem d_Mod_put_31 : decode b_Mod_put 31 = .ok (.iload_n 1, 1) := by decide +kernel
theorem d_Mod_put_32 : decode b_Mod_put 32 = .ok (.imul, 1) := by decide +kernel
theorem d_Mod_put_33 : decode b_Mod_put 33 = .ok (.iload 4, 2) := by decide +kernel
theorem d_Mod_put_35 : decode b_Mod_put 35 = .ok (.iadd, 1) := by decide +kernel
theorem d_Mod_put_36 : decode b_Mod_put 36 = .ok (.iload_n 3, 1) := by decide +kernel
theorem d_Mod_put_37 : decode b_Mod_put 37 = .ok (.iastore, 1) := by decide +kernel
theorem d_Mod_put_38 : decode b_Mod_put 38 = .ok (.iconst 1, 1) := by decide +kernel
theorem d_Mod_put_39 : decode b_Mod_put 39 = .ok (.ireturn, 1) := by decide +kernel
theorem d_Mod_put_40 : decode b_Mod_put 40 = .ok (.aload_n 0, 1) := by decide +kernel
theorem d_Mod_put_41 : decode b_Mod_put 41 = .ok (.iload_n 1, 1) := by decide +kernel
theorem d_Mod_put_42 : decode b_Mod_put 42 = .ok (.iload_n 2, 1) := by decide +kernel
theorem d_Mod_put_43 : decode b_Mod_put 43 = .ok (.iload_n 3, 1) := by decide +kernel
theorem d_Mod_put_44 : decode b_Mod_put 44 = .ok (.invokevirtual 94, 3) := by decide +kernel
theorem d_Mod_put_47 : decode b_Mod_put 47 = .ok (.ifCond .ne 55, 3) := by decide +kernel
theorem d_Mod_put_50 : decode b_Mod_put 50 = .ok (.aload_n 0, 1) := by decide +kernel
theorem d_Mod_put_51 : decode b_Mod_put 51 = .ok (.iload_n 1, 1) := by decide +kernel
theorem d_Mod_put_52 : decode b_Mod_put 52 = .ok (.invokevirtual 107, 3) := by decide +kernel
theorem d_Mod_put_55 : decode b_Mod_put 55 = .ok (.aload_n 0, 1) := by decide +kernel
theorem d_Mod_put_56 : decode b_Mod_put 56 = .ok (.getfield 32, 3) := by decide +kernel
theorem d_Mod_put_59 : decode b_Mod_put 59 = .ok (.aload_n 0, 1) := by decide +kernel
theorem d_Mod_put_60 : decode b_Mod_put 60 = .ok (.getfield 71, 3) := by decide +kernel
theorem d_Mod_put_63 : decode b_Mod_put 63 = .ok (.iload_n 2, 1) := by decide +kernel
theorem d_Mod_put_64 : decode b_Mod_put 64 = .ok (.iastore, 1) := by decide +kernel
theorem d_Mod_put_65 : decode b_Mod_put 65 = .ok (.aload_n 0, 1) := by decide +kernel
theorem d_Mod_put_66 : decode b_Mod_put 66 = .ok (.getfield 35, 3) := by decide +kernel
theorem d_Mod_put_69 : decode b_Mod_put 69 = .ok (.aload_n 0, 1) := by decide +kernel
theorem d_Mod_put_70 : decode b_Mod_put 70 = .ok (.getfield 71, 3) := by decide +kernel
theorem d_Mod_put_73 : decode b_Mod_put 73 = .ok (.iload_n 3, 1) := by decide +kernel
theorem d_Mod_put_74 : decode b_Mod_put 74 = .ok (.iastore, 1) := by decide +kernel
theorem d_Mod_put_75 : decode b_Mod_put 75 = .ok (.aload_n 0, 1) := by decide +kernel
theorem d_Mod_put_76 : decode b_Mod_put 76 = .ok (.dup, 1) := by decide +kernel
theorem d_Mod_put_77 : decode b_Mod_put 77 = .ok (.getfield 71, 3) := by decide +kernel
theorem d_Mod_put_80 : decode b_Mod_put 80 = .ok (.iconst 1, 1) := by decide +kernel
theorem d_Mod_put_81 : decode b_Mod_put 81 = .ok (.iadd, 1) := by decide +kernel
theorem d_Mod_put_82 : decode b_Mod_put 82 = .ok (.putfield 71, 3) := by decide +kernel
theorem d_Mod_put_85 : decode b_Mod_put 85 = .ok (.aload_n 0, 1) := by decide +kernel
theorem d_Mod_put_86 : decode b_Mod_put 86 = .ok (.aload_n 0, 1) := by decide +kernel
theorem d_Mod_put_87 : decode b_Mod_put 87 = .ok (.iload_n 1, 1) := by decide +kernel
theorem d_Mod_put_88 : decode b_Mod_put 88 = .ok (.invokevirtual 110, 3) := by decide +kernel
theorem d_Mod_put_91 : decode b_Mod_put 91 = .ok (.ifCond .eq 7, 3) := by decide +kernel
theorem d_Mod_put_94 : decode b_Mod_put 94 = .ok (.iconst 0, 1) := by decide +kernel
theorem d_Mod_put_95 : decode b_Mod_put 95 = .ok (.goto 4, 3) := by decide +kernel
theorem d_Mod_put_98 : decode b_Mod_put 98 = .ok (.iconst 2, 1) := by decide +kernel
theorem d_Mod_put_99 : decode b_Mod_put 99 = .ok (.putfield 47, 3) := by decide +kernel
theorem d_Mod_put_102 : decode b_Mod_put 102 = .ok (.iconst 0, 1) := by decide +kernel
theorem d_Mod_put_103 : decode b_Mod_put 103 = .ok (.ireturn, 1) := by decide +kernel
theorem d_Mod_find_0 : decode b_Mod_find 0 = .ok (.aload_n 0, 1) := by decide +kernel
theorem d_Mod_find_1 : decode b_Mod_find 1 = .ok (.iload_n 1, 1) := by decide +kernel
theorem d_Mod_find_2 : decode b_Mod_find 2 = .ok (.invokevirtual 100, 3) := by decide +kernel
theorem d_Mod_find_5 : decode b_Mod_find 5 = .ok (.ifCond .eq 12, 3) := by decide +kernel
theorem d_Mod_find_8 : decode b_Mod_find 8 = .ok (.aload_n 0, 1) := by decide +kernel
theorem d_Mod_find_9 : decode b_Mod_find 9 = .ok (.iload_n 1, 1) := by decide +kernel
theorem d_Mod_find_10 : decode b_Mod_find 10 = .ok (.iload_n 2, 1) := by decide +kernel
theorem d_Mod_find_11 : decode b_Mod_find 11 = .ok (.invokevirtual 104, 3) := by decide +kernel
theorem d_Mod_find_14 : decode b_Mod_find 14 = .ok (.goto 4, 3) := by decide +kernel
theorem d_Mod_find_17 : decode b_Mod_find 17 = .ok (.iconst (-1), 1) := by decide +kernel
theorem d_Mod_find_18 : decode b_Mod_find 18 = .ok (.istore_n 3, 1) := by decide +kernel
theorem d_Mod_find_19 : decode b_Mod_find 19 = .ok (.aload_n 0, 1) := by decide +kernel
theorem d_Mod_find_20 : decode b_Mod_find 20 = .ok (.aload_n 0, 1) := by decide +kernel
theorem d_Mod_find_21 : decode b_Mod_find 21 = .ok (.getfield 47, 3) := by decide +kernel
theorem d_Mod_find_24 : decode b_Mod_find 24 = .ok (.ifCond .ne 12, 3) := by decide +kernel
theorem d_Mod_find_27 : decode b_Mod_find 27 = .ok (.iload_n 3, 1) := by decide +kernel
theorem d_Mod_find_28 : decode b_Mod_find 28 = .ok (.iconst (-1), 1) := by decide +kernel
theorem d_Mod_find_29 : decode b_Mod_find 29 = .ok (.if_icmp .ne 7, 3) := by decide +kernel
theorem d_Mod_find_32 : decode b_Mod_find 32 = .ok (.iconst 2, 1) := by decide +kernel
theorem d_Mod_find_33 : decode b_Mod_find 33 = .ok (.goto 7, 3) := by decide +kernel
theorem d_Mod_find_36 : decode b_Mod_find 36 = .ok (.aload_n 0, 1) := by decide +kernel
theorem d_Mod_find_37 : decode b_Mod_find 37 = .ok (.getfield 47, 3) := by decide +kernel
theorem d_Mod_find_40 : decode b_Mod_find 40 = .ok (.putfield 47, 3) := by decide +kernel
theorem d_Mod_find_43 : decode b_Mod_find 43 = .ok (.iload_n 3, 1) := by decide +kernel
theorem d_Mod_find_44 : decode b_Mod_find 44 = .ok (.ireturn, 1) := by decide +kernel
theorem d_Mod_get_0 : decode b_Mod_get 0 = .ok (.aload_n 0, 1) := by decide +kernel
theorem d_Mod_get_1 : decode b_Mod_get 1 = .ok (.iload_n 1, 1) := by decide +kernel
theorem d_Mod_get_2 : decode b_Mod_get 2 = .ok (.iload_n 2, 1) := by decide +kernel
theorem d_Mod_get_3 : decode b_Mod_get 3 = .ok (.invokevirtual 113, 3) := by decide +kernel
theorem d_Mod_get_6 : decode b_Mod_get 6 = .ok (.istore_n 3, 1) := by decide +kernel
theorem d_Mod_get_7 : decode b_Mod_get 7 = .ok (.iload_n 3, 1) := by decide +kernel
theorem d_Mod_get_8 : decode b_Mod_get 8 = .ok (.iconst (-1), 1) := by decide +kernel
theorem d_Mod_get_9 : decode b_Mod_get 9 = .ok (.if_icmp .ne 7, 3) := by decide +kernel
theorem d_Mod_get_12 : decode b_Mod_get 12 = .ok (.iconst 0, 1) := by decide +kernel
theorem d_Mod_get_13 : decode b_Mod_get 13 = .ok (.goto 15, 3) := by decide +kernel
theorem d_Mod_get_16 : decode b_Mod_get 16 = .ok (.aload_n 0, 1) := by decide +kernel
theorem d_Mod_get_17 : decode b_Mod_get 17 = .ok (.getfield 17, 3) := by decide +kernel
theorem d_Mod_get_20 : decode b_Mod_get 20 = .ok (.sipush 128, 3) := by decide +kernel
theorem d_Mod_get_23 : decode b_Mod_get 23 = .ok (.iload_n 1, 1) := by decide +kernel
theorem d_Mod_get_24 : decode b_Mod_get 24 = .ok (.imul, 1) := by decide +kernel
theorem d_Mod_get_25 : decode b_Mod_get 25 = .ok (.iload_n 3, 1) := by decide +kernel
theorem d_Mod_get_26 : decode b_Mod_get 26 = .ok (.iadd, 1) := by decide +kernel
theorem d_Mod_get_27 : decode b_Mod_get 27 = .ok (.iaload, 1) := by decide +kernel
theorem d_Mod_get_28 : decode b_Mod_get 28 = .ok (.ireturn, 1) := by decide +kernel
theorem d_Mod_remove_0 : decode b_Mod_remove 0 = .ok (.aload_n 0, 1) := by decide +kernel
theorem d_Mod_remove_1 : decode b_Mod_remove 1 = .ok (.iload_n 1, 1) := by decide +kernel
theorem d_Mod_remove_2 : decode b_Mod_remove 2 = .ok (.iload_n 2, 1) := by decide +kernel
theorem d_Mod_remove_3 : decode b_Mod_remove 3 = .ok (.invokevirtual 113, 3) := by decide +kernel
theorem d_Mod_remove_6 : decode b_Mod_remove 6 = .ok (.istore_n 3, 1) := by decide +kernel
theorem d_Mod_remove_7 : decode b_Mod_remove 7 = .ok (.iload_n 3, 1) := by decide +kernel
theorem d_Mod_remove_8 : decode b_Mod_remove 8 = .ok (.iconst (-1), 1) := by decide +kernel
theorem d_Mod_remove_9 : decode b_Mod_remove 9 = .ok (.if_icmp .ne 5, 3) := by decide +kernel
theorem d_Mod_remove_12 : decode b_Mod_remove 12 = .ok (.iconst 0, 1) := by decide +kernel
theorem d_Mod_remove_13 : decode b_Mod_remove 13 = .ok (.ireturn, 1) := by decide +kernel
theorem d_Mod_remove_14 : decode b_Mod_remove 14 = .ok (.aload_n 0, 1) := by decide +kernel
theorem d_Mod_remove_15 : decode b_Mod_remove 15 = .ok (.getfield 7, 3) := by decide +kernel
theorem d_Mod_remove_18 : decode b_Mod_remove 18 = .ok (.sipush 128, 3) := by decide +kernel
theorem d_Mod_remove_21 : decode b_Mod_remove 21 = .ok (.iload_n 1, 1) := by decide +kernel
theorem d_Mod_remove_22 : decode b_Mod_remove 22 = .ok (.imul, 1) := by decide +kernel
theorem d_Mod_remove_23 : decode b_Mod_remove 23 = .ok (.iload_n 3, 1) := by decide +kernel
theorem d_Mod_remove_24 : decode b_Mod_remove 24 = .ok (.iadd, 1) := by decide +kernel
theorem d_Mod_remove_25 : decode b_Mod_remove 25 = .ok (.iconst 0, 1) := by decide +kernel
theorem d_Mod_remove_26 : decode b_Mod_remove 26 = .ok (.bastore, 1) := by decide +kernel
theorem d_Mod_remove_27 : decode b_Mod_remove 27 = .ok (.aload_n 0, 1) := by decide +kernel
theorem d_Mod_remove_28 : decode b_Mod_remove 28 = .ok (.getfield 17, 3) := by decide +kernel
theorem d_Mod_remove_31 : decode b_Mod_remove 31 = .ok (.sipush 128, 3) := by decide +kernel
theorem d_Mod_remove_34 : decode b_Mod_remove 34 = .ok (.iload_n 1, 1) := by decide +kernel
theorem d_Mod_remove_35 : decode b_Mod_remove 35 = .ok (.imul, 1) := by decide +kernel
theorem d_Mod_remove_36 : decode b_Mod_remove 36 = .ok (.iload_n 3, 1) := by decide +kernel
theorem d_Mod_remove_37 : decode b_Mod_remove 37 = .ok (.iadd, 1) := by decide +kernel
theorem d_Mod_remove_38 : decode b_Mod_remove 38 = .ok (.iaload, 1) := by decide +kernel
theorem d_Mod_remove_39 : decode b_Mod_remove 39 = .ok (.ireturn, 1) := by decide +kernel
theorem d_Mod_has_0 : decode b_Mod_has 0 = .ok (.aload_n 0, 1) := by decide +kernel
theorem d_Mod_has_1 : decode b_Mod_has 1 = .ok (.iload_n 1, 1) := by decide +kernel
theorem d_Mod_has_2 : decode b_Mod_has 2 = .ok (.invokevirtual 100, 3) := by decide +kernel
theorem d_Mod_has_5 : decode b_Mod_has 5 = .ok (.ifCond .eq 17, 3) := by decide +kernel
theorem d_Mod_has_8 : decode b_Mod_has 8 = .ok (.aload_n 0, 1) := by decide +kernel
theorem d_Mod_has_9 : decode b_Mod_has 9 = .ok (.iload_n 1, 1) := by decide +kernel
theorem d_Mod_has_10 : decode b_Mod_has 10 = .ok (.iload_n 2, 1) := by decide +kernel
theorem d_Mod_has_11 : decode b_Mod_has 11 = .ok (.invokevirtual 104, 3) := by decide +kernel
theorem d_Mod_has_14 : decode b_Mod_has 14 = .ok (.iconst (-1), 1) := by decide +kernel
theorem d_Mod_has_15 : decode b_Mod_has 15 = .ok (.if_icmp .eq 7, 3) := by decide +kernel
theorem d_Mod_has_18 : decode b_Mod_has 18 = .ok (.iconst 1, 1) := by decide +kernel
theorem d_Mod_has_19 : decode b_Mod_has 19 = .ok (.goto 4, 3) := by decide +kernel
theorem d_Mod_has_22 : decode b_Mod_has 22 = .ok (.iconst 0, 1) := by decide +kernel
theorem d_Mod_has_23 : decode b_Mod_has 23 = .ok (.ireturn, 1) := by decide +kernel
theorem d_Mod_sizeOf_0 : decode b_Mod_sizeOf 0 = .ok (.iconst 0, 1) := by decide +kernel
theorem d_Mod_sizeOf_1 : decode b_Mod_sizeOf 1 = .ok (.istore_n 2, 1) := by decide +kernel
theorem d_Mod_sizeOf_2 : decode b_Mod_sizeOf 2 = .ok (.iconst 0, 1) := by decide +kernel
theorem d_Mod_sizeOf_3 : decode b_Mod_sizeOf 3 = .ok (.istore_n 3, 1) := by decide +kernel
theorem d_Mod_sizeOf_4 : decode b_Mod_sizeOf 4 = .ok (.iload_n 3, 1) := by decide +kernel
theorem d_Mod_sizeOf_5 : decode b_Mod_sizeOf 5 = .ok (.aload_n 0, 1) := by decide +kernel
theorem d_Mod_sizeOf_6 : decode b_Mod_sizeOf 6 = .ok (.getfield 20, 3) := by decide +kernel
theorem d_Mod_sizeOf_9 : decode b_Mod_sizeOf 9 = .ok (.iload_n 1, 1) := by decide +kernel
theorem d_Mod_sizeOf_10 : decode b_Mod_sizeOf 10 = .ok (.iaload, 1) := by decide +kernel
theorem d_Mod_sizeOf_11 : decode b_Mod_sizeOf 11 = .ok (.if_icmp .ge 32, 3) := by decide +kernel
theorem d_Mod_sizeOf_14 : decode b_Mod_sizeOf 14 = .ok (.aload_n 0, 1) := by decide +kernel
theorem d_Mod_sizeOf_15 : decode b_Mod_sizeOf 15 = .ok (.getfield 7, 3) := by decide +kernel
theorem d_Mod_sizeOf_18 : decode b_Mod_sizeOf 18 = .ok (.sipush 128, 3) := by decide +kernel
theorem d_Mod_sizeOf_21 : decode b_Mod_sizeOf 21 = .ok (.iload_n 1, 1) := by decide +kernel
theorem d_Mod_sizeOf_22 : decode b_Mod_sizeOf 22 = .ok (.imul, 1) := by decide +kernel
theorem d_Mod_sizeOf_23 : decode b_Mod_sizeOf 23 = .ok (.iload_n 3, 1) := by decide +kernel
theorem d_Mod_sizeOf_24 : decode b_Mod_sizeOf 24 = .ok (.iadd, 1) := by decide +kernel
theorem d_Mod_sizeOf_25 : decode b_Mod_sizeOf 25 = .ok (.baload, 1) := by decide +kernel
theorem d_Mod_sizeOf_26 : decode b_Mod_sizeOf 26 = .ok (.ifCond .eq 9, 3) := by decide +kernel
theorem d_Mod_sizeOf_29 : decode b_Mod_sizeOf 29 = .ok (.iload_n 2, 1) := by decide +kernel
theorem d_Mod_sizeOf_30 : decode b_Mod_sizeOf 30 = .ok (.iconst 1, 1) := by decide +kernel
theorem d_Mod_sizeOf_31 : decode b_Mod_sizeOf 31 = .ok (.iadd, 1) := by decide +kernel
theorem d_Mod_sizeOf_32 : decode b_Mod_sizeOf 32 = .ok (.goto 4, 3) := by decide +kernel
theorem d_Mod_sizeOf_35 : decode b_Mod_sizeOf 35 = .ok (.iload_n 2, 1) := by decide +kernel
theorem d_Mod_sizeOf_36 : decode b_Mod_sizeOf 36 = .ok (.istore_n 2, 1) := by decide +kernel
theorem d_Mod_sizeOf_37 : decode b_Mod_sizeOf 37 = .ok (.iinc 3 1, 3) := by decide +kernel
theorem d_Mod_sizeOf_40 : decode b_Mod_sizeOf 40 = .ok (.goto (-36), 3) := by decide +kernel
theorem d_Mod_sizeOf_43 : decode b_Mod_sizeOf 43 = .ok (.iload_n 2, 1) := by decide +kernel
theorem d_Mod_sizeOf_44 : decode b_Mod_sizeOf 44 = .ok (.ireturn, 1) := by decide +kernel
theorem d_Mod_size_0 : decode b_Mod_size 0 = .ok (.aload_n 0, 1) := by decide +kernel
theorem d_Mod_size_1 : decode b_Mod_size 1 = .ok (.iload_n 1, 1) := by decide +kernel
theorem d_Mod_size_2 : decode b_Mod_size 2 = .ok (.invokevirtual 100, 3) := by decide +kernel
theorem d_Mod_size_5 : decode b_Mod_size 5 = .ok (.ifCond .eq 11, 3) := by decide +kernel
theorem d_Mod_size_8 : decode b_Mod_size 8 = .ok (.aload_n 0, 1) := by decide +kernel
theorem d_Mod_size_9 : decode b_Mod_size 9 = .ok (.iload_n 1, 1) := by decide +kernel
theorem d_Mod_size_10 : decode b_Mod_size 10 = .ok (.invokevirtual 116, 3) := by decide +kernel
theorem d_Mod_size_13 : decode b_Mod_size 13 = .ok (.goto 4, 3) := by decide +kernel
theorem d_Mod_size_16 : decode b_Mod_size 16 = .ok (.iconst 0, 1) := by decide +kernel
theorem d_Mod_size_17 : decode b_Mod_size 17 = .ok (.ireturn, 1) := by decide +kernel
theorem d_Mod_clear_0 : decode b_Mod_clear 0 = .ok (.aload_n 0, 1) := by decide +kernel
theorem d_Mod_clear_1 : decode b_Mod_clear 1 = .ok (.iload_n 1, 1) := by decide +kernel
theorem d_Mod_clear_2 : decode b_Mod_clear 2 = .ok (.invokevirtual 100, 3) := by decide +kernel
theorem d_Mod_clear_5 : decode b_Mod_clear 5 = .ok (.ifCond .ne 5, 3) := by decide +kernel
theorem d_Mod_clear_8 : decode b_Mod_clear 8 = .ok (.iconst 0, 1) := by decide +kernel
theorem d_Mod_clear_9 : decode b_Mod_clear 9 = .ok (.ireturn, 1) := by decide +kernel
theorem d_Mod_clear_10 : decode b_Mod_clear 10 = .ok (.aload_n 0, 1) := by decide +kernel
theorem d_Mod_clear_11 : decode b_Mod_clear 11 = .ok (.iload_n 1, 1) := by decide +kernel
theorem d_Mod_clear_12 : decode b_Mod_clear 12 = .ok (.invokevirtual 116, 3) := by decide +kernel
theorem d_Mod_clear_15 : decode b_Mod_clear 15 = .ok (.istore_n 2, 1) := by decide +kernel
theorem d_Mod_clear_16 : decode b_Mod_clear 16 = .ok (.aload_n 0, 1) := by decide +kernel
theorem d_Mod_clear_17 : decode b_Mod_clear 17 = .ok (.iload_n 1, 1) := by decide +kernel
theorem d_Mod_clear_18 : decode b_Mod_clear 18 = .ok (.invokevirtual 90, 3) := by decide +kernel
theorem d_Mod_clear_21 : decode b_Mod_clear 21 = .ok (.aload_n 0, 1) := by decide +kernel
theorem d_Mod_clear_22 : decode b_Mod_clear 22 = .ok (.getfield 20, 3) := by decide +kernel
theorem d_Mod_clear_25 : decode b_Mod_clear 25 = .ok (.iload_n 1, 1) := by decide +kernel
theorem d_Mod_clear_26 : decode b_Mod_clear 26 = .ok (.bipush 8, 2) := by decide +kernel
theorem d_Mod_clear_28 : decode b_Mod_clear 28 = .ok (.iastore, 1) := by decide +kernel
theorem d_Mod_clear_29 : decode b_Mod_clear 29 = .ok (.iload_n 2, 1) := by decide +kernel
theorem d_Mod_clear_30 : decode b_Mod_clear 30 = .ok (.ireturn, 1) := by decide +kernel
theorem d_Mod_about_0 : decode b_Mod_about 0 = .ok (.aload_n 0, 1) := by decide +kernel
theorem d_Mod_about_1 : decode b_Mod_about 1 = .ok (.iload_n 1, 1) := by decide +kernel
theorem d_Mod_about_2 : decode b_Mod_about 2 = .ok (.invokevirtual 100, 3) := by decide +kernel
theorem d_Mod_about_5 : decode b_Mod_about 5 = .ok (.ifCond .ne 5, 3) := by decide +kernel
theorem d_Mod_about_8 : decode b_Mod_about 8 = .ok (.iconst 0, 1) := by decide +kernel
theorem d_Mod_about_9 : decode b_Mod_about 9 = .ok (.ireturn, 1) := by decide +kernel
theorem d_Mod_about_10 : decode b_Mod_about 10 = .ok (.aload_n 0, 1) := by decide +kernel
theorem d_Mod_about_11 : decode b_Mod_about 11 = .ok (.iload_n 2, 1) := by decide +kernel
theorem d_Mod_about_12 : decode b_Mod_about 12 = .ok (.iconst 0, 1) := by decide +kernel
theorem d_Mod_about_13 : decode b_Mod_about 13 = .ok (.iconst 2, 1) := by decide +kernel
theorem d_Mod_about_14 : decode b_Mod_about 14 = .ok (.invokestatic 51, 3) := by decide +kernel
theorem d_Mod_about_17 : decode b_Mod_about 17 = .ok (.ifCond .eq 7, 3) := by decide +kernel
theorem d_Mod_about_20 : decode b_Mod_about 20 = .ok (.iconst 0, 1) := by decide +kernel
theorem d_Mod_about_21 : decode b_Mod_about 21 = .ok (.goto 4, 3) := by decide +kernel
theorem d_Mod_about_24 : decode b_Mod_about 24 = .ok (.iconst 2, 1) := by decide +kernel
theorem d_Mod_about_25 : decode b_Mod_about 25 = .ok (.putfield 47, 3) := by decide +kernel
theorem d_Mod_about_28 : decode b_Mod_about 28 = .ok (.aload_n 0, 1) := by decide +kernel
theorem d_Mod_about_29 : decode b_Mod_about 29 = .ok (.getfield 47, 3) := by decide +kernel
theorem d_Mod_about_32 : decode b_Mod_about 32 = .ok (.ifCond .le 7, 3) := by decide +kernel
theorem d_Mod_about_35 : decode b_Mod_about 35 = .ok (.iconst 0, 1) := by decide +kernel
theorem d_Mod_about_36 : decode b_Mod_about 36 = .ok (.goto 36, 3) := by decide +kernel
theorem d_Mod_about_39 : decode b_Mod_about 39 = .ok (.iload_n 2, 1) := by decide +kernel
theorem d_Mod_about_40 : decode b_Mod_about 40 = .ok (.ifCond .ne 12, 3) := by decide +kernel
theorem d_Mod_about_43 : decode b_Mod_about 43 = .ok (.aload_n 0, 1) := by decide +kernel
theorem d_Mod_about_44 : decode b_Mod_about 44 = .ok (.getfield 20, 3) := by decide +kernel
theorem d_Mod_about_47 : decode b_Mod_about 47 = .ok (.iload_n 1, 1) := by decide +kernel
theorem d_Mod_about_48 : decode b_Mod_about 48 = .ok (.iaload, 1) := by decide +kernel
theorem d_Mod_about_49 : decode b_Mod_about 49 = .ok (.goto 23, 3) := by decide +kernel
theorem d_Mod_about_52 : decode b_Mod_about 52 = .ok (.iload_n 2, 1) := by decide +kernel
theorem d_Mod_about_53 : decode b_Mod_about 53 = .ok (.iconst 1, 1) := by decide +kernel
theorem d_Mod_about_54 : decode b_Mod_about 54 = .ok (.if_icmp .ne 12, 3) := by decide +kernel
theorem d_Mod_about_57 : decode b_Mod_about 57 = .ok (.aload_n 0, 1) := by decide +kernel
theorem d_Mod_about_58 : decode b_Mod_about 58 = .ok (.getfield 23, 3) := by decide +kernel
theorem d_Mod_about_61 : decode b_Mod_about 61 = .ok (.iload_n 1, 1) := by decide +kernel
theorem d_Mod_about_62 : decode b_Mod_about 62 = .ok (.iaload, 1) := by decide +kernel
theorem d_Mod_about_63 : decode b_Mod_about 63 = .ok (.goto 9, 3) := by decide +kernel
theorem d_Mod_about_66 : decode b_Mod_about 66 = .ok (.aload_n 0, 1) := by decide +kernel
theorem d_Mod_about_67 : decode b_Mod_about 67 = .ok (.getfield 26, 3) := by decide +kernel
theorem d_Mod_about_70 : decode b_Mod_about 70 = .ok (.iload_n 1, 1) := by decide +kernel
theorem d_Mod_about_71 : decode b_Mod_about 71 = .ok (.iaload, 1) := by decide +kernel
theorem d_Mod_about_72 : decode b_Mod_about 72 = .ok (.ireturn, 1) := by decide +kernel
theorem d_Mod_home_0 : decode b_Mod_home 0 = .ok (.aload_n 0, 1) := by decide +kernel
theorem d_Mod_home_1 : decode b_Mod_home 1 = .ok (.iload_n 1, 1) := by decide +kernel
theorem d_Mod_home_2 : decode b_Mod_home 2 = .ok (.invokevirtual 100, 3) := by decide +kernel
theorem d_Mod_home_5 : decode b_Mod_home 5 = .ok (.ifCond .eq 12, 3) := by decide +kernel
theorem d_Mod_home_8 : decode b_Mod_home 8 = .ok (.aload_n 0, 1) := by decide +kernel
theorem d_Mod_home_9 : decode b_Mod_home 9 = .ok (.iload_n 1, 1) := by decide +kernel
theorem d_Mod_home_10 : decode b_Mod_home 10 = .ok (.iload_n 2, 1) := by decide +kernel
theorem d_Mod_home_11 : decode b_Mod_home 11 = .ok (.invokevirtual 56, 3) := by decide +kernel
theorem d_Mod_home_14 : decode b_Mod_home 14 = .ok (.goto 4, 3) := by decide +kernel
theorem d_Mod_home_17 : decode b_Mod_home 17 = .ok (.iconst 0, 1) := by decide +kernel
theorem d_Mod_home_18 : decode b_Mod_home 18 = .ok (.ireturn, 1) := by decide +kernel
theorem d_Mod_distance_0 : decode b_Mod_distance 0 = .ok (.aload_n 0, 1) := by decide +kernel
theorem d_Mod_distance_1 : decode b_Mod_distance 1 = .ok (.iload_n 1, 1) := by decide +kernel
theorem d_Mod_distance_2 : decode b_Mod_distance 2 = .ok (.iload_n 2, 1) := by decide +kernel
theorem d_Mod_distance_3 : decode b_Mod_distance 3 = .ok (.invokevirtual 113, 3) := by decide +kernel
theorem d_Mod_distance_6 : decode b_Mod_distance 6 = .ok (.istore_n 3, 1) := by decide +kernel
theorem d_Mod_distance_7 : decode b_Mod_distance 7 = .ok (.iload_n 3, 1) := by decide +kernel
theorem d_Mod_distance_8 : decode b_Mod_distance 8 = .ok (.iconst (-1), 1) := by decide +kernel
theorem d_Mod_distance_9 : decode b_Mod_distance 9 = .ok (.if_icmp .ne 7, 3) := by decide +kernel
theorem d_Mod_distance_12 : decode b_Mod_distance 12 = .ok (.iconst 0, 1) := by decide +kernel
theorem d_Mod_distance_13 : decode b_Mod_distance 13 = .ok (.goto 9, 3) := by decide +kernel
theorem d_Mod_distance_16 : decode b_Mod_distance 16 = .ok (.aload_n 0, 1) := by decide +kernel
theorem d_Mod_distance_17 : decode b_Mod_distance 17 = .ok (.iload_n 1, 1) := by decide +kernel
theorem d_Mod_distance_18 : decode b_Mod_distance 18 = .ok (.iload_n 3, 1) := by decide +kernel
theorem d_Mod_distance_19 : decode b_Mod_distance 19 = .ok (.invokevirtual 119, 3) := by decide +kernel
theorem d_Mod_distance_22 : decode b_Mod_distance 22 = .ok (.ireturn, 1) := by decide +kernel
theorem d_Mod_isPlace_0 : decode b_Mod_isPlace 0 = .ok (.aload_n 0, 1) := by decide +kernel
theorem d_Mod_isPlace_1 : decode b_Mod_isPlace 1 = .ok (.iload_n 1, 1) := by decide +kernel
theorem d_Mod_isPlace_2 : decode b_Mod_isPlace 2 = .ok (.invokevirtual 100, 3) := by decide +kernel
theorem d_Mod_isPlace_5 : decode b_Mod_isPlace 5 = .ok (.ifCond .ne 5, 3) := by decide +kernel
theorem d_Mod_isPlace_8 : decode b_Mod_isPlace 8 = .ok (.iconst 0, 1) := by decide +kernel
theorem d_Mod_isPlace_9 : decode b_Mod_isPlace 9 = .ok (.ireturn, 1) := by decide +kernel
theorem d_Mod_isPlace_10 : decode b_Mod_isPlace 10 = .ok (.aload_n 0, 1) := by decide +kernel
theorem d_Mod_isPlace_11 : decode b_Mod_isPlace 11 = .ok (.iload_n 2, 1) := by decide +kernel
theorem d_Mod_isPlace_12 : decode b_Mod_isPlace 12 = .ok (.iconst 0, 1) := by decide +kernel
theorem d_Mod_isPlace_13 : decode b_Mod_isPlace 13 = .ok (.aload_n 0, 1) := by decide +kernel
theorem d_Mod_isPlace_14 : decode b_Mod_isPlace 14 = .ok (.getfield 20, 3) := by decide +kernel
theorem d_Mod_isPlace_17 : decode b_Mod_isPlace 17 = .ok (.iload_n 1, 1) := by decide +kernel
theorem d_Mod_isPlace_18 : decode b_Mod_isPlace 18 = .ok (.iaload, 1) := by decide +kernel
theorem d_Mod_isPlace_19 : decode b_Mod_isPlace 19 = .ok (.iconst 1, 1) := by decide +kernel
theorem d_Mod_isPlace_20 : decode b_Mod_isPlace 20 = .ok (.isub, 1) := by decide +kernel
theorem d_Mod_isPlace_21 : decode b_Mod_isPlace 21 = .ok (.invokestatic 51, 3) := by decide +kernel
theorem d_Mod_isPlace_24 : decode b_Mod_isPlace 24 = .ok (.ifCond .eq 7, 3) := by decide +kernel
theorem d_Mod_isPlace_27 : decode b_Mod_isPlace 27 = .ok (.iconst 0, 1) := by decide +kernel
theorem d_Mod_isPlace_28 : decode b_Mod_isPlace 28 = .ok (.goto 4, 3) := by decide +kernel
theorem d_Mod_isPlace_31 : decode b_Mod_isPlace 31 = .ok (.iconst 2, 1) := by decide +kernel
theorem d_Mod_isPlace_32 : decode b_Mod_isPlace 32 = .ok (.putfield 47, 3) := by decide +kernel
theorem d_Mod_isPlace_35 : decode b_Mod_isPlace 35 = .ok (.aload_n 0, 1) := by decide +kernel
theorem d_Mod_isPlace_36 : decode b_Mod_isPlace 36 = .ok (.getfield 47, 3) := by decide +kernel
theorem d_Mod_isPlace_39 : decode b_Mod_isPlace 39 = .ok (.ifCond .ne 7, 3) := by decide +kernel
theorem d_Mod_isPlace_42 : decode b_Mod_isPlace 42 = .ok (.iconst 1, 1) := by decide +kernel
theorem d_Mod_isPlace_43 : decode b_Mod_isPlace 43 = .ok (.goto 4, 3) := by decide +kernel
theorem d_Mod_isPlace_46 : decode b_Mod_isPlace 46 = .ok (.iconst 0, 1) := by decide +kernel
theorem d_Mod_isPlace_47 : decode b_Mod_isPlace 47 = .ok (.ireturn, 1) := by decide +kernel
theorem d_Mod_bits_0 : decode b_Mod_bits 0 = .ok (.aload_n 0, 1) := by decide +kernel
theorem d_Mod_bits_1 : decode b_Mod_bits 1 = .ok (.iload_n 1, 1) := by decide +kernel
theorem d_Mod_bits_2 : decode b_Mod_bits 2 = .ok (.iload_n 2, 1) := by decide +kernel
theorem d_Mod_bits_3 : decode b_Mod_bits 3 = .ok (.invokevirtual 122, 3) := by decide +kernel
theorem d_Mod_bits_6 : decode b_Mod_bits 6 = .ok (.ifCond .eq 12, 3) := by decide +kernel
theorem d_Mod_bits_9 : decode b_Mod_bits 9 = .ok (.aload_n 0, 1) := by decide +kernel
theorem d_Mod_bits_10 : decode b_Mod_bits 10 = .ok (.iload_n 1, 1) := by decide +kernel
theorem d_Mod_bits_11 : decode b_Mod_bits 11 = .ok (.iload_n 2, 1) := by decide +kernel
theorem d_Mod_bits_12 : decode b_Mod_bits 12 = .ok (.invokevirtual 126, 3) := by decide +kernel
theorem d_Mod_bits_15 : decode b_Mod_bits 15 = .ok (.goto 4, 3) := by decide +kernel
theorem d_Mod_bits_18 : decode b_Mod_bits 18 = .ok (.iconst 0, 1) := by decide +kernel
theorem d_Mod_bits_19 : decode b_Mod_bits 19 = .ok (.ireturn, 1) := by decide +kernel
theorem d_Mod_next_0 : decode b_Mod_next 0 = .ok (.aload_n 0, 1) := by decide +kernel
theorem d_Mod_next_1 : decode b_Mod_next 1 = .ok (.iload_n 1, 1) := by decide +kernel
theorem d_Mod_next_2 : decode b_Mod_next 2 = .ok (.iload_n 2, 1) := by decide +kernel
theorem d_Mod_next_3 : decode b_Mod_next 3 = .ok (.invokevirtual 122, 3) := by decide +kernel
theorem d_Mod_next_6 : decode b_Mod_next 6 = .ok (.ifCond .ne 5, 3) := by decide +kernel
theorem d_Mod_next_9 : decode b_Mod_next 9 = .ok (.iconst 0, 1) := by decide +kernel
theorem d_Mod_next_10 : decode b_Mod_next 10 = .ok (.ireturn, 1) := by decide +kernel
theorem d_Mod_next_11 : decode b_Mod_next 11 = .ok (.iload_n 2, 1) := by decide +kernel
theorem d_Mod_next_12 : decode b_Mod_next 12 = .ok (.istore_n 3, 1) := by decide +kernel
theorem d_Mod_next_13 : decode b_Mod_next 13 = .ok (.iload_n 3, 1) := by decide +kernel
theorem d_Mod_next_14 : decode b_Mod_next 14 = .ok (.aload_n 0, 1) := by decide +kernel
theorem d_Mod_next_15 : decode b_Mod_next 15 = .ok (.getfield 20, 3) := by decide +kernel
theorem d_Mod_next_18 : decode b_Mod_next 18 = .ok (.iload_n 1, 1) := by decide +kernel
theorem d_Mod_next_19 : decode b_Mod_next 19 = .ok (.iaload, 1) := by decide +kernel
theorem d_Mod_next_20 : decode b_Mod_next 20 = .ok (.if_icmp .ge 24, 3) := by decide +kernel
theorem d_Mod_next_23 : decode b_Mod_next 23 = .ok (.aload_n 0, 1) := by decide +kernel
theorem d_Mod_next_24 : decode b_Mod_next 24 = .ok (.getfield 7, 3) := by decide +kernel
theorem d_Mod_next_27 : decode b_Mod_next 27 = .ok (.sipush 128, 3) := by decide +kernel
theorem d_Mod_next_30 : decode b_Mod_next 30 = .ok (.iload_n 1, 1) := by decide +kernel
theorem d_Mod_next_31 : decode b_Mod_next 31 = .ok (.imul, 1) := by decide +kernel
theorem d_Mod_next_32 : decode b_Mod_next 32 = .ok (.iload_n 3, 1) := by decide +kernel
theorem d_Mod_next_33 : decode b_Mod_next 33 = .ok (.iadd, 1) := by decide +kernel
theorem d_Mod_next_34 : decode b_Mod_next 34 = .ok (.baload, 1) := by decide +kernel
theorem d_Mod_next_35 : decode b_Mod_next 35 = .ok (.ifCond .ne 9, 3) := by decide +kernel
theorem d_Mod_next_38 : decode b_Mod_next 38 = .ok (.iinc 3 1, 3) := by decide +kernel
theorem d_Mod_next_41 : decode b_Mod_next 41 = .ok (.goto (-28), 3) := by decide +kernel
theorem d_Mod_next_44 : decode b_Mod_next 44 = .ok (.iload_n 3, 1) := by decide +kernel
theorem d_Mod_next_45 : decode b_Mod_next 45 = .ok (.aload_n 0, 1) := by decide +kernel
theorem d_Mod_next_46 : decode b_Mod_next 46 = .ok (.getfield 20, 3) := by decide +kernel
theorem d_Mod_next_49 : decode b_Mod_next 49 = .ok (.iload_n 1, 1) := by decide +kernel
theorem d_Mod_next_50 : decode b_Mod_next 50 = .ok (.iaload, 1) := by decide +kernel
theorem d_Mod_next_51 : decode b_Mod_next 51 = .ok (.if_icmp .ne 7, 3) := by decide +kernel
theorem d_Mod_next_54 : decode b_Mod_next 54 = .ok (.iconst (-1), 1) := by decide +kernel
theorem d_Mod_next_55 : decode b_Mod_next 55 = .ok (.goto 4, 3) := by decide +kernel
theorem d_Mod_next_58 : decode b_Mod_next 58 = .ok (.iload_n 3, 1) := by decide +kernel
theorem d_Mod_next_59 : decode b_Mod_next 59 = .ok (.ireturn, 1) := by decide +kernel
theorem d_Mod_key_0 : decode b_Mod_key 0 = .ok (.aload_n 0, 1) := by decide +kernel
theorem d_Mod_key_1 : decode b_Mod_key 1 = .ok (.iload_n 1, 1) := by decide +kernel
theorem d_Mod_key_2 : decode b_Mod_key 2 = .ok (.iload_n 2, 1) := by decide +kernel
theorem d_Mod_key_3 : decode b_Mod_key 3 = .ok (.invokevirtual 122, 3) := by decide +kernel
theorem d_Mod_key_6 : decode b_Mod_key 6 = .ok (.ifCond .ne 5, 3) := by decide +kernel
theorem d_Mod_key_9 : decode b_Mod_key 9 = .ok (.iconst 0, 1) := by decide +kernel
theorem d_Mod_key_10 : decode b_Mod_key 10 = .ok (.ireturn, 1) := by decide +kernel
theorem d_Mod_key_11 : decode b_Mod_key 11 = .ok (.aload_n 0, 1) := by decide +kernel
theorem d_Mod_key_12 : decode b_Mod_key 12 = .ok (.aload_n 0, 1) := by decide +kernel
theorem d_Mod_key_13 : decode b_Mod_key 13 = .ok (.getfield 7, 3) := by decide +kernel
theorem d_Mod_key_16 : decode b_Mod_key 16 = .ok (.sipush 128, 3) := by decide +kernel
theorem d_Mod_key_19 : decode b_Mod_key 19 = .ok (.iload_n 1, 1) := by decide +kernel
theorem d_Mod_key_20 : decode b_Mod_key 20 = .ok (.imul, 1) := by decide +kernel
theorem d_Mod_key_21 : decode b_Mod_key 21 = .ok (.iload_n 2, 1) := by decide +kernel
theorem d_Mod_key_22 : decode b_Mod_key 22 = .ok (.iadd, 1) := by decide +kernel
theorem d_Mod_key_23 : decode b_Mod_key 23 = .ok (.baload, 1) := by decide +kernel
theorem d_Mod_key_24 : decode b_Mod_key 24 = .ok (.ifCond .eq 7, 3) := by decide +kernel
theorem d_Mod_key_27 : decode b_Mod_key 27 = .ok (.iconst 0, 1) := by decide +kernel
theorem d_Mod_key_28 : decode b_Mod_key 28 = .ok (.goto 4, 3) := by decide +kernel
theorem d_Mod_key_31 : decode b_Mod_key 31 = .ok (.iconst 3, 1) := by decide +kernel
theorem d_Mod_key_32 : decode b_Mod_key 32 = .ok (.putfield 47, 3) := by decide +kernel
theorem d_Mod_key_35 : decode b_Mod_key 35 = .ok (.aload_n 0, 1) := by decide +kernel
theorem d_Mod_key_36 : decode b_Mod_key 36 = .ok (.getfield 47, 3) := by decide +kernel
theorem d_Mod_key_39 : decode b_Mod_key 39 = .ok (.ifCond .le 7, 3) := by decide +kernel
theorem d_Mod_key_42 : decode b_Mod_key 42 = .ok (.iconst 0, 1) := by decide +kernel
theorem d_Mod_key_43 : decode b_Mod_key 43 = .ok (.goto 15, 3) := by decide +kernel
theorem d_Mod_key_46 : decode b_Mod_key 46 = .ok (.aload_n 0, 1) := by decide +kernel
theorem d_Mod_key_47 : decode b_Mod_key 47 = .ok (.getfield 13, 3) := by decide +kernel
theorem d_Mod_key_50 : decode b_Mod_key 50 = .ok (.sipush 128, 3) := by decide +kernel
theorem d_Mod_key_53 : decode b_Mod_key 53 = .ok (.iload_n 1, 1) := by decide +kernel
theorem d_Mod_key_54 : decode b_Mod_key 54 = .ok (.imul, 1) := by decide +kernel
theorem d_Mod_key_55 : decode b_Mod_key 55 = .ok (.iload_n 2, 1) := by decide +kernel
theorem d_Mod_key_56 : decode b_Mod_key 56 = .ok (.iadd, 1) := by decide +kernel
theorem d_Mod_key_57 : decode b_Mod_key 57 = .ok (.iaload, 1) := by decide +kernel
theorem d_Mod_key_58 : decode b_Mod_key 58 = .ok (.ireturn, 1) := by decide +kernel
theorem d_Mod_count_0 : decode b_Mod_count 0 = .ok (.aload_n 0, 1) := by decide +kernel
theorem d_Mod_count_1 : decode b_Mod_count 1 = .ok (.iload_n 1, 1) := by decide +kernel
theorem d_Mod_count_2 : decode b_Mod_count 2 = .ok (.iconst 0, 1) := by decide +kernel
theorem d_Mod_count_3 : decode b_Mod_count 3 = .ok (.iconst 2, 1) := by decide +kernel
theorem d_Mod_count_4 : decode b_Mod_count 4 = .ok (.invokestatic 51, 3) := by decide +kernel
theorem d_Mod_count_7 : decode b_Mod_count 7 = .ok (.ifCond .eq 7, 3) := by decide +kernel
theorem d_Mod_count_10 : decode b_Mod_count 10 = .ok (.iconst 0, 1) := by decide +kernel
theorem d_Mod_count_11 : decode b_Mod_count 11 = .ok (.goto 4, 3) := by decide +kernel
theorem d_Mod_count_14 : decode b_Mod_count 14 = .ok (.iconst 1, 1) := by decide +kernel
theorem d_Mod_count_15 : decode b_Mod_count 15 = .ok (.putfield 47, 3) := by decide +kernel
theorem d_Mod_count_18 : decode b_Mod_count 18 = .ok (.aload_n 0, 1) := by decide +kernel
theorem d_Mod_count_19 : decode b_Mod_count 19 = .ok (.getfield 47, 3) := by decide +kernel
theorem d_Mod_count_22 : decode b_Mod_count 22 = .ok (.ifCond .le 7, 3) := by decide +kernel
theorem d_Mod_count_25 : decode b_Mod_count 25 = .ok (.iconst 0, 1) := by decide +kernel
theorem d_Mod_count_26 : decode b_Mod_count 26 = .ok (.goto 9, 3) := by decide +kernel
theorem d_Mod_count_29 : decode b_Mod_count 29 = .ok (.aload_n 0, 1) := by decide +kernel
theorem d_Mod_count_30 : decode b_Mod_count 30 = .ok (.getfield 29, 3) := by decide +kernel
theorem d_Mod_count_33 : decode b_Mod_count 33 = .ok (.iload_n 1, 1) := by decide +kernel
theorem d_Mod_count_34 : decode b_Mod_count 34 = .ok (.iaload, 1) := by decide +kernel
theorem d_Mod_count_35 : decode b_Mod_count 35 = .ok (.ireturn, 1) := by decide +kernel
