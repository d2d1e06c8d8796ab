/-! names: classes, methods, their code -/
def wsA : List Cond := lw_tbl.filter goodWord
theorem mA {w : Cond} (h : w ∈ lw_tbl) (hg : goodWord w = true) : w ∈ wsA := List.mem_filter.mpr ⟨h, hg⟩
theorem gA {w : Cond} (h : w ∈ wsA) : (w.onTables && w.keeps) = true ∨ ∃ ty, w = .arrayClass ty := good_of_word (List.mem_filter.mp h).2
theorem gI {ws : List Cond} (h : ∀ w ∈ ws, w ∈ wsA) : GoodIn wsA ws := fun w hw => ⟨h w hw, gA (h w hw)⟩
theorem gC {y : MethodName} {b : ByteArray} {n : Nat} {r : Option FieldType} (h5 : Cond.code y b n r ∈ wsA) : ∀ w ∈ (Cond.code y b n r :: wsA), w ∈ wsA := fun w hw => by
  rcases List.mem_cons.mp hw with rfl | hw
  · exact h5
  · exact hw
theorem gV {own C : String} {idx : Nat} {y : MethodName} {b : ByteArray} {n : Nat} {r : Option FieldType} (h1 : Cond.methodLink own idx y ∈ wsA) (h2 : Cond.instanceMethod y ∈ wsA) (h3 : Cond.selects C y y ∈ wsA) (h4 : Cond.initialized C ∈ wsA) (h5 : Cond.code y b n r ∈ wsA) : GoodIn wsA (wsV own idx C y (Cond.code y b n r :: wsA)) := gI fun w hw => by
  unfold wsV at hw
  rcases List.mem_append.mp hw with hw | hw
  · simp only [List.mem_cons, List.not_mem_nil, or_false] at hw
    rcases hw with rfl | rfl | rfl | rfl
    · exact h1
    · exact h2
    · exact h3
    · exact h4
  · exact gC h5 w hw
theorem gS {own : String} {idx : Nat} {y : MethodName} {b : ByteArray} {n : Nat} {r : Option FieldType} (h1 : Cond.methodLink own idx y ∈ wsA) (h2 : Cond.static y ∈ wsA) (h4 : Cond.initialized own ∈ wsA) (h5 : Cond.code y b n r ∈ wsA) : GoodIn wsA (wsS own idx y (Cond.code y b n r :: wsA)) := gI fun w hw => by
  unfold wsS at hw
  rcases List.mem_append.mp hw with hw | hw
  · simp only [List.mem_cons, List.not_mem_nil, or_false] at hw
    rcases hw with rfl | rfl | rfl
    · exact h1
    · exact h2
    · exact h4
  · exact gC h5 w hw
def R_Hop : String := "HopArena"
def R_Part : String := "HopArena$Part"
def R_Mod : String := "HopArenaModel"
def R_Law : String := "HopArenaLaw"
theorem mx_code : Cond.code Lib.Math.max.name Lib.Math.max.code 2 (some .int) ∈ wsA := mA (List.mem_of_getElem? (i := 243) (by decide +kernel)) rfl
abbrev b_Part_init : ByteArray := prog_2_method_1_code
def y_Part_init : MethodName := ⟨R_Part, "<init>", "(III)V"⟩
def w_Part_init : List Cond := .code y_Part_init b_Part_init 4 (none) :: wsA
abbrev b_Part_homeOf : ByteArray := prog_2_method_4_code
def y_Part_homeOf : MethodName := ⟨R_Part, "homeOf", "(I)I"⟩
def w_Part_homeOf : List Cond := .code y_Part_homeOf b_Part_homeOf 2 (some .int) :: wsA
abbrev b_Part_slotOf : ByteArray := prog_2_method_3_code
def y_Part_slotOf : MethodName := ⟨R_Part, "slotOf", "(I)I"⟩
def w_Part_slotOf : List Cond := .code y_Part_slotOf b_Part_slotOf 2 (some .int) :: wsA
abbrev b_Part_around : ByteArray := prog_2_method_2_code
def y_Part_around : MethodName := ⟨R_Part, "around", "(I)I"⟩
def w_Part_around : List Cond := .code y_Part_around b_Part_around 2 (some .int) :: wsA
abbrev b_Part_end : ByteArray := prog_2_method_5_code
def y_Part_end : MethodName := ⟨R_Part, "end", "()I"⟩
def w_Part_end : List Cond := .code y_Part_end b_Part_end 1 (some .int) :: wsA
abbrev b_Part_isPlace : ByteArray := prog_2_method_6_code
def y_Part_isPlace : MethodName := ⟨R_Part, "isPlace", "(I)Z"⟩
def w_Part_isPlace : List Cond := .code y_Part_isPlace b_Part_isPlace 2 (some .boolean) :: wsA
abbrev b_Hop_init : ByteArray := prog_1_method_1_code
def y_Hop_init : MethodName := ⟨R_Hop, "<init>", "()V"⟩
def w_Hop_init : List Cond := .code y_Hop_init b_Hop_init 2 (none) :: wsA
abbrev b_Hop_put : ByteArray := prog_1_method_2_code
def y_Hop_put : MethodName := ⟨R_Hop, "put", "(III)Z"⟩
def w_Hop_put : List Cond := .code y_Hop_put b_Hop_put 6 (some .boolean) :: wsA
abbrev b_Hop_partOf : ByteArray := prog_1_method_15_code
def y_Hop_partOf : MethodName := ⟨R_Hop, "partOf", "(I)LHopArena$Part;"⟩
def w_Hop_partOf : List Cond := .code y_Hop_partOf b_Hop_partOf 2 (some (.object "HopArena$Part")) :: wsA
abbrev b_Hop_slotOrNone : ByteArray := prog_1_method_18_code
def y_Hop_slotOrNone : MethodName := ⟨R_Hop, "slotOrNone", "(LHopArena$Part;I)I"⟩
def w_Hop_slotOrNone : List Cond := .code y_Hop_slotOrNone b_Hop_slotOrNone 6 (some .int) :: wsA
abbrev b_Hop_insert : ByteArray := prog_1_method_22_code
def y_Hop_insert : MethodName := ⟨R_Hop, "insert", "(LHopArena$Part;II)Z"⟩
def w_Hop_insert : List Cond := .code y_Hop_insert b_Hop_insert 8 (some .boolean) :: wsA
abbrev b_Hop_stepsToFree : ByteArray := prog_1_method_23_code
def y_Hop_stepsToFree : MethodName := ⟨R_Hop, "stepsToFree", "(LHopArena$Part;I)I"⟩
def w_Hop_stepsToFree : List Cond := .code y_Hop_stepsToFree b_Hop_stepsToFree 4 (some .int) :: wsA
abbrev b_Hop_hopNearer : ByteArray := prog_1_method_24_code
def y_Hop_hopNearer : MethodName := ⟨R_Hop, "hopNearer", "(LHopArena$Part;I)I"⟩
def w_Hop_hopNearer : List Cond := .code y_Hop_hopNearer b_Hop_hopNearer 7 (some .int) :: wsA
abbrev b_Hop_isBitSet : ByteArray := prog_1_method_21_code
def y_Hop_isBitSet : MethodName := ⟨R_Hop, "isBitSet", "(LHopArena$Part;II)Z"⟩
def w_Hop_isBitSet : List Cond := .code y_Hop_isBitSet b_Hop_isBitSet 5 (some .boolean) :: wsA
abbrev b_Hop_copySlot : ByteArray := prog_1_method_25_code
def y_Hop_copySlot : MethodName := ⟨R_Hop, "copySlot", "(II)V"⟩
def w_Hop_copySlot : List Cond := .code y_Hop_copySlot b_Hop_copySlot 3 (none) :: wsA
abbrev b_Hop_growWith : ByteArray := prog_1_method_26_code
def y_Hop_growWith : MethodName := ⟨R_Hop, "growWith", "(III)Z"⟩
def w_Hop_growWith : List Cond := .code y_Hop_growWith b_Hop_growWith 10 (some .boolean) :: wsA
abbrev b_Hop_sumOfCapacities : ByteArray := prog_1_method_27_code
def y_Hop_sumOfCapacities : MethodName := ⟨R_Hop, "sumOfCapacities", "()I"⟩
def w_Hop_sumOfCapacities : List Cond := .code y_Hop_sumOfCapacities b_Hop_sumOfCapacities 3 (some .int) :: wsA
abbrev b_Hop_layOut : ByteArray := prog_1_method_28_code
def y_Hop_layOut : MethodName := ⟨R_Hop, "layOut", "(LHopArena$Part;II)V"⟩
def w_Hop_layOut : List Cond := .code y_Hop_layOut b_Hop_layOut 4 (none) :: wsA
abbrev b_Hop_lastEnd : ByteArray := prog_1_method_29_code
def y_Hop_lastEnd : MethodName := ⟨R_Hop, "lastEnd", "()I"⟩
def w_Hop_lastEnd : List Cond := .code y_Hop_lastEnd b_Hop_lastEnd 3 (some .int) :: wsA
abbrev b_Hop_pushTogether : ByteArray := prog_1_method_30_code
def y_Hop_pushTogether : MethodName := ⟨R_Hop, "pushTogether", "()V"⟩
def w_Hop_pushTogether : List Cond := .code y_Hop_pushTogether b_Hop_pushTogether 4 (none) :: wsA
abbrev b_Hop_lowestFrom : ByteArray := prog_1_method_31_code
def y_Hop_lowestFrom : MethodName := ⟨R_Hop, "lowestFrom", "(I)LHopArena$Part;"⟩
def w_Hop_lowestFrom : List Cond := .code y_Hop_lowestFrom b_Hop_lowestFrom 5 (some (.object "HopArena$Part")) :: wsA
abbrev b_Hop_moveDown : ByteArray := prog_1_method_32_code
def y_Hop_moveDown : MethodName := ⟨R_Hop, "moveDown", "(LHopArena$Part;I)V"⟩
def w_Hop_moveDown : List Cond := .code y_Hop_moveDown b_Hop_moveDown 4 (none) :: wsA
abbrev b_Hop_freeAll : ByteArray := prog_1_method_20_code
def y_Hop_freeAll : MethodName := ⟨R_Hop, "freeAll", "(LHopArena$Part;)V"⟩
def w_Hop_freeAll : List Cond := .code y_Hop_freeAll b_Hop_freeAll 3 (none) :: wsA
abbrev b_Hop_insertAnew : ByteArray := prog_1_method_33_code
def y_Hop_insertAnew : MethodName := ⟨R_Hop, "insertAnew", "(LHopArena$Part;LHopArena$Part;)Z"⟩
def w_Hop_insertAnew : List Cond := .code y_Hop_insertAnew b_Hop_insertAnew 4 (some .boolean) :: wsA
abbrev b_Hop_get : ByteArray := prog_1_method_3_code
def y_Hop_get : MethodName := ⟨R_Hop, "get", "(II)I"⟩
def w_Hop_get : List Cond := .code y_Hop_get b_Hop_get 3 (some .int) :: wsA
abbrev b_Hop_slotHolding : ByteArray := prog_1_method_17_code
def y_Hop_slotHolding : MethodName := ⟨R_Hop, "slotHolding", "(LHopArena$Part;I)I"⟩
def w_Hop_slotHolding : List Cond := .code y_Hop_slotHolding b_Hop_slotHolding 4 (some .int) :: wsA
abbrev b_Hop_remove : ByteArray := prog_1_method_4_code
def y_Hop_remove : MethodName := ⟨R_Hop, "remove", "(II)I"⟩
def w_Hop_remove : List Cond := .code y_Hop_remove b_Hop_remove 4 (some .int) :: wsA
abbrev b_Hop_has : ByteArray := prog_1_method_5_code
def y_Hop_has : MethodName := ⟨R_Hop, "has", "(II)Z"⟩
def w_Hop_has : List Cond := .code y_Hop_has b_Hop_has 3 (some .boolean) :: wsA
abbrev b_Hop_size : ByteArray := prog_1_method_6_code
def y_Hop_size : MethodName := ⟨R_Hop, "size", "(I)I"⟩
def w_Hop_size : List Cond := .code y_Hop_size b_Hop_size 2 (some .int) :: wsA
abbrev b_Hop_keysIn : ByteArray := prog_1_method_19_code
def y_Hop_keysIn : MethodName := ⟨R_Hop, "keysIn", "(LHopArena$Part;)I"⟩
def w_Hop_keysIn : List Cond := .code y_Hop_keysIn b_Hop_keysIn 4 (some .int) :: wsA
abbrev b_Hop_clear : ByteArray := prog_1_method_7_code
def y_Hop_clear : MethodName := ⟨R_Hop, "clear", "(I)I"⟩
def w_Hop_clear : List Cond := .code y_Hop_clear b_Hop_clear 4 (some .int) :: wsA
abbrev b_Hop_about : ByteArray := prog_1_method_8_code
def y_Hop_about : MethodName := ⟨R_Hop, "about", "(II)I"⟩
def w_Hop_about : List Cond := .code y_Hop_about b_Hop_about 4 (some .int) :: wsA
abbrev b_Hop_home : ByteArray := prog_1_method_9_code
def y_Hop_home : MethodName := ⟨R_Hop, "home", "(II)I"⟩
def w_Hop_home : List Cond := .code y_Hop_home b_Hop_home 3 (some .int) :: wsA
abbrev b_Hop_distance : ByteArray := prog_1_method_10_code
def y_Hop_distance : MethodName := ⟨R_Hop, "distance", "(II)I"⟩
def w_Hop_distance : List Cond := .code y_Hop_distance b_Hop_distance 5 (some .int) :: wsA
abbrev b_Hop_bits : ByteArray := prog_1_method_11_code
def y_Hop_bits : MethodName := ⟨R_Hop, "bits", "(II)I"⟩
def w_Hop_bits : List Cond := .code y_Hop_bits b_Hop_bits 6 (some .int) :: wsA
abbrev b_Hop_requirePlace : ByteArray := prog_1_method_16_code
def y_Hop_requirePlace : MethodName := ⟨R_Hop, "requirePlace", "(LHopArena$Part;I)V"⟩
def w_Hop_requirePlace : List Cond := .code y_Hop_requirePlace b_Hop_requirePlace 2 (none) :: wsA
abbrev b_Hop_next : ByteArray := prog_1_method_12_code
def y_Hop_next : MethodName := ⟨R_Hop, "next", "(II)I"⟩
def w_Hop_next : List Cond := .code y_Hop_next b_Hop_next 5 (some .int) :: wsA
abbrev b_Hop_key : ByteArray := prog_1_method_13_code
def y_Hop_key : MethodName := ⟨R_Hop, "key", "(II)I"⟩
def w_Hop_key : List Cond := .code y_Hop_key b_Hop_key 5 (some .int) :: wsA
abbrev b_Hop_count : ByteArray := prog_1_method_14_code
def y_Hop_count : MethodName := ⟨R_Hop, "count", "(I)I"⟩
def w_Hop_count : List Cond := .code y_Hop_count b_Hop_count 2 (some .int) :: wsA
def F_Part : u_T := fun k => match k with
  | 0 => ("HopArena$Part", "base", "I", false)
  | 1 => ("HopArena$Part", "capacity", "I", false)
  | _ => ("HopArena$Part", "seed", "I", false)
def t_Part : Nat → FieldType := fun k => match k with
  | 0 => .int
  | 1 => .int
  | _ => .int
theorem n_Part : ∀ a, a < 3 → ∀ b, b < 3 → a ≠ b → (F_Part a).2.1 ≠ (F_Part b).2.1 := by decide +kernel
theorem t_Part_ok : ∀ k, k < 3 → parseFieldDescriptor (F_Part k).2.2.1 = some (t_Part k) := by decide +kernel
theorem hin_Part : ∀ w ∈ u_ws R_Part F_Part 3, w ∈ wsA := by decide +kernel
def F_Hop : u_T := fun k => match k with
  | 0 => ("HopArena", "keys", "[I", true)
  | 1 => ("HopArena", "values", "[I", true)
  | 2 => ("HopArena", "taken", "[Z", true)
  | 3 => ("HopArena", "parts", "[LHopArena$Part;", true)
  | 4 => ("HopArena", "counts", "[I", true)
  | _ => ("HopArena", "spare", "LHopArena$Part;", false)
def t_Hop : Nat → FieldType := fun k => match k with
  | 0 => .array .int
  | 1 => .array .int
  | 2 => .array .boolean
  | 3 => .array (.object "HopArena$Part")
  | 4 => .array .int
  | _ => .object "HopArena$Part"
theorem n_Hop : ∀ a, a < 6 → ∀ b, b < 6 → a ≠ b → (F_Hop a).2.1 ≠ (F_Hop b).2.1 := by decide +kernel
theorem t_Hop_ok : ∀ k, k < 6 → parseFieldDescriptor (F_Hop k).2.2.1 = some (t_Hop k) := by decide +kernel
theorem hin_Hop : ∀ w ∈ u_ws R_Hop F_Hop 6, w ∈ wsA := by decide +kernel
abbrev hCl : List vw_C := [(R_Hop, F_Hop, 6), (R_Part, F_Part, 3)]
/-! words of the tables, by their places -/
theorem m_0 : (Jvm.Cond.selects "HopArena" (⟨"HopArena", "partOf", "(I)LHopArena$Part;"⟩ : MethodName) (⟨"HopArena", "partOf", "(I)LHopArena$Part;"⟩ : MethodName)) ∈ wsA := mA (List.mem_of_getElem? (i := 0) (by decide +kernel)) rfl
theorem m_1 : (Jvm.Cond.selects "java/lang/Throwable" (⟨"java/lang/Throwable", "fillInStackTrace", "(I)Ljava/lang/Throwable;"⟩ : MethodName) (⟨"java/lang/Throwable", "fillInStackTrace", "(I)Ljava/lang/Throwable;"⟩ : MethodName)) ∈ wsA := mA (List.mem_of_getElem? (i := 1) (by decide +kernel)) rfl
theorem m_2 : (Jvm.Cond.selects "HopArena" (⟨"HopArena", "slotOrNone", "(LHopArena$Part;I)I"⟩ : MethodName) (⟨"HopArena", "slotOrNone", "(LHopArena$Part;I)I"⟩ : MethodName)) ∈ wsA := mA (List.mem_of_getElem? (i := 2) (by decide +kernel)) rfl
theorem m_3 : (Jvm.Cond.selects "HopArena" (⟨"HopArena", "insert", "(LHopArena$Part;II)Z"⟩ : MethodName) (⟨"HopArena", "insert", "(LHopArena$Part;II)Z"⟩ : MethodName)) ∈ wsA := mA (List.mem_of_getElem? (i := 3) (by decide +kernel)) rfl
theorem m_4 : (Jvm.Cond.selects "HopArena" (⟨"HopArena", "stepsToFree", "(LHopArena$Part;I)I"⟩ : MethodName) (⟨"HopArena", "stepsToFree", "(LHopArena$Part;I)I"⟩ : MethodName)) ∈ wsA := mA (List.mem_of_getElem? (i := 4) (by decide +kernel)) rfl
theorem m_5 : (Jvm.Cond.selects "HopArena" (⟨"HopArena", "hopNearer", "(LHopArena$Part;I)I"⟩ : MethodName) (⟨"HopArena", "hopNearer", "(LHopArena$Part;I)I"⟩ : MethodName)) ∈ wsA := mA (List.mem_of_getElem? (i := 5) (by decide +kernel)) rfl
theorem m_6 : (Jvm.Cond.selects "HopArena" (⟨"HopArena", "isBitSet", "(LHopArena$Part;II)Z"⟩ : MethodName) (⟨"HopArena", "isBitSet", "(LHopArena$Part;II)Z"⟩ : MethodName)) ∈ wsA := mA (List.mem_of_getElem? (i := 6) (by decide +kernel)) rfl
theorem m_7 : (Jvm.Cond.selects "HopArena" (⟨"HopArena", "copySlot", "(II)V"⟩ : MethodName) (⟨"HopArena", "copySlot", "(II)V"⟩ : MethodName)) ∈ wsA := mA (List.mem_of_getElem? (i := 7) (by decide +kernel)) rfl
theorem m_8 : (Jvm.Cond.selects "HopArena" (⟨"HopArena", "growWith", "(III)Z"⟩ : MethodName) (⟨"HopArena", "growWith", "(III)Z"⟩ : MethodName)) ∈ wsA := mA (List.mem_of_getElem? (i := 8) (by decide +kernel)) rfl
theorem m_9 : (Jvm.Cond.selects "HopArena" (⟨"HopArena", "sumOfCapacities", "()I"⟩ : MethodName) (⟨"HopArena", "sumOfCapacities", "()I"⟩ : MethodName)) ∈ wsA := mA (List.mem_of_getElem? (i := 9) (by decide +kernel)) rfl
theorem m_10 : (Jvm.Cond.selects "HopArena" (⟨"HopArena", "layOut", "(LHopArena$Part;II)V"⟩ : MethodName) (⟨"HopArena", "layOut", "(LHopArena$Part;II)V"⟩ : MethodName)) ∈ wsA := mA (List.mem_of_getElem? (i := 10) (by decide +kernel)) rfl
theorem m_11 : (Jvm.Cond.selects "HopArena" (⟨"HopArena", "lastEnd", "()I"⟩ : MethodName) (⟨"HopArena", "lastEnd", "()I"⟩ : MethodName)) ∈ wsA := mA (List.mem_of_getElem? (i := 11) (by decide +kernel)) rfl
theorem m_12 : (Jvm.Cond.selects "HopArena" (⟨"HopArena", "pushTogether", "()V"⟩ : MethodName) (⟨"HopArena", "pushTogether", "()V"⟩ : MethodName)) ∈ wsA := mA (List.mem_of_getElem? (i := 12) (by decide +kernel)) rfl
theorem m_13 : (Jvm.Cond.selects "HopArena" (⟨"HopArena", "lowestFrom", "(I)LHopArena$Part;"⟩ : MethodName) (⟨"HopArena", "lowestFrom", "(I)LHopArena$Part;"⟩ : MethodName)) ∈ wsA := mA (List.mem_of_getElem? (i := 13) (by decide +kernel)) rfl
theorem m_14 : (Jvm.Cond.selects "HopArena" (⟨"HopArena", "moveDown", "(LHopArena$Part;I)V"⟩ : MethodName) (⟨"HopArena", "moveDown", "(LHopArena$Part;I)V"⟩ : MethodName)) ∈ wsA := mA (List.mem_of_getElem? (i := 14) (by decide +kernel)) rfl
theorem m_15 : (Jvm.Cond.selects "HopArena" (⟨"HopArena", "freeAll", "(LHopArena$Part;)V"⟩ : MethodName) (⟨"HopArena", "freeAll", "(LHopArena$Part;)V"⟩ : MethodName)) ∈ wsA := mA (List.mem_of_getElem? (i := 15) (by decide +kernel)) rfl
theorem m_16 : (Jvm.Cond.selects "HopArena" (⟨"HopArena", "insertAnew", "(LHopArena$Part;LHopArena$Part;)Z"⟩ : MethodName) (⟨"HopArena", "insertAnew", "(LHopArena$Part;LHopArena$Part;)Z"⟩ : MethodName)) ∈ wsA := mA (List.mem_of_getElem? (i := 16) (by decide +kernel)) rfl
theorem m_17 : (Jvm.Cond.selects "HopArena" (⟨"HopArena", "slotHolding", "(LHopArena$Part;I)I"⟩ : MethodName) (⟨"HopArena", "slotHolding", "(LHopArena$Part;I)I"⟩ : MethodName)) ∈ wsA := mA (List.mem_of_getElem? (i := 17) (by decide +kernel)) rfl
theorem m_18 : (Jvm.Cond.selects "HopArena" (⟨"HopArena", "keysIn", "(LHopArena$Part;)I"⟩ : MethodName) (⟨"HopArena", "keysIn", "(LHopArena$Part;)I"⟩ : MethodName)) ∈ wsA := mA (List.mem_of_getElem? (i := 18) (by decide +kernel)) rfl
theorem m_19 : (Jvm.Cond.selects "HopArenaModel" (⟨"HopArenaModel", "isMap", "(I)Z"⟩ : MethodName) (⟨"HopArenaModel", "isMap", "(I)Z"⟩ : MethodName)) ∈ wsA := mA (List.mem_of_getElem? (i := 19) (by decide +kernel)) rfl
theorem m_20 : (Jvm.Cond.selects "HopArenaModel" (⟨"HopArenaModel", "placeOf", "(II)I"⟩ : MethodName) (⟨"HopArenaModel", "placeOf", "(II)I"⟩ : MethodName)) ∈ wsA := mA (List.mem_of_getElem? (i := 20) (by decide +kernel)) rfl
theorem m_21 : (Jvm.Cond.selects "HopArenaModel" (⟨"HopArenaModel", "insert", "(III)Z"⟩ : MethodName) (⟨"HopArenaModel", "insert", "(III)Z"⟩ : MethodName)) ∈ wsA := mA (List.mem_of_getElem? (i := 21) (by decide +kernel)) rfl
theorem m_22 : (Jvm.Cond.selects "HopArenaModel" (⟨"HopArenaModel", "homeOf", "(II)I"⟩ : MethodName) (⟨"HopArenaModel", "homeOf", "(II)I"⟩ : MethodName)) ∈ wsA := mA (List.mem_of_getElem? (i := 22) (by decide +kernel)) rfl
theorem m_23 : (Jvm.Cond.selects "HopArenaModel" (⟨"HopArenaModel", "behind", "(III)I"⟩ : MethodName) (⟨"HopArenaModel", "behind", "(III)I"⟩ : MethodName)) ∈ wsA := mA (List.mem_of_getElem? (i := 23) (by decide +kernel)) rfl
theorem m_24 : (Jvm.Cond.selects "HopArenaModel" (⟨"HopArenaModel", "mover", "(II)I"⟩ : MethodName) (⟨"HopArenaModel", "mover", "(II)I"⟩ : MethodName)) ∈ wsA := mA (List.mem_of_getElem? (i := 24) (by decide +kernel)) rfl
theorem m_25 : (Jvm.Cond.selects "HopArenaModel" (⟨"HopArenaModel", "move", "(III)V"⟩ : MethodName) (⟨"HopArenaModel", "move", "(III)V"⟩ : MethodName)) ∈ wsA := mA (List.mem_of_getElem? (i := 25) (by decide +kernel)) rfl
theorem m_26 : (Jvm.Cond.selects "HopArenaModel" (⟨"HopArenaModel", "hold", "(I)V"⟩ : MethodName) (⟨"HopArenaModel", "hold", "(I)V"⟩ : MethodName)) ∈ wsA := mA (List.mem_of_getElem? (i := 26) (by decide +kernel)) rfl
theorem m_27 : (Jvm.Cond.selects "HopArenaModel" (⟨"HopArenaModel", "grow", "(I)Z"⟩ : MethodName) (⟨"HopArenaModel", "grow", "(I)Z"⟩ : MethodName)) ∈ wsA := mA (List.mem_of_getElem? (i := 27) (by decide +kernel)) rfl
theorem m_28 : (Jvm.Cond.selects "HopArenaModel" (⟨"HopArenaModel", "endOfAll", "(II)I"⟩ : MethodName) (⟨"HopArenaModel", "endOfAll", "(II)I"⟩ : MethodName)) ∈ wsA := mA (List.mem_of_getElem? (i := 28) (by decide +kernel)) rfl
theorem m_29 : (Jvm.Cond.selects "HopArenaModel" (⟨"HopArenaModel", "endOf", "(III)I"⟩ : MethodName) (⟨"HopArenaModel", "endOf", "(III)I"⟩ : MethodName)) ∈ wsA := mA (List.mem_of_getElem? (i := 29) (by decide +kernel)) rfl
theorem m_30 : (Jvm.Cond.selects "HopArenaModel" (⟨"HopArenaModel", "pushTogether", "(II)V"⟩ : MethodName) (⟨"HopArenaModel", "pushTogether", "(II)V"⟩ : MethodName)) ∈ wsA := mA (List.mem_of_getElem? (i := 30) (by decide +kernel)) rfl
theorem m_31 : (Jvm.Cond.selects "HopArenaModel" (⟨"HopArenaModel", "nextFrom", "(I)I"⟩ : MethodName) (⟨"HopArenaModel", "nextFrom", "(I)I"⟩ : MethodName)) ∈ wsA := mA (List.mem_of_getElem? (i := 31) (by decide +kernel)) rfl
theorem m_32 : (Jvm.Cond.selects "HopArenaModel" (⟨"HopArenaModel", "empty", "(I)V"⟩ : MethodName) (⟨"HopArenaModel", "empty", "(I)V"⟩ : MethodName)) ∈ wsA := mA (List.mem_of_getElem? (i := 32) (by decide +kernel)) rfl
theorem m_33 : (Jvm.Cond.selects "HopArenaModel" (⟨"HopArenaModel", "putBack", "(III)V"⟩ : MethodName) (⟨"HopArenaModel", "putBack", "(III)V"⟩ : MethodName)) ∈ wsA := mA (List.mem_of_getElem? (i := 33) (by decide +kernel)) rfl
theorem m_34 : (Jvm.Cond.selects "HopArenaModel" (⟨"HopArenaModel", "find", "(II)I"⟩ : MethodName) (⟨"HopArenaModel", "find", "(II)I"⟩ : MethodName)) ∈ wsA := mA (List.mem_of_getElem? (i := 34) (by decide +kernel)) rfl
theorem m_35 : (Jvm.Cond.selects "HopArenaModel" (⟨"HopArenaModel", "sizeOf", "(I)I"⟩ : MethodName) (⟨"HopArenaModel", "sizeOf", "(I)I"⟩ : MethodName)) ∈ wsA := mA (List.mem_of_getElem? (i := 35) (by decide +kernel)) rfl
theorem m_36 : (Jvm.Cond.selects "HopArenaModel" (⟨"HopArenaModel", "distanceAt", "(II)I"⟩ : MethodName) (⟨"HopArenaModel", "distanceAt", "(II)I"⟩ : MethodName)) ∈ wsA := mA (List.mem_of_getElem? (i := 36) (by decide +kernel)) rfl
theorem m_37 : (Jvm.Cond.selects "HopArenaModel" (⟨"HopArenaModel", "isPlace", "(II)Z"⟩ : MethodName) (⟨"HopArenaModel", "isPlace", "(II)Z"⟩ : MethodName)) ∈ wsA := mA (List.mem_of_getElem? (i := 37) (by decide +kernel)) rfl
theorem m_38 : (Jvm.Cond.selects "HopArenaModel" (⟨"HopArenaModel", "bitsOf", "(II)I"⟩ : MethodName) (⟨"HopArenaModel", "bitsOf", "(II)I"⟩ : MethodName)) ∈ wsA := mA (List.mem_of_getElem? (i := 38) (by decide +kernel)) rfl
theorem m_39 : (Jvm.Cond.initialized "HopArenaLaw") ∈ wsA := mA (List.mem_of_getElem? (i := 39) (by decide +kernel)) rfl
theorem m_40 : (Jvm.Cond.initialized "HopArena") ∈ wsA := mA (List.mem_of_getElem? (i := 40) (by decide +kernel)) rfl
theorem m_41 : (Jvm.Cond.initialized "HopArena$Part") ∈ wsA := mA (List.mem_of_getElem? (i := 41) (by decide +kernel)) rfl
theorem m_42 : (Jvm.Cond.initialized "HopArenaModel") ∈ wsA := mA (List.mem_of_getElem? (i := 42) (by decide +kernel)) rfl
theorem m_43 : (Jvm.Cond.initialized "java/lang/Throwable") ∈ wsA := mA (List.mem_of_getElem? (i := 43) (by decide +kernel)) rfl
theorem m_44 : (Jvm.Cond.initialized "java/lang/Exception") ∈ wsA := mA (List.mem_of_getElem? (i := 44) (by decide +kernel)) rfl
theorem m_45 : (Jvm.Cond.initialized "java/lang/RuntimeException") ∈ wsA := mA (List.mem_of_getElem? (i := 45) (by decide +kernel)) rfl
theorem m_46 : (Jvm.Cond.initialized "java/lang/IndexOutOfBoundsException") ∈ wsA := mA (List.mem_of_getElem? (i := 46) (by decide +kernel)) rfl
theorem m_47 : (Jvm.Cond.initialized "java/lang/Math") ∈ wsA := mA (List.mem_of_getElem? (i := 47) (by decide +kernel)) rfl
theorem m_48 : (Jvm.Cond.initialized "java/lang/ArithmeticException") ∈ wsA := mA (List.mem_of_getElem? (i := 48) (by decide +kernel)) rfl
theorem m_49 : (Jvm.Cond.initialized "java/util/NoSuchElementException") ∈ wsA := mA (List.mem_of_getElem? (i := 49) (by decide +kernel)) rfl
theorem m_50 : (Jvm.Cond.initialized "java/lang/IllegalArgumentException") ∈ wsA := mA (List.mem_of_getElem? (i := 50) (by decide +kernel)) rfl
theorem m_51 : (Jvm.Cond.classLink "HopArenaLaw" (8 : Nat) "HopArena") ∈ wsA := mA (List.mem_of_getElem? (i := 51) (by decide +kernel)) rfl
theorem m_52 : (Jvm.Cond.instantiable "HopArena" (6 : Nat)) ∈ wsA := mA (List.mem_of_getElem? (i := 52) (by decide +kernel)) rfl
theorem m_53 : (Jvm.Cond.methodLink "HopArenaLaw" (60 : Nat) ({ cls := "HopArena", name := "<init>", desc := "()V" } : Jvm.MethodName)) ∈ wsA := mA (List.mem_of_getElem? (i := 53) (by decide +kernel)) rfl
theorem m_54 : (Jvm.Cond.instanceMethod ({ cls := "HopArena", name := "<init>", desc := "()V" } : Jvm.MethodName)) ∈ wsA := mA (List.mem_of_getElem? (i := 54) (by decide +kernel)) rfl
theorem m_55 : (Jvm.Cond.code ({ cls := "HopArena", name := "<init>", desc := "()V" } : Jvm.MethodName) prog_1_method_1_code (2 : Nat) (Option.none : Option Jvm.ClassFile.FieldType)) ∈ wsA := mA (List.mem_of_getElem? (i := 55) (by decide +kernel)) rfl
theorem m_56 : (Jvm.Cond.methodLink "HopArena" (1 : Nat) ({ cls := "java/lang/Object", name := "<init>", desc := "()V" } : Jvm.MethodName)) ∈ wsA := mA (List.mem_of_getElem? (i := 56) (by decide +kernel)) rfl
theorem m_57 : (Jvm.Cond.instanceMethod ({ cls := "java/lang/Object", name := "<init>", desc := "()V" } : Jvm.MethodName)) ∈ wsA := mA (List.mem_of_getElem? (i := 57) (by decide +kernel)) rfl
theorem m_58 : (Jvm.Cond.code ({ cls := "java/lang/Object", name := "<init>", desc := "()V" } : Jvm.MethodName) object_method_1_code (1 : Nat) (Option.none : Option Jvm.ClassFile.FieldType)) ∈ wsA := mA (List.mem_of_getElem? (i := 58) (by decide +kernel)) rfl
theorem m_59 : (Jvm.Cond.classLink "HopArena" (23 : Nat) "HopArena$Part") ∈ wsA := mA (List.mem_of_getElem? (i := 59) (by decide +kernel)) rfl
theorem m_61 : (Jvm.Cond.instantiable "HopArena$Part" (3 : Nat)) ∈ wsA := mA (List.mem_of_getElem? (i := 61) (by decide +kernel)) rfl
theorem m_62 : (Jvm.Cond.methodLink "HopArena" (29 : Nat) ({ cls := "HopArena$Part", name := "<init>", desc := "(III)V" } : Jvm.MethodName)) ∈ wsA := mA (List.mem_of_getElem? (i := 62) (by decide +kernel)) rfl
theorem m_63 : (Jvm.Cond.instanceMethod ({ cls := "HopArena$Part", name := "<init>", desc := "(III)V" } : Jvm.MethodName)) ∈ wsA := mA (List.mem_of_getElem? (i := 63) (by decide +kernel)) rfl
theorem m_64 : (Jvm.Cond.code ({ cls := "HopArena$Part", name := "<init>", desc := "(III)V" } : Jvm.MethodName) prog_2_method_1_code (4 : Nat) (Option.none : Option Jvm.ClassFile.FieldType)) ∈ wsA := mA (List.mem_of_getElem? (i := 64) (by decide +kernel)) rfl
theorem m_65 : (Jvm.Cond.methodLink "HopArena$Part" (1 : Nat) ({ cls := "java/lang/Object", name := "<init>", desc := "()V" } : Jvm.MethodName)) ∈ wsA := mA (List.mem_of_getElem? (i := 65) (by decide +kernel)) rfl
theorem m_66 : (Jvm.Cond.fieldLink "HopArena$Part" (7 : Nat) "HopArena$Part" "base" "I") ∈ wsA := mA (List.mem_of_getElem? (i := 66) (by decide +kernel)) rfl
theorem m_67 : (Jvm.Cond.fieldLink "HopArena" (74 : Nat) "HopArena$Part" "base" "I") ∈ wsA := mA (List.mem_of_getElem? (i := 67) (by decide +kernel)) rfl
theorem m_68 : (Jvm.Cond.fieldLink "HopArena$Part" (13 : Nat) "HopArena$Part" "capacity" "I") ∈ wsA := mA (List.mem_of_getElem? (i := 68) (by decide +kernel)) rfl
theorem m_69 : (Jvm.Cond.fieldLink "HopArena" (66 : Nat) "HopArena$Part" "capacity" "I") ∈ wsA := mA (List.mem_of_getElem? (i := 69) (by decide +kernel)) rfl
theorem m_70 : (Jvm.Cond.fieldLink "HopArena$Part" (16 : Nat) "HopArena$Part" "seed" "I") ∈ wsA := mA (List.mem_of_getElem? (i := 70) (by decide +kernel)) rfl
theorem m_71 : (Jvm.Cond.fieldLink "HopArena" (77 : Nat) "HopArena$Part" "seed" "I") ∈ wsA := mA (List.mem_of_getElem? (i := 71) (by decide +kernel)) rfl
theorem m_72 : (Jvm.Cond.lays "HopArena$Part" "HopArena$Part" "base" "I") ∈ wsA := mA (List.mem_of_getElem? (i := 72) (by decide +kernel)) rfl
theorem m_74 : (Jvm.Cond.lays "HopArena$Part" "HopArena$Part" "capacity" "I") ∈ wsA := mA (List.mem_of_getElem? (i := 74) (by decide +kernel)) rfl
theorem m_76 : (Jvm.Cond.lays "HopArena$Part" "HopArena$Part" "seed" "I") ∈ wsA := mA (List.mem_of_getElem? (i := 76) (by decide +kernel)) rfl
theorem m_79 : (Jvm.Cond.arrayClass Jvm.ClassFile.FieldType.int) ∈ wsA := mA (List.mem_of_getElem? (i := 79) (by decide +kernel)) rfl
theorem m_80 : (Jvm.Cond.arrayClass Jvm.ClassFile.FieldType.boolean) ∈ wsA := mA (List.mem_of_getElem? (i := 80) (by decide +kernel)) rfl
theorem m_81 : (Jvm.Cond.fieldLink "HopArena" (9 : Nat) "HopArena" "keys" "[I") ∈ wsA := mA (List.mem_of_getElem? (i := 81) (by decide +kernel)) rfl
theorem m_82 : (Jvm.Cond.fieldLink "HopArena" (13 : Nat) "HopArena" "values" "[I") ∈ wsA := mA (List.mem_of_getElem? (i := 82) (by decide +kernel)) rfl
theorem m_83 : (Jvm.Cond.fieldLink "HopArena" (16 : Nat) "HopArena" "taken" "[Z") ∈ wsA := mA (List.mem_of_getElem? (i := 83) (by decide +kernel)) rfl
theorem m_84 : (Jvm.Cond.fieldLink "HopArena" (25 : Nat) "HopArena" "parts" "[LHopArena$Part;") ∈ wsA := mA (List.mem_of_getElem? (i := 84) (by decide +kernel)) rfl
theorem m_85 : (Jvm.Cond.fieldLink "HopArena" (20 : Nat) "HopArena" "counts" "[I") ∈ wsA := mA (List.mem_of_getElem? (i := 85) (by decide +kernel)) rfl
theorem m_86 : (Jvm.Cond.fieldLink "HopArena" (32 : Nat) "HopArena" "spare" "LHopArena$Part;") ∈ wsA := mA (List.mem_of_getElem? (i := 86) (by decide +kernel)) rfl
theorem m_87 : (Jvm.Cond.laysFinal "HopArena" "HopArena" "keys" "[I") ∈ wsA := mA (List.mem_of_getElem? (i := 87) (by decide +kernel)) rfl
theorem m_89 : (Jvm.Cond.laysFinal "HopArena" "HopArena" "values" "[I") ∈ wsA := mA (List.mem_of_getElem? (i := 89) (by decide +kernel)) rfl
theorem m_91 : (Jvm.Cond.laysFinal "HopArena" "HopArena" "taken" "[Z") ∈ wsA := mA (List.mem_of_getElem? (i := 91) (by decide +kernel)) rfl
theorem m_93 : (Jvm.Cond.laysFinal "HopArena" "HopArena" "parts" "[LHopArena$Part;") ∈ wsA := mA (List.mem_of_getElem? (i := 93) (by decide +kernel)) rfl
theorem m_95 : (Jvm.Cond.laysFinal "HopArena" "HopArena" "counts" "[I") ∈ wsA := mA (List.mem_of_getElem? (i := 95) (by decide +kernel)) rfl
theorem m_97 : (Jvm.Cond.lays "HopArena" "HopArena" "spare" "LHopArena$Part;") ∈ wsA := mA (List.mem_of_getElem? (i := 97) (by decide +kernel)) rfl
theorem m_100 : (Jvm.Cond.methodLink "HopArenaLaw" (64 : Nat) ({ cls := "HopArenaLaw", name := "put", desc := "(LHopArena;III[J)I" } : Jvm.MethodName)) ∈ wsA := mA (List.mem_of_getElem? (i := 100) (by decide +kernel)) rfl
theorem m_101 : (Jvm.Cond.static ({ cls := "HopArenaLaw", name := "put", desc := "(LHopArena;III[J)I" } : Jvm.MethodName)) ∈ wsA := mA (List.mem_of_getElem? (i := 101) (by decide +kernel)) rfl
theorem m_102 : (Jvm.Cond.codeWith ({ cls := "HopArenaLaw", name := "put", desc := "(LHopArena;III[J)I" } : Jvm.MethodName) method_3_code (6 : Nat) (Option.some Jvm.ClassFile.FieldType.int) [((0 : Nat), (19 : Nat), (22 : Nat), (13 : Nat)), ((0 : Nat), (19 : Nat), (26 : Nat), (15 : Nat))]) ∈ wsA := mA (List.mem_of_getElem? (i := 102) (by decide +kernel)) rfl
theorem m_103 : (Jvm.Cond.classLink "HopArenaLaw" (13 : Nat) "java/lang/IndexOutOfBoundsException") ∈ wsA := mA (List.mem_of_getElem? (i := 103) (by decide +kernel)) rfl
theorem m_104 : (Jvm.Cond.classLink "HopArenaLaw" (15 : Nat) "java/lang/ArithmeticException") ∈ wsA := mA (List.mem_of_getElem? (i := 104) (by decide +kernel)) rfl
theorem m_105 : (Jvm.Cond.methodLink "HopArenaLaw" (7 : Nat) ({ cls := "HopArena", name := "put", desc := "(III)Z" } : Jvm.MethodName)) ∈ wsA := mA (List.mem_of_getElem? (i := 105) (by decide +kernel)) rfl
theorem m_106 : (Jvm.Cond.instanceMethod ({ cls := "HopArena", name := "put", desc := "(III)Z" } : Jvm.MethodName)) ∈ wsA := mA (List.mem_of_getElem? (i := 106) (by decide +kernel)) rfl
theorem m_107 : (Jvm.Cond.selects "HopArena" ({ cls := "HopArena", name := "put", desc := "(III)Z" } : Jvm.MethodName) ({ cls := "HopArena", name := "put", desc := "(III)Z" } : Jvm.MethodName)) ∈ wsA := mA (List.mem_of_getElem? (i := 107) (by decide +kernel)) rfl
theorem m_108 : (Jvm.Cond.code ({ cls := "HopArena", name := "put", desc := "(III)Z" } : Jvm.MethodName) prog_1_method_2_code (6 : Nat) (Option.some Jvm.ClassFile.FieldType.boolean)) ∈ wsA := mA (List.mem_of_getElem? (i := 108) (by decide +kernel)) rfl
theorem m_109 : (Jvm.Cond.methodLink "HopArena" (36 : Nat) ({ cls := "HopArena", name := "partOf", desc := "(I)LHopArena$Part;" } : Jvm.MethodName)) ∈ wsA := mA (List.mem_of_getElem? (i := 109) (by decide +kernel)) rfl
theorem m_111 : (Jvm.Cond.instanceMethod ({ cls := "HopArena", name := "partOf", desc := "(I)LHopArena$Part;" } : Jvm.MethodName)) ∈ wsA := mA (List.mem_of_getElem? (i := 111) (by decide +kernel)) rfl
theorem m_112 : (Jvm.Cond.code ({ cls := "HopArena", name := "partOf", desc := "(I)LHopArena$Part;" } : Jvm.MethodName) prog_1_method_15_code (2 : Nat) (Option.some (Jvm.ClassFile.FieldType.object "HopArena$Part"))) ∈ wsA := mA (List.mem_of_getElem? (i := 112) (by decide +kernel)) rfl
theorem m_113 : (Jvm.Cond.classLink "HopArena" (109 : Nat) "java/lang/IndexOutOfBoundsException") ∈ wsA := mA (List.mem_of_getElem? (i := 113) (by decide +kernel)) rfl
theorem m_114 : (Jvm.Cond.instantiable "java/lang/IndexOutOfBoundsException" (6 : Nat)) ∈ wsA := mA (List.mem_of_getElem? (i := 114) (by decide +kernel)) rfl
theorem m_122 : (Jvm.Cond.selects "java/lang/IndexOutOfBoundsException" ({ cls := "java/lang/Throwable", name := "fillInStackTrace", desc := "(I)Ljava/lang/Throwable;" } : Jvm.MethodName) ({ cls := "java/lang/Throwable", name := "fillInStackTrace", desc := "(I)Ljava/lang/Throwable;" } : Jvm.MethodName)) ∈ wsA := mA (List.mem_of_getElem? (i := 122) (by decide +kernel)) rfl
theorem m_123 : (Jvm.Cond.selects "java/lang/IndexOutOfBoundsException" ({ cls := "java/lang/Throwable", name := "fillInStackTrace", desc := "()Ljava/lang/Throwable;" } : Jvm.MethodName) ({ cls := "java/lang/Throwable", name := "fillInStackTrace", desc := "()Ljava/lang/Throwable;" } : Jvm.MethodName)) ∈ wsA := mA (List.mem_of_getElem? (i := 123) (by decide +kernel)) rfl
theorem m_124 : (Jvm.Cond.lays "java/lang/IndexOutOfBoundsException" "java/lang/Throwable" "cause" "Ljava/lang/Throwable;") ∈ wsA := mA (List.mem_of_getElem? (i := 124) (by decide +kernel)) rfl
theorem m_125 : (Jvm.Cond.lays "java/lang/Throwable" "java/lang/Throwable" "cause" "Ljava/lang/Throwable;") ∈ wsA := mA (List.mem_of_getElem? (i := 125) (by decide +kernel)) rfl
theorem m_126 : (Jvm.Cond.lays "java/lang/IndexOutOfBoundsException" "java/lang/Throwable" "stackTrace" "[Ljava/lang/StackTraceElement;") ∈ wsA := mA (List.mem_of_getElem? (i := 126) (by decide +kernel)) rfl
theorem m_127 : (Jvm.Cond.lays "java/lang/Throwable" "java/lang/Throwable" "stackTrace" "[Ljava/lang/StackTraceElement;") ∈ wsA := mA (List.mem_of_getElem? (i := 127) (by decide +kernel)) rfl
theorem m_128 : (Jvm.Cond.lays "java/lang/IndexOutOfBoundsException" "java/lang/Throwable" "suppressedExceptions" "Ljava/util/List;") ∈ wsA := mA (List.mem_of_getElem? (i := 128) (by decide +kernel)) rfl
theorem m_129 : (Jvm.Cond.lays "java/lang/Throwable" "java/lang/Throwable" "suppressedExceptions" "Ljava/util/List;") ∈ wsA := mA (List.mem_of_getElem? (i := 129) (by decide +kernel)) rfl
theorem m_130 : (Jvm.Cond.lays "java/lang/IndexOutOfBoundsException" "java/lang/Throwable" "detailMessage" "Ljava/lang/String;") ∈ wsA := mA (List.mem_of_getElem? (i := 130) (by decide +kernel)) rfl
theorem m_131 : (Jvm.Cond.lays "java/lang/Throwable" "java/lang/Throwable" "detailMessage" "Ljava/lang/String;") ∈ wsA := mA (List.mem_of_getElem? (i := 131) (by decide +kernel)) rfl
theorem m_132 : (Jvm.Cond.lays "java/lang/IndexOutOfBoundsException" "java/lang/Throwable" "backtrace" "Ljava/lang/Object;") ∈ wsA := mA (List.mem_of_getElem? (i := 132) (by decide +kernel)) rfl
theorem m_133 : (Jvm.Cond.lays "java/lang/Throwable" "java/lang/Throwable" "backtrace" "Ljava/lang/Object;") ∈ wsA := mA (List.mem_of_getElem? (i := 133) (by decide +kernel)) rfl
theorem m_134 : (Jvm.Cond.fieldLink "java/lang/Throwable" (198 : Nat) "java/lang/Throwable" "backtrace" "Ljava/lang/Object;") ∈ wsA := mA (List.mem_of_getElem? (i := 134) (by decide +kernel)) rfl
theorem m_136 : (Jvm.Cond.instanceMethod ({ cls := "java/lang/Throwable", name := "<init>", desc := "()V" } : Jvm.MethodName)) ∈ wsA := mA (List.mem_of_getElem? (i := 136) (by decide +kernel)) rfl
theorem m_137 : (Jvm.Cond.code ({ cls := "java/lang/Throwable", name := "<init>", desc := "()V" } : Jvm.MethodName) prog_12_method_1_code (1 : Nat) (Option.none : Option Jvm.ClassFile.FieldType)) ∈ wsA := mA (List.mem_of_getElem? (i := 137) (by decide +kernel)) rfl
theorem m_138 : (Jvm.Cond.methodLink "java/lang/Throwable" (1 : Nat) ({ cls := "java/lang/Object", name := "<init>", desc := "()V" } : Jvm.MethodName)) ∈ wsA := mA (List.mem_of_getElem? (i := 138) (by decide +kernel)) rfl
theorem m_139 : (Jvm.Cond.fieldLink "java/lang/Throwable" (13 : Nat) "java/lang/Throwable" "UNASSIGNED_STACK" "[Ljava/lang/StackTraceElement;") ∈ wsA := mA (List.mem_of_getElem? (i := 139) (by decide +kernel)) rfl
theorem m_141 : (Jvm.Cond.fieldLink "java/lang/Throwable" (20 : Nat) "java/lang/Throwable" "SUPPRESSED_SENTINEL" "Ljava/util/List;") ∈ wsA := mA (List.mem_of_getElem? (i := 141) (by decide +kernel)) rfl
theorem m_143 : (Jvm.Cond.methodLink "java/lang/Throwable" (27 : Nat) ({ cls := "java/lang/Throwable", name := "fillInStackTrace", desc := "()Ljava/lang/Throwable;" } : Jvm.MethodName)) ∈ wsA := mA (List.mem_of_getElem? (i := 143) (by decide +kernel)) rfl
theorem m_144 : (Jvm.Cond.instanceMethod ({ cls := "java/lang/Throwable", name := "fillInStackTrace", desc := "()Ljava/lang/Throwable;" } : Jvm.MethodName)) ∈ wsA := mA (List.mem_of_getElem? (i := 144) (by decide +kernel)) rfl
theorem m_146 : (Jvm.Cond.selects "java/lang/ArithmeticException" ({ cls := "java/lang/Throwable", name := "fillInStackTrace", desc := "()Ljava/lang/Throwable;" } : Jvm.MethodName) ({ cls := "java/lang/Throwable", name := "fillInStackTrace", desc := "()Ljava/lang/Throwable;" } : Jvm.MethodName)) ∈ wsA := mA (List.mem_of_getElem? (i := 146) (by decide +kernel)) rfl
theorem m_147 : (Jvm.Cond.selects "java/lang/IllegalArgumentException" ({ cls := "java/lang/Throwable", name := "fillInStackTrace", desc := "()Ljava/lang/Throwable;" } : Jvm.MethodName) ({ cls := "java/lang/Throwable", name := "fillInStackTrace", desc := "()Ljava/lang/Throwable;" } : Jvm.MethodName)) ∈ wsA := mA (List.mem_of_getElem? (i := 147) (by decide +kernel)) rfl
theorem m_148 : (Jvm.Cond.selects "java/util/NoSuchElementException" ({ cls := "java/lang/Throwable", name := "fillInStackTrace", desc := "()Ljava/lang/Throwable;" } : Jvm.MethodName) ({ cls := "java/lang/Throwable", name := "fillInStackTrace", desc := "()Ljava/lang/Throwable;" } : Jvm.MethodName)) ∈ wsA := mA (List.mem_of_getElem? (i := 148) (by decide +kernel)) rfl
theorem m_150 : (Jvm.Cond.methodLink "java/lang/Throwable" (202 : Nat) ({ cls := "java/lang/Throwable", name := "fillInStackTrace", desc := "(I)Ljava/lang/Throwable;" } : Jvm.MethodName)) ∈ wsA := mA (List.mem_of_getElem? (i := 150) (by decide +kernel)) rfl
theorem m_152 : (Jvm.Cond.instanceMethod ({ cls := "java/lang/Throwable", name := "fillInStackTrace", desc := "(I)Ljava/lang/Throwable;" } : Jvm.MethodName)) ∈ wsA := mA (List.mem_of_getElem? (i := 152) (by decide +kernel)) rfl
theorem m_153 : (Jvm.Cond.instantiable "java/lang/Throwable" (6 : Nat)) ∈ wsA := mA (List.mem_of_getElem? (i := 153) (by decide +kernel)) rfl
theorem m_156 : (Jvm.Cond.methodLink "HopArena" (113 : Nat) ({ cls := "java/lang/IndexOutOfBoundsException", name := "<init>", desc := "(Ljava/lang/String;)V" } : Jvm.MethodName)) ∈ wsA := mA (List.mem_of_getElem? (i := 156) (by decide +kernel)) rfl
theorem m_157 : (Jvm.Cond.instanceMethod ({ cls := "java/lang/IndexOutOfBoundsException", name := "<init>", desc := "(Ljava/lang/String;)V" } : Jvm.MethodName)) ∈ wsA := mA (List.mem_of_getElem? (i := 157) (by decide +kernel)) rfl
theorem m_158 : (Jvm.Cond.code ({ cls := "java/lang/IndexOutOfBoundsException", name := "<init>", desc := "(Ljava/lang/String;)V" } : Jvm.MethodName) prog_8_method_2_code (2 : Nat) (Option.none : Option Jvm.ClassFile.FieldType)) ∈ wsA := mA (List.mem_of_getElem? (i := 158) (by decide +kernel)) rfl
theorem m_159 : (Jvm.Cond.methodLink "java/lang/IndexOutOfBoundsException" (7 : Nat) ({ cls := "java/lang/RuntimeException", name := "<init>", desc := "(Ljava/lang/String;)V" } : Jvm.MethodName)) ∈ wsA := mA (List.mem_of_getElem? (i := 159) (by decide +kernel)) rfl
theorem m_160 : (Jvm.Cond.instanceMethod ({ cls := "java/lang/RuntimeException", name := "<init>", desc := "(Ljava/lang/String;)V" } : Jvm.MethodName)) ∈ wsA := mA (List.mem_of_getElem? (i := 160) (by decide +kernel)) rfl
theorem m_161 : (Jvm.Cond.code ({ cls := "java/lang/RuntimeException", name := "<init>", desc := "(Ljava/lang/String;)V" } : Jvm.MethodName) prog_10_method_2_code (2 : Nat) (Option.none : Option Jvm.ClassFile.FieldType)) ∈ wsA := mA (List.mem_of_getElem? (i := 161) (by decide +kernel)) rfl
theorem m_162 : (Jvm.Cond.methodLink "java/lang/RuntimeException" (7 : Nat) ({ cls := "java/lang/Exception", name := "<init>", desc := "(Ljava/lang/String;)V" } : Jvm.MethodName)) ∈ wsA := mA (List.mem_of_getElem? (i := 162) (by decide +kernel)) rfl
theorem m_163 : (Jvm.Cond.instanceMethod ({ cls := "java/lang/Exception", name := "<init>", desc := "(Ljava/lang/String;)V" } : Jvm.MethodName)) ∈ wsA := mA (List.mem_of_getElem? (i := 163) (by decide +kernel)) rfl
theorem m_164 : (Jvm.Cond.code ({ cls := "java/lang/Exception", name := "<init>", desc := "(Ljava/lang/String;)V" } : Jvm.MethodName) prog_6_method_2_code (2 : Nat) (Option.none : Option Jvm.ClassFile.FieldType)) ∈ wsA := mA (List.mem_of_getElem? (i := 164) (by decide +kernel)) rfl
theorem m_165 : (Jvm.Cond.methodLink "java/lang/Exception" (7 : Nat) ({ cls := "java/lang/Throwable", name := "<init>", desc := "(Ljava/lang/String;)V" } : Jvm.MethodName)) ∈ wsA := mA (List.mem_of_getElem? (i := 165) (by decide +kernel)) rfl
theorem m_166 : (Jvm.Cond.instanceMethod ({ cls := "java/lang/Throwable", name := "<init>", desc := "(Ljava/lang/String;)V" } : Jvm.MethodName)) ∈ wsA := mA (List.mem_of_getElem? (i := 166) (by decide +kernel)) rfl
theorem m_167 : (Jvm.Cond.code ({ cls := "java/lang/Throwable", name := "<init>", desc := "(Ljava/lang/String;)V" } : Jvm.MethodName) prog_12_method_2_code (2 : Nat) (Option.none : Option Jvm.ClassFile.FieldType)) ∈ wsA := mA (List.mem_of_getElem? (i := 167) (by decide +kernel)) rfl
theorem m_168 : (Jvm.Cond.fieldLink "java/lang/Throwable" (198 : Nat) "java/lang/Throwable" "backtrace" "Ljava/lang/Object;") ∈ wsA := mA (List.mem_of_getElem? (i := 168) (by decide +kernel)) rfl
theorem m_169 : (Jvm.Cond.fieldLink "java/lang/Throwable" (31 : Nat) "java/lang/Throwable" "detailMessage" "Ljava/lang/String;") ∈ wsA := mA (List.mem_of_getElem? (i := 169) (by decide +kernel)) rfl
theorem m_170 : (Jvm.Cond.fieldLink "java/lang/Throwable" (7 : Nat) "java/lang/Throwable" "cause" "Ljava/lang/Throwable;") ∈ wsA := mA (List.mem_of_getElem? (i := 170) (by decide +kernel)) rfl
theorem m_171 : (Jvm.Cond.fieldLink "java/lang/Throwable" (17 : Nat) "java/lang/Throwable" "stackTrace" "[Ljava/lang/StackTraceElement;") ∈ wsA := mA (List.mem_of_getElem? (i := 171) (by decide +kernel)) rfl
theorem m_172 : (Jvm.Cond.fieldLink "java/lang/Throwable" (24 : Nat) "java/lang/Throwable" "suppressedExceptions" "Ljava/util/List;") ∈ wsA := mA (List.mem_of_getElem? (i := 172) (by decide +kernel)) rfl
theorem m_177 : (Jvm.Cond.lays "java/lang/IndexOutOfBoundsException" "java/lang/Throwable" "depth" "I") ∈ wsA := mA (List.mem_of_getElem? (i := 177) (by decide +kernel)) rfl
theorem m_181 : (Jvm.Cond.arrayClass Jvm.ClassFile.FieldType.byte) ∈ wsA := mA (List.mem_of_getElem? (i := 181) (by decide +kernel)) rfl
theorem m_182 : (Jvm.Cond.methodLink "HopArena" (40 : Nat) ({ cls := "HopArena", name := "slotOrNone", desc := "(LHopArena$Part;I)I" } : Jvm.MethodName)) ∈ wsA := mA (List.mem_of_getElem? (i := 182) (by decide +kernel)) rfl
theorem m_184 : (Jvm.Cond.instanceMethod ({ cls := "HopArena", name := "slotOrNone", desc := "(LHopArena$Part;I)I" } : Jvm.MethodName)) ∈ wsA := mA (List.mem_of_getElem? (i := 184) (by decide +kernel)) rfl
theorem m_185 : (Jvm.Cond.code ({ cls := "HopArena", name := "slotOrNone", desc := "(LHopArena$Part;I)I" } : Jvm.MethodName) prog_1_method_18_code (6 : Nat) (Option.some Jvm.ClassFile.FieldType.int)) ∈ wsA := mA (List.mem_of_getElem? (i := 185) (by decide +kernel)) rfl
theorem m_186 : (Jvm.Cond.methodLink "HopArena" (85 : Nat) ({ cls := "HopArena$Part", name := "homeOf", desc := "(I)I" } : Jvm.MethodName)) ∈ wsA := mA (List.mem_of_getElem? (i := 186) (by decide +kernel)) rfl
theorem m_187 : (Jvm.Cond.instanceMethod ({ cls := "HopArena$Part", name := "homeOf", desc := "(I)I" } : Jvm.MethodName)) ∈ wsA := mA (List.mem_of_getElem? (i := 187) (by decide +kernel)) rfl
theorem m_188 : (Jvm.Cond.selects "HopArena$Part" ({ cls := "HopArena$Part", name := "homeOf", desc := "(I)I" } : Jvm.MethodName) ({ cls := "HopArena$Part", name := "homeOf", desc := "(I)I" } : Jvm.MethodName)) ∈ wsA := mA (List.mem_of_getElem? (i := 188) (by decide +kernel)) rfl
theorem m_189 : (Jvm.Cond.code ({ cls := "HopArena$Part", name := "homeOf", desc := "(I)I" } : Jvm.MethodName) prog_2_method_4_code (2 : Nat) (Option.some Jvm.ClassFile.FieldType.int)) ∈ wsA := mA (List.mem_of_getElem? (i := 189) (by decide +kernel)) rfl
theorem m_190 : (Jvm.Cond.constant "HopArena$Part" (19 : Nat) (-1640531535 : Int32)) ∈ wsA := mA (List.mem_of_getElem? (i := 190) (by decide +kernel)) rfl
theorem m_191 : (Jvm.Cond.methodLink "HopArena" (99 : Nat) ({ cls := "HopArena$Part", name := "slotOf", desc := "(I)I" } : Jvm.MethodName)) ∈ wsA := mA (List.mem_of_getElem? (i := 191) (by decide +kernel)) rfl
theorem m_192 : (Jvm.Cond.instanceMethod ({ cls := "HopArena$Part", name := "slotOf", desc := "(I)I" } : Jvm.MethodName)) ∈ wsA := mA (List.mem_of_getElem? (i := 192) (by decide +kernel)) rfl
theorem m_193 : (Jvm.Cond.selects "HopArena$Part" ({ cls := "HopArena$Part", name := "slotOf", desc := "(I)I" } : Jvm.MethodName) ({ cls := "HopArena$Part", name := "slotOf", desc := "(I)I" } : Jvm.MethodName)) ∈ wsA := mA (List.mem_of_getElem? (i := 193) (by decide +kernel)) rfl
theorem m_194 : (Jvm.Cond.code ({ cls := "HopArena$Part", name := "slotOf", desc := "(I)I" } : Jvm.MethodName) prog_2_method_3_code (2 : Nat) (Option.some Jvm.ClassFile.FieldType.int)) ∈ wsA := mA (List.mem_of_getElem? (i := 194) (by decide +kernel)) rfl
theorem m_195 : (Jvm.Cond.methodLink "HopArena" (44 : Nat) ({ cls := "HopArena", name := "insert", desc := "(LHopArena$Part;II)Z" } : Jvm.MethodName)) ∈ wsA := mA (List.mem_of_getElem? (i := 195) (by decide +kernel)) rfl
theorem m_197 : (Jvm.Cond.instanceMethod ({ cls := "HopArena", name := "insert", desc := "(LHopArena$Part;II)Z" } : Jvm.MethodName)) ∈ wsA := mA (List.mem_of_getElem? (i := 197) (by decide +kernel)) rfl
theorem m_198 : (Jvm.Cond.code ({ cls := "HopArena", name := "insert", desc := "(LHopArena$Part;II)Z" } : Jvm.MethodName) prog_1_method_22_code (8 : Nat) (Option.some Jvm.ClassFile.FieldType.boolean)) ∈ wsA := mA (List.mem_of_getElem? (i := 198) (by decide +kernel)) rfl
theorem m_199 : (Jvm.Cond.methodLink "HopArena" (126 : Nat) ({ cls := "HopArena", name := "stepsToFree", desc := "(LHopArena$Part;I)I" } : Jvm.MethodName)) ∈ wsA := mA (List.mem_of_getElem? (i := 199) (by decide +kernel)) rfl
theorem m_201 : (Jvm.Cond.instanceMethod ({ cls := "HopArena", name := "stepsToFree", desc := "(LHopArena$Part;I)I" } : Jvm.MethodName)) ∈ wsA := mA (List.mem_of_getElem? (i := 201) (by decide +kernel)) rfl
theorem m_202 : (Jvm.Cond.code ({ cls := "HopArena", name := "stepsToFree", desc := "(LHopArena$Part;I)I" } : Jvm.MethodName) prog_1_method_23_code (4 : Nat) (Option.some Jvm.ClassFile.FieldType.int)) ∈ wsA := mA (List.mem_of_getElem? (i := 202) (by decide +kernel)) rfl
theorem m_203 : (Jvm.Cond.methodLink "HopArena" (129 : Nat) ({ cls := "HopArena", name := "hopNearer", desc := "(LHopArena$Part;I)I" } : Jvm.MethodName)) ∈ wsA := mA (List.mem_of_getElem? (i := 203) (by decide +kernel)) rfl
theorem m_205 : (Jvm.Cond.instanceMethod ({ cls := "HopArena", name := "hopNearer", desc := "(LHopArena$Part;I)I" } : Jvm.MethodName)) ∈ wsA := mA (List.mem_of_getElem? (i := 205) (by decide +kernel)) rfl
theorem m_206 : (Jvm.Cond.code ({ cls := "HopArena", name := "hopNearer", desc := "(LHopArena$Part;I)I" } : Jvm.MethodName) prog_1_method_24_code (7 : Nat) (Option.some Jvm.ClassFile.FieldType.int)) ∈ wsA := mA (List.mem_of_getElem? (i := 206) (by decide +kernel)) rfl
theorem m_207 : (Jvm.Cond.methodLink "HopArena" (89 : Nat) ({ cls := "HopArena$Part", name := "around", desc := "(I)I" } : Jvm.MethodName)) ∈ wsA := mA (List.mem_of_getElem? (i := 207) (by decide +kernel)) rfl
theorem m_208 : (Jvm.Cond.instanceMethod ({ cls := "HopArena$Part", name := "around", desc := "(I)I" } : Jvm.MethodName)) ∈ wsA := mA (List.mem_of_getElem? (i := 208) (by decide +kernel)) rfl
theorem m_209 : (Jvm.Cond.selects "HopArena$Part" ({ cls := "HopArena$Part", name := "around", desc := "(I)I" } : Jvm.MethodName) ({ cls := "HopArena$Part", name := "around", desc := "(I)I" } : Jvm.MethodName)) ∈ wsA := mA (List.mem_of_getElem? (i := 209) (by decide +kernel)) rfl
theorem m_210 : (Jvm.Cond.code ({ cls := "HopArena$Part", name := "around", desc := "(I)I" } : Jvm.MethodName) prog_2_method_2_code (2 : Nat) (Option.some Jvm.ClassFile.FieldType.int)) ∈ wsA := mA (List.mem_of_getElem? (i := 210) (by decide +kernel)) rfl
theorem m_211 : (Jvm.Cond.methodLink "HopArena" (96 : Nat) ({ cls := "HopArena", name := "isBitSet", desc := "(LHopArena$Part;II)Z" } : Jvm.MethodName)) ∈ wsA := mA (List.mem_of_getElem? (i := 211) (by decide +kernel)) rfl
theorem m_213 : (Jvm.Cond.instanceMethod ({ cls := "HopArena", name := "isBitSet", desc := "(LHopArena$Part;II)Z" } : Jvm.MethodName)) ∈ wsA := mA (List.mem_of_getElem? (i := 213) (by decide +kernel)) rfl
theorem m_214 : (Jvm.Cond.code ({ cls := "HopArena", name := "isBitSet", desc := "(LHopArena$Part;II)Z" } : Jvm.MethodName) prog_1_method_21_code (5 : Nat) (Option.some Jvm.ClassFile.FieldType.boolean)) ∈ wsA := mA (List.mem_of_getElem? (i := 214) (by decide +kernel)) rfl
theorem m_215 : (Jvm.Cond.methodLink "HopArena" (132 : Nat) ({ cls := "HopArena", name := "copySlot", desc := "(II)V" } : Jvm.MethodName)) ∈ wsA := mA (List.mem_of_getElem? (i := 215) (by decide +kernel)) rfl
theorem m_217 : (Jvm.Cond.instanceMethod ({ cls := "HopArena", name := "copySlot", desc := "(II)V" } : Jvm.MethodName)) ∈ wsA := mA (List.mem_of_getElem? (i := 217) (by decide +kernel)) rfl
theorem m_218 : (Jvm.Cond.code ({ cls := "HopArena", name := "copySlot", desc := "(II)V" } : Jvm.MethodName) prog_1_method_25_code (3 : Nat) (Option.none : Option Jvm.ClassFile.FieldType)) ∈ wsA := mA (List.mem_of_getElem? (i := 218) (by decide +kernel)) rfl
theorem m_219 : (Jvm.Cond.methodLink "HopArena" (48 : Nat) ({ cls := "HopArena", name := "growWith", desc := "(III)Z" } : Jvm.MethodName)) ∈ wsA := mA (List.mem_of_getElem? (i := 219) (by decide +kernel)) rfl
theorem m_221 : (Jvm.Cond.instanceMethod ({ cls := "HopArena", name := "growWith", desc := "(III)Z" } : Jvm.MethodName)) ∈ wsA := mA (List.mem_of_getElem? (i := 221) (by decide +kernel)) rfl
theorem m_222 : (Jvm.Cond.code ({ cls := "HopArena", name := "growWith", desc := "(III)Z" } : Jvm.MethodName) prog_1_method_26_code (10 : Nat) (Option.some Jvm.ClassFile.FieldType.boolean)) ∈ wsA := mA (List.mem_of_getElem? (i := 222) (by decide +kernel)) rfl
theorem m_223 : (Jvm.Cond.methodLink "HopArena" (136 : Nat) ({ cls := "HopArena", name := "sumOfCapacities", desc := "()I" } : Jvm.MethodName)) ∈ wsA := mA (List.mem_of_getElem? (i := 223) (by decide +kernel)) rfl
theorem m_225 : (Jvm.Cond.instanceMethod ({ cls := "HopArena", name := "sumOfCapacities", desc := "()I" } : Jvm.MethodName)) ∈ wsA := mA (List.mem_of_getElem? (i := 225) (by decide +kernel)) rfl
theorem m_226 : (Jvm.Cond.code ({ cls := "HopArena", name := "sumOfCapacities", desc := "()I" } : Jvm.MethodName) prog_1_method_27_code (3 : Nat) (Option.some Jvm.ClassFile.FieldType.int)) ∈ wsA := mA (List.mem_of_getElem? (i := 226) (by decide +kernel)) rfl
theorem m_227 : (Jvm.Cond.constant "HopArena" (139 : Nat) (1664525 : Int32)) ∈ wsA := mA (List.mem_of_getElem? (i := 227) (by decide +kernel)) rfl
theorem m_228 : (Jvm.Cond.constant "HopArena" (140 : Nat) (1013904223 : Int32)) ∈ wsA := mA (List.mem_of_getElem? (i := 228) (by decide +kernel)) rfl
theorem m_229 : (Jvm.Cond.methodLink "HopArena" (141 : Nat) ({ cls := "HopArena", name := "layOut", desc := "(LHopArena$Part;II)V" } : Jvm.MethodName)) ∈ wsA := mA (List.mem_of_getElem? (i := 229) (by decide +kernel)) rfl
theorem m_231 : (Jvm.Cond.instanceMethod ({ cls := "HopArena", name := "layOut", desc := "(LHopArena$Part;II)V" } : Jvm.MethodName)) ∈ wsA := mA (List.mem_of_getElem? (i := 231) (by decide +kernel)) rfl
theorem m_232 : (Jvm.Cond.code ({ cls := "HopArena", name := "layOut", desc := "(LHopArena$Part;II)V" } : Jvm.MethodName) prog_1_method_28_code (4 : Nat) (Option.none : Option Jvm.ClassFile.FieldType)) ∈ wsA := mA (List.mem_of_getElem? (i := 232) (by decide +kernel)) rfl
theorem m_233 : (Jvm.Cond.methodLink "HopArena" (149 : Nat) ({ cls := "HopArena", name := "lastEnd", desc := "()I" } : Jvm.MethodName)) ∈ wsA := mA (List.mem_of_getElem? (i := 233) (by decide +kernel)) rfl
theorem m_235 : (Jvm.Cond.instanceMethod ({ cls := "HopArena", name := "lastEnd", desc := "()I" } : Jvm.MethodName)) ∈ wsA := mA (List.mem_of_getElem? (i := 235) (by decide +kernel)) rfl
theorem m_236 : (Jvm.Cond.code ({ cls := "HopArena", name := "lastEnd", desc := "()I" } : Jvm.MethodName) prog_1_method_29_code (3 : Nat) (Option.some Jvm.ClassFile.FieldType.int)) ∈ wsA := mA (List.mem_of_getElem? (i := 236) (by decide +kernel)) rfl
theorem m_237 : (Jvm.Cond.methodLink "HopArena" (122 : Nat) ({ cls := "HopArena$Part", name := "end", desc := "()I" } : Jvm.MethodName)) ∈ wsA := mA (List.mem_of_getElem? (i := 237) (by decide +kernel)) rfl
theorem m_238 : (Jvm.Cond.instanceMethod ({ cls := "HopArena$Part", name := "end", desc := "()I" } : Jvm.MethodName)) ∈ wsA := mA (List.mem_of_getElem? (i := 238) (by decide +kernel)) rfl
theorem m_239 : (Jvm.Cond.selects "HopArena$Part" ({ cls := "HopArena$Part", name := "end", desc := "()I" } : Jvm.MethodName) ({ cls := "HopArena$Part", name := "end", desc := "()I" } : Jvm.MethodName)) ∈ wsA := mA (List.mem_of_getElem? (i := 239) (by decide +kernel)) rfl
theorem m_240 : (Jvm.Cond.code ({ cls := "HopArena$Part", name := "end", desc := "()I" } : Jvm.MethodName) prog_2_method_5_code (1 : Nat) (Option.some Jvm.ClassFile.FieldType.int)) ∈ wsA := mA (List.mem_of_getElem? (i := 240) (by decide +kernel)) rfl
theorem m_241 : (Jvm.Cond.methodLink "HopArena" (155 : Nat) ({ cls := "java/lang/Math", name := "max", desc := "(II)I" } : Jvm.MethodName)) ∈ wsA := mA (List.mem_of_getElem? (i := 241) (by decide +kernel)) rfl
theorem m_242 : (Jvm.Cond.static ({ cls := "java/lang/Math", name := "max", desc := "(II)I" } : Jvm.MethodName)) ∈ wsA := mA (List.mem_of_getElem? (i := 242) (by decide +kernel)) rfl
theorem m_243 : (Jvm.Cond.code ({ cls := "java/lang/Math", name := "max", desc := "(II)I" } : Jvm.MethodName) prog_9_method_65_code (2 : Nat) (Option.some Jvm.ClassFile.FieldType.int)) ∈ wsA := mA (List.mem_of_getElem? (i := 243) (by decide +kernel)) rfl
theorem m_244 : (Jvm.Cond.methodLink "HopArena" (152 : Nat) ({ cls := "HopArena", name := "pushTogether", desc := "()V" } : Jvm.MethodName)) ∈ wsA := mA (List.mem_of_getElem? (i := 244) (by decide +kernel)) rfl
theorem m_246 : (Jvm.Cond.instanceMethod ({ cls := "HopArena", name := "pushTogether", desc := "()V" } : Jvm.MethodName)) ∈ wsA := mA (List.mem_of_getElem? (i := 246) (by decide +kernel)) rfl
theorem m_247 : (Jvm.Cond.code ({ cls := "HopArena", name := "pushTogether", desc := "()V" } : Jvm.MethodName) prog_1_method_30_code (4 : Nat) (Option.none : Option Jvm.ClassFile.FieldType)) ∈ wsA := mA (List.mem_of_getElem? (i := 247) (by decide +kernel)) rfl
theorem m_248 : (Jvm.Cond.methodLink "HopArena" (161 : Nat) ({ cls := "HopArena", name := "lowestFrom", desc := "(I)LHopArena$Part;" } : Jvm.MethodName)) ∈ wsA := mA (List.mem_of_getElem? (i := 248) (by decide +kernel)) rfl
theorem m_250 : (Jvm.Cond.instanceMethod ({ cls := "HopArena", name := "lowestFrom", desc := "(I)LHopArena$Part;" } : Jvm.MethodName)) ∈ wsA := mA (List.mem_of_getElem? (i := 250) (by decide +kernel)) rfl
theorem m_251 : (Jvm.Cond.code ({ cls := "HopArena", name := "lowestFrom", desc := "(I)LHopArena$Part;" } : Jvm.MethodName) prog_1_method_31_code (5 : Nat) (Option.some (Jvm.ClassFile.FieldType.object "HopArena$Part"))) ∈ wsA := mA (List.mem_of_getElem? (i := 251) (by decide +kernel)) rfl
theorem m_252 : (Jvm.Cond.methodLink "HopArena" (164 : Nat) ({ cls := "HopArena", name := "moveDown", desc := "(LHopArena$Part;I)V" } : Jvm.MethodName)) ∈ wsA := mA (List.mem_of_getElem? (i := 252) (by decide +kernel)) rfl
theorem m_254 : (Jvm.Cond.instanceMethod ({ cls := "HopArena", name := "moveDown", desc := "(LHopArena$Part;I)V" } : Jvm.MethodName)) ∈ wsA := mA (List.mem_of_getElem? (i := 254) (by decide +kernel)) rfl
theorem m_255 : (Jvm.Cond.code ({ cls := "HopArena", name := "moveDown", desc := "(LHopArena$Part;I)V" } : Jvm.MethodName) prog_1_method_32_code (4 : Nat) (Option.none : Option Jvm.ClassFile.FieldType)) ∈ wsA := mA (List.mem_of_getElem? (i := 255) (by decide +kernel)) rfl
theorem m_256 : (Jvm.Cond.methodLink "HopArena" (70 : Nat) ({ cls := "HopArena", name := "freeAll", desc := "(LHopArena$Part;)V" } : Jvm.MethodName)) ∈ wsA := mA (List.mem_of_getElem? (i := 256) (by decide +kernel)) rfl
theorem m_258 : (Jvm.Cond.instanceMethod ({ cls := "HopArena", name := "freeAll", desc := "(LHopArena$Part;)V" } : Jvm.MethodName)) ∈ wsA := mA (List.mem_of_getElem? (i := 258) (by decide +kernel)) rfl
theorem m_259 : (Jvm.Cond.code ({ cls := "HopArena", name := "freeAll", desc := "(LHopArena$Part;)V" } : Jvm.MethodName) prog_1_method_20_code (3 : Nat) (Option.none : Option Jvm.ClassFile.FieldType)) ∈ wsA := mA (List.mem_of_getElem? (i := 259) (by decide +kernel)) rfl
theorem m_260 : (Jvm.Cond.methodLink "HopArena" (145 : Nat) ({ cls := "HopArena", name := "insertAnew", desc := "(LHopArena$Part;LHopArena$Part;)Z" } : Jvm.MethodName)) ∈ wsA := mA (List.mem_of_getElem? (i := 260) (by decide +kernel)) rfl
theorem m_262 : (Jvm.Cond.instanceMethod ({ cls := "HopArena", name := "insertAnew", desc := "(LHopArena$Part;LHopArena$Part;)Z" } : Jvm.MethodName)) ∈ wsA := mA (List.mem_of_getElem? (i := 262) (by decide +kernel)) rfl
theorem m_263 : (Jvm.Cond.code ({ cls := "HopArena", name := "insertAnew", desc := "(LHopArena$Part;LHopArena$Part;)Z" } : Jvm.MethodName) prog_1_method_33_code (4 : Nat) (Option.some Jvm.ClassFile.FieldType.boolean)) ∈ wsA := mA (List.mem_of_getElem? (i := 263) (by decide +kernel)) rfl
theorem m_264 : (Jvm.Cond.classLink "HopArena" (52 : Nat) "java/lang/ArithmeticException") ∈ wsA := mA (List.mem_of_getElem? (i := 264) (by decide +kernel)) rfl
theorem m_265 : (Jvm.Cond.instantiable "java/lang/ArithmeticException" (6 : Nat)) ∈ wsA := mA (List.mem_of_getElem? (i := 265) (by decide +kernel)) rfl
theorem m_267 : (Jvm.Cond.selects "java/lang/ArithmeticException" ({ cls := "java/lang/Throwable", name := "fillInStackTrace", desc := "(I)Ljava/lang/Throwable;" } : Jvm.MethodName) ({ cls := "java/lang/Throwable", name := "fillInStackTrace", desc := "(I)Ljava/lang/Throwable;" } : Jvm.MethodName)) ∈ wsA := mA (List.mem_of_getElem? (i := 267) (by decide +kernel)) rfl
theorem m_268 : (Jvm.Cond.lays "java/lang/ArithmeticException" "java/lang/Throwable" "cause" "Ljava/lang/Throwable;") ∈ wsA := mA (List.mem_of_getElem? (i := 268) (by decide +kernel)) rfl
theorem m_269 : (Jvm.Cond.lays "java/lang/ArithmeticException" "java/lang/Throwable" "stackTrace" "[Ljava/lang/StackTraceElement;") ∈ wsA := mA (List.mem_of_getElem? (i := 269) (by decide +kernel)) rfl
theorem m_270 : (Jvm.Cond.lays "java/lang/ArithmeticException" "java/lang/Throwable" "suppressedExceptions" "Ljava/util/List;") ∈ wsA := mA (List.mem_of_getElem? (i := 270) (by decide +kernel)) rfl
theorem m_271 : (Jvm.Cond.lays "java/lang/ArithmeticException" "java/lang/Throwable" "detailMessage" "Ljava/lang/String;") ∈ wsA := mA (List.mem_of_getElem? (i := 271) (by decide +kernel)) rfl
theorem m_272 : (Jvm.Cond.lays "java/lang/ArithmeticException" "java/lang/Throwable" "backtrace" "Ljava/lang/Object;") ∈ wsA := mA (List.mem_of_getElem? (i := 272) (by decide +kernel)) rfl
theorem m_274 : (Jvm.Cond.methodLink "HopArena" (56 : Nat) ({ cls := "java/lang/ArithmeticException", name := "<init>", desc := "(Ljava/lang/String;)V" } : Jvm.MethodName)) ∈ wsA := mA (List.mem_of_getElem? (i := 274) (by decide +kernel)) rfl
theorem m_275 : (Jvm.Cond.instanceMethod ({ cls := "java/lang/ArithmeticException", name := "<init>", desc := "(Ljava/lang/String;)V" } : Jvm.MethodName)) ∈ wsA := mA (List.mem_of_getElem? (i := 275) (by decide +kernel)) rfl
theorem m_276 : (Jvm.Cond.code ({ cls := "java/lang/ArithmeticException", name := "<init>", desc := "(Ljava/lang/String;)V" } : Jvm.MethodName) prog_5_method_2_code (2 : Nat) (Option.none : Option Jvm.ClassFile.FieldType)) ∈ wsA := mA (List.mem_of_getElem? (i := 276) (by decide +kernel)) rfl
theorem m_277 : (Jvm.Cond.methodLink "java/lang/ArithmeticException" (7 : Nat) ({ cls := "java/lang/RuntimeException", name := "<init>", desc := "(Ljava/lang/String;)V" } : Jvm.MethodName)) ∈ wsA := mA (List.mem_of_getElem? (i := 277) (by decide +kernel)) rfl
theorem m_278 : (Jvm.Cond.lays "java/lang/ArithmeticException" "java/lang/Throwable" "depth" "I") ∈ wsA := mA (List.mem_of_getElem? (i := 278) (by decide +kernel)) rfl
theorem m_280 : (Jvm.Cond.methodLink "HopArenaLaw" (74 : Nat) ({ cls := "HopArenaLaw", name := "get", desc := "(LHopArena;II[J)I" } : Jvm.MethodName)) ∈ wsA := mA (List.mem_of_getElem? (i := 280) (by decide +kernel)) rfl
theorem m_281 : (Jvm.Cond.static ({ cls := "HopArenaLaw", name := "get", desc := "(LHopArena;II[J)I" } : Jvm.MethodName)) ∈ wsA := mA (List.mem_of_getElem? (i := 281) (by decide +kernel)) rfl
theorem m_282 : (Jvm.Cond.codeWith ({ cls := "HopArenaLaw", name := "get", desc := "(LHopArena;II[J)I" } : Jvm.MethodName) method_4_code (5 : Nat) (Option.some Jvm.ClassFile.FieldType.int) [((0 : Nat), (10 : Nat), (13 : Nat), (13 : Nat)), ((0 : Nat), (10 : Nat), (17 : Nat), (21 : Nat))]) ∈ wsA := mA (List.mem_of_getElem? (i := 282) (by decide +kernel)) rfl
theorem m_283 : (Jvm.Cond.classLink "HopArenaLaw" (21 : Nat) "java/util/NoSuchElementException") ∈ wsA := mA (List.mem_of_getElem? (i := 283) (by decide +kernel)) rfl
theorem m_284 : (Jvm.Cond.methodLink "HopArenaLaw" (17 : Nat) ({ cls := "HopArena", name := "get", desc := "(II)I" } : Jvm.MethodName)) ∈ wsA := mA (List.mem_of_getElem? (i := 284) (by decide +kernel)) rfl
theorem m_285 : (Jvm.Cond.instanceMethod ({ cls := "HopArena", name := "get", desc := "(II)I" } : Jvm.MethodName)) ∈ wsA := mA (List.mem_of_getElem? (i := 285) (by decide +kernel)) rfl
theorem m_286 : (Jvm.Cond.selects "HopArena" ({ cls := "HopArena", name := "get", desc := "(II)I" } : Jvm.MethodName) ({ cls := "HopArena", name := "get", desc := "(II)I" } : Jvm.MethodName)) ∈ wsA := mA (List.mem_of_getElem? (i := 286) (by decide +kernel)) rfl
theorem m_287 : (Jvm.Cond.code ({ cls := "HopArena", name := "get", desc := "(II)I" } : Jvm.MethodName) prog_1_method_3_code (3 : Nat) (Option.some Jvm.ClassFile.FieldType.int)) ∈ wsA := mA (List.mem_of_getElem? (i := 287) (by decide +kernel)) rfl
theorem m_288 : (Jvm.Cond.methodLink "HopArena" (59 : Nat) ({ cls := "HopArena", name := "slotHolding", desc := "(LHopArena$Part;I)I" } : Jvm.MethodName)) ∈ wsA := mA (List.mem_of_getElem? (i := 288) (by decide +kernel)) rfl
theorem m_290 : (Jvm.Cond.instanceMethod ({ cls := "HopArena", name := "slotHolding", desc := "(LHopArena$Part;I)I" } : Jvm.MethodName)) ∈ wsA := mA (List.mem_of_getElem? (i := 290) (by decide +kernel)) rfl
theorem m_291 : (Jvm.Cond.code ({ cls := "HopArena", name := "slotHolding", desc := "(LHopArena$Part;I)I" } : Jvm.MethodName) prog_1_method_17_code (4 : Nat) (Option.some Jvm.ClassFile.FieldType.int)) ∈ wsA := mA (List.mem_of_getElem? (i := 291) (by decide +kernel)) rfl
theorem m_292 : (Jvm.Cond.classLink "HopArena" (102 : Nat) "java/util/NoSuchElementException") ∈ wsA := mA (List.mem_of_getElem? (i := 292) (by decide +kernel)) rfl
theorem m_293 : (Jvm.Cond.instantiable "java/util/NoSuchElementException" (6 : Nat)) ∈ wsA := mA (List.mem_of_getElem? (i := 293) (by decide +kernel)) rfl
theorem m_295 : (Jvm.Cond.selects "java/util/NoSuchElementException" ({ cls := "java/lang/Throwable", name := "fillInStackTrace", desc := "(I)Ljava/lang/Throwable;" } : Jvm.MethodName) ({ cls := "java/lang/Throwable", name := "fillInStackTrace", desc := "(I)Ljava/lang/Throwable;" } : Jvm.MethodName)) ∈ wsA := mA (List.mem_of_getElem? (i := 295) (by decide +kernel)) rfl
theorem m_296 : (Jvm.Cond.lays "java/util/NoSuchElementException" "java/lang/Throwable" "cause" "Ljava/lang/Throwable;") ∈ wsA := mA (List.mem_of_getElem? (i := 296) (by decide +kernel)) rfl
theorem m_297 : (Jvm.Cond.lays "java/util/NoSuchElementException" "java/lang/Throwable" "stackTrace" "[Ljava/lang/StackTraceElement;") ∈ wsA := mA (List.mem_of_getElem? (i := 297) (by decide +kernel)) rfl
theorem m_298 : (Jvm.Cond.lays "java/util/NoSuchElementException" "java/lang/Throwable" "suppressedExceptions" "Ljava/util/List;") ∈ wsA := mA (List.mem_of_getElem? (i := 298) (by decide +kernel)) rfl
theorem m_299 : (Jvm.Cond.lays "java/util/NoSuchElementException" "java/lang/Throwable" "detailMessage" "Ljava/lang/String;") ∈ wsA := mA (List.mem_of_getElem? (i := 299) (by decide +kernel)) rfl
theorem m_300 : (Jvm.Cond.lays "java/util/NoSuchElementException" "java/lang/Throwable" "backtrace" "Ljava/lang/Object;") ∈ wsA := mA (List.mem_of_getElem? (i := 300) (by decide +kernel)) rfl
theorem m_302 : (Jvm.Cond.methodLink "HopArena" (106 : Nat) ({ cls := "java/util/NoSuchElementException", name := "<init>", desc := "(Ljava/lang/String;)V" } : Jvm.MethodName)) ∈ wsA := mA (List.mem_of_getElem? (i := 302) (by decide +kernel)) rfl
theorem m_303 : (Jvm.Cond.instanceMethod ({ cls := "java/util/NoSuchElementException", name := "<init>", desc := "(Ljava/lang/String;)V" } : Jvm.MethodName)) ∈ wsA := mA (List.mem_of_getElem? (i := 303) (by decide +kernel)) rfl
theorem m_304 : (Jvm.Cond.code ({ cls := "java/util/NoSuchElementException", name := "<init>", desc := "(Ljava/lang/String;)V" } : Jvm.MethodName) prog_13_method_4_code (2 : Nat) (Option.none : Option Jvm.ClassFile.FieldType)) ∈ wsA := mA (List.mem_of_getElem? (i := 304) (by decide +kernel)) rfl
theorem m_305 : (Jvm.Cond.methodLink "java/util/NoSuchElementException" (13 : Nat) ({ cls := "java/lang/RuntimeException", name := "<init>", desc := "(Ljava/lang/String;)V" } : Jvm.MethodName)) ∈ wsA := mA (List.mem_of_getElem? (i := 305) (by decide +kernel)) rfl
theorem m_306 : (Jvm.Cond.lays "java/util/NoSuchElementException" "java/lang/Throwable" "depth" "I") ∈ wsA := mA (List.mem_of_getElem? (i := 306) (by decide +kernel)) rfl
theorem m_308 : (Jvm.Cond.methodLink "HopArenaLaw" (78 : Nat) ({ cls := "HopArenaLaw", name := "remove", desc := "(LHopArena;II[J)I" } : Jvm.MethodName)) ∈ wsA := mA (List.mem_of_getElem? (i := 308) (by decide +kernel)) rfl
theorem m_309 : (Jvm.Cond.static ({ cls := "HopArenaLaw", name := "remove", desc := "(LHopArena;II[J)I" } : Jvm.MethodName)) ∈ wsA := mA (List.mem_of_getElem? (i := 309) (by decide +kernel)) rfl
theorem m_310 : (Jvm.Cond.codeWith ({ cls := "HopArenaLaw", name := "remove", desc := "(LHopArena;II[J)I" } : Jvm.MethodName) method_5_code (5 : Nat) (Option.some Jvm.ClassFile.FieldType.int) [((0 : Nat), (10 : Nat), (13 : Nat), (13 : Nat)), ((0 : Nat), (10 : Nat), (17 : Nat), (21 : Nat))]) ∈ wsA := mA (List.mem_of_getElem? (i := 310) (by decide +kernel)) rfl
theorem m_311 : (Jvm.Cond.methodLink "HopArenaLaw" (23 : Nat) ({ cls := "HopArena", name := "remove", desc := "(II)I" } : Jvm.MethodName)) ∈ wsA := mA (List.mem_of_getElem? (i := 311) (by decide +kernel)) rfl
theorem m_312 : (Jvm.Cond.instanceMethod ({ cls := "HopArena", name := "remove", desc := "(II)I" } : Jvm.MethodName)) ∈ wsA := mA (List.mem_of_getElem? (i := 312) (by decide +kernel)) rfl
theorem m_313 : (Jvm.Cond.selects "HopArena" ({ cls := "HopArena", name := "remove", desc := "(II)I" } : Jvm.MethodName) ({ cls := "HopArena", name := "remove", desc := "(II)I" } : Jvm.MethodName)) ∈ wsA := mA (List.mem_of_getElem? (i := 313) (by decide +kernel)) rfl
theorem m_314 : (Jvm.Cond.code ({ cls := "HopArena", name := "remove", desc := "(II)I" } : Jvm.MethodName) prog_1_method_4_code (4 : Nat) (Option.some Jvm.ClassFile.FieldType.int)) ∈ wsA := mA (List.mem_of_getElem? (i := 314) (by decide +kernel)) rfl
theorem m_315 : (Jvm.Cond.methodLink "HopArenaLaw" (81 : Nat) ({ cls := "HopArenaLaw", name := "has", desc := "(LHopArena;II[J)I" } : Jvm.MethodName)) ∈ wsA := mA (List.mem_of_getElem? (i := 315) (by decide +kernel)) rfl
theorem m_316 : (Jvm.Cond.static ({ cls := "HopArenaLaw", name := "has", desc := "(LHopArena;II[J)I" } : Jvm.MethodName)) ∈ wsA := mA (List.mem_of_getElem? (i := 316) (by decide +kernel)) rfl
theorem m_317 : (Jvm.Cond.codeWith ({ cls := "HopArenaLaw", name := "has", desc := "(LHopArena;II[J)I" } : Jvm.MethodName) method_6_code (5 : Nat) (Option.some Jvm.ClassFile.FieldType.int) [((0 : Nat), (17 : Nat), (20 : Nat), (13 : Nat))]) ∈ wsA := mA (List.mem_of_getElem? (i := 317) (by decide +kernel)) rfl
theorem m_318 : (Jvm.Cond.methodLink "HopArenaLaw" (26 : Nat) ({ cls := "HopArena", name := "has", desc := "(II)Z" } : Jvm.MethodName)) ∈ wsA := mA (List.mem_of_getElem? (i := 318) (by decide +kernel)) rfl
theorem m_319 : (Jvm.Cond.instanceMethod ({ cls := "HopArena", name := "has", desc := "(II)Z" } : Jvm.MethodName)) ∈ wsA := mA (List.mem_of_getElem? (i := 319) (by decide +kernel)) rfl
theorem m_320 : (Jvm.Cond.selects "HopArena" ({ cls := "HopArena", name := "has", desc := "(II)Z" } : Jvm.MethodName) ({ cls := "HopArena", name := "has", desc := "(II)Z" } : Jvm.MethodName)) ∈ wsA := mA (List.mem_of_getElem? (i := 320) (by decide +kernel)) rfl
theorem m_321 : (Jvm.Cond.code ({ cls := "HopArena", name := "has", desc := "(II)Z" } : Jvm.MethodName) prog_1_method_5_code (3 : Nat) (Option.some Jvm.ClassFile.FieldType.boolean)) ∈ wsA := mA (List.mem_of_getElem? (i := 321) (by decide +kernel)) rfl
theorem m_322 : (Jvm.Cond.methodLink "HopArenaLaw" (84 : Nat) ({ cls := "HopArenaLaw", name := "size", desc := "(LHopArena;I[J)I" } : Jvm.MethodName)) ∈ wsA := mA (List.mem_of_getElem? (i := 322) (by decide +kernel)) rfl
theorem m_323 : (Jvm.Cond.static ({ cls := "HopArenaLaw", name := "size", desc := "(LHopArena;I[J)I" } : Jvm.MethodName)) ∈ wsA := mA (List.mem_of_getElem? (i := 323) (by decide +kernel)) rfl
theorem m_324 : (Jvm.Cond.codeWith ({ cls := "HopArenaLaw", name := "size", desc := "(LHopArena;I[J)I" } : Jvm.MethodName) method_7_code (4 : Nat) (Option.some Jvm.ClassFile.FieldType.int) [((0 : Nat), (9 : Nat), (12 : Nat), (13 : Nat))]) ∈ wsA := mA (List.mem_of_getElem? (i := 324) (by decide +kernel)) rfl
theorem m_325 : (Jvm.Cond.methodLink "HopArenaLaw" (30 : Nat) ({ cls := "HopArena", name := "size", desc := "(I)I" } : Jvm.MethodName)) ∈ wsA := mA (List.mem_of_getElem? (i := 325) (by decide +kernel)) rfl
theorem m_326 : (Jvm.Cond.instanceMethod ({ cls := "HopArena", name := "size", desc := "(I)I" } : Jvm.MethodName)) ∈ wsA := mA (List.mem_of_getElem? (i := 326) (by decide +kernel)) rfl
theorem m_327 : (Jvm.Cond.selects "HopArena" ({ cls := "HopArena", name := "size", desc := "(I)I" } : Jvm.MethodName) ({ cls := "HopArena", name := "size", desc := "(I)I" } : Jvm.MethodName)) ∈ wsA := mA (List.mem_of_getElem? (i := 327) (by decide +kernel)) rfl
theorem m_328 : (Jvm.Cond.code ({ cls := "HopArena", name := "size", desc := "(I)I" } : Jvm.MethodName) prog_1_method_6_code (2 : Nat) (Option.some Jvm.ClassFile.FieldType.int)) ∈ wsA := mA (List.mem_of_getElem? (i := 328) (by decide +kernel)) rfl
theorem m_329 : (Jvm.Cond.methodLink "HopArena" (62 : Nat) ({ cls := "HopArena", name := "keysIn", desc := "(LHopArena$Part;)I" } : Jvm.MethodName)) ∈ wsA := mA (List.mem_of_getElem? (i := 329) (by decide +kernel)) rfl
theorem m_331 : (Jvm.Cond.instanceMethod ({ cls := "HopArena", name := "keysIn", desc := "(LHopArena$Part;)I" } : Jvm.MethodName)) ∈ wsA := mA (List.mem_of_getElem? (i := 331) (by decide +kernel)) rfl
theorem m_332 : (Jvm.Cond.code ({ cls := "HopArena", name := "keysIn", desc := "(LHopArena$Part;)I" } : Jvm.MethodName) prog_1_method_19_code (4 : Nat) (Option.some Jvm.ClassFile.FieldType.int)) ∈ wsA := mA (List.mem_of_getElem? (i := 332) (by decide +kernel)) rfl
theorem m_333 : (Jvm.Cond.methodLink "HopArenaLaw" (88 : Nat) ({ cls := "HopArenaLaw", name := "clear", desc := "(LHopArena;I[J)I" } : Jvm.MethodName)) ∈ wsA := mA (List.mem_of_getElem? (i := 333) (by decide +kernel)) rfl
theorem m_334 : (Jvm.Cond.static ({ cls := "HopArenaLaw", name := "clear", desc := "(LHopArena;I[J)I" } : Jvm.MethodName)) ∈ wsA := mA (List.mem_of_getElem? (i := 334) (by decide +kernel)) rfl
theorem m_335 : (Jvm.Cond.codeWith ({ cls := "HopArenaLaw", name := "clear", desc := "(LHopArena;I[J)I" } : Jvm.MethodName) method_8_code (4 : Nat) (Option.some Jvm.ClassFile.FieldType.int) [((0 : Nat), (9 : Nat), (12 : Nat), (13 : Nat))]) ∈ wsA := mA (List.mem_of_getElem? (i := 335) (by decide +kernel)) rfl
theorem m_336 : (Jvm.Cond.methodLink "HopArenaLaw" (34 : Nat) ({ cls := "HopArena", name := "clear", desc := "(I)I" } : Jvm.MethodName)) ∈ wsA := mA (List.mem_of_getElem? (i := 336) (by decide +kernel)) rfl
theorem m_337 : (Jvm.Cond.instanceMethod ({ cls := "HopArena", name := "clear", desc := "(I)I" } : Jvm.MethodName)) ∈ wsA := mA (List.mem_of_getElem? (i := 337) (by decide +kernel)) rfl
theorem m_338 : (Jvm.Cond.selects "HopArena" ({ cls := "HopArena", name := "clear", desc := "(I)I" } : Jvm.MethodName) ({ cls := "HopArena", name := "clear", desc := "(I)I" } : Jvm.MethodName)) ∈ wsA := mA (List.mem_of_getElem? (i := 338) (by decide +kernel)) rfl
theorem m_339 : (Jvm.Cond.code ({ cls := "HopArena", name := "clear", desc := "(I)I" } : Jvm.MethodName) prog_1_method_7_code (4 : Nat) (Option.some Jvm.ClassFile.FieldType.int)) ∈ wsA := mA (List.mem_of_getElem? (i := 339) (by decide +kernel)) rfl
theorem m_340 : (Jvm.Cond.methodLink "HopArenaLaw" (91 : Nat) ({ cls := "HopArenaLaw", name := "about", desc := "(LHopArena;II[J)I" } : Jvm.MethodName)) ∈ wsA := mA (List.mem_of_getElem? (i := 340) (by decide +kernel)) rfl
theorem m_341 : (Jvm.Cond.static ({ cls := "HopArenaLaw", name := "about", desc := "(LHopArena;II[J)I" } : Jvm.MethodName)) ∈ wsA := mA (List.mem_of_getElem? (i := 341) (by decide +kernel)) rfl
theorem m_342 : (Jvm.Cond.codeWith ({ cls := "HopArenaLaw", name := "about", desc := "(LHopArena;II[J)I" } : Jvm.MethodName) method_9_code (5 : Nat) (Option.some Jvm.ClassFile.FieldType.int) [((0 : Nat), (10 : Nat), (13 : Nat), (13 : Nat)), ((0 : Nat), (10 : Nat), (17 : Nat), (40 : Nat))]) ∈ wsA := mA (List.mem_of_getElem? (i := 342) (by decide +kernel)) rfl
theorem m_343 : (Jvm.Cond.classLink "HopArenaLaw" (40 : Nat) "java/lang/IllegalArgumentException") ∈ wsA := mA (List.mem_of_getElem? (i := 343) (by decide +kernel)) rfl
theorem m_344 : (Jvm.Cond.methodLink "HopArenaLaw" (37 : Nat) ({ cls := "HopArena", name := "about", desc := "(II)I" } : Jvm.MethodName)) ∈ wsA := mA (List.mem_of_getElem? (i := 344) (by decide +kernel)) rfl
theorem m_345 : (Jvm.Cond.instanceMethod ({ cls := "HopArena", name := "about", desc := "(II)I" } : Jvm.MethodName)) ∈ wsA := mA (List.mem_of_getElem? (i := 345) (by decide +kernel)) rfl
theorem m_346 : (Jvm.Cond.selects "HopArena" ({ cls := "HopArena", name := "about", desc := "(II)I" } : Jvm.MethodName) ({ cls := "HopArena", name := "about", desc := "(II)I" } : Jvm.MethodName)) ∈ wsA := mA (List.mem_of_getElem? (i := 346) (by decide +kernel)) rfl
theorem m_347 : (Jvm.Cond.code ({ cls := "HopArena", name := "about", desc := "(II)I" } : Jvm.MethodName) prog_1_method_8_code (4 : Nat) (Option.some Jvm.ClassFile.FieldType.int)) ∈ wsA := mA (List.mem_of_getElem? (i := 347) (by decide +kernel)) rfl
theorem m_348 : (Jvm.Cond.classLink "HopArena" (80 : Nat) "java/lang/IllegalArgumentException") ∈ wsA := mA (List.mem_of_getElem? (i := 348) (by decide +kernel)) rfl
theorem m_349 : (Jvm.Cond.instantiable "java/lang/IllegalArgumentException" (6 : Nat)) ∈ wsA := mA (List.mem_of_getElem? (i := 349) (by decide +kernel)) rfl
theorem m_351 : (Jvm.Cond.selects "java/lang/IllegalArgumentException" ({ cls := "java/lang/Throwable", name := "fillInStackTrace", desc := "(I)Ljava/lang/Throwable;" } : Jvm.MethodName) ({ cls := "java/lang/Throwable", name := "fillInStackTrace", desc := "(I)Ljava/lang/Throwable;" } : Jvm.MethodName)) ∈ wsA := mA (List.mem_of_getElem? (i := 351) (by decide +kernel)) rfl
theorem m_352 : (Jvm.Cond.lays "java/lang/IllegalArgumentException" "java/lang/Throwable" "cause" "Ljava/lang/Throwable;") ∈ wsA := mA (List.mem_of_getElem? (i := 352) (by decide +kernel)) rfl
theorem m_353 : (Jvm.Cond.lays "java/lang/IllegalArgumentException" "java/lang/Throwable" "stackTrace" "[Ljava/lang/StackTraceElement;") ∈ wsA := mA (List.mem_of_getElem? (i := 353) (by decide +kernel)) rfl
theorem m_354 : (Jvm.Cond.lays "java/lang/IllegalArgumentException" "java/lang/Throwable" "suppressedExceptions" "Ljava/util/List;") ∈ wsA := mA (List.mem_of_getElem? (i := 354) (by decide +kernel)) rfl
theorem m_355 : (Jvm.Cond.lays "java/lang/IllegalArgumentException" "java/lang/Throwable" "detailMessage" "Ljava/lang/String;") ∈ wsA := mA (List.mem_of_getElem? (i := 355) (by decide +kernel)) rfl
theorem m_356 : (Jvm.Cond.lays "java/lang/IllegalArgumentException" "java/lang/Throwable" "backtrace" "Ljava/lang/Object;") ∈ wsA := mA (List.mem_of_getElem? (i := 356) (by decide +kernel)) rfl
theorem m_358 : (Jvm.Cond.methodLink "HopArena" (84 : Nat) ({ cls := "java/lang/IllegalArgumentException", name := "<init>", desc := "(Ljava/lang/String;)V" } : Jvm.MethodName)) ∈ wsA := mA (List.mem_of_getElem? (i := 358) (by decide +kernel)) rfl
theorem m_359 : (Jvm.Cond.instanceMethod ({ cls := "java/lang/IllegalArgumentException", name := "<init>", desc := "(Ljava/lang/String;)V" } : Jvm.MethodName)) ∈ wsA := mA (List.mem_of_getElem? (i := 359) (by decide +kernel)) rfl
theorem m_360 : (Jvm.Cond.code ({ cls := "java/lang/IllegalArgumentException", name := "<init>", desc := "(Ljava/lang/String;)V" } : Jvm.MethodName) prog_7_method_2_code (2 : Nat) (Option.none : Option Jvm.ClassFile.FieldType)) ∈ wsA := mA (List.mem_of_getElem? (i := 360) (by decide +kernel)) rfl
theorem m_361 : (Jvm.Cond.methodLink "java/lang/IllegalArgumentException" (7 : Nat) ({ cls := "java/lang/RuntimeException", name := "<init>", desc := "(Ljava/lang/String;)V" } : Jvm.MethodName)) ∈ wsA := mA (List.mem_of_getElem? (i := 361) (by decide +kernel)) rfl
theorem m_362 : (Jvm.Cond.lays "java/lang/IllegalArgumentException" "java/lang/Throwable" "depth" "I") ∈ wsA := mA (List.mem_of_getElem? (i := 362) (by decide +kernel)) rfl
theorem m_364 : (Jvm.Cond.methodLink "HopArenaLaw" (94 : Nat) ({ cls := "HopArenaLaw", name := "home", desc := "(LHopArena;II[J)I" } : Jvm.MethodName)) ∈ wsA := mA (List.mem_of_getElem? (i := 364) (by decide +kernel)) rfl
theorem m_365 : (Jvm.Cond.static ({ cls := "HopArenaLaw", name := "home", desc := "(LHopArena;II[J)I" } : Jvm.MethodName)) ∈ wsA := mA (List.mem_of_getElem? (i := 365) (by decide +kernel)) rfl
theorem m_366 : (Jvm.Cond.codeWith ({ cls := "HopArenaLaw", name := "home", desc := "(LHopArena;II[J)I" } : Jvm.MethodName) method_10_code (5 : Nat) (Option.some Jvm.ClassFile.FieldType.int) [((0 : Nat), (10 : Nat), (13 : Nat), (13 : Nat))]) ∈ wsA := mA (List.mem_of_getElem? (i := 366) (by decide +kernel)) rfl
theorem m_367 : (Jvm.Cond.methodLink "HopArenaLaw" (42 : Nat) ({ cls := "HopArena", name := "home", desc := "(II)I" } : Jvm.MethodName)) ∈ wsA := mA (List.mem_of_getElem? (i := 367) (by decide +kernel)) rfl
theorem m_368 : (Jvm.Cond.instanceMethod ({ cls := "HopArena", name := "home", desc := "(II)I" } : Jvm.MethodName)) ∈ wsA := mA (List.mem_of_getElem? (i := 368) (by decide +kernel)) rfl
theorem m_369 : (Jvm.Cond.selects "HopArena" ({ cls := "HopArena", name := "home", desc := "(II)I" } : Jvm.MethodName) ({ cls := "HopArena", name := "home", desc := "(II)I" } : Jvm.MethodName)) ∈ wsA := mA (List.mem_of_getElem? (i := 369) (by decide +kernel)) rfl
theorem m_370 : (Jvm.Cond.code ({ cls := "HopArena", name := "home", desc := "(II)I" } : Jvm.MethodName) prog_1_method_9_code (3 : Nat) (Option.some Jvm.ClassFile.FieldType.int)) ∈ wsA := mA (List.mem_of_getElem? (i := 370) (by decide +kernel)) rfl
theorem m_371 : (Jvm.Cond.methodLink "HopArenaLaw" (97 : Nat) ({ cls := "HopArenaLaw", name := "distance", desc := "(LHopArena;II[J)I" } : Jvm.MethodName)) ∈ wsA := mA (List.mem_of_getElem? (i := 371) (by decide +kernel)) rfl
theorem m_372 : (Jvm.Cond.static ({ cls := "HopArenaLaw", name := "distance", desc := "(LHopArena;II[J)I" } : Jvm.MethodName)) ∈ wsA := mA (List.mem_of_getElem? (i := 372) (by decide +kernel)) rfl
theorem m_373 : (Jvm.Cond.codeWith ({ cls := "HopArenaLaw", name := "distance", desc := "(LHopArena;II[J)I" } : Jvm.MethodName) method_11_code (5 : Nat) (Option.some Jvm.ClassFile.FieldType.int) [((0 : Nat), (10 : Nat), (13 : Nat), (13 : Nat)), ((0 : Nat), (10 : Nat), (17 : Nat), (21 : Nat))]) ∈ wsA := mA (List.mem_of_getElem? (i := 373) (by decide +kernel)) rfl
theorem m_374 : (Jvm.Cond.methodLink "HopArenaLaw" (45 : Nat) ({ cls := "HopArena", name := "distance", desc := "(II)I" } : Jvm.MethodName)) ∈ wsA := mA (List.mem_of_getElem? (i := 374) (by decide +kernel)) rfl
theorem m_375 : (Jvm.Cond.instanceMethod ({ cls := "HopArena", name := "distance", desc := "(II)I" } : Jvm.MethodName)) ∈ wsA := mA (List.mem_of_getElem? (i := 375) (by decide +kernel)) rfl
theorem m_376 : (Jvm.Cond.selects "HopArena" ({ cls := "HopArena", name := "distance", desc := "(II)I" } : Jvm.MethodName) ({ cls := "HopArena", name := "distance", desc := "(II)I" } : Jvm.MethodName)) ∈ wsA := mA (List.mem_of_getElem? (i := 376) (by decide +kernel)) rfl
theorem m_377 : (Jvm.Cond.code ({ cls := "HopArena", name := "distance", desc := "(II)I" } : Jvm.MethodName) prog_1_method_10_code (5 : Nat) (Option.some Jvm.ClassFile.FieldType.int)) ∈ wsA := mA (List.mem_of_getElem? (i := 377) (by decide +kernel)) rfl
theorem m_378 : (Jvm.Cond.methodLink "HopArenaLaw" (100 : Nat) ({ cls := "HopArenaLaw", name := "bits", desc := "(LHopArena;II[J)I" } : Jvm.MethodName)) ∈ wsA := mA (List.mem_of_getElem? (i := 378) (by decide +kernel)) rfl
theorem m_379 : (Jvm.Cond.static ({ cls := "HopArenaLaw", name := "bits", desc := "(LHopArena;II[J)I" } : Jvm.MethodName)) ∈ wsA := mA (List.mem_of_getElem? (i := 379) (by decide +kernel)) rfl
theorem m_380 : (Jvm.Cond.codeWith ({ cls := "HopArenaLaw", name := "bits", desc := "(LHopArena;II[J)I" } : Jvm.MethodName) method_12_code (5 : Nat) (Option.some Jvm.ClassFile.FieldType.int) [((0 : Nat), (10 : Nat), (13 : Nat), (13 : Nat)), ((0 : Nat), (10 : Nat), (17 : Nat), (40 : Nat))]) ∈ wsA := mA (List.mem_of_getElem? (i := 380) (by decide +kernel)) rfl
theorem m_381 : (Jvm.Cond.methodLink "HopArenaLaw" (48 : Nat) ({ cls := "HopArena", name := "bits", desc := "(II)I" } : Jvm.MethodName)) ∈ wsA := mA (List.mem_of_getElem? (i := 381) (by decide +kernel)) rfl
theorem m_382 : (Jvm.Cond.instanceMethod ({ cls := "HopArena", name := "bits", desc := "(II)I" } : Jvm.MethodName)) ∈ wsA := mA (List.mem_of_getElem? (i := 382) (by decide +kernel)) rfl
theorem m_383 : (Jvm.Cond.selects "HopArena" ({ cls := "HopArena", name := "bits", desc := "(II)I" } : Jvm.MethodName) ({ cls := "HopArena", name := "bits", desc := "(II)I" } : Jvm.MethodName)) ∈ wsA := mA (List.mem_of_getElem? (i := 383) (by decide +kernel)) rfl
theorem m_384 : (Jvm.Cond.code ({ cls := "HopArena", name := "bits", desc := "(II)I" } : Jvm.MethodName) prog_1_method_11_code (6 : Nat) (Option.some Jvm.ClassFile.FieldType.int)) ∈ wsA := mA (List.mem_of_getElem? (i := 384) (by decide +kernel)) rfl
theorem m_385 : (Jvm.Cond.methodLink "HopArena" (92 : Nat) ({ cls := "HopArena", name := "requirePlace", desc := "(LHopArena$Part;I)V" } : Jvm.MethodName)) ∈ wsA := mA (List.mem_of_getElem? (i := 385) (by decide +kernel)) rfl
theorem m_386 : (Jvm.Cond.static ({ cls := "HopArena", name := "requirePlace", desc := "(LHopArena$Part;I)V" } : Jvm.MethodName)) ∈ wsA := mA (List.mem_of_getElem? (i := 386) (by decide +kernel)) rfl
theorem m_387 : (Jvm.Cond.code ({ cls := "HopArena", name := "requirePlace", desc := "(LHopArena$Part;I)V" } : Jvm.MethodName) prog_1_method_16_code (2 : Nat) (Option.none : Option Jvm.ClassFile.FieldType)) ∈ wsA := mA (List.mem_of_getElem? (i := 387) (by decide +kernel)) rfl
theorem m_388 : (Jvm.Cond.methodLink "HopArena" (114 : Nat) ({ cls := "HopArena$Part", name := "isPlace", desc := "(I)Z" } : Jvm.MethodName)) ∈ wsA := mA (List.mem_of_getElem? (i := 388) (by decide +kernel)) rfl
theorem m_389 : (Jvm.Cond.instanceMethod ({ cls := "HopArena$Part", name := "isPlace", desc := "(I)Z" } : Jvm.MethodName)) ∈ wsA := mA (List.mem_of_getElem? (i := 389) (by decide +kernel)) rfl
theorem m_390 : (Jvm.Cond.selects "HopArena$Part" ({ cls := "HopArena$Part", name := "isPlace", desc := "(I)Z" } : Jvm.MethodName) ({ cls := "HopArena$Part", name := "isPlace", desc := "(I)Z" } : Jvm.MethodName)) ∈ wsA := mA (List.mem_of_getElem? (i := 390) (by decide +kernel)) rfl
theorem m_391 : (Jvm.Cond.code ({ cls := "HopArena$Part", name := "isPlace", desc := "(I)Z" } : Jvm.MethodName) prog_2_method_6_code (2 : Nat) (Option.some Jvm.ClassFile.FieldType.boolean)) ∈ wsA := mA (List.mem_of_getElem? (i := 391) (by decide +kernel)) rfl
theorem m_393 : (Jvm.Cond.methodLink "HopArenaLaw" (103 : Nat) ({ cls := "HopArenaLaw", name := "next", desc := "(LHopArena;II[J)I" } : Jvm.MethodName)) ∈ wsA := mA (List.mem_of_getElem? (i := 393) (by decide +kernel)) rfl
theorem m_394 : (Jvm.Cond.static ({ cls := "HopArenaLaw", name := "next", desc := "(LHopArena;II[J)I" } : Jvm.MethodName)) ∈ wsA := mA (List.mem_of_getElem? (i := 394) (by decide +kernel)) rfl
theorem m_395 : (Jvm.Cond.codeWith ({ cls := "HopArenaLaw", name := "next", desc := "(LHopArena;II[J)I" } : Jvm.MethodName) method_13_code (5 : Nat) (Option.some Jvm.ClassFile.FieldType.int) [((0 : Nat), (10 : Nat), (13 : Nat), (13 : Nat)), ((0 : Nat), (10 : Nat), (17 : Nat), (40 : Nat))]) ∈ wsA := mA (List.mem_of_getElem? (i := 395) (by decide +kernel)) rfl
theorem m_396 : (Jvm.Cond.methodLink "HopArenaLaw" (51 : Nat) ({ cls := "HopArena", name := "next", desc := "(II)I" } : Jvm.MethodName)) ∈ wsA := mA (List.mem_of_getElem? (i := 396) (by decide +kernel)) rfl
theorem m_397 : (Jvm.Cond.instanceMethod ({ cls := "HopArena", name := "next", desc := "(II)I" } : Jvm.MethodName)) ∈ wsA := mA (List.mem_of_getElem? (i := 397) (by decide +kernel)) rfl
theorem m_398 : (Jvm.Cond.selects "HopArena" ({ cls := "HopArena", name := "next", desc := "(II)I" } : Jvm.MethodName) ({ cls := "HopArena", name := "next", desc := "(II)I" } : Jvm.MethodName)) ∈ wsA := mA (List.mem_of_getElem? (i := 398) (by decide +kernel)) rfl
theorem m_399 : (Jvm.Cond.code ({ cls := "HopArena", name := "next", desc := "(II)I" } : Jvm.MethodName) prog_1_method_12_code (5 : Nat) (Option.some Jvm.ClassFile.FieldType.int)) ∈ wsA := mA (List.mem_of_getElem? (i := 399) (by decide +kernel)) rfl
theorem m_400 : (Jvm.Cond.methodLink "HopArenaLaw" (106 : Nat) ({ cls := "HopArenaLaw", name := "key", desc := "(LHopArena;II[J)I" } : Jvm.MethodName)) ∈ wsA := mA (List.mem_of_getElem? (i := 400) (by decide +kernel)) rfl
theorem m_401 : (Jvm.Cond.static ({ cls := "HopArenaLaw", name := "key", desc := "(LHopArena;II[J)I" } : Jvm.MethodName)) ∈ wsA := mA (List.mem_of_getElem? (i := 401) (by decide +kernel)) rfl
theorem m_402 : (Jvm.Cond.codeWith ({ cls := "HopArenaLaw", name := "key", desc := "(LHopArena;II[J)I" } : Jvm.MethodName) method_14_code (5 : Nat) (Option.some Jvm.ClassFile.FieldType.int) [((0 : Nat), (10 : Nat), (13 : Nat), (13 : Nat)), ((0 : Nat), (10 : Nat), (17 : Nat), (40 : Nat)), ((0 : Nat), (10 : Nat), (21 : Nat), (21 : Nat))]) ∈ wsA := mA (List.mem_of_getElem? (i := 402) (by decide +kernel)) rfl
theorem m_403 : (Jvm.Cond.methodLink "HopArenaLaw" (54 : Nat) ({ cls := "HopArena", name := "key", desc := "(II)I" } : Jvm.MethodName)) ∈ wsA := mA (List.mem_of_getElem? (i := 403) (by decide +kernel)) rfl
theorem m_404 : (Jvm.Cond.instanceMethod ({ cls := "HopArena", name := "key", desc := "(II)I" } : Jvm.MethodName)) ∈ wsA := mA (List.mem_of_getElem? (i := 404) (by decide +kernel)) rfl
theorem m_405 : (Jvm.Cond.selects "HopArena" ({ cls := "HopArena", name := "key", desc := "(II)I" } : Jvm.MethodName) ({ cls := "HopArena", name := "key", desc := "(II)I" } : Jvm.MethodName)) ∈ wsA := mA (List.mem_of_getElem? (i := 405) (by decide +kernel)) rfl
theorem m_406 : (Jvm.Cond.code ({ cls := "HopArena", name := "key", desc := "(II)I" } : Jvm.MethodName) prog_1_method_13_code (5 : Nat) (Option.some Jvm.ClassFile.FieldType.int)) ∈ wsA := mA (List.mem_of_getElem? (i := 406) (by decide +kernel)) rfl
theorem m_408 : (Jvm.Cond.methodLink "HopArenaLaw" (109 : Nat) ({ cls := "HopArenaLaw", name := "count", desc := "(LHopArena;I[J)I" } : Jvm.MethodName)) ∈ wsA := mA (List.mem_of_getElem? (i := 408) (by decide +kernel)) rfl
theorem m_409 : (Jvm.Cond.static ({ cls := "HopArenaLaw", name := "count", desc := "(LHopArena;I[J)I" } : Jvm.MethodName)) ∈ wsA := mA (List.mem_of_getElem? (i := 409) (by decide +kernel)) rfl
theorem m_410 : (Jvm.Cond.codeWith ({ cls := "HopArenaLaw", name := "count", desc := "(LHopArena;I[J)I" } : Jvm.MethodName) method_15_code (4 : Nat) (Option.some Jvm.ClassFile.FieldType.int) [((0 : Nat), (9 : Nat), (12 : Nat), (40 : Nat))]) ∈ wsA := mA (List.mem_of_getElem? (i := 410) (by decide +kernel)) rfl
theorem m_411 : (Jvm.Cond.methodLink "HopArenaLaw" (57 : Nat) ({ cls := "HopArena", name := "count", desc := "(I)I" } : Jvm.MethodName)) ∈ wsA := mA (List.mem_of_getElem? (i := 411) (by decide +kernel)) rfl
theorem m_412 : (Jvm.Cond.instanceMethod ({ cls := "HopArena", name := "count", desc := "(I)I" } : Jvm.MethodName)) ∈ wsA := mA (List.mem_of_getElem? (i := 412) (by decide +kernel)) rfl
theorem m_413 : (Jvm.Cond.selects "HopArena" ({ cls := "HopArena", name := "count", desc := "(I)I" } : Jvm.MethodName) ({ cls := "HopArena", name := "count", desc := "(I)I" } : Jvm.MethodName)) ∈ wsA := mA (List.mem_of_getElem? (i := 413) (by decide +kernel)) rfl
theorem m_414 : (Jvm.Cond.code ({ cls := "HopArena", name := "count", desc := "(I)I" } : Jvm.MethodName) prog_1_method_14_code (2 : Nat) (Option.some Jvm.ClassFile.FieldType.int)) ∈ wsA := mA (List.mem_of_getElem? (i := 414) (by decide +kernel)) rfl
theorem m_416 : (Jvm.Cond.classLink "HopArenaLaw" (61 : Nat) "HopArenaModel") ∈ wsA := mA (List.mem_of_getElem? (i := 416) (by decide +kernel)) rfl
theorem m_417 : (Jvm.Cond.instantiable "HopArenaModel" (14 : Nat)) ∈ wsA := mA (List.mem_of_getElem? (i := 417) (by decide +kernel)) rfl
theorem m_418 : (Jvm.Cond.methodLink "HopArenaLaw" (63 : Nat) ({ cls := "HopArenaModel", name := "<init>", desc := "()V" } : Jvm.MethodName)) ∈ wsA := mA (List.mem_of_getElem? (i := 418) (by decide +kernel)) rfl
theorem m_419 : (Jvm.Cond.instanceMethod ({ cls := "HopArenaModel", name := "<init>", desc := "()V" } : Jvm.MethodName)) ∈ wsA := mA (List.mem_of_getElem? (i := 419) (by decide +kernel)) rfl
theorem m_420 : (Jvm.Cond.code ({ cls := "HopArenaModel", name := "<init>", desc := "()V" } : Jvm.MethodName) prog_4_method_1_code (1 : Nat) (Option.none : Option Jvm.ClassFile.FieldType)) ∈ wsA := mA (List.mem_of_getElem? (i := 420) (by decide +kernel)) rfl
theorem m_421 : (Jvm.Cond.methodLink "HopArenaModel" (1 : Nat) ({ cls := "java/lang/Object", name := "<init>", desc := "()V" } : Jvm.MethodName)) ∈ wsA := mA (List.mem_of_getElem? (i := 421) (by decide +kernel)) rfl
theorem m_422 : (Jvm.Cond.fieldLink "HopArenaModel" (47 : Nat) "HopArenaModel" "code" "I") ∈ wsA := mA (List.mem_of_getElem? (i := 422) (by decide +kernel)) rfl
theorem m_423 : (Jvm.Cond.fieldLink "HopArenaModel" (7 : Nat) "HopArenaModel" "full" "[Z") ∈ wsA := mA (List.mem_of_getElem? (i := 423) (by decide +kernel)) rfl
theorem m_424 : (Jvm.Cond.fieldLink "HopArenaModel" (13 : Nat) "HopArenaModel" "keys" "[I") ∈ wsA := mA (List.mem_of_getElem? (i := 424) (by decide +kernel)) rfl
theorem m_425 : (Jvm.Cond.fieldLink "HopArenaModel" (17 : Nat) "HopArenaModel" "values" "[I") ∈ wsA := mA (List.mem_of_getElem? (i := 425) (by decide +kernel)) rfl
theorem m_426 : (Jvm.Cond.fieldLink "HopArenaModel" (20 : Nat) "HopArenaModel" "capacity" "[I") ∈ wsA := mA (List.mem_of_getElem? (i := 426) (by decide +kernel)) rfl
theorem m_427 : (Jvm.Cond.fieldLink "HopArenaModel" (23 : Nat) "HopArenaModel" "base" "[I") ∈ wsA := mA (List.mem_of_getElem? (i := 427) (by decide +kernel)) rfl
theorem m_428 : (Jvm.Cond.fieldLink "HopArenaModel" (26 : Nat) "HopArenaModel" "seed" "[I") ∈ wsA := mA (List.mem_of_getElem? (i := 428) (by decide +kernel)) rfl
theorem m_429 : (Jvm.Cond.fieldLink "HopArenaModel" (29 : Nat) "HopArenaModel" "counts" "[I") ∈ wsA := mA (List.mem_of_getElem? (i := 429) (by decide +kernel)) rfl
theorem m_430 : (Jvm.Cond.fieldLink "HopArenaModel" (71 : Nat) "HopArenaModel" "held" "I") ∈ wsA := mA (List.mem_of_getElem? (i := 430) (by decide +kernel)) rfl
theorem m_431 : (Jvm.Cond.fieldLink "HopArenaModel" (32 : Nat) "HopArenaModel" "heldKeys" "[I") ∈ wsA := mA (List.mem_of_getElem? (i := 431) (by decide +kernel)) rfl
theorem m_432 : (Jvm.Cond.fieldLink "HopArenaModel" (35 : Nat) "HopArenaModel" "heldValues" "[I") ∈ wsA := mA (List.mem_of_getElem? (i := 432) (by decide +kernel)) rfl
theorem m_433 : (Jvm.Cond.fieldLink "HopArenaModel" (38 : Nat) "HopArenaModel" "oldFull" "[Z") ∈ wsA := mA (List.mem_of_getElem? (i := 433) (by decide +kernel)) rfl
theorem m_434 : (Jvm.Cond.fieldLink "HopArenaModel" (41 : Nat) "HopArenaModel" "oldKeys" "[I") ∈ wsA := mA (List.mem_of_getElem? (i := 434) (by decide +kernel)) rfl
theorem m_435 : (Jvm.Cond.fieldLink "HopArenaModel" (44 : Nat) "HopArenaModel" "oldValues" "[I") ∈ wsA := mA (List.mem_of_getElem? (i := 435) (by decide +kernel)) rfl
theorem m_436 : (Jvm.Cond.lays "HopArenaModel" "HopArenaModel" "code" "I") ∈ wsA := mA (List.mem_of_getElem? (i := 436) (by decide +kernel)) rfl
theorem m_438 : (Jvm.Cond.lays "HopArenaModel" "HopArenaModel" "full" "[Z") ∈ wsA := mA (List.mem_of_getElem? (i := 438) (by decide +kernel)) rfl
theorem m_440 : (Jvm.Cond.lays "HopArenaModel" "HopArenaModel" "keys" "[I") ∈ wsA := mA (List.mem_of_getElem? (i := 440) (by decide +kernel)) rfl
theorem m_442 : (Jvm.Cond.lays "HopArenaModel" "HopArenaModel" "values" "[I") ∈ wsA := mA (List.mem_of_getElem? (i := 442) (by decide +kernel)) rfl
theorem m_444 : (Jvm.Cond.lays "HopArenaModel" "HopArenaModel" "capacity" "[I") ∈ wsA := mA (List.mem_of_getElem? (i := 444) (by decide +kernel)) rfl
theorem m_446 : (Jvm.Cond.lays "HopArenaModel" "HopArenaModel" "base" "[I") ∈ wsA := mA (List.mem_of_getElem? (i := 446) (by decide +kernel)) rfl
theorem m_448 : (Jvm.Cond.lays "HopArenaModel" "HopArenaModel" "seed" "[I") ∈ wsA := mA (List.mem_of_getElem? (i := 448) (by decide +kernel)) rfl
theorem m_450 : (Jvm.Cond.lays "HopArenaModel" "HopArenaModel" "counts" "[I") ∈ wsA := mA (List.mem_of_getElem? (i := 450) (by decide +kernel)) rfl
theorem m_452 : (Jvm.Cond.lays "HopArenaModel" "HopArenaModel" "held" "I") ∈ wsA := mA (List.mem_of_getElem? (i := 452) (by decide +kernel)) rfl
theorem m_454 : (Jvm.Cond.lays "HopArenaModel" "HopArenaModel" "heldKeys" "[I") ∈ wsA := mA (List.mem_of_getElem? (i := 454) (by decide +kernel)) rfl
theorem m_456 : (Jvm.Cond.lays "HopArenaModel" "HopArenaModel" "heldValues" "[I") ∈ wsA := mA (List.mem_of_getElem? (i := 456) (by decide +kernel)) rfl
theorem m_458 : (Jvm.Cond.lays "HopArenaModel" "HopArenaModel" "oldFull" "[Z") ∈ wsA := mA (List.mem_of_getElem? (i := 458) (by decide +kernel)) rfl
theorem m_460 : (Jvm.Cond.lays "HopArenaModel" "HopArenaModel" "oldKeys" "[I") ∈ wsA := mA (List.mem_of_getElem? (i := 460) (by decide +kernel)) rfl
theorem m_462 : (Jvm.Cond.lays "HopArenaModel" "HopArenaModel" "oldValues" "[I") ∈ wsA := mA (List.mem_of_getElem? (i := 462) (by decide +kernel)) rfl
theorem m_465 : (Jvm.Cond.methodLink "HopArenaLaw" (70 : Nat) ({ cls := "HopArenaModel", name := "thrown", desc := "()I" } : Jvm.MethodName)) ∈ wsA := mA (List.mem_of_getElem? (i := 465) (by decide +kernel)) rfl
theorem m_466 : (Jvm.Cond.instanceMethod ({ cls := "HopArenaModel", name := "thrown", desc := "()I" } : Jvm.MethodName)) ∈ wsA := mA (List.mem_of_getElem? (i := 466) (by decide +kernel)) rfl
theorem m_467 : (Jvm.Cond.selects "HopArenaModel" ({ cls := "HopArenaModel", name := "thrown", desc := "()I" } : Jvm.MethodName) ({ cls := "HopArenaModel", name := "thrown", desc := "()I" } : Jvm.MethodName)) ∈ wsA := mA (List.mem_of_getElem? (i := 467) (by decide +kernel)) rfl
theorem m_468 : (Jvm.Cond.code ({ cls := "HopArenaModel", name := "thrown", desc := "()I" } : Jvm.MethodName) prog_4_method_2_code (1 : Nat) (Option.some Jvm.ClassFile.FieldType.int)) ∈ wsA := mA (List.mem_of_getElem? (i := 468) (by decide +kernel)) rfl
theorem m_469 : (Jvm.Cond.methodLink "HopArenaLaw" (69 : Nat) ({ cls := "HopArenaModel", name := "put", desc := "(III)Z" } : Jvm.MethodName)) ∈ wsA := mA (List.mem_of_getElem? (i := 469) (by decide +kernel)) rfl
theorem m_470 : (Jvm.Cond.instanceMethod ({ cls := "HopArenaModel", name := "put", desc := "(III)Z" } : Jvm.MethodName)) ∈ wsA := mA (List.mem_of_getElem? (i := 470) (by decide +kernel)) rfl
theorem m_471 : (Jvm.Cond.selects "HopArenaModel" ({ cls := "HopArenaModel", name := "put", desc := "(III)Z" } : Jvm.MethodName) ({ cls := "HopArenaModel", name := "put", desc := "(III)Z" } : Jvm.MethodName)) ∈ wsA := mA (List.mem_of_getElem? (i := 471) (by decide +kernel)) rfl
theorem m_472 : (Jvm.Cond.code ({ cls := "HopArenaModel", name := "put", desc := "(III)Z" } : Jvm.MethodName) prog_4_method_21_code (5 : Nat) (Option.some Jvm.ClassFile.FieldType.boolean)) ∈ wsA := mA (List.mem_of_getElem? (i := 472) (by decide +kernel)) rfl
theorem m_473 : (Jvm.Cond.methodLink "HopArenaModel" (100 : Nat) ({ cls := "HopArenaModel", name := "isMap", desc := "(I)Z" } : Jvm.MethodName)) ∈ wsA := mA (List.mem_of_getElem? (i := 473) (by decide +kernel)) rfl
theorem m_475 : (Jvm.Cond.instanceMethod ({ cls := "HopArenaModel", name := "isMap", desc := "(I)Z" } : Jvm.MethodName)) ∈ wsA := mA (List.mem_of_getElem? (i := 475) (by decide +kernel)) rfl
theorem m_476 : (Jvm.Cond.code ({ cls := "HopArenaModel", name := "isMap", desc := "(I)Z" } : Jvm.MethodName) prog_4_method_4_code (2 : Nat) (Option.some Jvm.ClassFile.FieldType.boolean)) ∈ wsA := mA (List.mem_of_getElem? (i := 476) (by decide +kernel)) rfl
theorem m_477 : (Jvm.Cond.methodLink "HopArenaModel" (51 : Nat) ({ cls := "HopArenaModel", name := "within", desc := "(III)Z" } : Jvm.MethodName)) ∈ wsA := mA (List.mem_of_getElem? (i := 477) (by decide +kernel)) rfl
theorem m_478 : (Jvm.Cond.static ({ cls := "HopArenaModel", name := "within", desc := "(III)Z" } : Jvm.MethodName)) ∈ wsA := mA (List.mem_of_getElem? (i := 478) (by decide +kernel)) rfl
theorem m_479 : (Jvm.Cond.code ({ cls := "HopArenaModel", name := "within", desc := "(III)Z" } : Jvm.MethodName) prog_4_method_3_code (3 : Nat) (Option.some Jvm.ClassFile.FieldType.boolean)) ∈ wsA := mA (List.mem_of_getElem? (i := 479) (by decide +kernel)) rfl
theorem m_480 : (Jvm.Cond.methodLink "HopArenaModel" (104 : Nat) ({ cls := "HopArenaModel", name := "placeOf", desc := "(II)I" } : Jvm.MethodName)) ∈ wsA := mA (List.mem_of_getElem? (i := 480) (by decide +kernel)) rfl
theorem m_482 : (Jvm.Cond.instanceMethod ({ cls := "HopArenaModel", name := "placeOf", desc := "(II)I" } : Jvm.MethodName)) ∈ wsA := mA (List.mem_of_getElem? (i := 482) (by decide +kernel)) rfl
theorem m_483 : (Jvm.Cond.code ({ cls := "HopArenaModel", name := "placeOf", desc := "(II)I" } : Jvm.MethodName) prog_4_method_7_code (5 : Nat) (Option.some Jvm.ClassFile.FieldType.int)) ∈ wsA := mA (List.mem_of_getElem? (i := 483) (by decide +kernel)) rfl
theorem m_484 : (Jvm.Cond.methodLink "HopArenaModel" (94 : Nat) ({ cls := "HopArenaModel", name := "insert", desc := "(III)Z" } : Jvm.MethodName)) ∈ wsA := mA (List.mem_of_getElem? (i := 484) (by decide +kernel)) rfl
theorem m_486 : (Jvm.Cond.instanceMethod ({ cls := "HopArenaModel", name := "insert", desc := "(III)Z" } : Jvm.MethodName)) ∈ wsA := mA (List.mem_of_getElem? (i := 486) (by decide +kernel)) rfl
theorem m_487 : (Jvm.Cond.code ({ cls := "HopArenaModel", name := "insert", desc := "(III)Z" } : Jvm.MethodName) prog_4_method_12_code (8 : Nat) (Option.some Jvm.ClassFile.FieldType.boolean)) ∈ wsA := mA (List.mem_of_getElem? (i := 487) (by decide +kernel)) rfl
theorem m_488 : (Jvm.Cond.methodLink "HopArenaModel" (56 : Nat) ({ cls := "HopArenaModel", name := "homeOf", desc := "(II)I" } : Jvm.MethodName)) ∈ wsA := mA (List.mem_of_getElem? (i := 488) (by decide +kernel)) rfl
theorem m_490 : (Jvm.Cond.instanceMethod ({ cls := "HopArenaModel", name := "homeOf", desc := "(II)I" } : Jvm.MethodName)) ∈ wsA := mA (List.mem_of_getElem? (i := 490) (by decide +kernel)) rfl
theorem m_491 : (Jvm.Cond.code ({ cls := "HopArenaModel", name := "homeOf", desc := "(II)I" } : Jvm.MethodName) prog_4_method_5_code (3 : Nat) (Option.some Jvm.ClassFile.FieldType.int)) ∈ wsA := mA (List.mem_of_getElem? (i := 491) (by decide +kernel)) rfl
theorem m_492 : (Jvm.Cond.constant "HopArenaModel" (55 : Nat) (-1640531535 : Int32)) ∈ wsA := mA (List.mem_of_getElem? (i := 492) (by decide +kernel)) rfl
theorem m_493 : (Jvm.Cond.methodLink "HopArenaModel" (60 : Nat) ({ cls := "HopArenaModel", name := "behind", desc := "(III)I" } : Jvm.MethodName)) ∈ wsA := mA (List.mem_of_getElem? (i := 493) (by decide +kernel)) rfl
theorem m_495 : (Jvm.Cond.instanceMethod ({ cls := "HopArenaModel", name := "behind", desc := "(III)I" } : Jvm.MethodName)) ∈ wsA := mA (List.mem_of_getElem? (i := 495) (by decide +kernel)) rfl
theorem m_496 : (Jvm.Cond.code ({ cls := "HopArenaModel", name := "behind", desc := "(III)I" } : Jvm.MethodName) prog_4_method_6_code (4 : Nat) (Option.some Jvm.ClassFile.FieldType.int)) ∈ wsA := mA (List.mem_of_getElem? (i := 496) (by decide +kernel)) rfl
theorem m_497 : (Jvm.Cond.methodLink "HopArenaModel" (64 : Nat) ({ cls := "HopArenaModel", name := "mover", desc := "(II)I" } : Jvm.MethodName)) ∈ wsA := mA (List.mem_of_getElem? (i := 497) (by decide +kernel)) rfl
theorem m_499 : (Jvm.Cond.instanceMethod ({ cls := "HopArenaModel", name := "mover", desc := "(II)I" } : Jvm.MethodName)) ∈ wsA := mA (List.mem_of_getElem? (i := 499) (by decide +kernel)) rfl
theorem m_500 : (Jvm.Cond.code ({ cls := "HopArenaModel", name := "mover", desc := "(II)I" } : Jvm.MethodName) prog_4_method_11_code (7 : Nat) (Option.some Jvm.ClassFile.FieldType.int)) ∈ wsA := mA (List.mem_of_getElem? (i := 500) (by decide +kernel)) rfl
theorem m_501 : (Jvm.Cond.methodLink "HopArenaModel" (67 : Nat) ({ cls := "HopArenaModel", name := "move", desc := "(III)V" } : Jvm.MethodName)) ∈ wsA := mA (List.mem_of_getElem? (i := 501) (by decide +kernel)) rfl
theorem m_503 : (Jvm.Cond.instanceMethod ({ cls := "HopArenaModel", name := "move", desc := "(III)V" } : Jvm.MethodName)) ∈ wsA := mA (List.mem_of_getElem? (i := 503) (by decide +kernel)) rfl
theorem m_504 : (Jvm.Cond.code ({ cls := "HopArenaModel", name := "move", desc := "(III)V" } : Jvm.MethodName) prog_4_method_10_code (6 : Nat) (Option.none : Option Jvm.ClassFile.FieldType)) ∈ wsA := mA (List.mem_of_getElem? (i := 504) (by decide +kernel)) rfl
theorem m_505 : (Jvm.Cond.methodLink "HopArenaModel" (107 : Nat) ({ cls := "HopArenaModel", name := "hold", desc := "(I)V" } : Jvm.MethodName)) ∈ wsA := mA (List.mem_of_getElem? (i := 505) (by decide +kernel)) rfl
theorem m_507 : (Jvm.Cond.instanceMethod ({ cls := "HopArenaModel", name := "hold", desc := "(I)V" } : Jvm.MethodName)) ∈ wsA := mA (List.mem_of_getElem? (i := 507) (by decide +kernel)) rfl
theorem m_508 : (Jvm.Cond.code ({ cls := "HopArenaModel", name := "hold", desc := "(I)V" } : Jvm.MethodName) prog_4_method_14_code (3 : Nat) (Option.none : Option Jvm.ClassFile.FieldType)) ∈ wsA := mA (List.mem_of_getElem? (i := 508) (by decide +kernel)) rfl
theorem m_509 : (Jvm.Cond.methodLink "HopArenaModel" (110 : Nat) ({ cls := "HopArenaModel", name := "grow", desc := "(I)Z" } : Jvm.MethodName)) ∈ wsA := mA (List.mem_of_getElem? (i := 509) (by decide +kernel)) rfl
theorem m_511 : (Jvm.Cond.instanceMethod ({ cls := "HopArenaModel", name := "grow", desc := "(I)Z" } : Jvm.MethodName)) ∈ wsA := mA (List.mem_of_getElem? (i := 511) (by decide +kernel)) rfl
theorem m_512 : (Jvm.Cond.code ({ cls := "HopArenaModel", name := "grow", desc := "(I)Z" } : Jvm.MethodName) prog_4_method_20_code (9 : Nat) (Option.some Jvm.ClassFile.FieldType.boolean)) ∈ wsA := mA (List.mem_of_getElem? (i := 512) (by decide +kernel)) rfl
theorem m_513 : (Jvm.Cond.methodLink "HopArenaModel" (81 : Nat) ({ cls := "HopArenaModel", name := "endOfAll", desc := "(II)I" } : Jvm.MethodName)) ∈ wsA := mA (List.mem_of_getElem? (i := 513) (by decide +kernel)) rfl
theorem m_515 : (Jvm.Cond.instanceMethod ({ cls := "HopArenaModel", name := "endOfAll", desc := "(II)I" } : Jvm.MethodName)) ∈ wsA := mA (List.mem_of_getElem? (i := 515) (by decide +kernel)) rfl
theorem m_516 : (Jvm.Cond.code ({ cls := "HopArenaModel", name := "endOfAll", desc := "(II)I" } : Jvm.MethodName) prog_4_method_18_code (6 : Nat) (Option.some Jvm.ClassFile.FieldType.int)) ∈ wsA := mA (List.mem_of_getElem? (i := 516) (by decide +kernel)) rfl
theorem m_517 : (Jvm.Cond.methodLink "HopArenaModel" (74 : Nat) ({ cls := "HopArenaModel", name := "endOf", desc := "(III)I" } : Jvm.MethodName)) ∈ wsA := mA (List.mem_of_getElem? (i := 517) (by decide +kernel)) rfl
theorem m_519 : (Jvm.Cond.instanceMethod ({ cls := "HopArenaModel", name := "endOf", desc := "(III)I" } : Jvm.MethodName)) ∈ wsA := mA (List.mem_of_getElem? (i := 519) (by decide +kernel)) rfl
theorem m_520 : (Jvm.Cond.code ({ cls := "HopArenaModel", name := "endOf", desc := "(III)I" } : Jvm.MethodName) prog_4_method_17_code (4 : Nat) (Option.some Jvm.ClassFile.FieldType.int)) ∈ wsA := mA (List.mem_of_getElem? (i := 520) (by decide +kernel)) rfl
theorem m_521 : (Jvm.Cond.methodLink "HopArenaModel" (84 : Nat) ({ cls := "HopArenaModel", name := "pushTogether", desc := "(II)V" } : Jvm.MethodName)) ∈ wsA := mA (List.mem_of_getElem? (i := 521) (by decide +kernel)) rfl
theorem m_523 : (Jvm.Cond.instanceMethod ({ cls := "HopArenaModel", name := "pushTogether", desc := "(II)V" } : Jvm.MethodName)) ∈ wsA := mA (List.mem_of_getElem? (i := 523) (by decide +kernel)) rfl
theorem m_524 : (Jvm.Cond.code ({ cls := "HopArenaModel", name := "pushTogether", desc := "(II)V" } : Jvm.MethodName) prog_4_method_19_code (7 : Nat) (Option.none : Option Jvm.ClassFile.FieldType)) ∈ wsA := mA (List.mem_of_getElem? (i := 524) (by decide +kernel)) rfl
theorem m_525 : (Jvm.Cond.methodLink "HopArenaModel" (77 : Nat) ({ cls := "HopArenaModel", name := "nextFrom", desc := "(I)I" } : Jvm.MethodName)) ∈ wsA := mA (List.mem_of_getElem? (i := 525) (by decide +kernel)) rfl
theorem m_527 : (Jvm.Cond.instanceMethod ({ cls := "HopArenaModel", name := "nextFrom", desc := "(I)I" } : Jvm.MethodName)) ∈ wsA := mA (List.mem_of_getElem? (i := 527) (by decide +kernel)) rfl
theorem m_528 : (Jvm.Cond.code ({ cls := "HopArenaModel", name := "nextFrom", desc := "(I)I" } : Jvm.MethodName) prog_4_method_16_code (5 : Nat) (Option.some Jvm.ClassFile.FieldType.int)) ∈ wsA := mA (List.mem_of_getElem? (i := 528) (by decide +kernel)) rfl
theorem m_529 : (Jvm.Cond.constant "HopArenaModel" (88 : Nat) (1664525 : Int32)) ∈ wsA := mA (List.mem_of_getElem? (i := 529) (by decide +kernel)) rfl
theorem m_530 : (Jvm.Cond.constant "HopArenaModel" (89 : Nat) (1013904223 : Int32)) ∈ wsA := mA (List.mem_of_getElem? (i := 530) (by decide +kernel)) rfl
theorem m_531 : (Jvm.Cond.methodLink "HopArenaModel" (90 : Nat) ({ cls := "HopArenaModel", name := "empty", desc := "(I)V" } : Jvm.MethodName)) ∈ wsA := mA (List.mem_of_getElem? (i := 531) (by decide +kernel)) rfl
theorem m_533 : (Jvm.Cond.instanceMethod ({ cls := "HopArenaModel", name := "empty", desc := "(I)V" } : Jvm.MethodName)) ∈ wsA := mA (List.mem_of_getElem? (i := 533) (by decide +kernel)) rfl
theorem m_534 : (Jvm.Cond.code ({ cls := "HopArenaModel", name := "empty", desc := "(I)V" } : Jvm.MethodName) prog_4_method_13_code (3 : Nat) (Option.none : Option Jvm.ClassFile.FieldType)) ∈ wsA := mA (List.mem_of_getElem? (i := 534) (by decide +kernel)) rfl
theorem m_535 : (Jvm.Cond.methodLink "HopArenaModel" (97 : Nat) ({ cls := "HopArenaModel", name := "putBack", desc := "(III)V" } : Jvm.MethodName)) ∈ wsA := mA (List.mem_of_getElem? (i := 535) (by decide +kernel)) rfl
theorem m_537 : (Jvm.Cond.instanceMethod ({ cls := "HopArenaModel", name := "putBack", desc := "(III)V" } : Jvm.MethodName)) ∈ wsA := mA (List.mem_of_getElem? (i := 537) (by decide +kernel)) rfl
theorem m_538 : (Jvm.Cond.code ({ cls := "HopArenaModel", name := "putBack", desc := "(III)V" } : Jvm.MethodName) prog_4_method_15_code (5 : Nat) (Option.none : Option Jvm.ClassFile.FieldType)) ∈ wsA := mA (List.mem_of_getElem? (i := 538) (by decide +kernel)) rfl
theorem m_539 : (Jvm.Cond.methodLink "HopArenaLaw" (77 : Nat) ({ cls := "HopArenaModel", name := "get", desc := "(II)I" } : Jvm.MethodName)) ∈ wsA := mA (List.mem_of_getElem? (i := 539) (by decide +kernel)) rfl
theorem m_540 : (Jvm.Cond.instanceMethod ({ cls := "HopArenaModel", name := "get", desc := "(II)I" } : Jvm.MethodName)) ∈ wsA := mA (List.mem_of_getElem? (i := 540) (by decide +kernel)) rfl
theorem m_541 : (Jvm.Cond.selects "HopArenaModel" ({ cls := "HopArenaModel", name := "get", desc := "(II)I" } : Jvm.MethodName) ({ cls := "HopArenaModel", name := "get", desc := "(II)I" } : Jvm.MethodName)) ∈ wsA := mA (List.mem_of_getElem? (i := 541) (by decide +kernel)) rfl
theorem m_542 : (Jvm.Cond.code ({ cls := "HopArenaModel", name := "get", desc := "(II)I" } : Jvm.MethodName) prog_4_method_23_code (4 : Nat) (Option.some Jvm.ClassFile.FieldType.int)) ∈ wsA := mA (List.mem_of_getElem? (i := 542) (by decide +kernel)) rfl
theorem m_543 : (Jvm.Cond.methodLink "HopArenaModel" (113 : Nat) ({ cls := "HopArenaModel", name := "find", desc := "(II)I" } : Jvm.MethodName)) ∈ wsA := mA (List.mem_of_getElem? (i := 543) (by decide +kernel)) rfl
theorem m_545 : (Jvm.Cond.instanceMethod ({ cls := "HopArenaModel", name := "find", desc := "(II)I" } : Jvm.MethodName)) ∈ wsA := mA (List.mem_of_getElem? (i := 545) (by decide +kernel)) rfl
theorem m_546 : (Jvm.Cond.code ({ cls := "HopArenaModel", name := "find", desc := "(II)I" } : Jvm.MethodName) prog_4_method_22_code (4 : Nat) (Option.some Jvm.ClassFile.FieldType.int)) ∈ wsA := mA (List.mem_of_getElem? (i := 546) (by decide +kernel)) rfl
theorem m_547 : (Jvm.Cond.methodLink "HopArenaLaw" (80 : Nat) ({ cls := "HopArenaModel", name := "remove", desc := "(II)I" } : Jvm.MethodName)) ∈ wsA := mA (List.mem_of_getElem? (i := 547) (by decide +kernel)) rfl
theorem m_548 : (Jvm.Cond.instanceMethod ({ cls := "HopArenaModel", name := "remove", desc := "(II)I" } : Jvm.MethodName)) ∈ wsA := mA (List.mem_of_getElem? (i := 548) (by decide +kernel)) rfl
theorem m_549 : (Jvm.Cond.selects "HopArenaModel" ({ cls := "HopArenaModel", name := "remove", desc := "(II)I" } : Jvm.MethodName) ({ cls := "HopArenaModel", name := "remove", desc := "(II)I" } : Jvm.MethodName)) ∈ wsA := mA (List.mem_of_getElem? (i := 549) (by decide +kernel)) rfl
theorem m_550 : (Jvm.Cond.code ({ cls := "HopArenaModel", name := "remove", desc := "(II)I" } : Jvm.MethodName) prog_4_method_24_code (4 : Nat) (Option.some Jvm.ClassFile.FieldType.int)) ∈ wsA := mA (List.mem_of_getElem? (i := 550) (by decide +kernel)) rfl
theorem m_551 : (Jvm.Cond.methodLink "HopArenaLaw" (83 : Nat) ({ cls := "HopArenaModel", name := "has", desc := "(II)Z" } : Jvm.MethodName)) ∈ wsA := mA (List.mem_of_getElem? (i := 551) (by decide +kernel)) rfl
theorem m_552 : (Jvm.Cond.instanceMethod ({ cls := "HopArenaModel", name := "has", desc := "(II)Z" } : Jvm.MethodName)) ∈ wsA := mA (List.mem_of_getElem? (i := 552) (by decide +kernel)) rfl
theorem m_553 : (Jvm.Cond.selects "HopArenaModel" ({ cls := "HopArenaModel", name := "has", desc := "(II)Z" } : Jvm.MethodName) ({ cls := "HopArenaModel", name := "has", desc := "(II)Z" } : Jvm.MethodName)) ∈ wsA := mA (List.mem_of_getElem? (i := 553) (by decide +kernel)) rfl
theorem m_554 : (Jvm.Cond.code ({ cls := "HopArenaModel", name := "has", desc := "(II)Z" } : Jvm.MethodName) prog_4_method_25_code (3 : Nat) (Option.some Jvm.ClassFile.FieldType.boolean)) ∈ wsA := mA (List.mem_of_getElem? (i := 554) (by decide +kernel)) rfl
theorem m_555 : (Jvm.Cond.methodLink "HopArenaLaw" (87 : Nat) ({ cls := "HopArenaModel", name := "size", desc := "(I)I" } : Jvm.MethodName)) ∈ wsA := mA (List.mem_of_getElem? (i := 555) (by decide +kernel)) rfl
theorem m_556 : (Jvm.Cond.instanceMethod ({ cls := "HopArenaModel", name := "size", desc := "(I)I" } : Jvm.MethodName)) ∈ wsA := mA (List.mem_of_getElem? (i := 556) (by decide +kernel)) rfl
theorem m_557 : (Jvm.Cond.selects "HopArenaModel" ({ cls := "HopArenaModel", name := "size", desc := "(I)I" } : Jvm.MethodName) ({ cls := "HopArenaModel", name := "size", desc := "(I)I" } : Jvm.MethodName)) ∈ wsA := mA (List.mem_of_getElem? (i := 557) (by decide +kernel)) rfl
theorem m_558 : (Jvm.Cond.code ({ cls := "HopArenaModel", name := "size", desc := "(I)I" } : Jvm.MethodName) prog_4_method_27_code (2 : Nat) (Option.some Jvm.ClassFile.FieldType.int)) ∈ wsA := mA (List.mem_of_getElem? (i := 558) (by decide +kernel)) rfl
theorem m_559 : (Jvm.Cond.methodLink "HopArenaModel" (116 : Nat) ({ cls := "HopArenaModel", name := "sizeOf", desc := "(I)I" } : Jvm.MethodName)) ∈ wsA := mA (List.mem_of_getElem? (i := 559) (by decide +kernel)) rfl
theorem m_561 : (Jvm.Cond.instanceMethod ({ cls := "HopArenaModel", name := "sizeOf", desc := "(I)I" } : Jvm.MethodName)) ∈ wsA := mA (List.mem_of_getElem? (i := 561) (by decide +kernel)) rfl
theorem m_562 : (Jvm.Cond.code ({ cls := "HopArenaModel", name := "sizeOf", desc := "(I)I" } : Jvm.MethodName) prog_4_method_26_code (4 : Nat) (Option.some Jvm.ClassFile.FieldType.int)) ∈ wsA := mA (List.mem_of_getElem? (i := 562) (by decide +kernel)) rfl
theorem m_563 : (Jvm.Cond.methodLink "HopArenaLaw" (90 : Nat) ({ cls := "HopArenaModel", name := "clear", desc := "(I)I" } : Jvm.MethodName)) ∈ wsA := mA (List.mem_of_getElem? (i := 563) (by decide +kernel)) rfl
theorem m_564 : (Jvm.Cond.instanceMethod ({ cls := "HopArenaModel", name := "clear", desc := "(I)I" } : Jvm.MethodName)) ∈ wsA := mA (List.mem_of_getElem? (i := 564) (by decide +kernel)) rfl
theorem m_565 : (Jvm.Cond.selects "HopArenaModel" ({ cls := "HopArenaModel", name := "clear", desc := "(I)I" } : Jvm.MethodName) ({ cls := "HopArenaModel", name := "clear", desc := "(I)I" } : Jvm.MethodName)) ∈ wsA := mA (List.mem_of_getElem? (i := 565) (by decide +kernel)) rfl
theorem m_566 : (Jvm.Cond.code ({ cls := "HopArenaModel", name := "clear", desc := "(I)I" } : Jvm.MethodName) prog_4_method_28_code (3 : Nat) (Option.some Jvm.ClassFile.FieldType.int)) ∈ wsA := mA (List.mem_of_getElem? (i := 566) (by decide +kernel)) rfl
theorem m_567 : (Jvm.Cond.methodLink "HopArenaLaw" (93 : Nat) ({ cls := "HopArenaModel", name := "about", desc := "(II)I" } : Jvm.MethodName)) ∈ wsA := mA (List.mem_of_getElem? (i := 567) (by decide +kernel)) rfl
theorem m_568 : (Jvm.Cond.instanceMethod ({ cls := "HopArenaModel", name := "about", desc := "(II)I" } : Jvm.MethodName)) ∈ wsA := mA (List.mem_of_getElem? (i := 568) (by decide +kernel)) rfl
theorem m_569 : (Jvm.Cond.selects "HopArenaModel" ({ cls := "HopArenaModel", name := "about", desc := "(II)I" } : Jvm.MethodName) ({ cls := "HopArenaModel", name := "about", desc := "(II)I" } : Jvm.MethodName)) ∈ wsA := mA (List.mem_of_getElem? (i := 569) (by decide +kernel)) rfl
theorem m_570 : (Jvm.Cond.code ({ cls := "HopArenaModel", name := "about", desc := "(II)I" } : Jvm.MethodName) prog_4_method_29_code (3 : Nat) (Option.some Jvm.ClassFile.FieldType.int)) ∈ wsA := mA (List.mem_of_getElem? (i := 570) (by decide +kernel)) rfl
theorem m_571 : (Jvm.Cond.methodLink "HopArenaLaw" (96 : Nat) ({ cls := "HopArenaModel", name := "home", desc := "(II)I" } : Jvm.MethodName)) ∈ wsA := mA (List.mem_of_getElem? (i := 571) (by decide +kernel)) rfl
theorem m_572 : (Jvm.Cond.instanceMethod ({ cls := "HopArenaModel", name := "home", desc := "(II)I" } : Jvm.MethodName)) ∈ wsA := mA (List.mem_of_getElem? (i := 572) (by decide +kernel)) rfl
theorem m_573 : (Jvm.Cond.selects "HopArenaModel" ({ cls := "HopArenaModel", name := "home", desc := "(II)I" } : Jvm.MethodName) ({ cls := "HopArenaModel", name := "home", desc := "(II)I" } : Jvm.MethodName)) ∈ wsA := mA (List.mem_of_getElem? (i := 573) (by decide +kernel)) rfl
theorem m_574 : (Jvm.Cond.code ({ cls := "HopArenaModel", name := "home", desc := "(II)I" } : Jvm.MethodName) prog_4_method_30_code (3 : Nat) (Option.some Jvm.ClassFile.FieldType.int)) ∈ wsA := mA (List.mem_of_getElem? (i := 574) (by decide +kernel)) rfl
theorem m_575 : (Jvm.Cond.methodLink "HopArenaLaw" (99 : Nat) ({ cls := "HopArenaModel", name := "distance", desc := "(II)I" } : Jvm.MethodName)) ∈ wsA := mA (List.mem_of_getElem? (i := 575) (by decide +kernel)) rfl
theorem m_576 : (Jvm.Cond.instanceMethod ({ cls := "HopArenaModel", name := "distance", desc := "(II)I" } : Jvm.MethodName)) ∈ wsA := mA (List.mem_of_getElem? (i := 576) (by decide +kernel)) rfl
theorem m_577 : (Jvm.Cond.selects "HopArenaModel" ({ cls := "HopArenaModel", name := "distance", desc := "(II)I" } : Jvm.MethodName) ({ cls := "HopArenaModel", name := "distance", desc := "(II)I" } : Jvm.MethodName)) ∈ wsA := mA (List.mem_of_getElem? (i := 577) (by decide +kernel)) rfl
theorem m_578 : (Jvm.Cond.code ({ cls := "HopArenaModel", name := "distance", desc := "(II)I" } : Jvm.MethodName) prog_4_method_31_code (4 : Nat) (Option.some Jvm.ClassFile.FieldType.int)) ∈ wsA := mA (List.mem_of_getElem? (i := 578) (by decide +kernel)) rfl
theorem m_579 : (Jvm.Cond.methodLink "HopArenaModel" (119 : Nat) ({ cls := "HopArenaModel", name := "distanceAt", desc := "(II)I" } : Jvm.MethodName)) ∈ wsA := mA (List.mem_of_getElem? (i := 579) (by decide +kernel)) rfl
theorem m_581 : (Jvm.Cond.instanceMethod ({ cls := "HopArenaModel", name := "distanceAt", desc := "(II)I" } : Jvm.MethodName)) ∈ wsA := mA (List.mem_of_getElem? (i := 581) (by decide +kernel)) rfl
theorem m_582 : (Jvm.Cond.code ({ cls := "HopArenaModel", name := "distanceAt", desc := "(II)I" } : Jvm.MethodName) prog_4_method_8_code (4 : Nat) (Option.some Jvm.ClassFile.FieldType.int)) ∈ wsA := mA (List.mem_of_getElem? (i := 582) (by decide +kernel)) rfl
theorem m_583 : (Jvm.Cond.methodLink "HopArenaLaw" (102 : Nat) ({ cls := "HopArenaModel", name := "bits", desc := "(II)I" } : Jvm.MethodName)) ∈ wsA := mA (List.mem_of_getElem? (i := 583) (by decide +kernel)) rfl
theorem m_584 : (Jvm.Cond.instanceMethod ({ cls := "HopArenaModel", name := "bits", desc := "(II)I" } : Jvm.MethodName)) ∈ wsA := mA (List.mem_of_getElem? (i := 584) (by decide +kernel)) rfl
theorem m_585 : (Jvm.Cond.selects "HopArenaModel" ({ cls := "HopArenaModel", name := "bits", desc := "(II)I" } : Jvm.MethodName) ({ cls := "HopArenaModel", name := "bits", desc := "(II)I" } : Jvm.MethodName)) ∈ wsA := mA (List.mem_of_getElem? (i := 585) (by decide +kernel)) rfl
theorem m_586 : (Jvm.Cond.code ({ cls := "HopArenaModel", name := "bits", desc := "(II)I" } : Jvm.MethodName) prog_4_method_33_code (3 : Nat) (Option.some Jvm.ClassFile.FieldType.int)) ∈ wsA := mA (List.mem_of_getElem? (i := 586) (by decide +kernel)) rfl
theorem m_587 : (Jvm.Cond.methodLink "HopArenaModel" (122 : Nat) ({ cls := "HopArenaModel", name := "isPlace", desc := "(II)Z" } : Jvm.MethodName)) ∈ wsA := mA (List.mem_of_getElem? (i := 587) (by decide +kernel)) rfl
theorem m_589 : (Jvm.Cond.instanceMethod ({ cls := "HopArenaModel", name := "isPlace", desc := "(II)Z" } : Jvm.MethodName)) ∈ wsA := mA (List.mem_of_getElem? (i := 589) (by decide +kernel)) rfl
theorem m_590 : (Jvm.Cond.code ({ cls := "HopArenaModel", name := "isPlace", desc := "(II)Z" } : Jvm.MethodName) prog_4_method_32_code (3 : Nat) (Option.some Jvm.ClassFile.FieldType.boolean)) ∈ wsA := mA (List.mem_of_getElem? (i := 590) (by decide +kernel)) rfl
theorem m_591 : (Jvm.Cond.methodLink "HopArenaModel" (126 : Nat) ({ cls := "HopArenaModel", name := "bitsOf", desc := "(II)I" } : Jvm.MethodName)) ∈ wsA := mA (List.mem_of_getElem? (i := 591) (by decide +kernel)) rfl
theorem m_593 : (Jvm.Cond.instanceMethod ({ cls := "HopArenaModel", name := "bitsOf", desc := "(II)I" } : Jvm.MethodName)) ∈ wsA := mA (List.mem_of_getElem? (i := 593) (by decide +kernel)) rfl
theorem m_594 : (Jvm.Cond.code ({ cls := "HopArenaModel", name := "bitsOf", desc := "(II)I" } : Jvm.MethodName) prog_4_method_9_code (7 : Nat) (Option.some Jvm.ClassFile.FieldType.int)) ∈ wsA := mA (List.mem_of_getElem? (i := 594) (by decide +kernel)) rfl
theorem m_595 : (Jvm.Cond.methodLink "HopArenaLaw" (105 : Nat) ({ cls := "HopArenaModel", name := "next", desc := "(II)I" } : Jvm.MethodName)) ∈ wsA := mA (List.mem_of_getElem? (i := 595) (by decide +kernel)) rfl
theorem m_596 : (Jvm.Cond.instanceMethod ({ cls := "HopArenaModel", name := "next", desc := "(II)I" } : Jvm.MethodName)) ∈ wsA := mA (List.mem_of_getElem? (i := 596) (by decide +kernel)) rfl
theorem m_597 : (Jvm.Cond.selects "HopArenaModel" ({ cls := "HopArenaModel", name := "next", desc := "(II)I" } : Jvm.MethodName) ({ cls := "HopArenaModel", name := "next", desc := "(II)I" } : Jvm.MethodName)) ∈ wsA := mA (List.mem_of_getElem? (i := 597) (by decide +kernel)) rfl
theorem m_598 : (Jvm.Cond.code ({ cls := "HopArenaModel", name := "next", desc := "(II)I" } : Jvm.MethodName) prog_4_method_34_code (4 : Nat) (Option.some Jvm.ClassFile.FieldType.int)) ∈ wsA := mA (List.mem_of_getElem? (i := 598) (by decide +kernel)) rfl
theorem m_599 : (Jvm.Cond.methodLink "HopArenaLaw" (108 : Nat) ({ cls := "HopArenaModel", name := "key", desc := "(II)I" } : Jvm.MethodName)) ∈ wsA := mA (List.mem_of_getElem? (i := 599) (by decide +kernel)) rfl
theorem m_600 : (Jvm.Cond.instanceMethod ({ cls := "HopArenaModel", name := "key", desc := "(II)I" } : Jvm.MethodName)) ∈ wsA := mA (List.mem_of_getElem? (i := 600) (by decide +kernel)) rfl
theorem m_601 : (Jvm.Cond.selects "HopArenaModel" ({ cls := "HopArenaModel", name := "key", desc := "(II)I" } : Jvm.MethodName) ({ cls := "HopArenaModel", name := "key", desc := "(II)I" } : Jvm.MethodName)) ∈ wsA := mA (List.mem_of_getElem? (i := 601) (by decide +kernel)) rfl
theorem m_602 : (Jvm.Cond.code ({ cls := "HopArenaModel", name := "key", desc := "(II)I" } : Jvm.MethodName) prog_4_method_35_code (3 : Nat) (Option.some Jvm.ClassFile.FieldType.int)) ∈ wsA := mA (List.mem_of_getElem? (i := 602) (by decide +kernel)) rfl
theorem m_603 : (Jvm.Cond.methodLink "HopArenaLaw" (111 : Nat) ({ cls := "HopArenaModel", name := "count", desc := "(I)I" } : Jvm.MethodName)) ∈ wsA := mA (List.mem_of_getElem? (i := 603) (by decide +kernel)) rfl
theorem m_604 : (Jvm.Cond.instanceMethod ({ cls := "HopArenaModel", name := "count", desc := "(I)I" } : Jvm.MethodName)) ∈ wsA := mA (List.mem_of_getElem? (i := 604) (by decide +kernel)) rfl
theorem m_605 : (Jvm.Cond.selects "HopArenaModel" ({ cls := "HopArenaModel", name := "count", desc := "(I)I" } : Jvm.MethodName) ({ cls := "HopArenaModel", name := "count", desc := "(I)I" } : Jvm.MethodName)) ∈ wsA := mA (List.mem_of_getElem? (i := 605) (by decide +kernel)) rfl
theorem m_606 : (Jvm.Cond.code ({ cls := "HopArenaModel", name := "count", desc := "(I)I" } : Jvm.MethodName) prog_4_method_36_code (2 : Nat) (Option.some Jvm.ClassFile.FieldType.int)) ∈ wsA := mA (List.mem_of_getElem? (i := 606) (by decide +kernel)) rfl
theorem m_607 : (Jvm.Cond.arrayClass Jvm.ClassFile.FieldType.long) ∈ wsA := mA (List.mem_of_getElem? (i := 607) (by decide +kernel)) rfl
theorem g_Hop_Part_around : GoodIn wsA (wsV R_Hop 89 R_Part y_Part_around w_Part_around) := gV m_207 m_208 m_209 m_41 m_210
theorem g_Hop_Part_slotOf : GoodIn wsA (wsV R_Hop 99 R_Part y_Part_slotOf w_Part_slotOf) := gV m_191 m_192 m_193 m_41 m_194
theorem g_Hop_Part_homeOf : GoodIn wsA (wsV R_Hop 85 R_Part y_Part_homeOf w_Part_homeOf) := gV m_186 m_187 m_188 m_41 m_189
theorem g_Hop_Part_end : GoodIn wsA (wsV R_Hop 122 R_Part y_Part_end w_Part_end) := gV m_237 m_238 m_239 m_41 m_240
theorem g_Hop_Part_isPlace : GoodIn wsA (wsV R_Hop 114 R_Part y_Part_isPlace w_Part_isPlace) := gV m_388 m_389 m_390 m_41 m_391
theorem g_Hop_slotOrNone : GoodIn wsA (wsV R_Hop 40 R_Hop y_Hop_slotOrNone w_Hop_slotOrNone) := gV m_182 m_184 m_2 m_40 m_185
theorem g_Hop_keysIn : GoodIn wsA (wsV R_Hop 62 R_Hop y_Hop_keysIn w_Hop_keysIn) := gV m_329 m_331 m_18 m_40 m_332
theorem g_Hop_isBitSet : GoodIn wsA (wsV R_Hop 96 R_Hop y_Hop_isBitSet w_Hop_isBitSet) := gV m_211 m_213 m_6 m_40 m_214
theorem g_Hop_stepsToFree : GoodIn wsA (wsV R_Hop 126 R_Hop y_Hop_stepsToFree w_Hop_stepsToFree) := gV m_199 m_201 m_4 m_40 m_202
theorem g_Hop_copySlot : GoodIn wsA (wsV R_Hop 132 R_Hop y_Hop_copySlot w_Hop_copySlot) := gV m_215 m_217 m_7 m_40 m_218
theorem g_Hop_freeAll : GoodIn wsA (wsV R_Hop 70 R_Hop y_Hop_freeAll w_Hop_freeAll) := gV m_256 m_258 m_15 m_40 m_259
theorem g_Hop_sumOfCapacities : GoodIn wsA (wsV R_Hop 136 R_Hop y_Hop_sumOfCapacities w_Hop_sumOfCapacities) := gV m_223 m_225 m_9 m_40 m_226
theorem g_Hop_lastEnd : GoodIn wsA (wsV R_Hop 149 R_Hop y_Hop_lastEnd w_Hop_lastEnd) := gV m_233 m_235 m_11 m_40 m_236
theorem g_Hop_lowestFrom : GoodIn wsA (wsV R_Hop 161 R_Hop y_Hop_lowestFrom w_Hop_lowestFrom) := gV m_248 m_250 m_13 m_40 m_251
theorem g_Hop_moveDown : GoodIn wsA (wsV R_Hop 164 R_Hop y_Hop_moveDown w_Hop_moveDown) := gV m_252 m_254 m_14 m_40 m_255
theorem g_Hop_hopNearer : GoodIn wsA (wsV R_Hop 129 R_Hop y_Hop_hopNearer w_Hop_hopNearer) := gV m_203 m_205 m_5 m_40 m_206
theorem g_Hop_insert : GoodIn wsA (wsV R_Hop 44 R_Hop y_Hop_insert w_Hop_insert) := gV m_195 m_197 m_3 m_40 m_198
theorem g_Hop_insertAnew : GoodIn wsA (wsV R_Hop 145 R_Hop y_Hop_insertAnew w_Hop_insertAnew) := gV m_260 m_262 m_16 m_40 m_263
theorem g_Hop_pushTogether : GoodIn wsA (wsV R_Hop 152 R_Hop y_Hop_pushTogether w_Hop_pushTogether) := gV m_244 m_246 m_12 m_40 m_247
theorem g_Hop_layOut : GoodIn wsA (wsV R_Hop 141 R_Hop y_Hop_layOut w_Hop_layOut) := gV m_229 m_231 m_10 m_40 m_232
theorem g_Hop_growWith : GoodIn wsA (wsV R_Hop 48 R_Hop y_Hop_growWith w_Hop_growWith) := gV m_219 m_221 m_8 m_40 m_222
