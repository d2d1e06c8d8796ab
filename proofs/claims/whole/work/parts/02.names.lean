/-! names: classes, methods, their code -/
def wsA : List Cond := lw_tbl.filter goodWord
theorem mA {w : Cond} (h : w ∈ lw_tbl) (hg : goodWord w = true) : w ∈ wsA := List.mem_filter.mpr ⟨h, hg⟩
theorem gA {w : Cond} (h : w ∈ wsA) : (w.onTables && w.keeps) = true ∨ ∃ ty, w = .arrayClass ty := good_of_word (List.mem_filter.mp h).2
theorem gI {ws : List Cond} (h : ∀ w ∈ ws, w ∈ wsA) : GoodIn wsA ws := fun w hw => ⟨h w hw, gA (h w hw)⟩
theorem gC {y : MethodName} {b : ByteArray} {n : Nat} {r : Option FieldType} (h5 : Cond.code y b n r ∈ wsA) : ∀ w ∈ (Cond.code y b n r :: wsA), w ∈ wsA := fun w hw => by
  rcases List.mem_cons.mp hw with rfl | hw
  · exact h5
  · exact hw
theorem gV {own C : String} {idx : Nat} {y : MethodName} {b : ByteArray} {n : Nat} {r : Option FieldType} (h1 : Cond.methodLink own idx y ∈ wsA) (h2 : Cond.instanceMethod y ∈ wsA) (h3 : Cond.selects C y y ∈ wsA) (h4 : Cond.initialized C ∈ wsA) (h5 : Cond.code y b n r ∈ wsA) : GoodIn wsA (wsV own idx C y (Cond.code y b n r :: wsA)) := gI fun w hw => by
  unfold wsV at hw
  rcases List.mem_append.mp hw with hw | hw
  · simp only [List.mem_cons, List.not_mem_nil, or_false] at hw
    rcases hw with rfl | rfl | rfl | rfl
    · exact h1
    · exact h2
    · exact h3
    · exact h4
  · exact gC h5 w hw
theorem gS {own : String} {idx : Nat} {y : MethodName} {b : ByteArray} {n : Nat} {r : Option FieldType} (h1 : Cond.methodLink own idx y ∈ wsA) (h2 : Cond.static y ∈ wsA) (h4 : Cond.initialized own ∈ wsA) (h5 : Cond.code y b n r ∈ wsA) : GoodIn wsA (wsS own idx y (Cond.code y b n r :: wsA)) := gI fun w hw => by
  unfold wsS at hw
  rcases List.mem_append.mp hw with hw | hw
  · simp only [List.mem_cons, List.not_mem_nil, or_false] at hw
    rcases hw with rfl | rfl | rfl
    · exact h1
    · exact h2
    · exact h4
  · exact gC h5 w hw
def R_Hop : String := "HopArena"
def R_Part : String := "HopArena$Part"
def R_Mod : String := "HopArenaModel"
def R_Law : String := "HopArenaLaw"
theorem mx_code : Cond.code Lib.Math.max.name Lib.Math.max.code 2 (some .int) ∈ wsA := mA (List.mem_of_getElem? (i := 243) (by decide +kernel)) rfl
abbrev b_Part_init : ByteArray := prog_2_method_1_code
def y_Part_init : MethodName := ⟨R_Part, "<init>", "(III)V"⟩
def w_Part_init : List Cond := .code y_Part_init b_Part_init 4 (none) :: wsA
abbrev b_Part_homeOf : ByteArray := prog_2_method_4_code
def y_Part_homeOf : MethodName := ⟨R_Part, "homeOf", "(I)I"⟩
def w_Part_homeOf : List Cond := .code y_Part_homeOf b_Part_homeOf 2 (some .int) :: wsA
abbrev b_Part_slotOf : ByteArray := prog_2_method_3_code
def y_Part_slotOf : MethodName := ⟨R_Part, "slotOf", "(I)I"⟩
def w_Part_slotOf : List Cond := .code y_Part_slotOf b_Part_slotOf 2 (some .int) :: wsA
abbrev b_Part_around : ByteArray := prog_2_method_2_code
def y_Part_around : MethodName := ⟨R_Part, "around", "(I)I"⟩
def w_Part_around : List Cond := .code y_Part_around b_Part_around 2 (some .int) :: wsA
abbrev b_Part_end : ByteArray := prog_2_method_5_code
def y_Part_end : MethodName := ⟨R_Part, "end", "()I"⟩
def w_Part_end : List Cond := .code y_Part_end b_Part_end 1 (some .int) :: wsA
abbrev b_Part_isPlace : ByteArray := prog_2_method_6_code
def y_Part_isPlace : MethodName := ⟨R_Part, "isPlace", "(I)Z"⟩
def w_Part_isPlace : List Cond := .code y_Part_isPlace b_Part_isPlace 2 (some .boolean) :: wsA
abbrev b_Hop_init : ByteArray := prog_1_method_1_code
def y_Hop_init : MethodName := ⟨R_Hop, "<init>", "()V"⟩
def w_Hop_init : List Cond := .code y_Hop_init b_Hop_init 2 (none) :: wsA
abbrev b_Hop_put : ByteArray := prog_1_method_2_code
def y_Hop_put : MethodName := ⟨R_Hop, "put", "(III)Z"⟩
def w_Hop_put : List Cond := .code y_Hop_put b_Hop_put 6 (some .boolean) :: wsA
abbrev b_Hop_partOf : ByteArray := prog_1_method_15_code
def y_Hop_partOf : MethodName := ⟨R_Hop, "partOf", "(I)LHopArena$Part;"⟩
def w_Hop_partOf : List Cond := .code y_Hop_partOf b_Hop_partOf 2 (some (.object "HopArena$Part")) :: wsA
abbrev b_Hop_slotOrNone : ByteArray := prog_1_method_18_code
def y_Hop_slotOrNone : MethodName := ⟨R_Hop, "slotOrNone", "(LHopArena$Part;I)I"⟩
def w_Hop_slotOrNone : List Cond := .code y_Hop_slotOrNone b_Hop_slotOrNone 6 (some .int) :: wsA
abbrev b_Hop_insert : ByteArray := prog_1_method_22_code
def y_Hop_insert : MethodName := ⟨R_Hop, "insert", "(LHopArena$Part;II)Z"⟩
def w_Hop_insert : List Cond := .code y_Hop_insert b_Hop_insert 8 (some .boolean) :: wsA
abbrev b_Hop_stepsToFree : ByteArray := prog_1_method_23_code
def y_Hop_stepsToFree : MethodName := ⟨R_Hop, "stepsToFree", "(LHopArena$Part;I)I"⟩
def w_Hop_stepsToFree : List Cond := .code y_Hop_stepsToFree b_Hop_stepsToFree 4 (some .int) :: wsA
abbrev b_Hop_hopNearer : ByteArray := prog_1_method_24_code
def y_Hop_hopNearer : MethodName := ⟨R_Hop, "hopNearer", "(LHopArena$Part;I)I"⟩
def w_Hop_hopNearer : List Cond := .code y_Hop_hopNearer b_Hop_hopNearer 7 (some .int) :: wsA
abbrev b_Hop_isBitSet : ByteArray := prog_1_method_21_code
def y_Hop_isBitSet : MethodName := ⟨R_Hop, "isBitSet", "(LHopArena$Part;II)Z"⟩
def w_Hop_isBitSet : List Cond := .code y_Hop_isBitSet b_Hop_isBitSet 5 (some .boolean) :: wsA
abbrev b_Hop_copySlot : ByteArray := prog_1_method_25_code
def y_Hop_copySlot : MethodName := ⟨R_Hop, "copySlot", "(II)V"⟩
def w_Hop_copySlot : List Cond := .code y_Hop_copySlot b_Hop_copySlot 3 (none) :: wsA
abbrev b_Hop_growWith : ByteArray := prog_1_method_26_code
def y_Hop_growWith : MethodName := ⟨R_Hop, "growWith", "(III)Z"⟩
def w_Hop_growWith : List Cond := .code y_Hop_growWith b_Hop_growWith 10 (some .boolean) :: wsA
abbrev b_Hop_sumOfCapacities : ByteArray := prog_1_method_27_code
def y_Hop_sumOfCapacities : MethodName := ⟨R_Hop, "sumOfCapacities", "()I"⟩
def w_Hop_sumOfCapacities : List Cond := .code y_Hop_sumOfCapacities b_Hop_sumOfCapacities 3 (some .int) :: wsA
abbrev b_Hop_layOut : ByteArray := prog_1_method_28_code
def y_Hop_layOut : MethodName := ⟨R_Hop, "layOut", "(LHopArena$Part;II)V"⟩
def w_Hop_layOut : List Cond := .code y_Hop_layOut b_Hop_layOut 4 (none) :: wsA
abbrev b_Hop_lastEnd : ByteArray := prog_1_method_29_code
def y_Hop_lastEnd : MethodName := ⟨R_Hop, "lastEnd", "()I"⟩
def w_Hop_lastEnd : List Cond := .code y_Hop_lastEnd b_Hop_lastEnd 3 (some .int) :: wsA
abbrev b_Hop_pushTogether : ByteArray := prog_1_method_30_code
def y_Hop_pushTogether : MethodName := ⟨R_Hop, "pushTogether", "()V"⟩
def w_Hop_pushTogether : List Cond := .code y_Hop_pushTogether b_Hop_pushTogether 4 (none) :: wsA
abbrev b_Hop_lowestFrom : ByteArray := prog_1_method_31_code
def y_Hop_lowestFrom : MethodName := ⟨R_Hop, "lowestFrom", "(I)LHopArena$Part;"⟩
def w_Hop_lowestFrom : List Cond := .code y_Hop_lowestFrom b_Hop_lowestFrom 5 (some (.object "HopArena$Part")) :: wsA
abbrev b_Hop_moveDown : ByteArray := prog_1_method_32_code
def y_Hop_moveDown : MethodName := ⟨R_Hop, "moveDown", "(LHopArena$Part;I)V"⟩
def w_Hop_moveDown : List Cond := .code y_Hop_moveDown b_Hop_moveDown 4 (none) :: wsA
abbrev b_Hop_freeAll : ByteArray := prog_1_method_20_code
def y_Hop_freeAll : MethodName := ⟨R_Hop, "freeAll", "(LHopArena$Part;)V"⟩
def w_Hop_freeAll : List Cond := .code y_Hop_freeAll b_Hop_freeAll 3 (none) :: wsA
abbrev b_Hop_insertAnew : ByteArray := prog_1_method_33_code
def y_Hop_insertAnew : MethodName := ⟨R_Hop, "insertAnew", "(LHopArena$Part;LHopArena$Part;)Z"⟩
def w_Hop_insertAnew : List Cond := .code y_Hop_insertAnew b_Hop_insertAnew 4 (some .boolean) :: wsA
abbrev b_Hop_get : ByteArray := prog_1_method_3_code
def y_Hop_get : MethodName := ⟨R_Hop, "get", "(II)I"⟩
def w_Hop_get : List Cond := .code y_Hop_get b_Hop_get 3 (some .int) :: wsA
abbrev b_Hop_slotHolding : ByteArray := prog_1_method_17_code
def y_Hop_slotHolding : MethodName := ⟨R_Hop, "slotHolding", "(LHopArena$Part;I)I"⟩
def w_Hop_slotHolding : List Cond := .code y_Hop_slotHolding b_Hop_slotHolding 4 (some .int) :: wsA
abbrev b_Hop_remove : ByteArray := prog_1_method_4_code
def y_Hop_remove : MethodName := ⟨R_Hop, "remove", "(II)I"⟩
def w_Hop_remove : List Cond := .code y_Hop_remove b_Hop_remove 4 (some .int) :: wsA
abbrev b_Hop_has : ByteArray := prog_1_method_5_code
def y_Hop_has : MethodName := ⟨R_Hop, "has", "(II)Z"⟩
def w_Hop_has : List Cond := .code y_Hop_has b_Hop_has 3 (some .boolean) :: wsA
abbrev b_Hop_size : ByteArray := prog_1_method_6_code
def y_Hop_size : MethodName := ⟨R_Hop, "size", "(I)I"⟩
def w_Hop_size : List Cond := .code y_Hop_size b_Hop_size 2 (some .int) :: wsA
abbrev b_Hop_keysIn : ByteArray := prog_1_method_19_code
def y_Hop_keysIn : MethodName := ⟨R_Hop, "keysIn", "(LHopArena$Part;)I"⟩
def w_Hop_keysIn : List Cond := .code y_Hop_keysIn b_Hop_keysIn 4 (some .int) :: wsA
abbrev b_Hop_clear : ByteArray := prog_1_method_7_code
def y_Hop_clear : MethodName := ⟨R_Hop, "clear", "(I)I"⟩
def w_Hop_clear : List Cond := .code y_Hop_clear b_Hop_clear 4 (some .int) :: wsA
abbrev b_Hop_about : ByteArray := prog_1_method_8_code
def y_Hop_about : MethodName := ⟨R_Hop, "about", "(II)I"⟩
def w_Hop_about : List Cond := .code y_Hop_about b_Hop_about 4 (some .int) :: wsA
abbrev b_Hop_home : ByteArray := prog_1_method_9_code
def y_Hop_home : MethodName := ⟨R_Hop, "home", "(II)I"⟩
def w_Hop_home : List Cond := .code y_Hop_home b_Hop_home 3 (some .int) :: wsA
abbrev b_Hop_distance : ByteArray := prog_1_method_10_code
def y_Hop_distance : MethodName := ⟨R_Hop, "distance", "(II)I"⟩
def w_Hop_distance : List Cond := .code y_Hop_distance b_Hop_distance 5 (some .int) :: wsA
abbrev b_Hop_bits : ByteArray := prog_1_method_11_code
def y_Hop_bits : MethodName := ⟨R_Hop, "bits", "(II)I"⟩
def w_Hop_bits : List Cond := .code y_Hop_bits b_Hop_bits 6 (some .int) :: wsA
abbrev b_Hop_requirePlace : ByteArray := prog_1_method_16_code
def y_Hop_requirePlace : MethodName := ⟨R_Hop, "requirePlace", "(LHopArena$Part;I)V"⟩
def w_Hop_requirePlace : List Cond := .code y_Hop_requirePlace b_Hop_requirePlace 2 (none) :: wsA
abbrev b_Hop_next : ByteArray := prog_1_method_12_code
def y_Hop_next : MethodName := ⟨R_Hop, "next", "(II)I"⟩
def w_Hop_next : List Cond := .code y_Hop_next b_Hop_next 5 (some .int) :: wsA
abbrev b_Hop_key : ByteArray := prog_1_method_13_code
def y_Hop_key : MethodName := ⟨R_Hop, "key", "(II)I"⟩
def w_Hop_key : List Cond := .code y_Hop_key b_Hop_key 5 (some .int) :: wsA
abbrev b_Hop_count : ByteArray := prog_1_method_14_code
def y_Hop_count : MethodName := ⟨R_Hop, "count", "(I)I"⟩
def w_Hop_count : List Cond := .code y_Hop_count b_Hop_count 2 (some .int) :: wsA
def F_Part : u_T := fun k => match k with
  | 0 => ("HopArena$Part", "base", "I", false)
  | 1 => ("HopArena$Part", "capacity", "I", false)
  | _ => ("HopArena$Part", "seed", "I", false)
def t_Part : Nat → FieldType := fun k => match k with
  | 0 => .int
  | 1 => .int
  | _ => .int
theorem n_Part : ∀ a, a < 3 → ∀ b, b < 3 → a ≠ b → (F_Part a).2.1 ≠ (F_Part b).2.1 := by decide +kernel
theorem t_Part_ok : ∀ k, k < 3 → parseFieldDescriptor (F_Part k).2.2.1 = some (t_Part k) := by decide +kernel
theorem hin_Part : ∀ w ∈ u_ws R_Part F_Part 3, w ∈ wsA := by decide +kernel
def F_Hop : u_T := fun k => match k with
  | 0 => ("HopArena", "keys", "[I", true)
  | 1 => ("HopArena", "values", "[I", true)
  | 2 => ("HopArena", "taken", "[Z", true)
  | 3 => ("HopArena", "parts", "[LHopArena$Part;", true)
  | 4 => ("HopArena", "counts", "[I", true)
  | _ => ("HopArena", "spare", "LHopArena$Part;", false)
def t_Hop : Nat → FieldType := fun k => match k with
  | 0 => .array .int
  | 1 => .array .int
  | 2 => .array .boolean
  | 3 => .array (.object "HopArena$Part")
  | 4 => .array .int
  | _ => .object "HopArena$Part"
theorem n_Hop : ∀ a, a < 6 → ∀ b, b < 6 → a ≠ b → (F_Hop a).2.1 ≠ (F_Hop b).2.1 := by decide +kernel
theorem t_Hop_ok : ∀ k, k < 6 → parseFieldDescriptor (F_Hop k).2.2.1 = some (t_Hop k) := by decide +kernel
theorem hin_Hop : ∀ w ∈ u_ws R_Hop F_Hop 6, w ∈ wsA := by decide +kernel
abbrev hCl : List vw_C := [(R_Hop, F_Hop, 6), (R_Part, F_Part, 3)]
/-! words of the tables, by their places -/
theorem m_2 : (Jvm.Cond.selects "HopArena" (⟨"HopArena", "slotOrNone", "(LHopArena$Part;I)I"⟩ : MethodName) (⟨"HopArena", "slotOrNone", "(LHopArena$Part;I)I"⟩ : MethodName)) ∈ wsA := mA (List.mem_of_getElem? (i := 2) (by decide +kernel)) rfl
theorem m_3 : (Jvm.Cond.selects "HopArena" (⟨"HopArena", "insert", "(LHopArena$Part;II)Z"⟩ : MethodName) (⟨"HopArena", "insert", "(LHopArena$Part;II)Z"⟩ : MethodName)) ∈ wsA := mA (List.mem_of_getElem? (i := 3) (by decide +kernel)) rfl
theorem m_4 : (Jvm.Cond.selects "HopArena" (⟨"HopArena", "stepsToFree", "(LHopArena$Part;I)I"⟩ : MethodName) (⟨"HopArena", "stepsToFree", "(LHopArena$Part;I)I"⟩ : MethodName)) ∈ wsA := mA (List.mem_of_getElem? (i := 4) (by decide +kernel)) rfl
theorem m_5 : (Jvm.Cond.selects "HopArena" (⟨"HopArena", "hopNearer", "(LHopArena$Part;I)I"⟩ : MethodName) (⟨"HopArena", "hopNearer", "(LHopArena$Part;I)I"⟩ : MethodName)) ∈ wsA := mA (List.mem_of_getElem? (i := 5) (by decide +kernel)) rfl
theorem m_6 : (Jvm.Cond.selects "HopArena" (⟨"HopArena", "isBitSet", "(LHopArena$Part;II)Z"⟩ : MethodName) (⟨"HopArena", "isBitSet", "(LHopArena$Part;II)Z"⟩ : MethodName)) ∈ wsA := mA (List.mem_of_getElem? (i := 6) (by decide +kernel)) rfl
theorem m_7 : (Jvm.Cond.selects "HopArena" (⟨"HopArena", "copySlot", "(II)V"⟩ : MethodName) (⟨"HopArena", "copySlot", "(II)V"⟩ : MethodName)) ∈ wsA := mA (List.mem_of_getElem? (i := 7) (by decide +kernel)) rfl
theorem m_8 : (Jvm.Cond.selects "HopArena" (⟨"HopArena", "growWith", "(III)Z"⟩ : MethodName) (⟨"HopArena", "growWith", "(III)Z"⟩ : MethodName)) ∈ wsA := mA (List.mem_of_getElem? (i := 8) (by decide +kernel)) rfl
theorem m_9 : (Jvm.Cond.selects "HopArena" (⟨"HopArena", "sumOfCapacities", "()I"⟩ : MethodName) (⟨"HopArena", "sumOfCapacities", "()I"⟩ : MethodName)) ∈ wsA := mA (List.mem_of_getElem? (i := 9) (by decide +kernel)) rfl
theorem m_10 : (Jvm.Cond.selects "HopArena" (⟨"HopArena", "layOut", "(LHopArena$Part;II)V"⟩ : MethodName) (⟨"HopArena", "layOut", "(LHopArena$Part;II)V"⟩ : MethodName)) ∈ wsA := mA (List.mem_of_getElem? (i := 10) (by decide +kernel)) rfl
theorem m_11 : (Jvm.Cond.selects "HopArena" (⟨"HopArena", "lastEnd", "()I"⟩ : MethodName) (⟨"HopArena", "lastEnd", "()I"⟩ : MethodName)) ∈ wsA := mA (List.mem_of_getElem? (i := 11) (by decide +kernel)) rfl
theorem m_12 : (Jvm.Cond.selects "HopArena" (⟨"HopArena", "pushTogether", "()V"⟩ : MethodName) (⟨"HopArena", "pushTogether", "()V"⟩ : MethodName)) ∈ wsA := mA (List.mem_of_getElem? (i := 12) (by decide +kernel)) rfl
theorem m_13 : (Jvm.Cond.selects "HopArena" (⟨"HopArena", "lowestFrom", "(I)LHopArena$Part;"⟩ : MethodName) (⟨"HopArena", "lowestFrom", "(I)LHopArena$Part;"⟩ : MethodName)) ∈ wsA := mA (List.mem_of_getElem? (i := 13) (by decide +kernel)) rfl
theorem m_14 : (Jvm.Cond.selects "HopArena" (⟨"HopArena", "moveDown", "(LHopArena$Part;I)V"⟩ : MethodName) (⟨"HopArena", "moveDown", "(LHopArena$Part;I)V"⟩ : MethodName)) ∈ wsA := mA (List.mem_of_getElem? (i := 14) (by decide +kernel)) rfl
theorem m_15 : (Jvm.Cond.selects "HopArena" (⟨"HopArena", "freeAll", "(LHopArena$Part;)V"⟩ : MethodName) (⟨"HopArena", "freeAll", "(LHopArena$Part;)V"⟩ : MethodName)) ∈ wsA := mA (List.mem_of_getElem? (i := 15) (by decide +kernel)) rfl
theorem m_16 : (Jvm.Cond.selects "HopArena" (⟨"HopArena", "insertAnew", "(LHopArena$Part;LHopArena$Part;)Z"⟩ : MethodName) (⟨"HopArena", "insertAnew", "(LHopArena$Part;LHopArena$Part;)Z"⟩ : MethodName)) ∈ wsA := mA (List.mem_of_getElem? (i := 16) (by decide +kernel)) rfl
theorem m_18 : (Jvm.Cond.selects "HopArena" (⟨"HopArena", "keysIn", "(LHopArena$Part;)I"⟩ : MethodName) (⟨"HopArena", "keysIn", "(LHopArena$Part;)I"⟩ : MethodName)) ∈ wsA := mA (List.mem_of_getElem? (i := 18) (by decide +kernel)) rfl
theorem m_40 : (Jvm.Cond.initialized "HopArena") ∈ wsA := mA (List.mem_of_getElem? (i := 40) (by decide +kernel)) rfl
theorem m_41 : (Jvm.Cond.initialized "HopArena$Part") ∈ wsA := mA (List.mem_of_getElem? (i := 41) (by decide +kernel)) rfl
theorem m_47 : (Jvm.Cond.initialized "java/lang/Math") ∈ wsA := mA (List.mem_of_getElem? (i := 47) (by decide +kernel)) rfl
theorem m_66 : (Jvm.Cond.fieldLink "HopArena$Part" (7 : Nat) "HopArena$Part" "base" "I") ∈ wsA := mA (List.mem_of_getElem? (i := 66) (by decide +kernel)) rfl
theorem m_67 : (Jvm.Cond.fieldLink "HopArena" (74 : Nat) "HopArena$Part" "base" "I") ∈ wsA := mA (List.mem_of_getElem? (i := 67) (by decide +kernel)) rfl
theorem m_68 : (Jvm.Cond.fieldLink "HopArena$Part" (13 : Nat) "HopArena$Part" "capacity" "I") ∈ wsA := mA (List.mem_of_getElem? (i := 68) (by decide +kernel)) rfl
theorem m_69 : (Jvm.Cond.fieldLink "HopArena" (66 : Nat) "HopArena$Part" "capacity" "I") ∈ wsA := mA (List.mem_of_getElem? (i := 69) (by decide +kernel)) rfl
theorem m_70 : (Jvm.Cond.fieldLink "HopArena$Part" (16 : Nat) "HopArena$Part" "seed" "I") ∈ wsA := mA (List.mem_of_getElem? (i := 70) (by decide +kernel)) rfl
theorem m_71 : (Jvm.Cond.fieldLink "HopArena" (77 : Nat) "HopArena$Part" "seed" "I") ∈ wsA := mA (List.mem_of_getElem? (i := 71) (by decide +kernel)) rfl
theorem m_81 : (Jvm.Cond.fieldLink "HopArena" (9 : Nat) "HopArena" "keys" "[I") ∈ wsA := mA (List.mem_of_getElem? (i := 81) (by decide +kernel)) rfl
theorem m_82 : (Jvm.Cond.fieldLink "HopArena" (13 : Nat) "HopArena" "values" "[I") ∈ wsA := mA (List.mem_of_getElem? (i := 82) (by decide +kernel)) rfl
theorem m_83 : (Jvm.Cond.fieldLink "HopArena" (16 : Nat) "HopArena" "taken" "[Z") ∈ wsA := mA (List.mem_of_getElem? (i := 83) (by decide +kernel)) rfl
theorem m_84 : (Jvm.Cond.fieldLink "HopArena" (25 : Nat) "HopArena" "parts" "[LHopArena$Part;") ∈ wsA := mA (List.mem_of_getElem? (i := 84) (by decide +kernel)) rfl
theorem m_85 : (Jvm.Cond.fieldLink "HopArena" (20 : Nat) "HopArena" "counts" "[I") ∈ wsA := mA (List.mem_of_getElem? (i := 85) (by decide +kernel)) rfl
theorem m_86 : (Jvm.Cond.fieldLink "HopArena" (32 : Nat) "HopArena" "spare" "LHopArena$Part;") ∈ wsA := mA (List.mem_of_getElem? (i := 86) (by decide +kernel)) rfl
theorem m_182 : (Jvm.Cond.methodLink "HopArena" (40 : Nat) ({ cls := "HopArena", name := "slotOrNone", desc := "(LHopArena$Part;I)I" } : Jvm.MethodName)) ∈ wsA := mA (List.mem_of_getElem? (i := 182) (by decide +kernel)) rfl
theorem m_184 : (Jvm.Cond.instanceMethod ({ cls := "HopArena", name := "slotOrNone", desc := "(LHopArena$Part;I)I" } : Jvm.MethodName)) ∈ wsA := mA (List.mem_of_getElem? (i := 184) (by decide +kernel)) rfl
theorem m_185 : (Jvm.Cond.code ({ cls := "HopArena", name := "slotOrNone", desc := "(LHopArena$Part;I)I" } : Jvm.MethodName) prog_1_method_18_code (6 : Nat) (Option.some Jvm.ClassFile.FieldType.int)) ∈ wsA := mA (List.mem_of_getElem? (i := 185) (by decide +kernel)) rfl
theorem m_186 : (Jvm.Cond.methodLink "HopArena" (85 : Nat) ({ cls := "HopArena$Part", name := "homeOf", desc := "(I)I" } : Jvm.MethodName)) ∈ wsA := mA (List.mem_of_getElem? (i := 186) (by decide +kernel)) rfl
theorem m_187 : (Jvm.Cond.instanceMethod ({ cls := "HopArena$Part", name := "homeOf", desc := "(I)I" } : Jvm.MethodName)) ∈ wsA := mA (List.mem_of_getElem? (i := 187) (by decide +kernel)) rfl
theorem m_188 : (Jvm.Cond.selects "HopArena$Part" ({ cls := "HopArena$Part", name := "homeOf", desc := "(I)I" } : Jvm.MethodName) ({ cls := "HopArena$Part", name := "homeOf", desc := "(I)I" } : Jvm.MethodName)) ∈ wsA := mA (List.mem_of_getElem? (i := 188) (by decide +kernel)) rfl
theorem m_189 : (Jvm.Cond.code ({ cls := "HopArena$Part", name := "homeOf", desc := "(I)I" } : Jvm.MethodName) prog_2_method_4_code (2 : Nat) (Option.some Jvm.ClassFile.FieldType.int)) ∈ wsA := mA (List.mem_of_getElem? (i := 189) (by decide +kernel)) rfl
theorem m_190 : (Jvm.Cond.constant "HopArena$Part" (19 : Nat) (-1640531535 : Int32)) ∈ wsA := mA (List.mem_of_getElem? (i := 190) (by decide +kernel)) rfl
theorem m_191 : (Jvm.Cond.methodLink "HopArena" (99 : Nat) ({ cls := "HopArena$Part", name := "slotOf", desc := "(I)I" } : Jvm.MethodName)) ∈ wsA := mA (List.mem_of_getElem? (i := 191) (by decide +kernel)) rfl
theorem m_192 : (Jvm.Cond.instanceMethod ({ cls := "HopArena$Part", name := "slotOf", desc := "(I)I" } : Jvm.MethodName)) ∈ wsA := mA (List.mem_of_getElem? (i := 192) (by decide +kernel)) rfl
theorem m_193 : (Jvm.Cond.selects "HopArena$Part" ({ cls := "HopArena$Part", name := "slotOf", desc := "(I)I" } : Jvm.MethodName) ({ cls := "HopArena$Part", name := "slotOf", desc := "(I)I" } : Jvm.MethodName)) ∈ wsA := mA (List.mem_of_getElem? (i := 193) (by decide +kernel)) rfl
theorem m_194 : (Jvm.Cond.code ({ cls := "HopArena$Part", name := "slotOf", desc := "(I)I" } : Jvm.MethodName) prog_2_method_3_code (2 : Nat) (Option.some Jvm.ClassFile.FieldType.int)) ∈ wsA := mA (List.mem_of_getElem? (i := 194) (by decide +kernel)) rfl
theorem m_195 : (Jvm.Cond.methodLink "HopArena" (44 : Nat) ({ cls := "HopArena", name := "insert", desc := "(LHopArena$Part;II)Z" } : Jvm.MethodName)) ∈ wsA := mA (List.mem_of_getElem? (i := 195) (by decide +kernel)) rfl
theorem m_197 : (Jvm.Cond.instanceMethod ({ cls := "HopArena", name := "insert", desc := "(LHopArena$Part;II)Z" } : Jvm.MethodName)) ∈ wsA := mA (List.mem_of_getElem? (i := 197) (by decide +kernel)) rfl
theorem m_198 : (Jvm.Cond.code ({ cls := "HopArena", name := "insert", desc := "(LHopArena$Part;II)Z" } : Jvm.MethodName) prog_1_method_22_code (8 : Nat) (Option.some Jvm.ClassFile.FieldType.boolean)) ∈ wsA := mA (List.mem_of_getElem? (i := 198) (by decide +kernel)) rfl
theorem m_199 : (Jvm.Cond.methodLink "HopArena" (126 : Nat) ({ cls := "HopArena", name := "stepsToFree", desc := "(LHopArena$Part;I)I" } : Jvm.MethodName)) ∈ wsA := mA (List.mem_of_getElem? (i := 199) (by decide +kernel)) rfl
theorem m_201 : (Jvm.Cond.instanceMethod ({ cls := "HopArena", name := "stepsToFree", desc := "(LHopArena$Part;I)I" } : Jvm.MethodName)) ∈ wsA := mA (List.mem_of_getElem? (i := 201) (by decide +kernel)) rfl
theorem m_202 : (Jvm.Cond.code ({ cls := "HopArena", name := "stepsToFree", desc := "(LHopArena$Part;I)I" } : Jvm.MethodName) prog_1_method_23_code (4 : Nat) (Option.some Jvm.ClassFile.FieldType.int)) ∈ wsA := mA (List.mem_of_getElem? (i := 202) (by decide +kernel)) rfl
theorem m_203 : (Jvm.Cond.methodLink "HopArena" (129 : Nat) ({ cls := "HopArena", name := "hopNearer", desc := "(LHopArena$Part;I)I" } : Jvm.MethodName)) ∈ wsA := mA (List.mem_of_getElem? (i := 203) (by decide +kernel)) rfl
theorem m_205 : (Jvm.Cond.instanceMethod ({ cls := "HopArena", name := "hopNearer", desc := "(LHopArena$Part;I)I" } : Jvm.MethodName)) ∈ wsA := mA (List.mem_of_getElem? (i := 205) (by decide +kernel)) rfl
theorem m_206 : (Jvm.Cond.code ({ cls := "HopArena", name := "hopNearer", desc := "(LHopArena$Part;I)I" } : Jvm.MethodName) prog_1_method_24_code (7 : Nat) (Option.some Jvm.ClassFile.FieldType.int)) ∈ wsA := mA (List.mem_of_getElem? (i := 206) (by decide +kernel)) rfl
theorem m_207 : (Jvm.Cond.methodLink "HopArena" (89 : Nat) ({ cls := "HopArena$Part", name := "around", desc := "(I)I" } : Jvm.MethodName)) ∈ wsA := mA (List.mem_of_getElem? (i := 207) (by decide +kernel)) rfl
theorem m_208 : (Jvm.Cond.instanceMethod ({ cls := "HopArena$Part", name := "around", desc := "(I)I" } : Jvm.MethodName)) ∈ wsA := mA (List.mem_of_getElem? (i := 208) (by decide +kernel)) rfl
theorem m_209 : (Jvm.Cond.selects "HopArena$Part" ({ cls := "HopArena$Part", name := "around", desc := "(I)I" } : Jvm.MethodName) ({ cls := "HopArena$Part", name := "around", desc := "(I)I" } : Jvm.MethodName)) ∈ wsA := mA (List.mem_of_getElem? (i := 209) (by decide +kernel)) rfl
theorem m_210 : (Jvm.Cond.code ({ cls := "HopArena$Part", name := "around", desc := "(I)I" } : Jvm.MethodName) prog_2_method_2_code (2 : Nat) (Option.some Jvm.ClassFile.FieldType.int)) ∈ wsA := mA (List.mem_of_getElem? (i := 210) (by decide +kernel)) rfl
theorem m_211 : (Jvm.Cond.methodLink "HopArena" (96 : Nat) ({ cls := "HopArena", name := "isBitSet", desc := "(LHopArena$Part;II)Z" } : Jvm.MethodName)) ∈ wsA := mA (List.mem_of_getElem? (i := 211) (by decide +kernel)) rfl
theorem m_213 : (Jvm.Cond.instanceMethod ({ cls := "HopArena", name := "isBitSet", desc := "(LHopArena$Part;II)Z" } : Jvm.MethodName)) ∈ wsA := mA (List.mem_of_getElem? (i := 213) (by decide +kernel)) rfl
theorem m_214 : (Jvm.Cond.code ({ cls := "HopArena", name := "isBitSet", desc := "(LHopArena$Part;II)Z" } : Jvm.MethodName) prog_1_method_21_code (5 : Nat) (Option.some Jvm.ClassFile.FieldType.boolean)) ∈ wsA := mA (List.mem_of_getElem? (i := 214) (by decide +kernel)) rfl
theorem m_215 : (Jvm.Cond.methodLink "HopArena" (132 : Nat) ({ cls := "HopArena", name := "copySlot", desc := "(II)V" } : Jvm.MethodName)) ∈ wsA := mA (List.mem_of_getElem? (i := 215) (by decide +kernel)) rfl
theorem m_217 : (Jvm.Cond.instanceMethod ({ cls := "HopArena", name := "copySlot", desc := "(II)V" } : Jvm.MethodName)) ∈ wsA := mA (List.mem_of_getElem? (i := 217) (by decide +kernel)) rfl
theorem m_218 : (Jvm.Cond.code ({ cls := "HopArena", name := "copySlot", desc := "(II)V" } : Jvm.MethodName) prog_1_method_25_code (3 : Nat) (Option.none : Option Jvm.ClassFile.FieldType)) ∈ wsA := mA (List.mem_of_getElem? (i := 218) (by decide +kernel)) rfl
theorem m_219 : (Jvm.Cond.methodLink "HopArena" (48 : Nat) ({ cls := "HopArena", name := "growWith", desc := "(III)Z" } : Jvm.MethodName)) ∈ wsA := mA (List.mem_of_getElem? (i := 219) (by decide +kernel)) rfl
theorem m_221 : (Jvm.Cond.instanceMethod ({ cls := "HopArena", name := "growWith", desc := "(III)Z" } : Jvm.MethodName)) ∈ wsA := mA (List.mem_of_getElem? (i := 221) (by decide +kernel)) rfl
theorem m_222 : (Jvm.Cond.code ({ cls := "HopArena", name := "growWith", desc := "(III)Z" } : Jvm.MethodName) prog_1_method_26_code (10 : Nat) (Option.some Jvm.ClassFile.FieldType.boolean)) ∈ wsA := mA (List.mem_of_getElem? (i := 222) (by decide +kernel)) rfl
theorem m_223 : (Jvm.Cond.methodLink "HopArena" (136 : Nat) ({ cls := "HopArena", name := "sumOfCapacities", desc := "()I" } : Jvm.MethodName)) ∈ wsA := mA (List.mem_of_getElem? (i := 223) (by decide +kernel)) rfl
theorem m_225 : (Jvm.Cond.instanceMethod ({ cls := "HopArena", name := "sumOfCapacities", desc := "()I" } : Jvm.MethodName)) ∈ wsA := mA (List.mem_of_getElem? (i := 225) (by decide +kernel)) rfl
theorem m_226 : (Jvm.Cond.code ({ cls := "HopArena", name := "sumOfCapacities", desc := "()I" } : Jvm.MethodName) prog_1_method_27_code (3 : Nat) (Option.some Jvm.ClassFile.FieldType.int)) ∈ wsA := mA (List.mem_of_getElem? (i := 226) (by decide +kernel)) rfl
theorem m_229 : (Jvm.Cond.methodLink "HopArena" (141 : Nat) ({ cls := "HopArena", name := "layOut", desc := "(LHopArena$Part;II)V" } : Jvm.MethodName)) ∈ wsA := mA (List.mem_of_getElem? (i := 229) (by decide +kernel)) rfl
theorem m_231 : (Jvm.Cond.instanceMethod ({ cls := "HopArena", name := "layOut", desc := "(LHopArena$Part;II)V" } : Jvm.MethodName)) ∈ wsA := mA (List.mem_of_getElem? (i := 231) (by decide +kernel)) rfl
theorem m_232 : (Jvm.Cond.code ({ cls := "HopArena", name := "layOut", desc := "(LHopArena$Part;II)V" } : Jvm.MethodName) prog_1_method_28_code (4 : Nat) (Option.none : Option Jvm.ClassFile.FieldType)) ∈ wsA := mA (List.mem_of_getElem? (i := 232) (by decide +kernel)) rfl
theorem m_233 : (Jvm.Cond.methodLink "HopArena" (149 : Nat) ({ cls := "HopArena", name := "lastEnd", desc := "()I" } : Jvm.MethodName)) ∈ wsA := mA (List.mem_of_getElem? (i := 233) (by decide +kernel)) rfl
theorem m_235 : (Jvm.Cond.instanceMethod ({ cls := "HopArena", name := "lastEnd", desc := "()I" } : Jvm.MethodName)) ∈ wsA := mA (List.mem_of_getElem? (i := 235) (by decide +kernel)) rfl
theorem m_236 : (Jvm.Cond.code ({ cls := "HopArena", name := "lastEnd", desc := "()I" } : Jvm.MethodName) prog_1_method_29_code (3 : Nat) (Option.some Jvm.ClassFile.FieldType.int)) ∈ wsA := mA (List.mem_of_getElem? (i := 236) (by decide +kernel)) rfl
theorem m_237 : (Jvm.Cond.methodLink "HopArena" (122 : Nat) ({ cls := "HopArena$Part", name := "end", desc := "()I" } : Jvm.MethodName)) ∈ wsA := mA (List.mem_of_getElem? (i := 237) (by decide +kernel)) rfl
theorem m_238 : (Jvm.Cond.instanceMethod ({ cls := "HopArena$Part", name := "end", desc := "()I" } : Jvm.MethodName)) ∈ wsA := mA (List.mem_of_getElem? (i := 238) (by decide +kernel)) rfl
theorem m_239 : (Jvm.Cond.selects "HopArena$Part" ({ cls := "HopArena$Part", name := "end", desc := "()I" } : Jvm.MethodName) ({ cls := "HopArena$Part", name := "end", desc := "()I" } : Jvm.MethodName)) ∈ wsA := mA (List.mem_of_getElem? (i := 239) (by decide +kernel)) rfl
theorem m_240 : (Jvm.Cond.code ({ cls := "HopArena$Part", name := "end", desc := "()I" } : Jvm.MethodName) prog_2_method_5_code (1 : Nat) (Option.some Jvm.ClassFile.FieldType.int)) ∈ wsA := mA (List.mem_of_getElem? (i := 240) (by decide +kernel)) rfl
theorem m_241 : (Jvm.Cond.methodLink "HopArena" (155 : Nat) ({ cls := "java/lang/Math", name := "max", desc := "(II)I" } : Jvm.MethodName)) ∈ wsA := mA (List.mem_of_getElem? (i := 241) (by decide +kernel)) rfl
theorem m_242 : (Jvm.Cond.static ({ cls := "java/lang/Math", name := "max", desc := "(II)I" } : Jvm.MethodName)) ∈ wsA := mA (List.mem_of_getElem? (i := 242) (by decide +kernel)) rfl
theorem m_244 : (Jvm.Cond.methodLink "HopArena" (152 : Nat) ({ cls := "HopArena", name := "pushTogether", desc := "()V" } : Jvm.MethodName)) ∈ wsA := mA (List.mem_of_getElem? (i := 244) (by decide +kernel)) rfl
theorem m_246 : (Jvm.Cond.instanceMethod ({ cls := "HopArena", name := "pushTogether", desc := "()V" } : Jvm.MethodName)) ∈ wsA := mA (List.mem_of_getElem? (i := 246) (by decide +kernel)) rfl
theorem m_247 : (Jvm.Cond.code ({ cls := "HopArena", name := "pushTogether", desc := "()V" } : Jvm.MethodName) prog_1_method_30_code (4 : Nat) (Option.none : Option Jvm.ClassFile.FieldType)) ∈ wsA := mA (List.mem_of_getElem? (i := 247) (by decide +kernel)) rfl
theorem m_248 : (Jvm.Cond.methodLink "HopArena" (161 : Nat) ({ cls := "HopArena", name := "lowestFrom", desc := "(I)LHopArena$Part;" } : Jvm.MethodName)) ∈ wsA := mA (List.mem_of_getElem? (i := 248) (by decide +kernel)) rfl
theorem m_250 : (Jvm.Cond.instanceMethod ({ cls := "HopArena", name := "lowestFrom", desc := "(I)LHopArena$Part;" } : Jvm.MethodName)) ∈ wsA := mA (List.mem_of_getElem? (i := 250) (by decide +kernel)) rfl
theorem m_251 : (Jvm.Cond.code ({ cls := "HopArena", name := "lowestFrom", desc := "(I)LHopArena$Part;" } : Jvm.MethodName) prog_1_method_31_code (5 : Nat) (Option.some (Jvm.ClassFile.FieldType.object "HopArena$Part"))) ∈ wsA := mA (List.mem_of_getElem? (i := 251) (by decide +kernel)) rfl
theorem m_252 : (Jvm.Cond.methodLink "HopArena" (164 : Nat) ({ cls := "HopArena", name := "moveDown", desc := "(LHopArena$Part;I)V" } : Jvm.MethodName)) ∈ wsA := mA (List.mem_of_getElem? (i := 252) (by decide +kernel)) rfl
theorem m_254 : (Jvm.Cond.instanceMethod ({ cls := "HopArena", name := "moveDown", desc := "(LHopArena$Part;I)V" } : Jvm.MethodName)) ∈ wsA := mA (List.mem_of_getElem? (i := 254) (by decide +kernel)) rfl
theorem m_255 : (Jvm.Cond.code ({ cls := "HopArena", name := "moveDown", desc := "(LHopArena$Part;I)V" } : Jvm.MethodName) prog_1_method_32_code (4 : Nat) (Option.none : Option Jvm.ClassFile.FieldType)) ∈ wsA := mA (List.mem_of_getElem? (i := 255) (by decide +kernel)) rfl
theorem m_256 : (Jvm.Cond.methodLink "HopArena" (70 : Nat) ({ cls := "HopArena", name := "freeAll", desc := "(LHopArena$Part;)V" } : Jvm.MethodName)) ∈ wsA := mA (List.mem_of_getElem? (i := 256) (by decide +kernel)) rfl
theorem m_258 : (Jvm.Cond.instanceMethod ({ cls := "HopArena", name := "freeAll", desc := "(LHopArena$Part;)V" } : Jvm.MethodName)) ∈ wsA := mA (List.mem_of_getElem? (i := 258) (by decide +kernel)) rfl
theorem m_259 : (Jvm.Cond.code ({ cls := "HopArena", name := "freeAll", desc := "(LHopArena$Part;)V" } : Jvm.MethodName) prog_1_method_20_code (3 : Nat) (Option.none : Option Jvm.ClassFile.FieldType)) ∈ wsA := mA (List.mem_of_getElem? (i := 259) (by decide +kernel)) rfl
theorem m_260 : (Jvm.Cond.methodLink "HopArena" (145 : Nat) ({ cls := "HopArena", name := "insertAnew", desc := "(LHopArena$Part;LHopArena$Part;)Z" } : Jvm.MethodName)) ∈ wsA := mA (List.mem_of_getElem? (i := 260) (by decide +kernel)) rfl
theorem m_262 : (Jvm.Cond.instanceMethod ({ cls := "HopArena", name := "insertAnew", desc := "(LHopArena$Part;LHopArena$Part;)Z" } : Jvm.MethodName)) ∈ wsA := mA (List.mem_of_getElem? (i := 262) (by decide +kernel)) rfl
theorem m_263 : (Jvm.Cond.code ({ cls := "HopArena", name := "insertAnew", desc := "(LHopArena$Part;LHopArena$Part;)Z" } : Jvm.MethodName) prog_1_method_33_code (4 : Nat) (Option.some Jvm.ClassFile.FieldType.boolean)) ∈ wsA := mA (List.mem_of_getElem? (i := 263) (by decide +kernel)) rfl
theorem m_329 : (Jvm.Cond.methodLink "HopArena" (62 : Nat) ({ cls := "HopArena", name := "keysIn", desc := "(LHopArena$Part;)I" } : Jvm.MethodName)) ∈ wsA := mA (List.mem_of_getElem? (i := 329) (by decide +kernel)) rfl
theorem m_331 : (Jvm.Cond.instanceMethod ({ cls := "HopArena", name := "keysIn", desc := "(LHopArena$Part;)I" } : Jvm.MethodName)) ∈ wsA := mA (List.mem_of_getElem? (i := 331) (by decide +kernel)) rfl
theorem m_332 : (Jvm.Cond.code ({ cls := "HopArena", name := "keysIn", desc := "(LHopArena$Part;)I" } : Jvm.MethodName) prog_1_method_19_code (4 : Nat) (Option.some Jvm.ClassFile.FieldType.int)) ∈ wsA := mA (List.mem_of_getElem? (i := 332) (by decide +kernel)) rfl
theorem m_388 : (Jvm.Cond.methodLink "HopArena" (114 : Nat) ({ cls := "HopArena$Part", name := "isPlace", desc := "(I)Z" } : Jvm.MethodName)) ∈ wsA := mA (List.mem_of_getElem? (i := 388) (by decide +kernel)) rfl
theorem m_389 : (Jvm.Cond.instanceMethod ({ cls := "HopArena$Part", name := "isPlace", desc := "(I)Z" } : Jvm.MethodName)) ∈ wsA := mA (List.mem_of_getElem? (i := 389) (by decide +kernel)) rfl
theorem m_390 : (Jvm.Cond.selects "HopArena$Part" ({ cls := "HopArena$Part", name := "isPlace", desc := "(I)Z" } : Jvm.MethodName) ({ cls := "HopArena$Part", name := "isPlace", desc := "(I)Z" } : Jvm.MethodName)) ∈ wsA := mA (List.mem_of_getElem? (i := 390) (by decide +kernel)) rfl
theorem m_391 : (Jvm.Cond.code ({ cls := "HopArena$Part", name := "isPlace", desc := "(I)Z" } : Jvm.MethodName) prog_2_method_6_code (2 : Nat) (Option.some Jvm.ClassFile.FieldType.boolean)) ∈ wsA := mA (List.mem_of_getElem? (i := 391) (by decide +kernel)) rfl
theorem g_Hop_Part_around : GoodIn wsA (wsV R_Hop 89 R_Part y_Part_around w_Part_around) := gV m_207 m_208 m_209 m_41 m_210
theorem g_Hop_Part_slotOf : GoodIn wsA (wsV R_Hop 99 R_Part y_Part_slotOf w_Part_slotOf) := gV m_191 m_192 m_193 m_41 m_194
theorem g_Hop_Part_homeOf : GoodIn wsA (wsV R_Hop 85 R_Part y_Part_homeOf w_Part_homeOf) := gV m_186 m_187 m_188 m_41 m_189
theorem g_Hop_Part_end : GoodIn wsA (wsV R_Hop 122 R_Part y_Part_end w_Part_end) := gV m_237 m_238 m_239 m_41 m_240
theorem g_Hop_Part_isPlace : GoodIn wsA (wsV R_Hop 114 R_Part y_Part_isPlace w_Part_isPlace) := gV m_388 m_389 m_390 m_41 m_391
theorem g_Hop_slotOrNone : GoodIn wsA (wsV R_Hop 40 R_Hop y_Hop_slotOrNone w_Hop_slotOrNone) := gV m_182 m_184 m_2 m_40 m_185
theorem g_Hop_keysIn : GoodIn wsA (wsV R_Hop 62 R_Hop y_Hop_keysIn w_Hop_keysIn) := gV m_329 m_331 m_18 m_40 m_332
theorem g_Hop_isBitSet : GoodIn wsA (wsV R_Hop 96 R_Hop y_Hop_isBitSet w_Hop_isBitSet) := gV m_211 m_213 m_6 m_40 m_214
theorem g_Hop_stepsToFree : GoodIn wsA (wsV R_Hop 126 R_Hop y_Hop_stepsToFree w_Hop_stepsToFree) := gV m_199 m_201 m_4 m_40 m_202
theorem g_Hop_copySlot : GoodIn wsA (wsV R_Hop 132 R_Hop y_Hop_copySlot w_Hop_copySlot) := gV m_215 m_217 m_7 m_40 m_218
theorem g_Hop_freeAll : GoodIn wsA (wsV R_Hop 70 R_Hop y_Hop_freeAll w_Hop_freeAll) := gV m_256 m_258 m_15 m_40 m_259
theorem g_Hop_sumOfCapacities : GoodIn wsA (wsV R_Hop 136 R_Hop y_Hop_sumOfCapacities w_Hop_sumOfCapacities) := gV m_223 m_225 m_9 m_40 m_226
theorem g_Hop_lastEnd : GoodIn wsA (wsV R_Hop 149 R_Hop y_Hop_lastEnd w_Hop_lastEnd) := gV m_233 m_235 m_11 m_40 m_236
theorem g_Hop_lowestFrom : GoodIn wsA (wsV R_Hop 161 R_Hop y_Hop_lowestFrom w_Hop_lowestFrom) := gV m_248 m_250 m_13 m_40 m_251
theorem g_Hop_moveDown : GoodIn wsA (wsV R_Hop 164 R_Hop y_Hop_moveDown w_Hop_moveDown) := gV m_252 m_254 m_14 m_40 m_255
theorem g_Hop_hopNearer : GoodIn wsA (wsV R_Hop 129 R_Hop y_Hop_hopNearer w_Hop_hopNearer) := gV m_203 m_205 m_5 m_40 m_206
theorem g_Hop_insert : GoodIn wsA (wsV R_Hop 44 R_Hop y_Hop_insert w_Hop_insert) := gV m_195 m_197 m_3 m_40 m_198
theorem g_Hop_insertAnew : GoodIn wsA (wsV R_Hop 145 R_Hop y_Hop_insertAnew w_Hop_insertAnew) := gV m_260 m_262 m_16 m_40 m_263
theorem g_Hop_pushTogether : GoodIn wsA (wsV R_Hop 152 R_Hop y_Hop_pushTogether w_Hop_pushTogether) := gV m_244 m_246 m_12 m_40 m_247
theorem g_Hop_layOut : GoodIn wsA (wsV R_Hop 141 R_Hop y_Hop_layOut w_Hop_layOut) := gV m_229 m_231 m_10 m_40 m_232
theorem g_Hop_growWith : GoodIn wsA (wsV R_Hop 48 R_Hop y_Hop_growWith w_Hop_growWith) := gV m_219 m_221 m_8 m_40 m_222
