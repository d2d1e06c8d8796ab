section
-- ===== PART A: goes FIRST, ahead of the names: the tables' words, and 'selects' of the private methods out of them =====
/-- a private method of a class that the tables say can be made, by its rows of tables_1 -/
def lw_okq (q : MethodName × Nat) : Prop := (q.1.cls ≠ "java/lang/invoke/MethodHandle" ∧ q.1.cls ≠ "java/lang/invoke/VarHandle") ∧ Cond.instantiable q.1.cls q.2 ∈ tables_1 ∧ Cond.privateMethod q.1 ∈ tables_1 ∧ Cond.instanceMethod q.1 ∈ tables_1
theorem lw_p0 : lw_okq (⟨"HopArena", "partOf", "(I)LHopArena$Part;"⟩, 6) := ⟨⟨by decide +kernel, by decide +kernel⟩, List.mem_of_getElem? (i := 13) (by decide +kernel), List.mem_of_getElem? (i := 71) (by decide +kernel), List.mem_of_getElem? (i := 72) (by decide +kernel)⟩
theorem lw_p1 : lw_okq (⟨"java/lang/Throwable", "fillInStackTrace", "(I)Ljava/lang/Throwable;"⟩, 6) := ⟨⟨by decide +kernel, by decide +kernel⟩, List.mem_of_getElem? (i := 114) (by decide +kernel), List.mem_of_getElem? (i := 112) (by decide +kernel), List.mem_of_getElem? (i := 113) (by decide +kernel)⟩
theorem lw_p2 : lw_okq (⟨"HopArena", "slotOrNone", "(LHopArena$Part;I)I"⟩, 6) := ⟨⟨by decide +kernel, by decide +kernel⟩, List.mem_of_getElem? (i := 13) (by decide +kernel), List.mem_of_getElem? (i := 144) (by decide +kernel), List.mem_of_getElem? (i := 145) (by decide +kernel)⟩
theorem lw_p3 : lw_okq (⟨"HopArena", "insert", "(LHopArena$Part;II)Z"⟩, 6) := ⟨⟨by decide +kernel, by decide +kernel⟩, List.mem_of_getElem? (i := 13) (by decide +kernel), List.mem_of_getElem? (i := 157) (by decide +kernel), List.mem_of_getElem? (i := 158) (by decide +kernel)⟩
theorem lw_p4 : lw_okq (⟨"HopArena", "stepsToFree", "(LHopArena$Part;I)I"⟩, 6) := ⟨⟨by decide +kernel, by decide +kernel⟩, List.mem_of_getElem? (i := 13) (by decide +kernel), List.mem_of_getElem? (i := 161) (by decide +kernel), List.mem_of_getElem? (i := 162) (by decide +kernel)⟩
theorem lw_p5 : lw_okq (⟨"HopArena", "hopNearer", "(LHopArena$Part;I)I"⟩, 6) := ⟨⟨by decide +kernel, by decide +kernel⟩, List.mem_of_getElem? (i := 13) (by decide +kernel), List.mem_of_getElem? (i := 165) (by decide +kernel), List.mem_of_getElem? (i := 166) (by decide +kernel)⟩
theorem lw_p6 : lw_okq (⟨"HopArena", "isBitSet", "(LHopArena$Part;II)Z"⟩, 6) := ⟨⟨by decide +kernel, by decide +kernel⟩, List.mem_of_getElem? (i := 13) (by decide +kernel), List.mem_of_getElem? (i := 173) (by decide +kernel), List.mem_of_getElem? (i := 174) (by decide +kernel)⟩
theorem lw_p7 : lw_okq (⟨"HopArena", "copySlot", "(II)V"⟩, 6) := ⟨⟨by decide +kernel, by decide +kernel⟩, List.mem_of_getElem? (i := 13) (by decide +kernel), List.mem_of_getElem? (i := 177) (by decide +kernel), List.mem_of_getElem? (i := 178) (by decide +kernel)⟩
theorem lw_p8 : lw_okq (⟨"HopArena", "growWith", "(III)Z"⟩, 6) := ⟨⟨by decide +kernel, by decide +kernel⟩, List.mem_of_getElem? (i := 13) (by decide +kernel), List.mem_of_getElem? (i := 181) (by decide +kernel), List.mem_of_getElem? (i := 182) (by decide +kernel)⟩
theorem lw_p9 : lw_okq (⟨"HopArena", "sumOfCapacities", "()I"⟩, 6) := ⟨⟨by decide +kernel, by decide +kernel⟩, List.mem_of_getElem? (i := 13) (by decide +kernel), List.mem_of_getElem? (i := 185) (by decide +kernel), List.mem_of_getElem? (i := 186) (by decide +kernel)⟩
theorem lw_p10 : lw_okq (⟨"HopArena", "layOut", "(LHopArena$Part;II)V"⟩, 6) := ⟨⟨by decide +kernel, by decide +kernel⟩, List.mem_of_getElem? (i := 13) (by decide +kernel), List.mem_of_getElem? (i := 191) (by decide +kernel), List.mem_of_getElem? (i := 192) (by decide +kernel)⟩
theorem lw_p11 : lw_okq (⟨"HopArena", "lastEnd", "()I"⟩, 6) := ⟨⟨by decide +kernel, by decide +kernel⟩, List.mem_of_getElem? (i := 13) (by decide +kernel), List.mem_of_getElem? (i := 195) (by decide +kernel), List.mem_of_getElem? (i := 196) (by decide +kernel)⟩
theorem lw_p12 : lw_okq (⟨"HopArena", "pushTogether", "()V"⟩, 6) := ⟨⟨by decide +kernel, by decide +kernel⟩, List.mem_of_getElem? (i := 13) (by decide +kernel), List.mem_of_getElem? (i := 206) (by decide +kernel), List.mem_of_getElem? (i := 207) (by decide +kernel)⟩
theorem lw_p13 : lw_okq (⟨"HopArena", "lowestFrom", "(I)LHopArena$Part;"⟩, 6) := ⟨⟨by decide +kernel, by decide +kernel⟩, List.mem_of_getElem? (i := 13) (by decide +kernel), List.mem_of_getElem? (i := 210) (by decide +kernel), List.mem_of_getElem? (i := 211) (by decide +kernel)⟩
theorem lw_p14 : lw_okq (⟨"HopArena", "moveDown", "(LHopArena$Part;I)V"⟩, 6) := ⟨⟨by decide +kernel, by decide +kernel⟩, List.mem_of_getElem? (i := 13) (by decide +kernel), List.mem_of_getElem? (i := 214) (by decide +kernel), List.mem_of_getElem? (i := 215) (by decide +kernel)⟩
theorem lw_p15 : lw_okq (⟨"HopArena", "freeAll", "(LHopArena$Part;)V"⟩, 6) := ⟨⟨by decide +kernel, by decide +kernel⟩, List.mem_of_getElem? (i := 13) (by decide +kernel), List.mem_of_getElem? (i := 218) (by decide +kernel), List.mem_of_getElem? (i := 219) (by decide +kernel)⟩
def lw_privs_1 : List (MethodName × Nat) := [(⟨"HopArena", "partOf", "(I)LHopArena$Part;"⟩, 6), (⟨"java/lang/Throwable", "fillInStackTrace", "(I)Ljava/lang/Throwable;"⟩, 6), (⟨"HopArena", "slotOrNone", "(LHopArena$Part;I)I"⟩, 6), (⟨"HopArena", "insert", "(LHopArena$Part;II)Z"⟩, 6), (⟨"HopArena", "stepsToFree", "(LHopArena$Part;I)I"⟩, 6), (⟨"HopArena", "hopNearer", "(LHopArena$Part;I)I"⟩, 6), (⟨"HopArena", "isBitSet", "(LHopArena$Part;II)Z"⟩, 6), (⟨"HopArena", "copySlot", "(II)V"⟩, 6), (⟨"HopArena", "growWith", "(III)Z"⟩, 6), (⟨"HopArena", "sumOfCapacities", "()I"⟩, 6), (⟨"HopArena", "layOut", "(LHopArena$Part;II)V"⟩, 6), (⟨"HopArena", "lastEnd", "()I"⟩, 6), (⟨"HopArena", "pushTogether", "()V"⟩, 6), (⟨"HopArena", "lowestFrom", "(I)LHopArena$Part;"⟩, 6), (⟨"HopArena", "moveDown", "(LHopArena$Part;I)V"⟩, 6), (⟨"HopArena", "freeAll", "(LHopArena$Part;)V"⟩, 6)]
theorem lw_r1 : ∀ q ∈ lw_privs_1, lw_okq q := List.forall_mem_cons.mpr ⟨lw_p0, List.forall_mem_cons.mpr ⟨lw_p1, List.forall_mem_cons.mpr ⟨lw_p2, List.forall_mem_cons.mpr ⟨lw_p3, List.forall_mem_cons.mpr ⟨lw_p4, List.forall_mem_cons.mpr ⟨lw_p5, List.forall_mem_cons.mpr ⟨lw_p6, List.forall_mem_cons.mpr ⟨lw_p7, List.forall_mem_cons.mpr ⟨lw_p8, List.forall_mem_cons.mpr ⟨lw_p9, List.forall_mem_cons.mpr ⟨lw_p10, List.forall_mem_cons.mpr ⟨lw_p11, List.forall_mem_cons.mpr ⟨lw_p12, List.forall_mem_cons.mpr ⟨lw_p13, List.forall_mem_cons.mpr ⟨lw_p14, List.forall_mem_cons.mpr ⟨lw_p15, fun _ h => absurd h List.not_mem_nil⟩⟩⟩⟩⟩⟩⟩⟩⟩⟩⟩⟩⟩⟩⟩⟩
theorem lw_p16 : lw_okq (⟨"HopArena", "insertAnew", "(LHopArena$Part;LHopArena$Part;)Z"⟩, 6) := ⟨⟨by decide +kernel, by decide +kernel⟩, List.mem_of_getElem? (i := 13) (by decide +kernel), List.mem_of_getElem? (i := 222) (by decide +kernel), List.mem_of_getElem? (i := 223) (by decide +kernel)⟩
theorem lw_p17 : lw_okq (⟨"HopArena", "slotHolding", "(LHopArena$Part;I)I"⟩, 6) := ⟨⟨by decide +kernel, by decide +kernel⟩, List.mem_of_getElem? (i := 13) (by decide +kernel), List.mem_of_getElem? (i := 250) (by decide +kernel), List.mem_of_getElem? (i := 251) (by decide +kernel)⟩
theorem lw_p18 : lw_okq (⟨"HopArena", "keysIn", "(LHopArena$Part;)I"⟩, 6) := ⟨⟨by decide +kernel, by decide +kernel⟩, List.mem_of_getElem? (i := 13) (by decide +kernel), List.mem_of_getElem? (i := 291) (by decide +kernel), List.mem_of_getElem? (i := 292) (by decide +kernel)⟩
theorem lw_p19 : lw_okq (⟨"HopArenaModel", "isMap", "(I)Z"⟩, 14) := ⟨⟨by decide +kernel, by decide +kernel⟩, List.mem_of_getElem? (i := 378) (by decide +kernel), List.mem_of_getElem? (i := 435) (by decide +kernel), List.mem_of_getElem? (i := 436) (by decide +kernel)⟩
theorem lw_p20 : lw_okq (⟨"HopArenaModel", "placeOf", "(II)I"⟩, 14) := ⟨⟨by decide +kernel, by decide +kernel⟩, List.mem_of_getElem? (i := 378) (by decide +kernel), List.mem_of_getElem? (i := 442) (by decide +kernel), List.mem_of_getElem? (i := 443) (by decide +kernel)⟩
theorem lw_p21 : lw_okq (⟨"HopArenaModel", "insert", "(III)Z"⟩, 14) := ⟨⟨by decide +kernel, by decide +kernel⟩, List.mem_of_getElem? (i := 378) (by decide +kernel), List.mem_of_getElem? (i := 446) (by decide +kernel), List.mem_of_getElem? (i := 447) (by decide +kernel)⟩
theorem lw_p22 : lw_okq (⟨"HopArenaModel", "homeOf", "(II)I"⟩, 14) := ⟨⟨by decide +kernel, by decide +kernel⟩, List.mem_of_getElem? (i := 378) (by decide +kernel), List.mem_of_getElem? (i := 450) (by decide +kernel), List.mem_of_getElem? (i := 451) (by decide +kernel)⟩
theorem lw_p23 : lw_okq (⟨"HopArenaModel", "behind", "(III)I"⟩, 14) := ⟨⟨by decide +kernel, by decide +kernel⟩, List.mem_of_getElem? (i := 378) (by decide +kernel), List.mem_of_getElem? (i := 455) (by decide +kernel), List.mem_of_getElem? (i := 456) (by decide +kernel)⟩
theorem lw_p24 : lw_okq (⟨"HopArenaModel", "mover", "(II)I"⟩, 14) := ⟨⟨by decide +kernel, by decide +kernel⟩, List.mem_of_getElem? (i := 378) (by decide +kernel), List.mem_of_getElem? (i := 459) (by decide +kernel), List.mem_of_getElem? (i := 460) (by decide +kernel)⟩
theorem lw_p25 : lw_okq (⟨"HopArenaModel", "move", "(III)V"⟩, 14) := ⟨⟨by decide +kernel, by decide +kernel⟩, List.mem_of_getElem? (i := 378) (by decide +kernel), List.mem_of_getElem? (i := 463) (by decide +kernel), List.mem_of_getElem? (i := 464) (by decide +kernel)⟩
theorem lw_p26 : lw_okq (⟨"HopArenaModel", "hold", "(I)V"⟩, 14) := ⟨⟨by decide +kernel, by decide +kernel⟩, List.mem_of_getElem? (i := 378) (by decide +kernel), List.mem_of_getElem? (i := 467) (by decide +kernel), List.mem_of_getElem? (i := 468) (by decide +kernel)⟩
theorem lw_p27 : lw_okq (⟨"HopArenaModel", "grow", "(I)Z"⟩, 14) := ⟨⟨by decide +kernel, by decide +kernel⟩, List.mem_of_getElem? (i := 378) (by decide +kernel), List.mem_of_getElem? (i := 471) (by decide +kernel), List.mem_of_getElem? (i := 472) (by decide +kernel)⟩
theorem lw_p28 : lw_okq (⟨"HopArenaModel", "endOfAll", "(II)I"⟩, 14) := ⟨⟨by decide +kernel, by decide +kernel⟩, List.mem_of_getElem? (i := 378) (by decide +kernel), List.mem_of_getElem? (i := 475) (by decide +kernel), List.mem_of_getElem? (i := 476) (by decide +kernel)⟩
theorem lw_p29 : lw_okq (⟨"HopArenaModel", "endOf", "(III)I"⟩, 14) := ⟨⟨by decide +kernel, by decide +kernel⟩, List.mem_of_getElem? (i := 378) (by decide +kernel), List.mem_of_getElem? (i := 479) (by decide +kernel), List.mem_of_getElem? (i := 480) (by decide +kernel)⟩
theorem lw_p30 : lw_okq (⟨"HopArenaModel", "pushTogether", "(II)V"⟩, 14) := ⟨⟨by decide +kernel, by decide +kernel⟩, List.mem_of_getElem? (i := 378) (by decide +kernel), List.mem_of_getElem? (i := 483) (by decide +kernel), List.mem_of_getElem? (i := 484) (by decide +kernel)⟩
theorem lw_p31 : lw_okq (⟨"HopArenaModel", "nextFrom", "(I)I"⟩, 14) := ⟨⟨by decide +kernel, by decide +kernel⟩, List.mem_of_getElem? (i := 378) (by decide +kernel), List.mem_of_getElem? (i := 487) (by decide +kernel), List.mem_of_getElem? (i := 488) (by decide +kernel)⟩
def lw_privs_2 : List (MethodName × Nat) := [(⟨"HopArena", "insertAnew", "(LHopArena$Part;LHopArena$Part;)Z"⟩, 6), (⟨"HopArena", "slotHolding", "(LHopArena$Part;I)I"⟩, 6), (⟨"HopArena", "keysIn", "(LHopArena$Part;)I"⟩, 6), (⟨"HopArenaModel", "isMap", "(I)Z"⟩, 14), (⟨"HopArenaModel", "placeOf", "(II)I"⟩, 14), (⟨"HopArenaModel", "insert", "(III)Z"⟩, 14), (⟨"HopArenaModel", "homeOf", "(II)I"⟩, 14), (⟨"HopArenaModel", "behind", "(III)I"⟩, 14), (⟨"HopArenaModel", "mover", "(II)I"⟩, 14), (⟨"HopArenaModel", "move", "(III)V"⟩, 14), (⟨"HopArenaModel", "hold", "(I)V"⟩, 14), (⟨"HopArenaModel", "grow", "(I)Z"⟩, 14), (⟨"HopArenaModel", "endOfAll", "(II)I"⟩, 14), (⟨"HopArenaModel", "endOf", "(III)I"⟩, 14), (⟨"HopArenaModel", "pushTogether", "(II)V"⟩, 14), (⟨"HopArenaModel", "nextFrom", "(I)I"⟩, 14)]
theorem lw_r2 : ∀ q ∈ lw_privs_2, lw_okq q := List.forall_mem_cons.mpr ⟨lw_p16, List.forall_mem_cons.mpr ⟨lw_p17, List.forall_mem_cons.mpr ⟨lw_p18, List.forall_mem_cons.mpr ⟨lw_p19, List.forall_mem_cons.mpr ⟨lw_p20, List.forall_mem_cons.mpr ⟨lw_p21, List.forall_mem_cons.mpr ⟨lw_p22, List.forall_mem_cons.mpr ⟨lw_p23, List.forall_mem_cons.mpr ⟨lw_p24, List.forall_mem_cons.mpr ⟨lw_p25, List.forall_mem_cons.mpr ⟨lw_p26, List.forall_mem_cons.mpr ⟨lw_p27, List.forall_mem_cons.mpr ⟨lw_p28, List.forall_mem_cons.mpr ⟨lw_p29, List.forall_mem_cons.mpr ⟨lw_p30, List.forall_mem_cons.mpr ⟨lw_p31, fun _ h => absurd h List.not_mem_nil⟩⟩⟩⟩⟩⟩⟩⟩⟩⟩⟩⟩⟩⟩⟩⟩
theorem lw_p32 : lw_okq (⟨"HopArenaModel", "empty", "(I)V"⟩, 14) := ⟨⟨by decide +kernel, by decide +kernel⟩, List.mem_of_getElem? (i := 378) (by decide +kernel), List.mem_of_getElem? (i := 493) (by decide +kernel), List.mem_of_getElem? (i := 494) (by decide +kernel)⟩
theorem lw_p33 : lw_okq (⟨"HopArenaModel", "putBack", "(III)V"⟩, 14) := ⟨⟨by decide +kernel, by decide +kernel⟩, List.mem_of_getElem? (i := 378) (by decide +kernel), List.mem_of_getElem? (i := 497) (by decide +kernel), List.mem_of_getElem? (i := 498) (by decide +kernel)⟩
theorem lw_p34 : lw_okq (⟨"HopArenaModel", "find", "(II)I"⟩, 14) := ⟨⟨by decide +kernel, by decide +kernel⟩, List.mem_of_getElem? (i := 378) (by decide +kernel), List.mem_of_getElem? (i := 505) (by decide +kernel), List.mem_of_getElem? (i := 506) (by decide +kernel)⟩
theorem lw_p35 : lw_okq (⟨"HopArenaModel", "sizeOf", "(I)I"⟩, 14) := ⟨⟨by decide +kernel, by decide +kernel⟩, List.mem_of_getElem? (i := 378) (by decide +kernel), List.mem_of_getElem? (i := 521) (by decide +kernel), List.mem_of_getElem? (i := 522) (by decide +kernel)⟩
theorem lw_p36 : lw_okq (⟨"HopArenaModel", "distanceAt", "(II)I"⟩, 14) := ⟨⟨by decide +kernel, by decide +kernel⟩, List.mem_of_getElem? (i := 378) (by decide +kernel), List.mem_of_getElem? (i := 541) (by decide +kernel), List.mem_of_getElem? (i := 542) (by decide +kernel)⟩
theorem lw_p37 : lw_okq (⟨"HopArenaModel", "isPlace", "(II)Z"⟩, 14) := ⟨⟨by decide +kernel, by decide +kernel⟩, List.mem_of_getElem? (i := 378) (by decide +kernel), List.mem_of_getElem? (i := 549) (by decide +kernel), List.mem_of_getElem? (i := 550) (by decide +kernel)⟩
theorem lw_p38 : lw_okq (⟨"HopArenaModel", "bitsOf", "(II)I"⟩, 14) := ⟨⟨by decide +kernel, by decide +kernel⟩, List.mem_of_getElem? (i := 378) (by decide +kernel), List.mem_of_getElem? (i := 553) (by decide +kernel), List.mem_of_getElem? (i := 554) (by decide +kernel)⟩
def lw_privs_3 : List (MethodName × Nat) := [(⟨"HopArenaModel", "empty", "(I)V"⟩, 14), (⟨"HopArenaModel", "putBack", "(III)V"⟩, 14), (⟨"HopArenaModel", "find", "(II)I"⟩, 14), (⟨"HopArenaModel", "sizeOf", "(I)I"⟩, 14), (⟨"HopArenaModel", "distanceAt", "(II)I"⟩, 14), (⟨"HopArenaModel", "isPlace", "(II)Z"⟩, 14), (⟨"HopArenaModel", "bitsOf", "(II)I"⟩, 14)]
theorem lw_r3 : ∀ q ∈ lw_privs_3, lw_okq q := List.forall_mem_cons.mpr ⟨lw_p32, List.forall_mem_cons.mpr ⟨lw_p33, List.forall_mem_cons.mpr ⟨lw_p34, List.forall_mem_cons.mpr ⟨lw_p35, List.forall_mem_cons.mpr ⟨lw_p36, List.forall_mem_cons.mpr ⟨lw_p37, List.forall_mem_cons.mpr ⟨lw_p38, fun _ h => absurd h List.not_mem_nil⟩⟩⟩⟩⟩⟩⟩
def lw_privs : List (MethodName × Nat) := lw_privs_1 ++ (lw_privs_2 ++ (lw_privs_3))
def lw_tbl : List Cond := k2_sels lw_privs ++ tables_1
theorem lw_privs_ok : ∀ q ∈ lw_privs, lw_okq q := by
  show ∀ q ∈ lw_privs_1 ++ (lw_privs_2 ++ (lw_privs_3)), lw_okq q
  exact List.forall_mem_append.mpr ⟨lw_r1, List.forall_mem_append.mpr ⟨lw_r2, lw_r3⟩⟩
end
section
/-! names: classes, methods, their code -/
def wsA : List Cond := lw_tbl.filter goodWord
theorem mA {w : Cond} (h : w ∈ lw_tbl) (hg : goodWord w = true) : w ∈ wsA := List.mem_filter.mpr ⟨h, hg⟩
theorem gA {w : Cond} (h : w ∈ wsA) : (w.onTables && w.keeps) = true ∨ ∃ ty, w = .arrayClass ty := good_of_word (List.mem_filter.mp h).2
theorem gI {ws : List Cond} (h : ∀ w ∈ ws, w ∈ wsA) : GoodIn wsA ws := fun w hw => ⟨h w hw, gA (h w hw)⟩
theorem gC {y : MethodName} {b : ByteArray} {n : Nat} {r : Option FieldType} (h5 : Cond.code y b n r ∈ wsA) : ∀ w ∈ (Cond.code y b n r :: wsA), w ∈ wsA := fun w hw => by
  rcases List.mem_cons.mp hw with rfl | hw
  · exact h5
  · exact hw
theorem gV {own C : String} {idx : Nat} {y : MethodName} {b : ByteArray} {n : Nat} {r : Option FieldType} (h1 : Cond.methodLink own idx y ∈ wsA) (h2 : Cond.instanceMethod y ∈ wsA) (h3 : Cond.selects C y y ∈ wsA) (h4 : Cond.initialized C ∈ wsA) (h5 : Cond.code y b n r ∈ wsA) : GoodIn wsA (wsV own idx C y (Cond.code y b n r :: wsA)) := gI fun w hw => by
  unfold wsV at hw
  rcases List.mem_append.mp hw with hw | hw
  · simp only [List.mem_cons, List.not_mem_nil, or_false] at hw
    rcases hw with rfl | rfl | rfl | rfl
    · exact h1
    · exact h2
    · exact h3
    · exact h4
  · exact gC h5 w hw
theorem gS {own : String} {idx : Nat} {y : MethodName} {b : ByteArray} {n : Nat} {r : Option FieldType} (h1 : Cond.methodLink own idx y ∈ wsA) (h2 : Cond.static y ∈ wsA) (h4 : Cond.initialized own ∈ wsA) (h5 : Cond.code y b n r ∈ wsA) : GoodIn wsA (wsS own idx y (Cond.code y b n r :: wsA)) := gI fun w hw => by
  unfold wsS at hw
  rcases List.mem_append.mp hw with hw | hw
  · simp only [List.mem_cons, List.not_mem_nil, or_false] at hw
    rcases hw with rfl | rfl | rfl
    · exact h1
    · exact h2
    · exact h4
  · exact gC h5 w hw
def R_Hop : String := "HopArena"
def R_Part : String := "HopArena$Part"
def R_Mod : String := "HopArenaModel"
def R_Law : String := "HopArenaLaw"
theorem mx_code : Cond.code Lib.Math.max.name Lib.Math.max.code 2 (some .int) ∈ wsA := mA (List.mem_of_getElem? (i := 243) (by decide +kernel)) rfl
abbrev b_Part_init : ByteArray := prog_2_method_1_code
def y_Part_init : MethodName := ⟨R_Part, "<init>", "(III)V"⟩
def w_Part_init : List Cond := .code y_Part_init b_Part_init 4 (none) :: wsA
abbrev b_Part_homeOf : ByteArray := prog_2_method_4_code
def y_Part_homeOf : MethodName := ⟨R_Part, "homeOf", "(I)I"⟩
def w_Part_homeOf : List Cond := .code y_Part_homeOf b_Part_homeOf 2 (some .int) :: wsA
abbrev b_Part_slotOf : ByteArray := prog_2_method_3_code
def y_Part_slotOf : MethodName := ⟨R_Part, "slotOf", "(I)I"⟩
def w_Part_slotOf : List Cond := .code y_Part_slotOf b_Part_slotOf 2 (some .int) :: wsA
abbrev b_Part_around : ByteArray := prog_2_method_2_code
def y_Part_around : MethodName := ⟨R_Part, "around", "(I)I"⟩
def w_Part_around : List Cond := .code y_Part_around b_Part_around 2 (some .int) :: wsA
abbrev b_Part_end : ByteArray := prog_2_method_5_code
def y_Part_end : MethodName := ⟨R_Part, "end", "()I"⟩
def w_Part_end : List Cond := .code y_Part_end b_Part_end 1 (some .int) :: wsA
abbrev b_Part_isPlace : ByteArray := prog_2_method_6_code
def y_Part_isPlace : MethodName := ⟨R_Part, "isPlace", "(I)Z"⟩
def w_Part_isPlace : List Cond := .code y_Part_isPlace b_Part_isPlace 2 (some .boolean) :: wsA
abbrev b_Hop_init : ByteArray := prog_1_method_1_code
def y_Hop_init : MethodName := ⟨R_Hop, "<init>", "()V"⟩
def w_Hop_init : List Cond := .code y_Hop_init b_Hop_init 2 (none) :: wsA
abbrev b_Hop_put : ByteArray := prog_1_method_2_code
def y_Hop_put : MethodName := ⟨R_Hop, "put", "(III)Z"⟩
def w_Hop_put : List Cond := .code y_Hop_put b_Hop_put 6 (some .boolean) :: wsA
abbrev b_Hop_partOf : ByteArray := prog_1_method_15_code
def y_Hop_partOf : MethodName := ⟨R_Hop, "partOf", "(I)LHopArena$Part;"⟩
def w_Hop_partOf : List Cond := .code y_Hop_partOf b_Hop_partOf 2 (some (.object "HopArena$Part")) :: wsA
abbrev b_Hop_slotOrNone : ByteArray := prog_1_method_18_code
def y_Hop_slotOrNone : MethodName := ⟨R_Hop, "slotOrNone", "(LHopArena$Part;I)I"⟩
def w_Hop_slotOrNone : List Cond := .code y_Hop_slotOrNone b_Hop_slotOrNone 6 (some .int) :: wsA
abbrev b_Hop_insert : ByteArray := prog_1_method_22_code
def y_Hop_insert : MethodName := ⟨R_Hop, "insert", "(LHopArena$Part;II)Z"⟩
def w_Hop_insert : List Cond := .code y_Hop_insert b_Hop_insert 8 (some .boolean) :: wsA
abbrev b_Hop_stepsToFree : ByteArray := prog_1_method_23_code
def y_Hop_stepsToFree : MethodName := ⟨R_Hop, "stepsToFree", "(LHopArena$Part;I)I"⟩
def w_Hop_stepsToFree : List Cond := .code y_Hop_stepsToFree b_Hop_stepsToFree 4 (some .int) :: wsA
abbrev b_Hop_hopNearer : ByteArray := prog_1_method_24_code
def y_Hop_hopNearer : MethodName := ⟨R_Hop, "hopNearer", "(LHopArena$Part;I)I"⟩
def w_Hop_hopNearer : List Cond := .code y_Hop_hopNearer b_Hop_hopNearer 7 (some .int) :: wsA
abbrev b_Hop_isBitSet : ByteArray := prog_1_method_21_code
def y_Hop_isBitSet : MethodName := ⟨R_Hop, "isBitSet", "(LHopArena$Part;II)Z"⟩
def w_Hop_isBitSet : List Cond := .code y_Hop_isBitSet b_Hop_isBitSet 5 (some .boolean) :: wsA
abbrev b_Hop_copySlot : ByteArray := prog_1_method_25_code
def y_Hop_copySlot : MethodName := ⟨R_Hop, "copySlot", "(II)V"⟩
def w_Hop_copySlot : List Cond := .code y_Hop_copySlot b_Hop_copySlot 3 (none) :: wsA
abbrev b_Hop_growWith : ByteArray := prog_1_method_26_code
def y_Hop_growWith : MethodName := ⟨R_Hop, "growWith", "(III)Z"⟩
def w_Hop_growWith : List Cond := .code y_Hop_growWith b_Hop_growWith 10 (some .boolean) :: wsA
abbrev b_Hop_sumOfCapacities : ByteArray := prog_1_method_27_code
def y_Hop_sumOfCapacities : MethodName := ⟨R_Hop, "sumOfCapacities", "()I"⟩
def w_Hop_sumOfCapacities : List Cond := .code y_Hop_sumOfCapacities b_Hop_sumOfCapacities 3 (some .int) :: wsA
abbrev b_Hop_layOut : ByteArray := prog_1_method_28_code
def y_Hop_layOut : MethodName := ⟨R_Hop, "layOut", "(LHopArena$Part;II)V"⟩
def w_Hop_layOut : List Cond := .code y_Hop_layOut b_Hop_layOut 4 (none) :: wsA
abbrev b_Hop_lastEnd : ByteArray := prog_1_method_29_code
def y_Hop_lastEnd : MethodName := ⟨R_Hop, "lastEnd", "()I"⟩
def w_Hop_lastEnd : List Cond := .code y_Hop_lastEnd b_Hop_lastEnd 3 (some .int) :: wsA
abbrev b_Hop_pushTogether : ByteArray := prog_1_method_30_code
def y_Hop_pushTogether : MethodName := ⟨R_Hop, "pushTogether", "()V"⟩
def w_Hop_pushTogether : List Cond := .code y_Hop_pushTogether b_Hop_pushTogether 4 (none) :: wsA
abbrev b_Hop_lowestFrom : ByteArray := prog_1_method_31_code
def y_Hop_lowestFrom : MethodName := ⟨R_Hop, "lowestFrom", "(I)LHopArena$Part;"⟩
def w_Hop_lowestFrom : List Cond := .code y_Hop_lowestFrom b_Hop_lowestFrom 5 (some (.object "HopArena$Part")) :: wsA
abbrev b_Hop_moveDown : ByteArray := prog_1_method_32_code
def y_Hop_moveDown : MethodName := ⟨R_Hop, "moveDown", "(LHopArena$Part;I)V"⟩
def w_Hop_moveDown : List Cond := .code y_Hop_moveDown b_Hop_moveDown 4 (none) :: wsA
abbrev b_Hop_freeAll : ByteArray := prog_1_method_20_code
def y_Hop_freeAll : MethodName := ⟨R_Hop, "freeAll", "(LHopArena$Part;)V"⟩
def w_Hop_freeAll : List Cond := .code y_Hop_freeAll b_Hop_freeAll 3 (none) :: wsA
abbrev b_Hop_insertAnew : ByteArray := prog_1_method_33_code
def y_Hop_insertAnew : MethodName := ⟨R_Hop, "insertAnew", "(LHopArena$Part;LHopArena$Part;)Z"⟩
def w_Hop_insertAnew : List Cond := .code y_Hop_insertAnew b_Hop_insertAnew 4 (some .boolean) :: wsA
abbrev b_Hop_get : ByteArray := prog_1_method_3_code
def y_Hop_get : MethodName := ⟨R_Hop, "get", "(II)I"⟩
def w_Hop_get : List Cond := .code y_Hop_get b_Hop_get 3 (some .int) :: wsA
abbrev b_Hop_slotHolding : ByteArray := prog_1_method_17_code
def y_Hop_slotHolding : MethodName := ⟨R_Hop, "slotHolding", "(LHopArena$Part;I)I"⟩
def w_Hop_slotHolding : List Cond := .code y_Hop_slotHolding b_Hop_slotHolding 4 (some .int) :: wsA
abbrev b_Hop_remove : ByteArray := prog_1_method_4_code
def y_Hop_remove : MethodName := ⟨R_Hop, "remove", "(II)I"⟩
def w_Hop_remove : List Cond := .code y_Hop_remove b_Hop_remove 4 (some .int) :: wsA
abbrev b_Hop_has : ByteArray := prog_1_method_5_code
def y_Hop_has : MethodName := ⟨R_Hop, "has", "(II)Z"⟩
def w_Hop_has : List Cond := .code y_Hop_has b_Hop_has 3 (some .boolean) :: wsA
abbrev b_Hop_size : ByteArray := prog_1_method_6_code
def y_Hop_size : MethodName := ⟨R_Hop, "size", "(I)I"⟩
def w_Hop_size : List Cond := .code y_Hop_size b_Hop_size 2 (some .int) :: wsA
abbrev b_Hop_keysIn : ByteArray := prog_1_method_19_code
def y_Hop_keysIn : MethodName := ⟨R_Hop, "keysIn", "(LHopArena$Part;)I"⟩
def w_Hop_keysIn : List Cond := .code y_Hop_keysIn b_Hop_keysIn 4 (some .int) :: wsA
abbrev b_Hop_clear : ByteArray := prog_1_method_7_code
def y_Hop_clear : MethodName := ⟨R_Hop, "clear", "(I)I"⟩
def w_Hop_clear : List Cond := .code y_Hop_clear b_Hop_clear 4 (some .int) :: wsA
abbrev b_Hop_about : ByteArray := prog_1_method_8_code
def y_Hop_about : MethodName := ⟨R_Hop, "about", "(II)I"⟩
def w_Hop_about : List Cond := .code y_Hop_about b_Hop_about 4 (some .int) :: wsA
abbrev b_Hop_home : ByteArray := prog_1_method_9_code
def y_Hop_home : MethodName := ⟨R_Hop, "home", "(II)I"⟩
def w_Hop_home : List Cond := .code y_Hop_home b_Hop_home 3 (some .int) :: wsA
abbrev b_Hop_distance : ByteArray := prog_1_method_10_code
def y_Hop_distance : MethodName := ⟨R_Hop, "distance", "(II)I"⟩
def w_Hop_distance : List Cond := .code y_Hop_distance b_Hop_distance 5 (some .int) :: wsA
abbrev b_Hop_bits : ByteArray := prog_1_method_11_code
def y_Hop_bits : MethodName := ⟨R_Hop, "bits", "(II)I"⟩
def w_Hop_bits : List Cond := .code y_Hop_bits b_Hop_bits 6 (some .int) :: wsA
abbrev b_Hop_requirePlace : ByteArray := prog_1_method_16_code
def y_Hop_requirePlace : MethodName := ⟨R_Hop, "requirePlace", "(LHopArena$Part;I)V"⟩
def w_Hop_requirePlace : List Cond := .code y_Hop_requirePlace b_Hop_requirePlace 2 (none) :: wsA
abbrev b_Hop_next : ByteArray := prog_1_method_12_code
def y_Hop_next : MethodName := ⟨R_Hop, "next", "(II)I"⟩
def w_Hop_next : List Cond := .code y_Hop_next b_Hop_next 5 (some .int) :: wsA
abbrev b_Hop_key : ByteArray := prog_1_method_13_code
def y_Hop_key : MethodName := ⟨R_Hop, "key", "(II)I"⟩
def w_Hop_key : List Cond := .code y_Hop_key b_Hop_key 5 (some .int) :: wsA
abbrev b_Hop_count : ByteArray := prog_1_method_14_code
def y_Hop_count : MethodName := ⟨R_Hop, "count", "(I)I"⟩
def w_Hop_count : List Cond := .code y_Hop_count b_Hop_count 2 (some .int) :: wsA
def F_Part : u_T := fun k => match k with
  | 0 => ("HopArena$Part", "base", "I", false)
  | 1 => ("HopArena$Part", "capacity", "I", false)
  | _ => ("HopArena$Part", "seed", "I", false)
def t_Part : Nat → FieldType := fun k => match k with
  | 0 => .int
  | 1 => .int
  | _ => .int
theorem n_Part : ∀ a, a < 3 → ∀ b, b < 3 → a ≠ b → (F_Part a).2.1 ≠ (F_Part b).2.1 := by decide +kernel
theorem t_Part_ok : ∀ k, k < 3 → parseFieldDescriptor (F_Part k).2.2.1 = some (t_Part k) := by decide +kernel
theorem hin_Part : ∀ w ∈ u_ws R_Part F_Part 3, w ∈ wsA := by decide +kernel
def F_Hop : u_T := fun k => match k with
  | 0 => ("HopArena", "keys", "[I", true)
  | 1 => ("HopArena", "values", "[I", true)
  | 2 => ("HopArena", "taken", "[Z", true)
  | 3 => ("HopArena", "parts", "[LHopArena$Part;", true)
  | 4 => ("HopArena", "counts", "[I", true)
  | _ => ("HopArena", "spare", "LHopArena$Part;", false)
def t_Hop : Nat → FieldType := fun k => match k with
  | 0 => .array .int
  | 1 => .array .int
  | 2 => .array .boolean
  | 3 => .array (.object "HopArena$Part")
  | 4 => .array .int
  | _ => .object "HopArena$Part"
theorem n_Hop : ∀ a, a < 6 → ∀ b, b < 6 → a ≠ b → (F_Hop a).2.1 ≠ (F_Hop b).2.1 := by decide +kernel
theorem t_Hop_ok : ∀ k, k < 6 → parseFieldDescriptor (F_Hop k).2.2.1 = some (t_Hop k) := by decide +kernel
theorem hin_Hop : ∀ w ∈ u_ws R_Hop F_Hop 6, w ∈ wsA := by decide +kernel
abbrev hCl : List vw_C := [(R_Hop, F_Hop, 6), (R_Part, F_Part, 3)]
/-! words of the tables, by their places -/
theorem m_0 : (Jvm.Cond.selects "HopArena" (⟨"HopArena", "partOf", "(I)LHopArena$Part;"⟩ : MethodName) (⟨"HopArena", "partOf", "(I)LHopArena$Part;"⟩ : MethodName)) ∈ wsA := mA (List.mem_of_getElem? (i := 0) (by decide +kernel)) rfl
theorem m_1 : (Jvm.Cond.selects "java/lang/Throwable" (⟨"java/lang/Throwable", "fillInStackTrace", "(I)Ljava/lang/Throwable;"⟩ : MethodName) (⟨"java/lang/Throwable", "fillInStackTrace", "(I)Ljava/lang/Throwable;"⟩ : MethodName)) ∈ wsA := mA (List.mem_of_getElem? (i := 1) (by decide +kernel)) rfl
theorem m_2 : (Jvm.Cond.selects "HopArena" (⟨"HopArena", "slotOrNone", "(LHopArena$Part;I)I"⟩ : MethodName) (⟨"HopArena", "slotOrNone", "(LHopArena$Part;I)I"⟩ : MethodName)) ∈ wsA := mA (List.mem_of_getElem? (i := 2) (by decide +kernel)) rfl
theorem m_3 : (Jvm.Cond.selects "HopArena" (⟨"HopArena", "insert", "(LHopArena$Part;II)Z"⟩ : MethodName) (⟨"HopArena", "insert", "(LHopArena$Part;II)Z"⟩ : MethodName)) ∈ wsA := mA (List.mem_of_getElem? (i := 3) (by decide +kernel)) rfl
theorem m_4 : (Jvm.Cond.selects "HopArena" (⟨"HopArena", "stepsToFree", "(LHopArena$Part;I)I"⟩ : MethodName) (⟨"HopArena", "stepsToFree", "(LHopArena$Part;I)I"⟩ : MethodName)) ∈ wsA := mA (List.mem_of_getElem? (i := 4) (by decide +kernel)) rfl
theorem m_5 : (Jvm.Cond.selects "HopArena" (⟨"HopArena", "hopNearer", "(LHopArena$Part;I)I"⟩ : MethodName) (⟨"HopArena", "hopNearer", "(LHopArena$Part;I)I"⟩ : MethodName)) ∈ wsA := mA (List.mem_of_getElem? (i := 5) (by decide +kernel)) rfl
theorem m_6 : (Jvm.Cond.selects "HopArena" (⟨"HopArena", "isBitSet", "(LHopArena$Part;II)Z"⟩ : MethodName) (⟨"HopArena", "isBitSet", "(LHopArena$Part;II)Z"⟩ : MethodName)) ∈ wsA := mA (List.mem_of_getElem? (i := 6) (by decide +kernel)) rfl
theorem m_7 : (Jvm.Cond.selects "HopArena" (⟨"HopArena", "copySlot", "(II)V"⟩ : MethodName) (⟨"HopArena", "copySlot", "(II)V"⟩ : MethodName)) ∈ wsA := mA (List.mem_of_getElem? (i := 7) (by decide +kernel)) rfl
theorem m_8 : (Jvm.Cond.selects "HopArena" (⟨"HopArena", "growWith", "(III)Z"⟩ : MethodName) (⟨"HopArena", "growWith", "(III)Z"⟩ : MethodName)) ∈ wsA := mA (List.mem_of_getElem? (i := 8) (by decide +kernel)) rfl
theorem m_9 : (Jvm.Cond.selects "HopArena" (⟨"HopArena", "sumOfCapacities", "()I"⟩ : MethodName) (⟨"HopArena", "sumOfCapacities", "()I"⟩ : MethodName)) ∈ wsA := mA (List.mem_of_getElem? (i := 9) (by decide +kernel)) rfl
theorem m_10 : (Jvm.Cond.selects "HopArena" (⟨"HopArena", "layOut", "(LHopArena$Part;II)V"⟩ : MethodName) (⟨"HopArena", "layOut", "(LHopArena$Part;II)V"⟩ : MethodName)) ∈ wsA := mA (List.mem_of_getElem? (i := 10) (by decide +kernel)) rfl
theorem m_11 : (Jvm.Cond.selects "HopArena" (⟨"HopArena", "lastEnd", "()I"⟩ : MethodName) (⟨"HopArena", "lastEnd", "()I"⟩ : MethodName)) ∈ wsA := mA (List.mem_of_getElem? (i := 11) (by decide +kernel)) rfl
theorem m_12 : (Jvm.Cond.selects "HopArena" (⟨"HopArena", "pushTogether", "()V"⟩ : MethodName) (⟨"HopArena", "pushTogether", "()V"⟩ : MethodName)) ∈ wsA := mA (List.mem_of_getElem? (i := 12) (by decide +kernel)) rfl
theorem m_13 : (Jvm.Cond.selects "HopArena" (⟨"HopArena", "lowestFrom", "(I)LHopArena$Part;"⟩ : MethodName) (⟨"HopArena", "lowestFrom", "(I)LHopArena$Part;"⟩ : MethodName)) ∈ wsA := mA (List.mem_of_getElem? (i := 13) (by decide +kernel)) rfl
theorem m_14 : (Jvm.Cond.selects "HopArena" (⟨"HopArena", "moveDown", "(LHopArena$Part;I)V"⟩ : MethodName) (⟨"HopArena", "moveDown", "(LHopArena$Part;I)V"⟩ : MethodName)) ∈ wsA := mA (List.mem_of_getElem? (i := 14) (by decide +kernel)) rfl
theorem m_15 : (Jvm.Cond.selects "HopArena" (⟨"HopArena", "freeAll", "(LHopArena$Part;)V"⟩ : MethodName) (⟨"HopArena", "freeAll", "(LHopArena$Part;)V"⟩ : MethodName)) ∈ wsA := mA (List.mem_of_getElem? (i := 15) (by decide +kernel)) rfl
theorem m_16 : (Jvm.Cond.selects "HopArena" (⟨"HopArena", "insertAnew", "(LHopArena$Part;LHopArena$Part;)Z"⟩ : MethodName) (⟨"HopArena", "insertAnew", "(LHopArena$Part;LHopArena$Part;)Z"⟩ : MethodName)) ∈ wsA := mA (List.mem_of_getElem? (i := 16) (by decide +kernel)) rfl
theorem m_17 : (Jvm.Cond.selects "HopArena" (⟨"HopArena", "slotHolding", "(LHopArena$Part;I)I"⟩ : MethodName) (⟨"HopArena", "slotHolding", "(LHopArena$Part;I)I"⟩ : MethodName)) ∈ wsA := mA (List.mem_of_getElem? (i := 17) (by decide +kernel)) rfl
theorem m_18 : (Jvm.Cond.selects "HopArena" (⟨"HopArena", "keysIn", "(LHopArena$Part;)I"⟩ : MethodName) (⟨"HopArena", "keysIn", "(LHopArena$Part;)I"⟩ : MethodName)) ∈ wsA := mA (List.mem_of_getElem? (i := 18) (by decide +kernel)) rfl
theorem m_19 : (Jvm.Cond.selects "HopArenaModel" (⟨"HopArenaModel", "isMap", "(I)Z"⟩ : MethodName) (⟨"HopArenaModel", "isMap", "(I)Z"⟩ : MethodName)) ∈ wsA := mA (List.mem_of_getElem? (i := 19) (by decide +kernel)) rfl
theorem m_20 : (Jvm.Cond.selects "HopArenaModel" (⟨"HopArenaModel", "placeOf", "(II)I"⟩ : MethodName) (⟨"HopArenaModel", "placeOf", "(II)I"⟩ : MethodName)) ∈ wsA := mA (List.mem_of_getElem? (i := 20) (by decide +kernel)) rfl
theorem m_21 : (Jvm.Cond.selects "HopArenaModel" (⟨"HopArenaModel", "insert", "(III)Z"⟩ : MethodName) (⟨"HopArenaModel", "insert", "(III)Z"⟩ : MethodName)) ∈ wsA := mA (List.mem_of_getElem? (i := 21) (by decide +kernel)) rfl
theorem m_22 : (Jvm.Cond.selects "HopArenaModel" (⟨"HopArenaModel", "homeOf", "(II)I"⟩ : MethodName) (⟨"HopArenaModel", "homeOf", "(II)I"⟩ : MethodName)) ∈ wsA := mA (List.mem_of_getElem? (i := 22) (by decide +kernel)) rfl
theorem m_23 : (Jvm.Cond.selects "HopArenaModel" (⟨"HopArenaModel", "behind", "(III)I"⟩ : MethodName) (⟨"HopArenaModel", "behind", "(III)I"⟩ : MethodName)) ∈ wsA := mA (List.mem_of_getElem? (i := 23) (by decide +kernel)) rfl
theorem m_24 : (Jvm.Cond.selects "HopArenaModel" (⟨"HopArenaModel", "mover", "(II)I"⟩ : MethodName) (⟨"HopArenaModel", "mover", "(II)I"⟩ : MethodName)) ∈ wsA := mA (List.mem_of_getElem? (i := 24) (by decide +kernel)) rfl
theorem m_25 : (Jvm.Cond.selects "HopArenaModel" (⟨"HopArenaModel", "move", "(III)V"⟩ : MethodName) (⟨"HopArenaModel", "move", "(III)V"⟩ : MethodName)) ∈ wsA := mA (List.mem_of_getElem? (i := 25) (by decide +kernel)) rfl
theorem m_26 : (Jvm.Cond.selects "HopArenaModel" (⟨"HopArenaModel", "hold", "(I)V"⟩ : MethodName) (⟨"HopArenaModel", "hold", "(I)V"⟩ : MethodName)) ∈ wsA := mA (List.mem_of_getElem? (i := 26) (by decide +kernel)) rfl
theorem m_27 : (Jvm.Cond.selects "HopArenaModel" (⟨"HopArenaModel", "grow", "(I)Z"⟩ : MethodName) (⟨"HopArenaModel", "grow", "(I)Z"⟩ : MethodName)) ∈ wsA := mA (List.mem_of_getElem? (i := 27) (by decide +kernel)) rfl
theorem m_28 : (Jvm.Cond.selects "HopArenaModel" (⟨"HopArenaModel", "endOfAll", "(II)I"⟩ : MethodName) (⟨"HopArenaModel", "endOfAll", "(II)I"⟩ : MethodName)) ∈ wsA := mA (List.mem_of_getElem? (i := 28) (by decide +kernel)) rfl
theorem m_29 : (Jvm.Cond.selects "HopArenaModel" (⟨"HopArenaModel", "endOf", "(III)I"⟩ : MethodName) (⟨"HopArenaModel", "endOf", "(III)I"⟩ : MethodName)) ∈ wsA := mA (List.mem_of_getElem? (i := 29) (by decide +kernel)) rfl
theorem m_30 : (Jvm.Cond.selects "HopArenaModel" (⟨"HopArenaModel", "pushTogether", "(II)V"⟩ : MethodName) (⟨"HopArenaModel", "pushTogether", "(II)V"⟩ : MethodName)) ∈ wsA := mA (List.mem_of_getElem? (i := 30) (by decide +kernel)) rfl
theorem m_31 : (Jvm.Cond.selects "HopArenaModel" (⟨"HopArenaModel", "nextFrom", "(I)I"⟩ : MethodName) (⟨"HopArenaModel", "nextFrom", "(I)I"⟩ : MethodName)) ∈ wsA := mA (List.mem_of_getElem? (i := 31) (by decide +kernel)) rfl
theorem m_32 : (Jvm.Cond.selects "HopArenaModel" (⟨"HopArenaModel", "empty", "(I)V"⟩ : MethodName) (⟨"HopArenaModel", "empty", "(I)V"⟩ : MethodName)) ∈ wsA := mA (List.mem_of_getElem? (i := 32) (by decide +kernel)) rfl
theorem m_33 : (Jvm.Cond.selects "HopArenaModel" (⟨"HopArenaModel", "putBack", "(III)V"⟩ : MethodName) (⟨"HopArenaModel", "putBack", "(III)V"⟩ : MethodName)) ∈ wsA := mA (List.mem_of_getElem? (i := 33) (by decide +kernel)) rfl
theorem m_34 : (Jvm.Cond.selects "HopArenaModel" (⟨"HopArenaModel", "find", "(II)I"⟩ : MethodName) (⟨"HopArenaModel", "find", "(II)I"⟩ : MethodName)) ∈ wsA := mA (List.mem_of_getElem? (i := 34) (by decide +kernel)) rfl
theorem m_35 : (Jvm.Cond.selects "HopArenaModel" (⟨"HopArenaModel", "sizeOf", "(I)I"⟩ : MethodName) (⟨"HopArenaModel", "sizeOf", "(I)I"⟩ : MethodName)) ∈ wsA := mA (List.mem_of_getElem? (i := 35) (by decide +kernel)) rfl
theorem m_36 : (Jvm.Cond.selects "HopArenaModel" (⟨"HopArenaModel", "distanceAt", "(II)I"⟩ : MethodName) (⟨"HopArenaModel", "distanceAt", "(II)I"⟩ : MethodName)) ∈ wsA := mA (List.mem_of_getElem? (i := 36) (by decide +kernel)) rfl
theorem m_37 : (Jvm.Cond.selects "HopArenaModel" (⟨"HopArenaModel", "isPlace", "(II)Z"⟩ : MethodName) (⟨"HopArenaModel", "isPlace", "(II)Z"⟩ : MethodName)) ∈ wsA := mA (List.mem_of_getElem? (i := 37) (by decide +kernel)) rfl
theorem m_38 : (Jvm.Cond.selects "HopArenaModel" (⟨"HopArenaModel", "bitsOf", "(II)I"⟩ : MethodName) (⟨"HopArenaModel", "bitsOf", "(II)I"⟩ : MethodName)) ∈ wsA := mA (List.mem_of_getElem? (i := 38) (by decide +kernel)) rfl
theorem m_39 : (Jvm.Cond.initialized "HopArenaLaw") ∈ wsA := mA (List.mem_of_getElem? (i := 39) (by decide +kernel)) rfl
theorem m_40 : (Jvm.Cond.initialized "HopArena") ∈ wsA := mA (List.mem_of_getElem? (i := 40) (by decide +kernel)) rfl
theorem m_41 : (Jvm.Cond.initialized "HopArena$Part") ∈ wsA := mA (List.mem_of_getElem? (i := 41) (by decide +kernel)) rfl
theorem m_42 : (Jvm.Cond.initialized "HopArenaModel") ∈ wsA := mA (List.mem_of_getElem? (i := 42) (by decide +kernel)) rfl
theorem m_43 : (Jvm.Cond.initialized "java/lang/Throwable") ∈ wsA := mA (List.mem_of_getElem? (i := 43) (by decide +kernel)) rfl
theorem m_44 : (Jvm.Cond.initialized "java/lang/Exception") ∈ wsA := mA (List.mem_of_getElem? (i := 44) (by decide +kernel)) rfl
theorem m_45 : (Jvm.Cond.initialized "java/lang/RuntimeException") ∈ wsA := mA (List.mem_of_getElem? (i := 45) (by decide +kernel)) rfl
theorem m_46 : (Jvm.Cond.initialized "java/lang/IndexOutOfBoundsException") ∈ wsA := mA (List.mem_of_getElem? (i := 46) (by decide +kernel)) rfl
theorem m_47 : (Jvm.Cond.initialized "java/lang/Math") ∈ wsA := mA (List.mem_of_getElem? (i := 47) (by decide +kernel)) rfl
theorem m_48 : (Jvm.Cond.initialized "java/lang/ArithmeticException") ∈ wsA := mA (List.mem_of_getElem? (i := 48) (by decide +kernel)) rfl
theorem m_49 : (Jvm.Cond.initialized "java/util/NoSuchElementException") ∈ wsA := mA (List.mem_of_getElem? (i := 49) (by decide +kernel)) rfl
theorem m_50 : (Jvm.Cond.initialized "java/lang/IllegalArgumentException") ∈ wsA := mA (List.mem_of_getElem? (i := 50) (by decide +kernel)) rfl
theorem m_51 : (Jvm.Cond.classLink "HopArenaLaw" (8 : Nat) "HopArena") ∈ wsA := mA (List.mem_of_getElem? (i := 51) (by decide +kernel)) rfl
theorem m_52 : (Jvm.Cond.instantiable "HopArena" (6 : Nat)) ∈ wsA := mA (List.mem_of_getElem? (i := 52) (by decide +kernel)) rfl
theorem m_53 : (Jvm.Cond.methodLink "HopArenaLaw" (60 : Nat) ({ cls := "HopArena", name := "<init>", desc := "()V" } : Jvm.MethodName)) ∈ wsA := mA (List.mem_of_getElem? (i := 53) (by decide +kernel)) rfl
theorem m_54 : (Jvm.Cond.instanceMethod ({ cls := "HopArena", name := "<init>", desc := "()V" } : Jvm.MethodName)) ∈ wsA := mA (List.mem_of_getElem? (i := 54) (by decide +kernel)) rfl
theorem m_55 : (Jvm.Cond.code ({ cls := "HopArena", name := "<init>", desc := "()V" } : Jvm.MethodName) prog_1_method_1_code (2 : Nat) (Option.none : Option Jvm.ClassFile.FieldType)) ∈ wsA := mA (List.mem_of_getElem? (i := 55) (by decide +kernel)) rfl
theorem m_56 : (Jvm.Cond.methodLink "HopArena" (1 : Nat) ({ cls := "java/lang/Object", name := "<init>", desc := "()V" } : Jvm.MethodName)) ∈ wsA := mA (List.mem_of_getElem? (i := 56) (by decide +kernel)) rfl
theorem m_57 : (Jvm.Cond.instanceMethod ({ cls := "java/lang/Object", name := "<init>", desc := "()V" } : Jvm.MethodName)) ∈ wsA := mA (List.mem_of_getElem? (i := 57) (by decide +kernel)) rfl
theorem m_58 : (Jvm.Cond.code ({ cls := "java/lang/Object", name := "<init>", desc := "()V" } : Jvm.MethodName) object_method_1_code (1 : Nat) (Option.none : Option Jvm.ClassFile.FieldType)) ∈ wsA := mA (List.mem_of_getElem? (i := 58) (by decide +kernel)) rfl
theorem m_59 : (Jvm.Cond.classLink "HopArena" (23 : Nat) "HopArena$Part") ∈ wsA := mA (List.mem_of_getElem? (i := 59) (by decide +kernel)) rfl
theorem m_61 : (Jvm.Cond.instantiable "HopArena$Part" (3 : Nat)) ∈ wsA := mA (List.mem_of_getElem? (i := 61) (by decide +kernel)) rfl
theorem m_62 : (Jvm.Cond.methodLink "HopArena" (29 : Nat) ({ cls := "HopArena$Part", name := "<init>", desc := "(III)V" } : Jvm.MethodName)) ∈ wsA := mA (List.mem_of_getElem? (i := 62) (by decide +kernel)) rfl
theorem m_63 : (Jvm.Cond.instanceMethod ({ cls := "HopArena$Part", name := "<init>", desc := "(III)V" } : Jvm.MethodName)) ∈ wsA := mA (List.mem_of_getElem? (i := 63) (by decide +kernel)) rfl
theorem m_64 : (Jvm.Cond.code ({ cls := "HopArena$Part", name := "<init>", desc := "(III)V" } : Jvm.MethodName) prog_2_method_1_code (4 : Nat) (Option.none : Option Jvm.ClassFile.FieldType)) ∈ wsA := mA (List.mem_of_getElem? (i := 64) (by decide +kernel)) rfl
theorem m_65 : (Jvm.Cond.methodLink "HopArena$Part" (1 : Nat) ({ cls := "java/lang/Object", name := "<init>", desc := "()V" } : Jvm.MethodName)) ∈ wsA := mA (List.mem_of_getElem? (i := 65) (by decide +kernel)) rfl
theorem m_66 : (Jvm.Cond.fieldLink "HopArena$Part" (7 : Nat) "HopArena$Part" "base" "I") ∈ wsA := mA (List.mem_of_getElem? (i := 66) (by decide +kernel)) rfl
theorem m_67 : (Jvm.Cond.fieldLink "HopArena" (74 : Nat) "HopArena$Part" "base" "I") ∈ wsA := mA (List.mem_of_getElem? (i := 67) (by decide +kernel)) rfl
theorem m_68 : (Jvm.Cond.fieldLink "HopArena$Part" (13 : Nat) "HopArena$Part" "capacity" "I") ∈ wsA := mA (List.mem_of_getElem? (i := 68) (by decide +kernel)) rfl
theorem m_69 : (Jvm.Cond.fieldLink "HopArena" (66 : Nat) "HopArena$Part" "capacity" "I") ∈ wsA := mA (List.mem_of_getElem? (i := 69) (by decide +kernel)) rfl
theorem m_70 : (Jvm.Cond.fieldLink "HopArena$Part" (16 : Nat) "HopArena$Part" "seed" "I") ∈ wsA := mA (List.mem_of_getElem? (i := 70) (by decide +kernel)) rfl
theorem m_71 : (Jvm.Cond.fieldLink "HopArena" (77 : Nat) "HopArena$Part" "seed" "I") ∈ wsA := mA (List.mem_of_getElem? (i := 71) (by decide +kernel)) rfl
theorem m_72 : (Jvm.Cond.lays "HopArena$Part" "HopArena$Part" "base" "I") ∈ wsA := mA (List.mem_of_getElem? (i := 72) (by decide +kernel)) rfl
theorem m_74 : (Jvm.Cond.lays "HopArena$Part" "HopArena$Part" "capacity" "I") ∈ wsA := mA (List.mem_of_getElem? (i := 74) (by decide +kernel)) rfl
theorem m_76 : (Jvm.Cond.lays "HopArena$Part" "HopArena$Part" "seed" "I") ∈ wsA := mA (List.mem_of_getElem? (i := 76) (by decide +kernel)) rfl
theorem m_79 : (Jvm.Cond.arrayClass Jvm.ClassFile.FieldType.int) ∈ wsA := mA (List.mem_of_getElem? (i := 79) (by decide +kernel)) rfl
theorem m_80 : (Jvm.Cond.arrayClass Jvm.ClassFile.FieldType.boolean) ∈ wsA := mA (List.mem_of_getElem? (i := 80) (by decide +kernel)) rfl
theorem m_81 : (Jvm.Cond.fieldLink "HopArena" (9 : Nat) "HopArena" "keys" "[I") ∈ wsA := mA (List.mem_of_getElem? (i := 81) (by decide +kernel)) rfl
theorem m_82 : (Jvm.Cond.fieldLink "HopArena" (13 : Nat) "HopArena" "values" "[I") ∈ wsA := mA (List.mem_of_getElem? (i := 82) (by decide +kernel)) rfl
theorem m_83 : (Jvm.Cond.fieldLink "HopArena" (16 : Nat) "HopArena" "taken" "[Z") ∈ wsA := mA (List.mem_of_getElem? (i := 83) (by decide +kernel)) rfl
theorem m_84 : (Jvm.Cond.fieldLink "HopArena" (25 : Nat) "HopArena" "parts" "[LHopArena$Part;") ∈ wsA := mA (List.mem_of_getElem? (i := 84) (by decide +kernel)) rfl
theorem m_85 : (Jvm.Cond.fieldLink "HopArena" (20 : Nat) "HopArena" "counts" "[I") ∈ wsA := mA (List.mem_of_getElem? (i := 85) (by decide +kernel)) rfl
theorem m_86 : (Jvm.Cond.fieldLink "HopArena" (32 : Nat) "HopArena" "spare" "LHopArena$Part;") ∈ wsA := mA (List.mem_of_getElem? (i := 86) (by decide +kernel)) rfl
theorem m_87 : (Jvm.Cond.laysFinal "HopArena" "HopArena" "keys" "[I") ∈ wsA := mA (List.mem_of_getElem? (i := 87) (by decide +kernel)) rfl
theorem m_89 : (Jvm.Cond.laysFinal "HopArena" "HopArena" "values" "[I") ∈ wsA := mA (List.mem_of_getElem? (i := 89) (by decide +kernel)) rfl
theorem m_91 : (Jvm.Cond.laysFinal "HopArena" "HopArena" "taken" "[Z") ∈ wsA := mA (List.mem_of_getElem? (i := 91) (by decide +kernel)) rfl
theorem m_93 : (Jvm.Cond.laysFinal "HopArena" "HopArena" "parts" "[LHopArena$Part;") ∈ wsA := mA (List.mem_of_getElem? (i := 93) (by decide +kernel)) rfl
theorem m_95 : (Jvm.Cond.laysFinal "HopArena" "HopArena" "counts" "[I") ∈ wsA := mA (List.mem_of_getElem? (i := 95) (by decide +kernel)) rfl
theorem m_97 : (Jvm.Cond.lays "HopArena" "HopArena" "spare" "LHopArena$Part;") ∈ wsA := mA (List.mem_of_getElem? (i := 97) (by decide +kernel)) rfl
theorem m_100 : (Jvm.Cond.methodLink "HopArenaLaw" (64 : Nat) ({ cls := "HopArenaLaw", name := "put", desc := "(LHopArena;III[J)I" } : Jvm.MethodName)) ∈ wsA := mA (List.mem_of_getElem? (i := 100) (by decide +kernel)) rfl
theorem m_101 : (Jvm.Cond.static ({ cls := "HopArenaLaw", name := "put", desc := "(LHopArena;III[J)I" } : Jvm.MethodName)) ∈ wsA := mA (List.mem_of_getElem? (i := 101) (by decide +kernel)) rfl
theorem m_102 : (Jvm.Cond.codeWith ({ cls := "HopArenaLaw", name := "put", desc := "(LHopArena;III[J)I" } : Jvm.MethodName) method_3_code (6 : Nat) (Option.some Jvm.ClassFile.FieldType.int) [((0 : Nat), (19 : Nat), (22 : Nat), (13 : Nat)), ((0 : Nat), (19 : Nat), (26 : Nat), (15 : Nat))]) ∈ wsA := mA (List.mem_of_getElem? (i := 102) (by decide +kernel)) rfl
theorem m_103 : (Jvm.Cond.classLink "HopArenaLaw" (13 : Nat) "java/lang/IndexOutOfBoundsException") ∈ wsA := mA (List.mem_of_getElem? (i := 103) (by decide +kernel)) rfl
theorem m_104 : (Jvm.Cond.classLink "HopArenaLaw" (15 : Nat) "java/lang/ArithmeticException") ∈ wsA := mA (List.mem_of_getElem? (i := 104) (by decide +kernel)) rfl
theorem m_105 : (Jvm.Cond.methodLink "HopArenaLaw" (7 : Nat) ({ cls := "HopArena", name := "put", desc := "(III)Z" } : Jvm.MethodName)) ∈ wsA := mA (List.mem_of_getElem? (i := 105) (by decide +kernel)) rfl
theorem m_106 : (Jvm.Cond.instanceMethod ({ cls := "HopArena", name := "put", desc := "(III)Z" } : Jvm.MethodName)) ∈ wsA := mA (List.mem_of_getElem? (i := 106) (by decide +kernel)) rfl
theorem m_107 : (Jvm.Cond.selects "HopArena" ({ cls := "HopArena", name := "put", desc := "(III)Z" } : Jvm.MethodName) ({ cls := "HopArena", name := "put", desc := "(III)Z" } : Jvm.MethodName)) ∈ wsA := mA (List.mem_of_getElem? (i := 107) (by decide +kernel)) rfl
theorem m_108 : (Jvm.Cond.code ({ cls := "HopArena", name := "put", desc := "(III)Z" } : Jvm.MethodName) prog_1_method_2_code (6 : Nat) (Option.some Jvm.ClassFile.FieldType.boolean)) ∈ wsA := mA (List.mem_of_getElem? (i := 108) (by decide +kernel)) rfl
theorem m_109 : (Jvm.Cond.methodLink "HopArena" (36 : Nat) ({ cls := "HopArena", name := "partOf", desc := "(I)LHopArena$Part;" } : Jvm.MethodName)) ∈ wsA := mA (List.mem_of_getElem? (i := 109) (by decide +kernel)) rfl
theorem m_111 : (Jvm.Cond.instanceMethod ({ cls := "HopArena", name := "partOf", desc := "(I)LHopArena$Part;" } : Jvm.MethodName)) ∈ wsA := mA (List.mem_of_getElem? (i := 111) (by decide +kernel)) rfl
theorem m_112 : (Jvm.Cond.code ({ cls := "HopArena", name := "partOf", desc := "(I)LHopArena$Part;" } : Jvm.MethodName) prog_1_method_15_code (2 : Nat) (Option.some (Jvm.ClassFile.FieldType.object "HopArena$Part"))) ∈ wsA := mA (List.mem_of_getElem? (i := 112) (by decide +kernel)) rfl
theorem m_113 : (Jvm.Cond.classLink "HopArena" (109 : Nat) "java/lang/IndexOutOfBoundsException") ∈ wsA := mA (List.mem_of_getElem? (i := 113) (by decide +kernel)) rfl
theorem m_114 : (Jvm.Cond.instantiable "java/lang/IndexOutOfBoundsException" (6 : Nat)) ∈ wsA := mA (List.mem_of_getElem? (i := 114) (by decide +kernel)) rfl
theorem m_122 : (Jvm.Cond.selects "java/lang/IndexOutOfBoundsException" ({ cls := "java/lang/Throwable", name := "fillInStackTrace", desc := "(I)Ljava/lang/Throwable;" } : Jvm.MethodName) ({ cls := "java/lang/Throwable", name := "fillInStackTrace", desc := "(I)Ljava/lang/Throwable;" } : Jvm.MethodName)) ∈ wsA := mA (List.mem_of_getElem? (i := 122) (by decide +kernel)) rfl
theorem m_123 : (Jvm.Cond.selects "java/lang/IndexOutOfBoundsException" ({ cls := "java/lang/Throwable", name := "fillInStackTrace", desc := "()Ljava/lang/Throwable;" } : Jvm.MethodName) ({ cls := "java/lang/Throwable", name := "fillInStackTrace", desc := "()Ljava/lang/Throwable;" } : Jvm.MethodName)) ∈ wsA := mA (List.mem_of_getElem? (i := 123) (by decide +kernel)) rfl
theorem m_124 : (Jvm.Cond.lays "java/lang/IndexOutOfBoundsException" "java/lang/Throwable" "cause" "Ljava/lang/Throwable;") ∈ wsA := mA (List.mem_of_getElem? (i := 124) (by decide +kernel)) rfl
theorem m_125 : (Jvm.Cond.lays "java/lang/Throwable" "java/lang/Throwable" "cause" "Ljava/lang/Throwable;") ∈ wsA := mA (List.mem_of_getElem? (i := 125) (by decide +kernel)) rfl
theorem m_126 : (Jvm.Cond.lays "java/lang/IndexOutOfBoundsException" "java/lang/Throwable" "stackTrace" "[Ljava/lang/StackTraceElement;") ∈ wsA := mA (List.mem_of_getElem? (i := 126) (by decide +kernel)) rfl
theorem m_127 : (Jvm.Cond.lays "java/lang/Throwable" "java/lang/Throwable" "stackTrace" "[Ljava/lang/StackTraceElement;") ∈ wsA := mA (List.mem_of_getElem? (i := 127) (by decide +kernel)) rfl
theorem m_128 : (Jvm.Cond.lays "java/lang/IndexOutOfBoundsException" "java/lang/Throwable" "suppressedExceptions" "Ljava/util/List;") ∈ wsA := mA (List.mem_of_getElem? (i := 128) (by decide +kernel)) rfl
theorem m_129 : (Jvm.Cond.lays "java/lang/Throwable" "java/lang/Throwable" "suppressedExceptions" "Ljava/util/List;") ∈ wsA := mA (List.mem_of_getElem? (i := 129) (by decide +kernel)) rfl
theorem m_130 : (Jvm.Cond.lays "java/lang/IndexOutOfBoundsException" "java/lang/Throwable" "detailMessage" "Ljava/lang/String;") ∈ wsA := mA (List.mem_of_getElem? (i := 130) (by decide +kernel)) rfl
theorem m_131 : (Jvm.Cond.lays "java/lang/Throwable" "java/lang/Throwable" "detailMessage" "Ljava/lang/String;") ∈ wsA := mA (List.mem_of_getElem? (i := 131) (by decide +kernel)) rfl
theorem m_132 : (Jvm.Cond.lays "java/lang/IndexOutOfBoundsException" "java/lang/Throwable" "backtrace" "Ljava/lang/Object;") ∈ wsA := mA (List.mem_of_getElem? (i := 132) (by decide +kernel)) rfl
theorem m_133 : (Jvm.Cond.lays "java/lang/Throwable" "java/lang/Throwable" "backtrace" "Ljava/lang/Object;") ∈ wsA := mA (List.mem_of_getElem? (i := 133) (by decide +kernel)) rfl
theorem m_134 : (Jvm.Cond.fieldLink "java/lang/Throwable" (198 : Nat) "java/lang/Throwable" "backtrace" "Ljava/lang/Object;") ∈ wsA := mA (List.mem_of_getElem? (i := 134) (by decide +kernel)) rfl
theorem m_136 : (Jvm.Cond.instanceMethod ({ cls := "java/lang/Throwable", name := "<init>", desc := "()V" } : Jvm.MethodName)) ∈ wsA := mA (List.mem_of_getElem? (i := 136) (by decide +kernel)) rfl
theorem m_137 : (Jvm.Cond.code ({ cls := "java/lang/Throwable", name := "<init>", desc := "()V" } : Jvm.MethodName) prog_12_method_1_code (1 : Nat) (Option.none : Option Jvm.ClassFile.FieldType)) ∈ wsA := mA (List.mem_of_getElem? (i := 137) (by decide +kernel)) rfl
theorem m_138 : (Jvm.Cond.methodLink "java/lang/Throwable" (1 : Nat) ({ cls := "java/lang/Object", name := "<init>", desc := "()V" } : Jvm.MethodName)) ∈ wsA := mA (List.mem_of_getElem? (i := 138) (by decide +kernel)) rfl
theorem m_139 : (Jvm.Cond.fieldLink "java/lang/Throwable" (13 : Nat) "java/lang/Throwable" "UNASSIGNED_STACK" "[Ljava/lang/StackTraceElement;") ∈ wsA := mA (List.mem_of_getElem? (i := 139) (by decide +kernel)) rfl
theorem m_141 : (Jvm.Cond.fieldLink "java/lang/Throwable" (20 : Nat) "java/lang/Throwable" "SUPPRESSED_SENTINEL" "Ljava/util/List;") ∈ wsA := mA (List.mem_of_getElem? (i := 141) (by decide +kernel)) rfl
theorem m_143 : (Jvm.Cond.methodLink "java/lang/Throwable" (27 : Nat) ({ cls := "java/lang/Throwable", name := "fillInStackTrace", desc := "()Ljava/lang/Throwable;" } : Jvm.MethodName)) ∈ wsA := mA (List.mem_of_getElem? (i := 143) (by decide +kernel)) rfl
theorem m_144 : (Jvm.Cond.instanceMethod ({ cls := "java/lang/Throwable", name := "fillInStackTrace", desc := "()Ljava/lang/Throwable;" } : Jvm.MethodName)) ∈ wsA := mA (List.mem_of_getElem? (i := 144) (by decide +kernel)) rfl
theorem m_146 : (Jvm.Cond.selects "java/lang/ArithmeticException" ({ cls := "java/lang/Throwable", name := "fillInStackTrace", desc := "()Ljava/lang/Throwable;" } : Jvm.MethodName) ({ cls := "java/lang/Throwable", name := "fillInStackTrace", desc := "()Ljava/lang/Throwable;" } : Jvm.MethodName)) ∈ wsA := mA (List.mem_of_getElem? (i := 146) (by decide +kernel)) rfl
theorem m_147 : (Jvm.Cond.selects "java/lang/IllegalArgumentException" ({ cls := "java/lang/Throwable", name := "fillInStackTrace", desc := "()Ljava/lang/Throwable;" } : Jvm.MethodName) ({ cls := "java/lang/Throwable", name := "fillInStackTrace", desc := "()Ljava/lang/Throwable;" } : Jvm.MethodName)) ∈ wsA := mA (List.mem_of_getElem? (i := 147) (by decide +kernel)) rfl
theorem m_148 : (Jvm.Cond.selects "java/util/NoSuchElementException" ({ cls := "java/lang/Throwable", name := "fillInStackTrace", desc := "()Ljava/lang/Throwable;" } : Jvm.MethodName) ({ cls := "java/lang/Throwable", name := "fillInStackTrace", desc := "()Ljava/lang/Throwable;" } : Jvm.MethodName)) ∈ wsA := mA (List.mem_of_getElem? (i := 148) (by decide +kernel)) rfl
theorem m_150 : (Jvm.Cond.methodLink "java/lang/Throwable" (202 : Nat) ({ cls := "java/lang/Throwable", name := "fillInStackTrace", desc := "(I)Ljava/lang/Throwable;" } : Jvm.MethodName)) ∈ wsA := mA (List.mem_of_getElem? (i := 150) (by decide +kernel)) rfl
theorem m_152 : (Jvm.Cond.instanceMethod ({ cls := "java/lang/Throwable", name := "fillInStackTrace", desc := "(I)Ljava/lang/Throwable;" } : Jvm.MethodName)) ∈ wsA := mA (List.mem_of_getElem? (i := 152) (by decide +kernel)) rfl
theorem m_153 : (Jvm.Cond.instantiable "java/lang/Throwable" (6 : Nat)) ∈ wsA := mA (List.mem_of_getElem? (i := 153) (by decide +kernel)) rfl
theorem m_156 : (Jvm.Cond.methodLink "HopArena" (113 : Nat) ({ cls := "java/lang/IndexOutOfBoundsException", name := "<init>", desc := "(Ljava/lang/String;)V" } : Jvm.MethodName)) ∈ wsA := mA (List.mem_of_getElem? (i := 156) (by decide +kernel)) rfl
theorem m_157 : (Jvm.Cond.instanceMethod ({ cls := "java/lang/IndexOutOfBoundsException", name := "<init>", desc := "(Ljava/lang/String;)V" } : Jvm.MethodName)) ∈ wsA := mA (List.mem_of_getElem? (i := 157) (by decide +kernel)) rfl
theorem m_158 : (Jvm.Cond.code ({ cls := "java/lang/IndexOutOfBoundsException", name := "<init>", desc := "(Ljava/lang/String;)V" } : Jvm.MethodName) prog_8_method_2_code (2 : Nat) (Option.none : Option Jvm.ClassFile.FieldType)) ∈ wsA := mA (List.mem_of_getElem? (i := 158) (by decide +kernel)) rfl
theorem m_159 : (Jvm.Cond.methodLink "java/lang/IndexOutOfBoundsException" (7 : Nat) ({ cls := "java/lang/RuntimeException", name := "<init>", desc := "(Ljava/lang/String;)V" } : Jvm.MethodName)) ∈ wsA := mA (List.mem_of_getElem? (i := 159) (by decide +kernel)) rfl
theorem m_160 : (Jvm.Cond.instanceMethod ({ cls := "java/lang/RuntimeException", name := "<init>", desc := "(Ljava/lang/String;)V" } : Jvm.MethodName)) ∈ wsA := mA (List.mem_of_getElem? (i := 160) (by decide +kernel)) rfl
theorem m_161 : (Jvm.Cond.code ({ cls := "java/lang/RuntimeException", name := "<init>", desc := "(Ljava/lang/String;)V" } : Jvm.MethodName) prog_10_method_2_code (2 : Nat) (Option.none : Option Jvm.ClassFile.FieldType)) ∈ wsA := mA (List.mem_of_getElem? (i := 161) (by decide +kernel)) rfl
theorem m_162 : (Jvm.Cond.methodLink "java/lang/RuntimeException" (7 : Nat) ({ cls := "java/lang/Exception", name := "<init>", desc := "(Ljava/lang/String;)V" } : Jvm.MethodName)) ∈ wsA := mA (List.mem_of_getElem? (i := 162) (by decide +kernel)) rfl
theorem m_163 : (Jvm.Cond.instanceMethod ({ cls := "java/lang/Exception", name := "<init>", desc := "(Ljava/lang/String;)V" } : Jvm.MethodName)) ∈ wsA := mA (List.mem_of_getElem? (i := 163) (by decide +kernel)) rfl
theorem m_164 : (Jvm.Cond.code ({ cls := "java/lang/Exception", name := "<init>", desc := "(Ljava/lang/String;)V" } : Jvm.MethodName) prog_6_method_2_code (2 : Nat) (Option.none : Option Jvm.ClassFile.FieldType)) ∈ wsA := mA (List.mem_of_getElem? (i := 164) (by decide +kernel)) rfl
theorem m_165 : (Jvm.Cond.methodLink "java/lang/Exception" (7 : Nat) ({ cls := "java/lang/Throwable", name := "<init>", desc := "(Ljava/lang/String;)V" } : Jvm.MethodName)) ∈ wsA := mA (List.mem_of_getElem? (i := 165) (by decide +kernel)) rfl
theorem m_166 : (Jvm.Cond.instanceMethod ({ cls := "java/lang/Throwable", name := "<init>", desc := "(Ljava/lang/String;)V" } : Jvm.MethodName)) ∈ wsA := mA (List.mem_of_getElem? (i := 166) (by decide +kernel)) rfl
theorem m_167 : (Jvm.Cond.code ({ cls := "java/lang/Throwable", name := "<init>", desc := "(Ljava/lang/String;)V" } : Jvm.MethodName) prog_12_method_2_code (2 : Nat) (Option.none : Option Jvm.ClassFile.FieldType)) ∈ wsA := mA (List.mem_of_getElem? (i := 167) (by decide +kernel)) rfl
theorem m_168 : (Jvm.Cond.fieldLink "java/lang/Throwable" (198 : Nat) "java/lang/Throwable" "backtrace" "Ljava/lang/Object;") ∈ wsA := mA (List.mem_of_getElem? (i := 168) (by decide +kernel)) rfl
theorem m_169 : (Jvm.Cond.fieldLink "java/lang/Throwable" (31 : Nat) "java/lang/Throwable" "detailMessage" "Ljava/lang/String;") ∈ wsA := mA (List.mem_of_getElem? (i := 169) (by decide +kernel)) rfl
theorem m_170 : (Jvm.Cond.fieldLink "java/lang/Throwable" (7 : Nat) "java/lang/Throwable" "cause" "Ljava/lang/Throwable;") ∈ wsA := mA (List.mem_of_getElem? (i := 170) (by decide +kernel)) rfl
theorem m_171 : (Jvm.Cond.fieldLink "java/lang/Throwable" (17 : Nat) "java/lang/Throwable" "stackTrace" "[Ljava/lang/StackTraceElement;") ∈ wsA := mA (List.mem_of_getElem? (i := 171) (by decide +kernel)) rfl
theorem m_172 : (Jvm.Cond.fieldLink "java/lang/Throwable" (24 : Nat) "java/lang/Throwable" "suppressedExceptions" "Ljava/util/List;") ∈ wsA := mA (List.mem_of_getElem? (i := 172) (by decide +kernel)) rfl
theorem m_177 : (Jvm.Cond.lays "java/lang/IndexOutOfBoundsException" "java/lang/Throwable" "depth" "I") ∈ wsA := mA (List.mem_of_getElem? (i := 177) (by decide +kernel)) rfl
theorem m_181 : (Jvm.Cond.arrayClass Jvm.ClassFile.FieldType.byte) ∈ wsA := mA (List.mem_of_getElem? (i := 181) (by decide +kernel)) rfl
theorem m_182 : (Jvm.Cond.methodLink "HopArena" (40 : Nat) ({ cls := "HopArena", name := "slotOrNone", desc := "(LHopArena$Part;I)I" } : Jvm.MethodName)) ∈ wsA := mA (List.mem_of_getElem? (i := 182) (by decide +kernel)) rfl
theorem m_184 : (Jvm.Cond.instanceMethod ({ cls := "HopArena", name := "slotOrNone", desc := "(LHopArena$Part;I)I" } : Jvm.MethodName)) ∈ wsA := mA (List.mem_of_getElem? (i := 184) (by decide +kernel)) rfl
theorem m_185 : (Jvm.Cond.code ({ cls := "HopArena", name := "slotOrNone", desc := "(LHopArena$Part;I)I" } : Jvm.MethodName) prog_1_method_18_code (6 : Nat) (Option.some Jvm.ClassFile.FieldType.int)) ∈ wsA := mA (List.mem_of_getElem? (i := 185) (by decide +kernel)) rfl
theorem m_186 : (Jvm.Cond.methodLink "HopArena" (85 : Nat) ({ cls := "HopArena$Part", name := "homeOf", desc := "(I)I" } : Jvm.MethodName)) ∈ wsA := mA (List.mem_of_getElem? (i := 186) (by decide +kernel)) rfl
theorem m_187 : (Jvm.Cond.instanceMethod ({ cls := "HopArena$Part", name := "homeOf", desc := "(I)I" } : Jvm.MethodName)) ∈ wsA := mA (List.mem_of_getElem? (i := 187) (by decide +kernel)) rfl
theorem m_188 : (Jvm.Cond.selects "HopArena$Part" ({ cls := "HopArena$Part", name := "homeOf", desc := "(I)I" } : Jvm.MethodName) ({ cls := "HopArena$Part", name := "homeOf", desc := "(I)I" } : Jvm.MethodName)) ∈ wsA := mA (List.mem_of_getElem? (i := 188) (by decide +kernel)) rfl
theorem m_189 : (Jvm.Cond.code ({ cls := "HopArena$Part", name := "homeOf", desc := "(I)I" } : Jvm.MethodName) prog_2_method_4_code (2 : Nat) (Option.some Jvm.ClassFile.FieldType.int)) ∈ wsA := mA (List.mem_of_getElem? (i := 189) (by decide +kernel)) rfl
theorem m_190 : (Jvm.Cond.constant "HopArena$Part" (19 : Nat) (-1640531535 : Int32)) ∈ wsA := mA (List.mem_of_getElem? (i := 190) (by decide +kernel)) rfl
theorem m_191 : (Jvm.Cond.methodLink "HopArena" (99 : Nat) ({ cls := "HopArena$Part", name := "slotOf", desc := "(I)I" } : Jvm.MethodName)) ∈ wsA := mA (List.mem_of_getElem? (i := 191) (by decide +kernel)) rfl
theorem m_192 : (Jvm.Cond.instanceMethod ({ cls := "HopArena$Part", name := "slotOf", desc := "(I)I" } : Jvm.MethodName)) ∈ wsA := mA (List.mem_of_getElem? (i := 192) (by decide +kernel)) rfl
theorem m_193 : (Jvm.Cond.selects "HopArena$Part" ({ cls := "HopArena$Part", name := "slotOf", desc := "(I)I" } : Jvm.MethodName) ({ cls := "HopArena$Part", name := "slotOf", desc := "(I)I" } : Jvm.MethodName)) ∈ wsA := mA (List.mem_of_getElem? (i := 193) (by decide +kernel)) rfl
theorem m_194 : (Jvm.Cond.code ({ cls := "HopArena$Part", name := "slotOf", desc := "(I)I" } : Jvm.MethodName) prog_2_method_3_code (2 : Nat) (Option.some Jvm.ClassFile.FieldType.int)) ∈ wsA := mA (List.mem_of_getElem? (i := 194) (by decide +kernel)) rfl
theorem m_195 : (Jvm.Cond.methodLink "HopArena" (44 : Nat) ({ cls := "HopArena", name := "insert", desc := "(LHopArena$Part;II)Z" } : Jvm.MethodName)) ∈ wsA := mA (List.mem_of_getElem? (i := 195) (by decide +kernel)) rfl
theorem m_197 : (Jvm.Cond.instanceMethod ({ cls := "HopArena", name := "insert", desc := "(LHopArena$Part;II)Z" } : Jvm.MethodName)) ∈ wsA := mA (List.mem_of_getElem? (i := 197) (by decide +kernel)) rfl
theorem m_198 : (Jvm.Cond.code ({ cls := "HopArena", name := "insert", desc := "(LHopArena$Part;II)Z" } : Jvm.MethodName) prog_1_method_22_code (8 : Nat) (Option.some Jvm.ClassFile.FieldType.boolean)) ∈ wsA := mA (List.mem_of_getElem? (i := 198) (by decide +kernel)) rfl
theorem m_199 : (Jvm.Cond.methodLink "HopArena" (126 : Nat) ({ cls := "HopArena", name := "stepsToFree", desc := "(LHopArena$Part;I)I" } : Jvm.MethodName)) ∈ wsA := mA (List.mem_of_getElem? (i := 199) (by decide +kernel)) rfl
theorem m_201 : (Jvm.Cond.instanceMethod ({ cls := "HopArena", name := "stepsToFree", desc := "(LHopArena$Part;I)I" } : Jvm.MethodName)) ∈ wsA := mA (List.mem_of_getElem? (i := 201) (by decide +kernel)) rfl
theorem m_202 : (Jvm.Cond.code ({ cls := "HopArena", name := "stepsToFree", desc := "(LHopArena$Part;I)I" } : Jvm.MethodName) prog_1_method_23_code (4 : Nat) (Option.some Jvm.ClassFile.FieldType.int)) ∈ wsA := mA (List.mem_of_getElem? (i := 202) (by decide +kernel)) rfl
theorem m_203 : (Jvm.Cond.methodLink "HopArena" (129 : Nat) ({ cls := "HopArena", name := "hopNearer", desc := "(LHopArena$Part;I)I" } : Jvm.MethodName)) ∈ wsA := mA (List.mem_of_getElem? (i := 203) (by decide +kernel)) rfl
theorem m_205 : (Jvm.Cond.instanceMethod ({ cls := "HopArena", name := "hopNearer", desc := "(LHopArena$Part;I)I" } : Jvm.MethodName)) ∈ wsA := mA (List.mem_of_getElem? (i := 205) (by decide +kernel)) rfl
theorem m_206 : (Jvm.Cond.code ({ cls := "HopArena", name := "hopNearer", desc := "(LHopArena$Part;I)I" } : Jvm.MethodName) prog_1_method_24_code (7 : Nat) (Option.some Jvm.ClassFile.FieldType.int)) ∈ wsA := mA (List.mem_of_getElem? (i := 206) (by decide +kernel)) rfl
theorem m_207 : (Jvm.Cond.methodLink "HopArena" (89 : Nat) ({ cls := "HopArena$Part", name := "around", desc := "(I)I" } : Jvm.MethodName)) ∈ wsA := mA (List.mem_of_getElem? (i := 207) (by decide +kernel)) rfl
theorem m_208 : (Jvm.Cond.instanceMethod ({ cls := "HopArena$Part", name := "around", desc := "(I)I" } : Jvm.MethodName)) ∈ wsA := mA (List.mem_of_getElem? (i := 208) (by decide +kernel)) rfl
theorem m_209 : (Jvm.Cond.selects "HopArena$Part" ({ cls := "HopArena$Part", name := "around", desc := "(I)I" } : Jvm.MethodName) ({ cls := "HopArena$Part", name := "around", desc := "(I)I" } : Jvm.MethodName)) ∈ wsA := mA (List.mem_of_getElem? (i := 209) (by decide +kernel)) rfl
theorem m_210 : (Jvm.Cond.code ({ cls := "HopArena$Part", name := "around", desc := "(I)I" } : Jvm.MethodName) prog_2_method_2_code (2 : Nat) (Option.some Jvm.ClassFile.FieldType.int)) ∈ wsA := mA (List.mem_of_getElem? (i := 210) (by decide +kernel)) rfl
theorem m_211 : (Jvm.Cond.methodLink "HopArena" (96 : Nat) ({ cls := "HopArena", name := "isBitSet", desc := "(LHopArena$Part;II)Z" } : Jvm.MethodName)) ∈ wsA := mA (List.mem_of_getElem? (i := 211) (by decide +kernel)) rfl
theorem m_213 : (Jvm.Cond.instanceMethod ({ cls := "HopArena", name := "isBitSet", desc := "(LHopArena$Part;II)Z" } : Jvm.MethodName)) ∈ wsA := mA (List.mem_of_getElem? (i := 213) (by decide +kernel)) rfl
theorem m_214 : (Jvm.Cond.code ({ cls := "HopArena", name := "isBitSet", desc := "(LHopArena$Part;II)Z" } : Jvm.MethodName) prog_1_method_21_code (5 : Nat) (Option.some Jvm.ClassFile.FieldType.boolean)) ∈ wsA := mA (List.mem_of_getElem? (i := 214) (by decide +kernel)) rfl
theorem m_215 : (Jvm.Cond.methodLink "HopArena" (132 : Nat) ({ cls := "HopArena", name := "copySlot", desc := "(II)V" } : Jvm.MethodName)) ∈ wsA := mA (List.mem_of_getElem? (i := 215) (by decide +kernel)) rfl
theorem m_217 : (Jvm.Cond.instanceMethod ({ cls := "HopArena", name := "copySlot", desc := "(II)V" } : Jvm.MethodName)) ∈ wsA := mA (List.mem_of_getElem? (i := 217) (by decide +kernel)) rfl
theorem m_218 : (Jvm.Cond.code ({ cls := "HopArena", name := "copySlot", desc := "(II)V" } : Jvm.MethodName) prog_1_method_25_code (3 : Nat) (Option.none : Option Jvm.ClassFile.FieldType)) ∈ wsA := mA (List.mem_of_getElem? (i := 218) (by decide +kernel)) rfl
theorem m_219 : (Jvm.Cond.methodLink "HopArena" (48 : Nat) ({ cls := "HopArena", name := "growWith", desc := "(III)Z" } : Jvm.MethodName)) ∈ wsA := mA (List.mem_of_getElem? (i := 219) (by decide +kernel)) rfl
theorem m_221 : (Jvm.Cond.instanceMethod ({ cls := "HopArena", name := "growWith", desc := "(III)Z" } : Jvm.MethodName)) ∈ wsA := mA (List.mem_of_getElem? (i := 221) (by decide +kernel)) rfl
theorem m_222 : (Jvm.Cond.code ({ cls := "HopArena", name := "growWith", desc := "(III)Z" } : Jvm.MethodName) prog_1_method_26_code (10 : Nat) (Option.some Jvm.ClassFile.FieldType.boolean)) ∈ wsA := mA (List.mem_of_getElem? (i := 222) (by decide +kernel)) rfl
theorem m_223 : (Jvm.Cond.methodLink "HopArena" (136 : Nat) ({ cls := "HopArena", name := "sumOfCapacities", desc := "()I" } : Jvm.MethodName)) ∈ wsA := mA (List.mem_of_getElem? (i := 223) (by decide +kernel)) rfl
theorem m_225 : (Jvm.Cond.instanceMethod ({ cls := "HopArena", name := "sumOfCapacities", desc := "()I" } : Jvm.MethodName)) ∈ wsA := mA (List.mem_of_getElem? (i := 225) (by decide +kernel)) rfl
theorem m_226 : (Jvm.Cond.code ({ cls := "HopArena", name := "sumOfCapacities", desc := "()I" } : Jvm.MethodName) prog_1_method_27_code (3 : Nat) (Option.some Jvm.ClassFile.FieldType.int)) ∈ wsA := mA (List.mem_of_getElem? (i := 226) (by decide +kernel)) rfl
theorem m_227 : (Jvm.Cond.constant "HopArena" (139 : Nat) (1664525 : Int32)) ∈ wsA := mA (List.mem_of_getElem? (i := 227) (by decide +kernel)) rfl
theorem m_228 : (Jvm.Cond.constant "HopArena" (140 : Nat) (1013904223 : Int32)) ∈ wsA := mA (List.mem_of_getElem? (i := 228) (by decide +kernel)) rfl
theorem m_229 : (Jvm.Cond.methodLink "HopArena" (141 : Nat) ({ cls := "HopArena", name := "layOut", desc := "(LHopArena$Part;II)V" } : Jvm.MethodName)) ∈ wsA := mA (List.mem_of_getElem? (i := 229) (by decide +kernel)) rfl
theorem m_231 : (Jvm.Cond.instanceMethod ({ cls := "HopArena", name := "layOut", desc := "(LHopArena$Part;II)V" } : Jvm.MethodName)) ∈ wsA := mA (List.mem_of_getElem? (i := 231) (by decide +kernel)) rfl
theorem m_232 : (Jvm.Cond.code ({ cls := "HopArena", name := "layOut", desc := "(LHopArena$Part;II)V" } : Jvm.MethodName) prog_1_method_28_code (4 : Nat) (Option.none : Option Jvm.ClassFile.FieldType)) ∈ wsA := mA (List.mem_of_getElem? (i := 232) (by decide +kernel)) rfl
theorem m_233 : (Jvm.Cond.methodLink "HopArena" (149 : Nat) ({ cls := "HopArena", name := "lastEnd", desc := "()I" } : Jvm.MethodName)) ∈ wsA := mA (List.mem_of_getElem? (i := 233) (by decide +kernel)) rfl
theorem m_235 : (Jvm.Cond.instanceMethod ({ cls := "HopArena", name := "lastEnd", desc := "()I" } : Jvm.MethodName)) ∈ wsA := mA (List.mem_of_getElem? (i := 235) (by decide +kernel)) rfl
theorem m_236 : (Jvm.Cond.code ({ cls := "HopArena", name := "lastEnd", desc := "()I" } : Jvm.MethodName) prog_1_method_29_code (3 : Nat) (Option.some Jvm.ClassFile.FieldType.int)) ∈ wsA := mA (List.mem_of_getElem? (i := 236) (by decide +kernel)) rfl
theorem m_237 : (Jvm.Cond.methodLink "HopArena" (122 : Nat) ({ cls := "HopArena$Part", name := "end", desc := "()I" } : Jvm.MethodName)) ∈ wsA := mA (List.mem_of_getElem? (i := 237) (by decide +kernel)) rfl
theorem m_238 : (Jvm.Cond.instanceMethod ({ cls := "HopArena$Part", name := "end", desc := "()I" } : Jvm.MethodName)) ∈ wsA := mA (List.mem_of_getElem? (i := 238) (by decide +kernel)) rfl
theorem m_239 : (Jvm.Cond.selects "HopArena$Part" ({ cls := "HopArena$Part", name := "end", desc := "()I" } : Jvm.MethodName) ({ cls := "HopArena$Part", name := "end", desc := "()I" } : Jvm.MethodName)) ∈ wsA := mA (List.mem_of_getElem? (i := 239) (by decide +kernel)) rfl
theorem m_240 : (Jvm.Cond.code ({ cls := "HopArena$Part", name := "end", desc := "()I" } : Jvm.MethodName) prog_2_method_5_code (1 : Nat) (Option.some Jvm.ClassFile.FieldType.int)) ∈ wsA := mA (List.mem_of_getElem? (i := 240) (by decide +kernel)) rfl
theorem m_241 : (Jvm.Cond.methodLink "HopArena" (155 : Nat) ({ cls := "java/lang/Math", name := "max", desc := "(II)I" } : Jvm.MethodName)) ∈ wsA := mA (List.mem_of_getElem? (i := 241) (by decide +kernel)) rfl
theorem m_242 : (Jvm.Cond.static ({ cls := "java/lang/Math", name := "max", desc := "(II)I" } : Jvm.MethodName)) ∈ wsA := mA (List.mem_of_getElem? (i := 242) (by decide +kernel)) rfl
theorem m_243 : (Jvm.Cond.code ({ cls := "java/lang/Math", name := "max", desc := "(II)I" } : Jvm.MethodName) prog_9_method_65_code (2 : Nat) (Option.some Jvm.ClassFile.FieldType.int)) ∈ wsA := mA (List.mem_of_getElem? (i := 243) (by decide +kernel)) rfl
theorem m_244 : (Jvm.Cond.methodLink "HopArena" (152 : Nat) ({ cls := "HopArena", name := "pushTogether", desc := "()V" } : Jvm.MethodName)) ∈ wsA := mA (List.mem_of_getElem? (i := 244) (by decide +kernel)) rfl
theorem m_246 : (Jvm.Cond.instanceMethod ({ cls := "HopArena", name := "pushTogether", desc := "()V" } : Jvm.MethodName)) ∈ wsA := mA (List.mem_of_getElem? (i := 246) (by decide +kernel)) rfl
theorem m_247 : (Jvm.Cond.code ({ cls := "HopArena", name := "pushTogether", desc := "()V" } : Jvm.MethodName) prog_1_method_30_code (4 : Nat) (Option.none : Option Jvm.ClassFile.FieldType)) ∈ wsA := mA (List.mem_of_getElem? (i := 247) (by decide +kernel)) rfl
theorem m_248 : (Jvm.Cond.methodLink "HopArena" (161 : Nat) ({ cls := "HopArena", name := "lowestFrom", desc := "(I)LHopArena$Part;" } : Jvm.MethodName)) ∈ wsA := mA (List.mem_of_getElem? (i := 248) (by decide +kernel)) rfl
theorem m_250 : (Jvm.Cond.instanceMethod ({ cls := "HopArena", name := "lowestFrom", desc := "(I)LHopArena$Part;" } : Jvm.MethodName)) ∈ wsA := mA (List.mem_of_getElem? (i := 250) (by decide +kernel)) rfl
theorem m_251 : (Jvm.Cond.code ({ cls := "HopArena", name := "lowestFrom", desc := "(I)LHopArena$Part;" } : Jvm.MethodName) prog_1_method_31_code (5 : Nat) (Option.some (Jvm.ClassFile.FieldType.object "HopArena$Part"))) ∈ wsA := mA (List.mem_of_getElem? (i := 251) (by decide +kernel)) rfl
theorem m_252 : (Jvm.Cond.methodLink "HopArena" (164 : Nat) ({ cls := "HopArena", name := "moveDown", desc := "(LHopArena$Part;I)V" } : Jvm.MethodName)) ∈ wsA := mA (List.mem_of_getElem? (i := 252) (by decide +kernel)) rfl
theorem m_254 : (Jvm.Cond.instanceMethod ({ cls := "HopArena", name := "moveDown", desc := "(LHopArena$Part;I)V" } : Jvm.MethodName)) ∈ wsA := mA (List.mem_of_getElem? (i := 254) (by decide +kernel)) rfl
theorem m_255 : (Jvm.Cond.code ({ cls := "HopArena", name := "moveDown", desc := "(LHopArena$Part;I)V" } : Jvm.MethodName) prog_1_method_32_code (4 : Nat) (Option.none : Option Jvm.ClassFile.FieldType)) ∈ wsA := mA (List.mem_of_getElem? (i := 255) (by decide +kernel)) rfl
theorem m_256 : (Jvm.Cond.methodLink "HopArena" (70 : Nat) ({ cls := "HopArena", name := "freeAll", desc := "(LHopArena$Part;)V" } : Jvm.MethodName)) ∈ wsA := mA (List.mem_of_getElem? (i := 256) (by decide +kernel)) rfl
theorem m_258 : (Jvm.Cond.instanceMethod ({ cls := "HopArena", name := "freeAll", desc := "(LHopArena$Part;)V" } : Jvm.MethodName)) ∈ wsA := mA (List.mem_of_getElem? (i := 258) (by decide +kernel)) rfl
theorem m_259 : (Jvm.Cond.code ({ cls := "HopArena", name := "freeAll", desc := "(LHopArena$Part;)V" } : Jvm.MethodName) prog_1_method_20_code (3 : Nat) (Option.none : Option Jvm.ClassFile.FieldType)) ∈ wsA := mA (List.mem_of_getElem? (i := 259) (by decide +kernel)) rfl
theorem m_260 : (Jvm.Cond.methodLink "HopArena" (145 : Nat) ({ cls := "HopArena", name := "insertAnew", desc := "(LHopArena$Part;LHopArena$Part;)Z" } : Jvm.MethodName)) ∈ wsA := mA (List.mem_of_getElem? (i := 260) (by decide +kernel)) rfl
theorem m_262 : (Jvm.Cond.instanceMethod ({ cls := "HopArena", name := "insertAnew", desc := "(LHopArena$Part;LHopArena$Part;)Z" } : Jvm.MethodName)) ∈ wsA := mA (List.mem_of_getElem? (i := 262) (by decide +kernel)) rfl
theorem m_263 : (Jvm.Cond.code ({ cls := "HopArena", name := "insertAnew", desc := "(LHopArena$Part;LHopArena$Part;)Z" } : Jvm.MethodName) prog_1_method_33_code (4 : Nat) (Option.some Jvm.ClassFile.FieldType.boolean)) ∈ wsA := mA (List.mem_of_getElem? (i := 263) (by decide +kernel)) rfl
theorem m_264 : (Jvm.Cond.classLink "HopArena" (52 : Nat) "java/lang/ArithmeticException") ∈ wsA := mA (List.mem_of_getElem? (i := 264) (by decide +kernel)) rfl
theorem m_265 : (Jvm.Cond.instantiable "java/lang/ArithmeticException" (6 : Nat)) ∈ wsA := mA (List.mem_of_getElem? (i := 265) (by decide +kernel)) rfl
theorem m_267 : (Jvm.Cond.selects "java/lang/ArithmeticException" ({ cls := "java/lang/Throwable", name := "fillInStackTrace", desc := "(I)Ljava/lang/Throwable;" } : Jvm.MethodName) ({ cls := "java/lang/Throwable", name := "fillInStackTrace", desc := "(I)Ljava/lang/Throwable;" } : Jvm.MethodName)) ∈ wsA := mA (List.mem_of_getElem? (i := 267) (by decide +kernel)) rfl
theorem m_268 : (Jvm.Cond.lays "java/lang/ArithmeticException" "java/lang/Throwable" "cause" "Ljava/lang/Throwable;") ∈ wsA := mA (List.mem_of_getElem? (i := 268) (by decide +kernel)) rfl
theorem m_269 : (Jvm.Cond.lays "java/lang/ArithmeticException" "java/lang/Throwable" "stackTrace" "[Ljava/lang/StackTraceElement;") ∈ wsA := mA (List.mem_of_getElem? (i := 269) (by decide +kernel)) rfl
theorem m_270 : (Jvm.Cond.lays "java/lang/ArithmeticException" "java/lang/Throwable" "suppressedExceptions" "Ljava/util/List;") ∈ wsA := mA (List.mem_of_getElem? (i := 270) (by decide +kernel)) rfl
theorem m_271 : (Jvm.Cond.lays "java/lang/ArithmeticException" "java/lang/Throwable" "detailMessage" "Ljava/lang/String;") ∈ wsA := mA (List.mem_of_getElem? (i := 271) (by decide +kernel)) rfl
theorem m_272 : (Jvm.Cond.lays "java/lang/ArithmeticException" "java/lang/Throwable" "backtrace" "Ljava/lang/Object;") ∈ wsA := mA (List.mem_of_getElem? (i := 272) (by decide +kernel)) rfl
theorem m_274 : (Jvm.Cond.methodLink "HopArena" (56 : Nat) ({ cls := "java/lang/ArithmeticException", name := "<init>", desc := "(Ljava/lang/String;)V" } : Jvm.MethodName)) ∈ wsA := mA (List.mem_of_getElem? (i := 274) (by decide +kernel)) rfl
theorem m_275 : (Jvm.Cond.instanceMethod ({ cls := "java/lang/ArithmeticException", name := "<init>", desc := "(Ljava/lang/String;)V" } : Jvm.MethodName)) ∈ wsA := mA (List.mem_of_getElem? (i := 275) (by decide +kernel)) rfl
theorem m_276 : (Jvm.Cond.code ({ cls := "java/lang/ArithmeticException", name := "<init>", desc := "(Ljava/lang/String;)V" } : Jvm.MethodName) prog_5_method_2_code (2 : Nat) (Option.none : Option Jvm.ClassFile.FieldType)) ∈ wsA := mA (List.mem_of_getElem? (i := 276) (by decide +kernel)) rfl
theorem m_277 : (Jvm.Cond.methodLink "java/lang/ArithmeticException" (7 : Nat) ({ cls := "java/lang/RuntimeException", name := "<init>", desc := "(Ljava/lang/String;)V" } : Jvm.MethodName)) ∈ wsA := mA (List.mem_of_getElem? (i := 277) (by decide +kernel)) rfl
theorem m_278 : (Jvm.Cond.lays "java/lang/ArithmeticException" "java/lang/Throwable" "depth" "I") ∈ wsA := mA (List.mem_of_getElem? (i := 278) (by decide +kernel)) rfl
theorem m_280 : (Jvm.Cond.methodLink "HopArenaLaw" (74 : Nat) ({ cls := "HopArenaLaw", name := "get", desc := "(LHopArena;II[J)I" } : Jvm.MethodName)) ∈ wsA := mA (List.mem_of_getElem? (i := 280) (by decide +kernel)) rfl
theorem m_281 : (Jvm.Cond.static ({ cls := "HopArenaLaw", name := "get", desc := "(LHopArena;II[J)I" } : Jvm.MethodName)) ∈ wsA := mA (List.mem_of_getElem? (i := 281) (by decide +kernel)) rfl
theorem m_282 : (Jvm.Cond.codeWith ({ cls := "HopArenaLaw", name := "get", desc := "(LHopArena;II[J)I" } : Jvm.MethodName) method_4_code (5 : Nat) (Option.some Jvm.ClassFile.FieldType.int) [((0 : Nat), (10 : Nat), (13 : Nat), (13 : Nat)), ((0 : Nat), (10 : Nat), (17 : Nat), (21 : Nat))]) ∈ wsA := mA (List.mem_of_getElem? (i := 282) (by decide +kernel)) rfl
theorem m_283 : (Jvm.Cond.classLink "HopArenaLaw" (21 : Nat) "java/util/NoSuchElementException") ∈ wsA := mA (List.mem_of_getElem? (i := 283) (by decide +kernel)) rfl
theorem m_284 : (Jvm.Cond.methodLink "HopArenaLaw" (17 : Nat) ({ cls := "HopArena", name := "get", desc := "(II)I" } : Jvm.MethodName)) ∈ wsA := mA (List.mem_of_getElem? (i := 284) (by decide +kernel)) rfl
theorem m_285 : (Jvm.Cond.instanceMethod ({ cls := "HopArena", name := "get", desc := "(II)I" } : Jvm.MethodName)) ∈ wsA := mA (List.mem_of_getElem? (i := 285) (by decide +kernel)) rfl
theorem m_286 : (Jvm.Cond.selects "HopArena" ({ cls := "HopArena", name := "get", desc := "(II)I" } : Jvm.MethodName) ({ cls := "HopArena", name := "get", desc := "(II)I" } : Jvm.MethodName)) ∈ wsA := mA (List.mem_of_getElem? (i := 286) (by decide +kernel)) rfl
theorem m_287 : (Jvm.Cond.code ({ cls := "HopArena", name := "get", desc := "(II)I" } : Jvm.MethodName) prog_1_method_3_code (3 : Nat) (Option.some Jvm.ClassFile.FieldType.int)) ∈ wsA := mA (List.mem_of_getElem? (i := 287) (by decide +kernel)) rfl
theorem m_288 : (Jvm.Cond.methodLink "HopArena" (59 : Nat) ({ cls := "HopArena", name := "slotHolding", desc := "(LHopArena$Part;I)I" } : Jvm.MethodName)) ∈ wsA := mA (List.mem_of_getElem? (i := 288) (by decide +kernel)) rfl
theorem m_290 : (Jvm.Cond.instanceMethod ({ cls := "HopArena", name := "slotHolding", desc := "(LHopArena$Part;I)I" } : Jvm.MethodName)) ∈ wsA := mA (List.mem_of_getElem? (i := 290) (by decide +kernel)) rfl
theorem m_291 : (Jvm.Cond.code ({ cls := "HopArena", name := "slotHolding", desc := "(LHopArena$Part;I)I" } : Jvm.MethodName) prog_1_method_17_code (4 : Nat) (Option.some Jvm.ClassFile.FieldType.int)) ∈ wsA := mA (List.mem_of_getElem? (i := 291) (by decide +kernel)) rfl
theorem m_292 : (Jvm.Cond.classLink "HopArena" (102 : Nat) "java/util/NoSuchElementException") ∈ wsA := mA (List.mem_of_getElem? (i := 292) (by decide +kernel)) rfl
theorem m_293 : (Jvm.Cond.instantiable "java/util/NoSuchElementException" (6 : Nat)) ∈ wsA := mA (List.mem_of_getElem? (i := 293) (by decide +kernel)) rfl
theorem m_295 : (Jvm.Cond.selects "java/util/NoSuchElementException" ({ cls := "java/lang/Throwable", name := "fillInStackTrace", desc := "(I)Ljava/lang/Throwable;" } : Jvm.MethodName) ({ cls := "java/lang/Throwable", name := "fillInStackTrace", desc := "(I)Ljava/lang/Throwable;" } : Jvm.MethodName)) ∈ wsA := mA (List.mem_of_getElem? (i := 295) (by decide +kernel)) rfl
theorem m_296 : (Jvm.Cond.lays "java/util/NoSuchElementException" "java/lang/Throwable" "cause" "Ljava/lang/Throwable;") ∈ wsA := mA (List.mem_of_getElem? (i := 296) (by decide +kernel)) rfl
theorem m_297 : (Jvm.Cond.lays "java/util/NoSuchElementException" "java/lang/Throwable" "stackTrace" "[Ljava/lang/StackTraceElement;") ∈ wsA := mA (List.mem_of_getElem? (i := 297) (by decide +kernel)) rfl
theorem m_298 : (Jvm.Cond.lays "java/util/NoSuchElementException" "java/lang/Throwable" "suppressedExceptions" "Ljava/util/List;") ∈ wsA := mA (List.mem_of_getElem? (i := 298) (by decide +kernel)) rfl
theorem m_299 : (Jvm.Cond.lays "java/util/NoSuchElementException" "java/lang/Throwable" "detailMessage" "Ljava/lang/String;") ∈ wsA := mA (List.mem_of_getElem? (i := 299) (by decide +kernel)) rfl
theorem m_300 : (Jvm.Cond.lays "java/util/NoSuchElementException" "java/lang/Throwable" "backtrace" "Ljava/lang/Object;") ∈ wsA := mA (List.mem_of_getElem? (i := 300) (by decide +kernel)) rfl
theorem m_302 : (Jvm.Cond.methodLink "HopArena" (106 : Nat) ({ cls := "java/util/NoSuchElementException", name := "<init>", desc := "(Ljava/lang/String;)V" } : Jvm.MethodName)) ∈ wsA := mA (List.mem_of_getElem? (i := 302) (by decide +kernel)) rfl
theorem m_303 : (Jvm.Cond.instanceMethod ({ cls := "java/util/NoSuchElementException", name := "<init>", desc := "(Ljava/lang/String;)V" } : Jvm.MethodName)) ∈ wsA := mA (List.mem_of_getElem? (i := 303) (by decide +kernel)) rfl
theorem m_304 : (Jvm.Cond.code ({ cls := "java/util/NoSuchElementException", name := "<init>", desc := "(Ljava/lang/String;)V" } : Jvm.MethodName) prog_13_method_4_code (2 : Nat) (Option.none : Option Jvm.ClassFile.FieldType)) ∈ wsA := mA (List.mem_of_getElem? (i := 304) (by decide +kernel)) rfl
theorem m_305 : (Jvm.Cond.methodLink "java/util/NoSuchElementException" (13 : Nat) ({ cls := "java/lang/RuntimeException", name := "<init>", desc := "(Ljava/lang/String;)V" } : Jvm.MethodName)) ∈ wsA := mA (List.mem_of_getElem? (i := 305) (by decide +kernel)) rfl
theorem m_306 : (Jvm.Cond.lays "java/util/NoSuchElementException" "java/lang/Throwable" "depth" "I") ∈ wsA := mA (List.mem_of_getElem? (i := 306) (by decide +kernel)) rfl
theorem m_308 : (Jvm.Cond.methodLink "HopArenaLaw" (78 : Nat) ({ cls := "HopArenaLaw", name := "remove", desc := "(LHopArena;II[J)I" } : Jvm.MethodName)) ∈ wsA := mA (List.mem_of_getElem? (i := 308) (by decide +kernel)) rfl
theorem m_309 : (Jvm.Cond.static ({ cls := "HopArenaLaw", name := "remove", desc := "(LHopArena;II[J)I" } : Jvm.MethodName)) ∈ wsA := mA (List.mem_of_getElem? (i := 309) (by decide +kernel)) rfl
theorem m_310 : (Jvm.Cond.codeWith ({ cls := "HopArenaLaw", name := "remove", desc := "(LHopArena;II[J)I" } : Jvm.MethodName) method_5_code (5 : Nat) (Option.some Jvm.ClassFile.FieldType.int) [((0 : Nat), (10 : Nat), (13 : Nat), (13 : Nat)), ((0 : Nat), (10 : Nat), (17 : Nat), (21 : Nat))]) ∈ wsA := mA (List.mem_of_getElem? (i := 310) (by decide +kernel)) rfl
theorem m_311 : (Jvm.Cond.methodLink "HopArenaLaw" (23 : Nat) ({ cls := "HopArena", name := "remove", desc := "(II)I" } : Jvm.MethodName)) ∈ wsA := mA (List.mem_of_getElem? (i := 311) (by decide +kernel)) rfl
theorem m_312 : (Jvm.Cond.instanceMethod ({ cls := "HopArena", name := "remove", desc := "(II)I" } : Jvm.MethodName)) ∈ wsA := mA (List.mem_of_getElem? (i := 312) (by decide +kernel)) rfl
theorem m_313 : (Jvm.Cond.selects "HopArena" ({ cls := "HopArena", name := "remove", desc := "(II)I" } : Jvm.MethodName) ({ cls := "HopArena", name := "remove", desc := "(II)I" } : Jvm.MethodName)) ∈ wsA := mA (List.mem_of_getElem? (i := 313) (by decide +kernel)) rfl
theorem m_314 : (Jvm.Cond.code ({ cls := "HopArena", name := "remove", desc := "(II)I" } : Jvm.MethodName) prog_1_method_4_code (4 : Nat) (Option.some Jvm.ClassFile.FieldType.int)) ∈ wsA := mA (List.mem_of_getElem? (i := 314) (by decide +kernel)) rfl
theorem m_315 : (Jvm.Cond.methodLink "HopArenaLaw" (81 : Nat) ({ cls := "HopArenaLaw", name := "has", desc := "(LHopArena;II[J)I" } : Jvm.MethodName)) ∈ wsA := mA (List.mem_of_getElem? (i := 315) (by decide +kernel)) rfl
theorem m_316 : (Jvm.Cond.static ({ cls := "HopArenaLaw", name := "has", desc := "(LHopArena;II[J)I" } : Jvm.MethodName)) ∈ wsA := mA (List.mem_of_getElem? (i := 316) (by decide +kernel)) rfl
theorem m_317 : (Jvm.Cond.codeWith ({ cls := "HopArenaLaw", name := "has", desc := "(LHopArena;II[J)I" } : Jvm.MethodName) method_6_code (5 : Nat) (Option.some Jvm.ClassFile.FieldType.int) [((0 : Nat), (17 : Nat), (20 : Nat), (13 : Nat))]) ∈ wsA := mA (List.mem_of_getElem? (i := 317) (by decide +kernel)) rfl
theorem m_318 : (Jvm.Cond.methodLink "HopArenaLaw" (26 : Nat) ({ cls := "HopArena", name := "has", desc := "(II)Z" } : Jvm.MethodName)) ∈ wsA := mA (List.mem_of_getElem? (i := 318) (by decide +kernel)) rfl
theorem m_319 : (Jvm.Cond.instanceMethod ({ cls := "HopArena", name := "has", desc := "(II)Z" } : Jvm.MethodName)) ∈ wsA := mA (List.mem_of_getElem? (i := 319) (by decide +kernel)) rfl
theorem m_320 : (Jvm.Cond.selects "HopArena" ({ cls := "HopArena", name := "has", desc := "(II)Z" } : Jvm.MethodName) ({ cls := "HopArena", name := "has", desc := "(II)Z" } : Jvm.MethodName)) ∈ wsA := mA (List.mem_of_getElem? (i := 320) (by decide +kernel)) rfl
theorem m_321 : (Jvm.Cond.code ({ cls := "HopArena", name := "has", desc := "(II)Z" } : Jvm.MethodName) prog_1_method_5_code (3 : Nat) (Option.some Jvm.ClassFile.FieldType.boolean)) ∈ wsA := mA (List.mem_of_getElem? (i := 321) (by decide +kernel)) rfl
theorem m_322 : (Jvm.Cond.methodLink "HopArenaLaw" (84 : Nat) ({ cls := "HopArenaLaw", name := "size", desc := "(LHopArena;I[J)I" } : Jvm.MethodName)) ∈ wsA := mA (List.mem_of_getElem? (i := 322) (by decide +kernel)) rfl
theorem m_323 : (Jvm.Cond.static ({ cls := "HopArenaLaw", name := "size", desc := "(LHopArena;I[J)I" } : Jvm.MethodName)) ∈ wsA := mA (List.mem_of_getElem? (i := 323) (by decide +kernel)) rfl
theorem m_324 : (Jvm.Cond.codeWith ({ cls := "HopArenaLaw", name := "size", desc := "(LHopArena;I[J)I" } : Jvm.MethodName) method_7_code (4 : Nat) (Option.some Jvm.ClassFile.FieldType.int) [((0 : Nat), (9 : Nat), (12 : Nat), (13 : Nat))]) ∈ wsA := mA (List.mem_of_getElem? (i := 324) (by decide +kernel)) rfl
theorem m_325 : (Jvm.Cond.methodLink "HopArenaLaw" (30 : Nat) ({ cls := "HopArena", name := "size", desc := "(I)I" } : Jvm.MethodName)) ∈ wsA := mA (List.mem_of_getElem? (i := 325) (by decide +kernel)) rfl
theorem m_326 : (Jvm.Cond.instanceMethod ({ cls := "HopArena", name := "size", desc := "(I)I" } : Jvm.MethodName)) ∈ wsA := mA (List.mem_of_getElem? (i := 326) (by decide +kernel)) rfl
theorem m_327 : (Jvm.Cond.selects "HopArena" ({ cls := "HopArena", name := "size", desc := "(I)I" } : Jvm.MethodName) ({ cls := "HopArena", name := "size", desc := "(I)I" } : Jvm.MethodName)) ∈ wsA := mA (List.mem_of_getElem? (i := 327) (by decide +kernel)) rfl
theorem m_328 : (Jvm.Cond.code ({ cls := "HopArena", name := "size", desc := "(I)I" } : Jvm.MethodName) prog_1_method_6_code (2 : Nat) (Option.some Jvm.ClassFile.FieldType.int)) ∈ wsA := mA (List.mem_of_getElem? (i := 328) (by decide +kernel)) rfl
theorem m_329 : (Jvm.Cond.methodLink "HopArena" (62 : Nat) ({ cls := "HopArena", name := "keysIn", desc := "(LHopArena$Part;)I" } : Jvm.MethodName)) ∈ wsA := mA (List.mem_of_getElem? (i := 329) (by decide +kernel)) rfl
theorem m_331 : (Jvm.Cond.instanceMethod ({ cls := "HopArena", name := "keysIn", desc := "(LHopArena$Part;)I" } : Jvm.MethodName)) ∈ wsA := mA (List.mem_of_getElem? (i := 331) (by decide +kernel)) rfl
theorem m_332 : (Jvm.Cond.code ({ cls := "HopArena", name := "keysIn", desc := "(LHopArena$Part;)I" } : Jvm.MethodName) prog_1_method_19_code (4 : Nat) (Option.some Jvm.ClassFile.FieldType.int)) ∈ wsA := mA (List.mem_of_getElem? (i := 332) (by decide +kernel)) rfl
theorem m_333 : (Jvm.Cond.methodLink "HopArenaLaw" (88 : Nat) ({ cls := "HopArenaLaw", name := "clear", desc := "(LHopArena;I[J)I" } : Jvm.MethodName)) ∈ wsA := mA (List.mem_of_getElem? (i := 333) (by decide +kernel)) rfl
theorem m_334 : (Jvm.Cond.static ({ cls := "HopArenaLaw", name := "clear", desc := "(LHopArena;I[J)I" } : Jvm.MethodName)) ∈ wsA := mA (List.mem_of_getElem? (i := 334) (by decide +kernel)) rfl
theorem m_335 : (Jvm.Cond.codeWith ({ cls := "HopArenaLaw", name := "clear", desc := "(LHopArena;I[J)I" } : Jvm.MethodName) method_8_code (4 : Nat) (Option.some Jvm.ClassFile.FieldType.int) [((0 : Nat), (9 : Nat), (12 : Nat), (13 : Nat))]) ∈ wsA := mA (List.mem_of_getElem? (i := 335) (by decide +kernel)) rfl
theorem m_336 : (Jvm.Cond.methodLink "HopArenaLaw" (34 : Nat) ({ cls := "HopArena", name := "clear", desc := "(I)I" } : Jvm.MethodName)) ∈ wsA := mA (List.mem_of_getElem? (i := 336) (by decide +kernel)) rfl
theorem m_337 : (Jvm.Cond.instanceMethod ({ cls := "HopArena", name := "clear", desc := "(I)I" } : Jvm.MethodName)) ∈ wsA := mA (List.mem_of_getElem? (i := 337) (by decide +kernel)) rfl
theorem m_338 : (Jvm.Cond.selects "HopArena" ({ cls := "HopArena", name := "clear", desc := "(I)I" } : Jvm.MethodName) ({ cls := "HopArena", name := "clear", desc := "(I)I" } : Jvm.MethodName)) ∈ wsA := mA (List.mem_of_getElem? (i := 338) (by decide +kernel)) rfl
theorem m_339 : (Jvm.Cond.code ({ cls := "HopArena", name := "clear", desc := "(I)I" } : Jvm.MethodName) prog_1_method_7_code (4 : Nat) (Option.some Jvm.ClassFile.FieldType.int)) ∈ wsA := mA (List.mem_of_getElem? (i := 339) (by decide +kernel)) rfl
theorem m_340 : (Jvm.Cond.methodLink "HopArenaLaw" (91 : Nat) ({ cls := "HopArenaLaw", name := "about", desc := "(LHopArena;II[J)I" } : Jvm.MethodName)) ∈ wsA := mA (List.mem_of_getElem? (i := 340) (by decide +kernel)) rfl
theorem m_341 : (Jvm.Cond.static ({ cls := "HopArenaLaw", name := "about", desc := "(LHopArena;II[J)I" } : Jvm.MethodName)) ∈ wsA := mA (List.mem_of_getElem? (i := 341) (by decide +kernel)) rfl
theorem m_342 : (Jvm.Cond.codeWith ({ cls := "HopArenaLaw", name := "about", desc := "(LHopArena;II[J)I" } : Jvm.MethodName) method_9_code (5 : Nat) (Option.some Jvm.ClassFile.FieldType.int) [((0 : Nat), (10 : Nat), (13 : Nat), (13 : Nat)), ((0 : Nat), (10 : Nat), (17 : Nat), (40 : Nat))]) ∈ wsA := mA (List.mem_of_getElem? (i := 342) (by decide +kernel)) rfl
theorem m_343 : (Jvm.Cond.classLink "HopArenaLaw" (40 : Nat) "java/lang/IllegalArgumentException") ∈ wsA := mA (List.mem_of_getElem? (i := 343) (by decide +kernel)) rfl
theorem m_344 : (Jvm.Cond.methodLink "HopArenaLaw" (37 : Nat) ({ cls := "HopArena", name := "about", desc := "(II)I" } : Jvm.MethodName)) ∈ wsA := mA (List.mem_of_getElem? (i := 344) (by decide +kernel)) rfl
theorem m_345 : (Jvm.Cond.instanceMethod ({ cls := "HopArena", name := "about", desc := "(II)I" } : Jvm.MethodName)) ∈ wsA := mA (List.mem_of_getElem? (i := 345) (by decide +kernel)) rfl
theorem m_346 : (Jvm.Cond.selects "HopArena" ({ cls := "HopArena", name := "about", desc := "(II)I" } : Jvm.MethodName) ({ cls := "HopArena", name := "about", desc := "(II)I" } : Jvm.MethodName)) ∈ wsA := mA (List.mem_of_getElem? (i := 346) (by decide +kernel)) rfl
theorem m_347 : (Jvm.Cond.code ({ cls := "HopArena", name := "about", desc := "(II)I" } : Jvm.MethodName) prog_1_method_8_code (4 : Nat) (Option.some Jvm.ClassFile.FieldType.int)) ∈ wsA := mA (List.mem_of_getElem? (i := 347) (by decide +kernel)) rfl
theorem m_348 : (Jvm.Cond.classLink "HopArena" (80 : Nat) "java/lang/IllegalArgumentException") ∈ wsA := mA (List.mem_of_getElem? (i := 348) (by decide +kernel)) rfl
theorem m_349 : (Jvm.Cond.instantiable "java/lang/IllegalArgumentException" (6 : Nat)) ∈ wsA := mA (List.mem_of_getElem? (i := 349) (by decide +kernel)) rfl
theorem m_351 : (Jvm.Cond.selects "java/lang/IllegalArgumentException" ({ cls := "java/lang/Throwable", name := "fillInStackTrace", desc := "(I)Ljava/lang/Throwable;" } : Jvm.MethodName) ({ cls := "java/lang/Throwable", name := "fillInStackTrace", desc := "(I)Ljava/lang/Throwable;" } : Jvm.MethodName)) ∈ wsA := mA (List.mem_of_getElem? (i := 351) (by decide +kernel)) rfl
theorem m_352 : (Jvm.Cond.lays "java/lang/IllegalArgumentException" "java/lang/Throwable" "cause" "Ljava/lang/Throwable;") ∈ wsA := mA (List.mem_of_getElem? (i := 352) (by decide +kernel)) rfl
theorem m_353 : (Jvm.Cond.lays "java/lang/IllegalArgumentException" "java/lang/Throwable" "stackTrace" "[Ljava/lang/StackTraceElement;") ∈ wsA := mA (List.mem_of_getElem? (i := 353) (by decide +kernel)) rfl
theorem m_354 : (Jvm.Cond.lays "java/lang/IllegalArgumentException" "java/lang/Throwable" "suppressedExceptions" "Ljava/util/List;") ∈ wsA := mA (List.mem_of_getElem? (i := 354) (by decide +kernel)) rfl
theorem m_355 : (Jvm.Cond.lays "java/lang/IllegalArgumentException" "java/lang/Throwable" "detailMessage" "Ljava/lang/String;") ∈ wsA := mA (List.mem_of_getElem? (i := 355) (by decide +kernel)) rfl
theorem m_356 : (Jvm.Cond.lays "java/lang/IllegalArgumentException" "java/lang/Throwable" "backtrace" "Ljava/lang/Object;") ∈ wsA := mA (List.mem_of_getElem? (i := 356) (by decide +kernel)) rfl
theorem m_358 : (Jvm.Cond.methodLink "HopArena" (84 : Nat) ({ cls := "java/lang/IllegalArgumentException", name := "<init>", desc := "(Ljava/lang/String;)V" } : Jvm.MethodName)) ∈ wsA := mA (List.mem_of_getElem? (i := 358) (by decide +kernel)) rfl
theorem m_359 : (Jvm.Cond.instanceMethod ({ cls := "java/lang/IllegalArgumentException", name := "<init>", desc := "(Ljava/lang/String;)V" } : Jvm.MethodName)) ∈ wsA := mA (List.mem_of_getElem? (i := 359) (by decide +kernel)) rfl
theorem m_360 : (Jvm.Cond.code ({ cls := "java/lang/IllegalArgumentException", name := "<init>", desc := "(Ljava/lang/String;)V" } : Jvm.MethodName) prog_7_method_2_code (2 : Nat) (Option.none : Option Jvm.ClassFile.FieldType)) ∈ wsA := mA (List.mem_of_getElem? (i := 360) (by decide +kernel)) rfl
theorem m_361 : (Jvm.Cond.methodLink "java/lang/IllegalArgumentException" (7 : Nat) ({ cls := "java/lang/RuntimeException", name := "<init>", desc := "(Ljava/lang/String;)V" } : Jvm.MethodName)) ∈ wsA := mA (List.mem_of_getElem? (i := 361) (by decide +kernel)) rfl
theorem m_362 : (Jvm.Cond.lays "java/lang/IllegalArgumentException" "java/lang/Throwable" "depth" "I") ∈ wsA := mA (List.mem_of_getElem? (i := 362) (by decide +kernel)) rfl
theorem m_364 : (Jvm.Cond.methodLink "HopArenaLaw" (94 : Nat) ({ cls := "HopArenaLaw", name := "home", desc := "(LHopArena;II[J)I" } : Jvm.MethodName)) ∈ wsA := mA (List.mem_of_getElem? (i := 364) (by decide +kernel)) rfl
theorem m_365 : (Jvm.Cond.static ({ cls := "HopArenaLaw", name := "home", desc := "(LHopArena;II[J)I" } : Jvm.MethodName)) ∈ wsA := mA (List.mem_of_getElem? (i := 365) (by decide +kernel)) rfl
theorem m_366 : (Jvm.Cond.codeWith ({ cls := "HopArenaLaw", name := "home", desc := "(LHopArena;II[J)I" } : Jvm.MethodName) method_10_code (5 : Nat) (Option.some Jvm.ClassFile.FieldType.int) [((0 : Nat), (10 : Nat), (13 : Nat), (13 : Nat))]) ∈ wsA := mA (List.mem_of_getElem? (i := 366) (by decide +kernel)) rfl
theorem m_367 : (Jvm.Cond.methodLink "HopArenaLaw" (42 : Nat) ({ cls := "HopArena", name := "home", desc := "(II)I" } : Jvm.MethodName)) ∈ wsA := mA (List.mem_of_getElem? (i := 367) (by decide +kernel)) rfl
theorem m_368 : (Jvm.Cond.instanceMethod ({ cls := "HopArena", name := "home", desc := "(II)I" } : Jvm.MethodName)) ∈ wsA := mA (List.mem_of_getElem? (i := 368) (by decide +kernel)) rfl
theorem m_369 : (Jvm.Cond.selects "HopArena" ({ cls := "HopArena", name := "home", desc := "(II)I" } : Jvm.MethodName) ({ cls := "HopArena", name := "home", desc := "(II)I" } : Jvm.MethodName)) ∈ wsA := mA (List.mem_of_getElem? (i := 369) (by decide +kernel)) rfl
theorem m_370 : (Jvm.Cond.code ({ cls := "HopArena", name := "home", desc := "(II)I" } : Jvm.MethodName) prog_1_method_9_code (3 : Nat) (Option.some Jvm.ClassFile.FieldType.int)) ∈ wsA := mA (List.mem_of_getElem? (i := 370) (by decide +kernel)) rfl
theorem m_371 : (Jvm.Cond.methodLink "HopArenaLaw" (97 : Nat) ({ cls := "HopArenaLaw", name := "distance", desc := "(LHopArena;II[J)I" } : Jvm.MethodName)) ∈ wsA := mA (List.mem_of_getElem? (i := 371) (by decide +kernel)) rfl
theorem m_372 : (Jvm.Cond.static ({ cls := "HopArenaLaw", name := "distance", desc := "(LHopArena;II[J)I" } : Jvm.MethodName)) ∈ wsA := mA (List.mem_of_getElem? (i := 372) (by decide +kernel)) rfl
theorem m_373 : (Jvm.Cond.codeWith ({ cls := "HopArenaLaw", name := "distance", desc := "(LHopArena;II[J)I" } : Jvm.MethodName) method_11_code (5 : Nat) (Option.some Jvm.ClassFile.FieldType.int) [((0 : Nat), (10 : Nat), (13 : Nat), (13 : Nat)), ((0 : Nat), (10 : Nat), (17 : Nat), (21 : Nat))]) ∈ wsA := mA (List.mem_of_getElem? (i := 373) (by decide +kernel)) rfl
theorem m_374 : (Jvm.Cond.methodLink "HopArenaLaw" (45 : Nat) ({ cls := "HopArena", name := "distance", desc := "(II)I" } : Jvm.MethodName)) ∈ wsA := mA (List.mem_of_getElem? (i := 374) (by decide +kernel)) rfl
theorem m_375 : (Jvm.Cond.instanceMethod ({ cls := "HopArena", name := "distance", desc := "(II)I" } : Jvm.MethodName)) ∈ wsA := mA (List.mem_of_getElem? (i := 375) (by decide +kernel)) rfl
theorem m_376 : (Jvm.Cond.selects "HopArena" ({ cls := "HopArena", name := "distance", desc := "(II)I" } : Jvm.MethodName) ({ cls := "HopArena", name := "distance", desc := "(II)I" } : Jvm.MethodName)) ∈ wsA := mA (List.mem_of_getElem? (i := 376) (by decide +kernel)) rfl
theorem m_377 : (Jvm.Cond.code ({ cls := "HopArena", name := "distance", desc := "(II)I" } : Jvm.MethodName) prog_1_method_10_code (5 : Nat) (Option.some Jvm.ClassFile.FieldType.int)) ∈ wsA := mA (List.mem_of_getElem? (i := 377) (by decide +kernel)) rfl
theorem m_378 : (Jvm.Cond.methodLink "HopArenaLaw" (100 : Nat) ({ cls := "HopArenaLaw", name := "bits", desc := "(LHopArena;II[J)I" } : Jvm.MethodName)) ∈ wsA := mA (List.mem_of_getElem? (i := 378) (by decide +kernel)) rfl
theorem m_379 : (Jvm.Cond.static ({ cls := "HopArenaLaw", name := "bits", desc := "(LHopArena;II[J)I" } : Jvm.MethodName)) ∈ wsA := mA (List.mem_of_getElem? (i := 379) (by decide +kernel)) rfl
theorem m_380 : (Jvm.Cond.codeWith ({ cls := "HopArenaLaw", name := "bits", desc := "(LHopArena;II[J)I" } : Jvm.MethodName) method_12_code (5 : Nat) (Option.some Jvm.ClassFile.FieldType.int) [((0 : Nat), (10 : Nat), (13 : Nat), (13 : Nat)), ((0 : Nat), (10 : Nat), (17 : Nat), (40 : Nat))]) ∈ wsA := mA (List.mem_of_getElem? (i := 380) (by decide +kernel)) rfl
theorem m_381 : (Jvm.Cond.methodLink "HopArenaLaw" (48 : Nat) ({ cls := "HopArena", name := "bits", desc := "(II)I" } : Jvm.MethodName)) ∈ wsA := mA (List.mem_of_getElem? (i := 381) (by decide +kernel)) rfl
theorem m_382 : (Jvm.Cond.instanceMethod ({ cls := "HopArena", name := "bits", desc := "(II)I" } : Jvm.MethodName)) ∈ wsA := mA (List.mem_of_getElem? (i := 382) (by decide +kernel)) rfl
theorem m_383 : (Jvm.Cond.selects "HopArena" ({ cls := "HopArena", name := "bits", desc := "(II)I" } : Jvm.MethodName) ({ cls := "HopArena", name := "bits", desc := "(II)I" } : Jvm.MethodName)) ∈ wsA := mA (List.mem_of_getElem? (i := 383) (by decide +kernel)) rfl
theorem m_384 : (Jvm.Cond.code ({ cls := "HopArena", name := "bits", desc := "(II)I" } : Jvm.MethodName) prog_1_method_11_code (6 : Nat) (Option.some Jvm.ClassFile.FieldType.int)) ∈ wsA := mA (List.mem_of_getElem? (i := 384) (by decide +kernel)) rfl
theorem m_385 : (Jvm.Cond.methodLink "HopArena" (92 : Nat) ({ cls := "HopArena", name := "requirePlace", desc := "(LHopArena$Part;I)V" } : Jvm.MethodName)) ∈ wsA := mA (List.mem_of_getElem? (i := 385) (by decide +kernel)) rfl
theorem m_386 : (Jvm.Cond.static ({ cls := "HopArena", name := "requirePlace", desc := "(LHopArena$Part;I)V" } : Jvm.MethodName)) ∈ wsA := mA (List.mem_of_getElem? (i := 386) (by decide +kernel)) rfl
theorem m_387 : (Jvm.Cond.code ({ cls := "HopArena", name := "requirePlace", desc := "(LHopArena$Part;I)V" } : Jvm.MethodName) prog_1_method_16_code (2 : Nat) (Option.none : Option Jvm.ClassFile.FieldType)) ∈ wsA := mA (List.mem_of_getElem? (i := 387) (by decide +kernel)) rfl
theorem m_388 : (Jvm.Cond.methodLink "HopArena" (114 : Nat) ({ cls := "HopArena$Part", name := "isPlace", desc := "(I)Z" } : Jvm.MethodName)) ∈ wsA := mA (List.mem_of_getElem? (i := 388) (by decide +kernel)) rfl
theorem m_389 : (Jvm.Cond.instanceMethod ({ cls := "HopArena$Part", name := "isPlace", desc := "(I)Z" } : Jvm.MethodName)) ∈ wsA := mA (List.mem_of_getElem? (i := 389) (by decide +kernel)) rfl
theorem m_390 : (Jvm.Cond.selects "HopArena$Part" ({ cls := "HopArena$Part", name := "isPlace", desc := "(I)Z" } : Jvm.MethodName) ({ cls := "HopArena$Part", name := "isPlace", desc := "(I)Z" } : Jvm.MethodName)) ∈ wsA := mA (List.mem_of_getElem? (i := 390) (by decide +kernel)) rfl
theorem m_391 : (Jvm.Cond.code ({ cls := "HopArena$Part", name := "isPlace", desc := "(I)Z" } : Jvm.MethodName) prog_2_method_6_code (2 : Nat) (Option.some Jvm.ClassFile.FieldType.boolean)) ∈ wsA := mA (List.mem_of_getElem? (i := 391) (by decide +kernel)) rfl
theorem m_393 : (Jvm.Cond.methodLink "HopArenaLaw" (103 : Nat) ({ cls := "HopArenaLaw", name := "next", desc := "(LHopArena;II[J)I" } : Jvm.MethodName)) ∈ wsA := mA (List.mem_of_getElem? (i := 393) (by decide +kernel)) rfl
theorem m_394 : (Jvm.Cond.static ({ cls := "HopArenaLaw", name := "next", desc := "(LHopArena;II[J)I" } : Jvm.MethodName)) ∈ wsA := mA (List.mem_of_getElem? (i := 394) (by decide +kernel)) rfl
theorem m_395 : (Jvm.Cond.codeWith ({ cls := "HopArenaLaw", name := "next", desc := "(LHopArena;II[J)I" } : Jvm.MethodName) method_13_code (5 : Nat) (Option.some Jvm.ClassFile.FieldType.int) [((0 : Nat), (10 : Nat), (13 : Nat), (13 : Nat)), ((0 : Nat), (10 : Nat), (17 : Nat), (40 : Nat))]) ∈ wsA := mA (List.mem_of_getElem? (i := 395) (by decide +kernel)) rfl
theorem m_396 : (Jvm.Cond.methodLink "HopArenaLaw" (51 : Nat) ({ cls := "HopArena", name := "next", desc := "(II)I" } : Jvm.MethodName)) ∈ wsA := mA (List.mem_of_getElem? (i := 396) (by decide +kernel)) rfl
theorem m_397 : (Jvm.Cond.instanceMethod ({ cls := "HopArena", name := "next", desc := "(II)I" } : Jvm.MethodName)) ∈ wsA := mA (List.mem_of_getElem? (i := 397) (by decide +kernel)) rfl
theorem m_398 : (Jvm.Cond.selects "HopArena" ({ cls := "HopArena", name := "next", desc := "(II)I" } : Jvm.MethodName) ({ cls := "HopArena", name := "next", desc := "(II)I" } : Jvm.MethodName)) ∈ wsA := mA (List.mem_of_getElem? (i := 398) (by decide +kernel)) rfl
theorem m_399 : (Jvm.Cond.code ({ cls := "HopArena", name := "next", desc := "(II)I" } : Jvm.MethodName) prog_1_method_12_code (5 : Nat) (Option.some Jvm.ClassFile.FieldType.int)) ∈ wsA := mA (List.mem_of_getElem? (i := 399) (by decide +kernel)) rfl
theorem m_400 : (Jvm.Cond.methodLink "HopArenaLaw" (106 : Nat) ({ cls := "HopArenaLaw", name := "key", desc := "(LHopArena;II[J)I" } : Jvm.MethodName)) ∈ wsA := mA (List.mem_of_getElem? (i := 400) (by decide +kernel)) rfl
theorem m_401 : (Jvm.Cond.static ({ cls := "HopArenaLaw", name := "key", desc := "(LHopArena;II[J)I" } : Jvm.MethodName)) ∈ wsA := mA (List.mem_of_getElem? (i := 401) (by decide +kernel)) rfl
theorem m_402 : (Jvm.Cond.codeWith ({ cls := "HopArenaLaw", name := "key", desc := "(LHopArena;II[J)I" } : Jvm.MethodName) method_14_code (5 : Nat) (Option.some Jvm.ClassFile.FieldType.int) [((0 : Nat), (10 : Nat), (13 : Nat), (13 : Nat)), ((0 : Nat), (10 : Nat), (17 : Nat), (40 : Nat)), ((0 : Nat), (10 : Nat), (21 : Nat), (21 : Nat))]) ∈ wsA := mA (List.mem_of_getElem? (i := 402) (by decide +kernel)) rfl
theorem m_403 : (Jvm.Cond.methodLink "HopArenaLaw" (54 : Nat) ({ cls := "HopArena", name := "key", desc := "(II)I" } : Jvm.MethodName)) ∈ wsA := mA (List.mem_of_getElem? (i := 403) (by decide +kernel)) rfl
theorem m_404 : (Jvm.Cond.instanceMethod ({ cls := "HopArena", name := "key", desc := "(II)I" } : Jvm.MethodName)) ∈ wsA := mA (List.mem_of_getElem? (i := 404) (by decide +kernel)) rfl
theorem m_405 : (Jvm.Cond.selects "HopArena" ({ cls := "HopArena", name := "key", desc := "(II)I" } : Jvm.MethodName) ({ cls := "HopArena", name := "key", desc := "(II)I" } : Jvm.MethodName)) ∈ wsA := mA (List.mem_of_getElem? (i := 405) (by decide +kernel)) rfl
theorem m_406 : (Jvm.Cond.code ({ cls := "HopArena", name := "key", desc := "(II)I" } : Jvm.MethodName) prog_1_method_13_code (5 : Nat) (Option.some Jvm.ClassFile.FieldType.int)) ∈ wsA := mA (List.mem_of_getElem? (i := 406) (by decide +kernel)) rfl
theorem m_408 : (Jvm.Cond.methodLink "HopArenaLaw" (109 : Nat) ({ cls := "HopArenaLaw", name := "count", desc := "(LHopArena;I[J)I" } : Jvm.MethodName)) ∈ wsA := mA (List.mem_of_getElem? (i := 408) (by decide +kernel)) rfl
theorem m_409 : (Jvm.Cond.static ({ cls := "HopArenaLaw", name := "count", desc := "(LHopArena;I[J)I" } : Jvm.MethodName)) ∈ wsA := mA (List.mem_of_getElem? (i := 409) (by decide +kernel)) rfl
theorem m_410 : (Jvm.Cond.codeWith ({ cls := "HopArenaLaw", name := "count", desc := "(LHopArena;I[J)I" } : Jvm.MethodName) method_15_code (4 : Nat) (Option.some Jvm.ClassFile.FieldType.int) [((0 : Nat), (9 : Nat), (12 : Nat), (40 : Nat))]) ∈ wsA := mA (List.mem_of_getElem? (i := 410) (by decide +kernel)) rfl
theorem m_411 : (Jvm.Cond.methodLink "HopArenaLaw" (57 : Nat) ({ cls := "HopArena", name := "count", desc := "(I)I" } : Jvm.MethodName)) ∈ wsA := mA (List.mem_of_getElem? (i := 411) (by decide +kernel)) rfl
theorem m_412 : (Jvm.Cond.instanceMethod ({ cls := "HopArena", name := "count", desc := "(I)I" } : Jvm.MethodName)) ∈ wsA := mA (List.mem_of_getElem? (i := 412) (by decide +kernel)) rfl
theorem m_413 : (Jvm.Cond.selects "HopArena" ({ cls := "HopArena", name := "count", desc := "(I)I" } : Jvm.MethodName) ({ cls := "HopArena", name := "count", desc := "(I)I" } : Jvm.MethodName)) ∈ wsA := mA (List.mem_of_getElem? (i := 413) (by decide +kernel)) rfl
theorem m_414 : (Jvm.Cond.code ({ cls := "HopArena", name := "count", desc := "(I)I" } : Jvm.MethodName) prog_1_method_14_code (2 : Nat) (Option.some Jvm.ClassFile.FieldType.int)) ∈ wsA := mA (List.mem_of_getElem? (i := 414) (by decide +kernel)) rfl
theorem m_416 : (Jvm.Cond.classLink "HopArenaLaw" (61 : Nat) "HopArenaModel") ∈ wsA := mA (List.mem_of_getElem? (i := 416) (by decide +kernel)) rfl
theorem m_417 : (Jvm.Cond.instantiable "HopArenaModel" (14 : Nat)) ∈ wsA := mA (List.mem_of_getElem? (i := 417) (by decide +kernel)) rfl
theorem m_418 : (Jvm.Cond.methodLink "HopArenaLaw" (63 : Nat) ({ cls := "HopArenaModel", name := "<init>", desc := "()V" } : Jvm.MethodName)) ∈ wsA := mA (List.mem_of_getElem? (i := 418) (by decide +kernel)) rfl
theorem m_419 : (Jvm.Cond.instanceMethod ({ cls := "HopArenaModel", name := "<init>", desc := "()V" } : Jvm.MethodName)) ∈ wsA := mA (List.mem_of_getElem? (i := 419) (by decide +kernel)) rfl
theorem m_420 : (Jvm.Cond.code ({ cls := "HopArenaModel", name := "<init>", desc := "()V" } : Jvm.MethodName) prog_4_method_1_code (1 : Nat) (Option.none : Option Jvm.ClassFile.FieldType)) ∈ wsA := mA (List.mem_of_getElem? (i := 420) (by decide +kernel)) rfl
theorem m_421 : (Jvm.Cond.methodLink "HopArenaModel" (1 : Nat) ({ cls := "java/lang/Object", name := "<init>", desc := "()V" } : Jvm.MethodName)) ∈ wsA := mA (List.mem_of_getElem? (i := 421) (by decide +kernel)) rfl
theorem m_422 : (Jvm.Cond.fieldLink "HopArenaModel" (47 : Nat) "HopArenaModel" "code" "I") ∈ wsA := mA (List.mem_of_getElem? (i := 422) (by decide +kernel)) rfl
theorem m_423 : (Jvm.Cond.fieldLink "HopArenaModel" (7 : Nat) "HopArenaModel" "full" "[Z") ∈ wsA := mA (List.mem_of_getElem? (i := 423) (by decide +kernel)) rfl
theorem m_424 : (Jvm.Cond.fieldLink "HopArenaModel" (13 : Nat) "HopArenaModel" "keys" "[I") ∈ wsA := mA (List.mem_of_getElem? (i := 424) (by decide +kernel)) rfl
theorem m_425 : (Jvm.Cond.fieldLink "HopArenaModel" (17 : Nat) "HopArenaModel" "values" "[I") ∈ wsA := mA (List.mem_of_getElem? (i := 425) (by decide +kernel)) rfl
theorem m_426 : (Jvm.Cond.fieldLink "HopArenaModel" (20 : Nat) "HopArenaModel" "capacity" "[I") ∈ wsA := mA (List.mem_of_getElem? (i := 426) (by decide +kernel)) rfl
theorem m_427 : (Jvm.Cond.fieldLink "HopArenaModel" (23 : Nat) "HopArenaModel" "base" "[I") ∈ wsA := mA (List.mem_of_getElem? (i := 427) (by decide +kernel)) rfl
theorem m_428 : (Jvm.Cond.fieldLink "HopArenaModel" (26 : Nat) "HopArenaModel" "seed" "[I") ∈ wsA := mA (List.mem_of_getElem? (i := 428) (by decide +kernel)) rfl
theorem m_429 : (Jvm.Cond.fieldLink "HopArenaModel" (29 : Nat) "HopArenaModel" "counts" "[I") ∈ wsA := mA (List.mem_of_getElem? (i := 429) (by decide +kernel)) rfl
theorem m_430 : (Jvm.Cond.fieldLink "HopArenaModel" (71 : Nat) "HopArenaModel" "held" "I") ∈ wsA := mA (List.mem_of_getElem? (i := 430) (by decide +kernel)) rfl
theorem m_431 : (Jvm.Cond.fieldLink "HopArenaModel" (32 : Nat) "HopArenaModel" "heldKeys" "[I") ∈ wsA := mA (List.mem_of_getElem? (i := 431) (by decide +kernel)) rfl
theorem m_432 : (Jvm.Cond.fieldLink "HopArenaModel" (35 : Nat) "HopArenaModel" "heldValues" "[I") ∈ wsA := mA (List.mem_of_getElem? (i := 432) (by decide +kernel)) rfl
theorem m_433 : (Jvm.Cond.fieldLink "HopArenaModel" (38 : Nat) "HopArenaModel" "oldFull" "[Z") ∈ wsA := mA (List.mem_of_getElem? (i := 433) (by decide +kernel)) rfl
theorem m_434 : (Jvm.Cond.fieldLink "HopArenaModel" (41 : Nat) "HopArenaModel" "oldKeys" "[I") ∈ wsA := mA (List.mem_of_getElem? (i := 434) (by decide +kernel)) rfl
theorem m_435 : (Jvm.Cond.fieldLink "HopArenaModel" (44 : Nat) "HopArenaModel" "oldValues" "[I") ∈ wsA := mA (List.mem_of_getElem? (i := 435) (by decide +kernel)) rfl
theorem m_436 : (Jvm.Cond.lays "HopArenaModel" "HopArenaModel" "code" "I") ∈ wsA := mA (List.mem_of_getElem? (i := 436) (by decide +kernel)) rfl
theorem m_438 : (Jvm.Cond.lays "HopArenaModel" "HopArenaModel" "full" "[Z") ∈ wsA := mA (List.mem_of_getElem? (i := 438) (by decide +kernel)) rfl
theorem m_440 : (Jvm.Cond.lays "HopArenaModel" "HopArenaModel" "keys" "[I") ∈ wsA := mA (List.mem_of_getElem? (i := 440) (by decide +kernel)) rfl
theorem m_442 : (Jvm.Cond.lays "HopArenaModel" "HopArenaModel" "values" "[I") ∈ wsA := mA (List.mem_of_getElem? (i := 442) (by decide +kernel)) rfl
theorem m_444 : (Jvm.Cond.lays "HopArenaModel" "HopArenaModel" "capacity" "[I") ∈ wsA := mA (List.mem_of_getElem? (i := 444) (by decide +kernel)) rfl
theorem m_446 : (Jvm.Cond.lays "HopArenaModel" "HopArenaModel" "base" "[I") ∈ wsA := mA (List.mem_of_getElem? (i := 446) (by decide +kernel)) rfl
theorem m_448 : (Jvm.Cond.lays "HopArenaModel" "HopArenaModel" "seed" "[I") ∈ wsA := mA (List.mem_of_getElem? (i := 448) (by decide +kernel)) rfl
theorem m_450 : (Jvm.Cond.lays "HopArenaModel" "HopArenaModel" "counts" "[I") ∈ wsA := mA (List.mem_of_getElem? (i := 450) (by decide +kernel)) rfl
theorem m_452 : (Jvm.Cond.lays "HopArenaModel" "HopArenaModel" "held" "I") ∈ wsA := mA (List.mem_of_getElem? (i := 452) (by decide +kernel)) rfl
theorem m_454 : (Jvm.Cond.lays "HopArenaModel" "HopArenaModel" "heldKeys" "[I") ∈ wsA := mA (List.mem_of_getElem? (i := 454) (by decide +kernel)) rfl
theorem m_456 : (Jvm.Cond.lays "HopArenaModel" "HopArenaModel" "heldValues" "[I") ∈ wsA := mA (List.mem_of_getElem? (i := 456) (by decide +kernel)) rfl
theorem m_458 : (Jvm.Cond.lays "HopArenaModel" "HopArenaModel" "oldFull" "[Z") ∈ wsA := mA (List.mem_of_getElem? (i := 458) (by decide +kernel)) rfl
theorem m_460 : (Jvm.Cond.lays "HopArenaModel" "HopArenaModel" "oldKeys" "[I") ∈ wsA := mA (List.mem_of_getElem? (i := 460) (by decide +kernel)) rfl
theorem m_462 : (Jvm.Cond.lays "HopArenaModel" "HopArenaModel" "oldValues" "[I") ∈ wsA := mA (List.mem_of_getElem? (i := 462) (by decide +kernel)) rfl
theorem m_465 : (Jvm.Cond.methodLink "HopArenaLaw" (70 : Nat) ({ cls := "HopArenaModel", name := "thrown", desc := "()I" } : Jvm.MethodName)) ∈ wsA := mA (List.mem_of_getElem? (i := 465) (by decide +kernel)) rfl
theorem m_466 : (Jvm.Cond.instanceMethod ({ cls := "HopArenaModel", name := "thrown", desc := "()I" } : Jvm.MethodName)) ∈ wsA := mA (List.mem_of_getElem? (i := 466) (by decide +kernel)) rfl
theorem m_467 : (Jvm.Cond.selects "HopArenaModel" ({ cls := "HopArenaModel", name := "thrown", desc := "()I" } : Jvm.MethodName) ({ cls := "HopArenaModel", name := "thrown", desc := "()I" } : Jvm.MethodName)) ∈ wsA := mA (List.mem_of_getElem? (i := 467) (by decide +kernel)) rfl
theorem m_468 : (Jvm.Cond.code ({ cls := "HopArenaModel", name := "thrown", desc := "()I" } : Jvm.MethodName) prog_4_method_2_code (1 : Nat) (Option.some Jvm.ClassFile.FieldType.int)) ∈ wsA := mA (List.mem_of_getElem? (i := 468) (by decide +kernel)) rfl
theorem m_469 : (Jvm.Cond.methodLink "HopArenaLaw" (69 : Nat) ({ cls := "HopArenaModel", name := "put", desc := "(III)Z" } : Jvm.MethodName)) ∈ wsA := mA (List.mem_of_getElem? (i := 469) (by decide +kernel)) rfl
theorem m_470 : (Jvm.Cond.instanceMethod ({ cls := "HopArenaModel", name := "put", desc := "(III)Z" } : Jvm.MethodName)) ∈ wsA := mA (List.mem_of_getElem? (i := 470) (by decide +kernel)) rfl
theorem m_471 : (Jvm.Cond.selects "HopArenaModel" ({ cls := "HopArenaModel", name := "put", desc := "(III)Z" } : Jvm.MethodName) ({ cls := "HopArenaModel", name := "put", desc := "(III)Z" } : Jvm.MethodName)) ∈ wsA := mA (List.mem_of_getElem? (i := 471) (by decide +kernel)) rfl
theorem m_472 : (Jvm.Cond.code ({ cls := "HopArenaModel", name := "put", desc := "(III)Z" } : Jvm.MethodName) prog_4_method_21_code (5 : Nat) (Option.some Jvm.ClassFile.FieldType.boolean)) ∈ wsA := mA (List.mem_of_getElem? (i := 472) (by decide +kernel)) rfl
theorem m_473 : (Jvm.Cond.methodLink "HopArenaModel" (100 : Nat) ({ cls := "HopArenaModel", name := "isMap", desc := "(I)Z" } : Jvm.MethodName)) ∈ wsA := mA (List.mem_of_getElem? (i := 473) (by decide +kernel)) rfl
theorem m_475 : (Jvm.Cond.instanceMethod ({ cls := "HopArenaModel", name := "isMap", desc := "(I)Z" } : Jvm.MethodName)) ∈ wsA := mA (List.mem_of_getElem? (i := 475) (by decide +kernel)) rfl
theorem m_476 : (Jvm.Cond.code ({ cls := "HopArenaModel", name := "isMap", desc := "(I)Z" } : Jvm.MethodName) prog_4_method_4_code (2 : Nat) (Option.some Jvm.ClassFile.FieldType.boolean)) ∈ wsA := mA (List.mem_of_getElem? (i := 476) (by decide +kernel)) rfl
theorem m_477 : (Jvm.Cond.methodLink "HopArenaModel" (51 : Nat) ({ cls := "HopArenaModel", name := "within", desc := "(III)Z" } : Jvm.MethodName)) ∈ wsA := mA (List.mem_of_getElem? (i := 477) (by decide +kernel)) rfl
theorem m_478 : (Jvm.Cond.static ({ cls := "HopArenaModel", name := "within", desc := "(III)Z" } : Jvm.MethodName)) ∈ wsA := mA (List.mem_of_getElem? (i := 478) (by decide +kernel)) rfl
theorem m_479 : (Jvm.Cond.code ({ cls := "HopArenaModel", name := "within", desc := "(III)Z" } : Jvm.MethodName) prog_4_method_3_code (3 : Nat) (Option.some Jvm.ClassFile.FieldType.boolean)) ∈ wsA := mA (List.mem_of_getElem? (i := 479) (by decide +kernel)) rfl
theorem m_480 : (Jvm.Cond.methodLink "HopArenaModel" (104 : Nat) ({ cls := "HopArenaModel", name := "placeOf", desc := "(II)I" } : Jvm.MethodName)) ∈ wsA := mA (List.mem_of_getElem? (i := 480) (by decide +kernel)) rfl
theorem m_482 : (Jvm.Cond.instanceMethod ({ cls := "HopArenaModel", name := "placeOf", desc := "(II)I" } : Jvm.MethodName)) ∈ wsA := mA (List.mem_of_getElem? (i := 482) (by decide +kernel)) rfl
theorem m_483 : (Jvm.Cond.code ({ cls := "HopArenaModel", name := "placeOf", desc := "(II)I" } : Jvm.MethodName) prog_4_method_7_code (5 : Nat) (Option.some Jvm.ClassFile.FieldType.int)) ∈ wsA := mA (List.mem_of_getElem? (i := 483) (by decide +kernel)) rfl
theorem m_484 : (Jvm.Cond.methodLink "HopArenaModel" (94 : Nat) ({ cls := "HopArenaModel", name := "insert", desc := "(III)Z" } : Jvm.MethodName)) ∈ wsA := mA (List.mem_of_getElem? (i := 484) (by decide +kernel)) rfl
theorem m_486 : (Jvm.Cond.instanceMethod ({ cls := "HopArenaModel", name := "insert", desc := "(III)Z" } : Jvm.MethodName)) ∈ wsA := mA (List.mem_of_getElem? (i := 486) (by decide +kernel)) rfl
theorem m_487 : (Jvm.Cond.code ({ cls := "HopArenaModel", name := "insert", desc := "(III)Z" } : Jvm.MethodName) prog_4_method_12_code (8 : Nat) (Option.some Jvm.ClassFile.FieldType.boolean)) ∈ wsA := mA (List.mem_of_getElem? (i := 487) (by decide +kernel)) rfl
theorem m_488 : (Jvm.Cond.methodLink "HopArenaModel" (56 : Nat) ({ cls := "HopArenaModel", name := "homeOf", desc := "(II)I" } : Jvm.MethodName)) ∈ wsA := mA (List.mem_of_getElem? (i := 488) (by decide +kernel)) rfl
theorem m_490 : (Jvm.Cond.instanceMethod ({ cls := "HopArenaModel", name := "homeOf", desc := "(II)I" } : Jvm.MethodName)) ∈ wsA := mA (List.mem_of_getElem? (i := 490) (by decide +kernel)) rfl
theorem m_491 : (Jvm.Cond.code ({ cls := "HopArenaModel", name := "homeOf", desc := "(II)I" } : Jvm.MethodName) prog_4_method_5_code (3 : Nat) (Option.some Jvm.ClassFile.FieldType.int)) ∈ wsA := mA (List.mem_of_getElem? (i := 491) (by decide +kernel)) rfl
theorem m_492 : (Jvm.Cond.constant "HopArenaModel" (55 : Nat) (-1640531535 : Int32)) ∈ wsA := mA (List.mem_of_getElem? (i := 492) (by decide +kernel)) rfl
theorem m_493 : (Jvm.Cond.methodLink "HopArenaModel" (60 : Nat) ({ cls := "HopArenaModel", name := "behind", desc := "(III)I" } : Jvm.MethodName)) ∈ wsA := mA (List.mem_of_getElem? (i := 493) (by decide +kernel)) rfl
theorem m_495 : (Jvm.Cond.instanceMethod ({ cls := "HopArenaModel", name := "behind", desc := "(III)I" } : Jvm.MethodName)) ∈ wsA := mA (List.mem_of_getElem? (i := 495) (by decide +kernel)) rfl
theorem m_496 : (Jvm.Cond.code ({ cls := "HopArenaModel", name := "behind", desc := "(III)I" } : Jvm.MethodName) prog_4_method_6_code (4 : Nat) (Option.some Jvm.ClassFile.FieldType.int)) ∈ wsA := mA (List.mem_of_getElem? (i := 496) (by decide +kernel)) rfl
theorem m_497 : (Jvm.Cond.methodLink "HopArenaModel" (64 : Nat) ({ cls := "HopArenaModel", name := "mover", desc := "(II)I" } : Jvm.MethodName)) ∈ wsA := mA (List.mem_of_getElem? (i := 497) (by decide +kernel)) rfl
theorem m_499 : (Jvm.Cond.instanceMethod ({ cls := "HopArenaModel", name := "mover", desc := "(II)I" } : Jvm.MethodName)) ∈ wsA := mA (List.mem_of_getElem? (i := 499) (by decide +kernel)) rfl
theorem m_500 : (Jvm.Cond.code ({ cls := "HopArenaModel", name := "mover", desc := "(II)I" } : Jvm.MethodName) prog_4_method_11_code (7 : Nat) (Option.some Jvm.ClassFile.FieldType.int)) ∈ wsA := mA (List.mem_of_getElem? (i := 500) (by decide +kernel)) rfl
theorem m_501 : (Jvm.Cond.methodLink "HopArenaModel" (67 : Nat) ({ cls := "HopArenaModel", name := "move", desc := "(III)V" } : Jvm.MethodName)) ∈ wsA := mA (List.mem_of_getElem? (i := 501) (by decide +kernel)) rfl
theorem m_503 : (Jvm.Cond.instanceMethod ({ cls := "HopArenaModel", name := "move", desc := "(III)V" } : Jvm.MethodName)) ∈ wsA := mA (List.mem_of_getElem? (i := 503) (by decide +kernel)) rfl
theorem m_504 : (Jvm.Cond.code ({ cls := "HopArenaModel", name := "move", desc := "(III)V" } : Jvm.MethodName) prog_4_method_10_code (6 : Nat) (Option.none : Option Jvm.ClassFile.FieldType)) ∈ wsA := mA (List.mem_of_getElem? (i := 504) (by decide +kernel)) rfl
theorem m_505 : (Jvm.Cond.methodLink "HopArenaModel" (107 : Nat) ({ cls := "HopArenaModel", name := "hold", desc := "(I)V" } : Jvm.MethodName)) ∈ wsA := mA (List.mem_of_getElem? (i := 505) (by decide +kernel)) rfl
theorem m_507 : (Jvm.Cond.instanceMethod ({ cls := "HopArenaModel", name := "hold", desc := "(I)V" } : Jvm.MethodName)) ∈ wsA := mA (List.mem_of_getElem? (i := 507) (by decide +kernel)) rfl
theorem m_508 : (Jvm.Cond.code ({ cls := "HopArenaModel", name := "hold", desc := "(I)V" } : Jvm.MethodName) prog_4_method_14_code (3 : Nat) (Option.none : Option Jvm.ClassFile.FieldType)) ∈ wsA := mA (List.mem_of_getElem? (i := 508) (by decide +kernel)) rfl
theorem m_509 : (Jvm.Cond.methodLink "HopArenaModel" (110 : Nat) ({ cls := "HopArenaModel", name := "grow", desc := "(I)Z" } : Jvm.MethodName)) ∈ wsA := mA (List.mem_of_getElem? (i := 509) (by decide +kernel)) rfl
theorem m_511 : (Jvm.Cond.instanceMethod ({ cls := "HopArenaModel", name := "grow", desc := "(I)Z" } : Jvm.MethodName)) ∈ wsA := mA (List.mem_of_getElem? (i := 511) (by decide +kernel)) rfl
theorem m_512 : (Jvm.Cond.code ({ cls := "HopArenaModel", name := "grow", desc := "(I)Z" } : Jvm.MethodName) prog_4_method_20_code (9 : Nat) (Option.some Jvm.ClassFile.FieldType.boolean)) ∈ wsA := mA (List.mem_of_getElem? (i := 512) (by decide +kernel)) rfl
theorem m_513 : (Jvm.Cond.methodLink "HopArenaModel" (81 : Nat) ({ cls := "HopArenaModel", name := "endOfAll", desc := "(II)I" } : Jvm.MethodName)) ∈ wsA := mA (List.mem_of_getElem? (i := 513) (by decide +kernel)) rfl
theorem m_515 : (Jvm.Cond.instanceMethod ({ cls := "HopArenaModel", name := "endOfAll", desc := "(II)I" } : Jvm.MethodName)) ∈ wsA := mA (List.mem_of_getElem? (i := 515) (by decide +kernel)) rfl
theorem m_516 : (Jvm.Cond.code ({ cls := "HopArenaModel", name := "endOfAll", desc := "(II)I" } : Jvm.MethodName) prog_4_method_18_code (6 : Nat) (Option.some Jvm.ClassFile.FieldType.int)) ∈ wsA := mA (List.mem_of_getElem? (i := 516) (by decide +kernel)) rfl
theorem m_517 : (Jvm.Cond.methodLink "HopArenaModel" (74 : Nat) ({ cls := "HopArenaModel", name := "endOf", desc := "(III)I" } : Jvm.MethodName)) ∈ wsA := mA (List.mem_of_getElem? (i := 517) (by decide +kernel)) rfl
theorem m_519 : (Jvm.Cond.instanceMethod ({ cls := "HopArenaModel", name := "endOf", desc := "(III)I" } : Jvm.MethodName)) ∈ wsA := mA (List.mem_of_getElem? (i := 519) (by decide +kernel)) rfl
theorem m_520 : (Jvm.Cond.code ({ cls := "HopArenaModel", name := "endOf", desc := "(III)I" } : Jvm.MethodName) prog_4_method_17_code (4 : Nat) (Option.some Jvm.ClassFile.FieldType.int)) ∈ wsA := mA (List.mem_of_getElem? (i := 520) (by decide +kernel)) rfl
theorem m_521 : (Jvm.Cond.methodLink "HopArenaModel" (84 : Nat) ({ cls := "HopArenaModel", name := "pushTogether", desc := "(II)V" } : Jvm.MethodName)) ∈ wsA := mA (List.mem_of_getElem? (i := 521) (by decide +kernel)) rfl
theorem m_523 : (Jvm.Cond.instanceMethod ({ cls := "HopArenaModel", name := "pushTogether", desc := "(II)V" } : Jvm.MethodName)) ∈ wsA := mA (List.mem_of_getElem? (i := 523) (by decide +kernel)) rfl
theorem m_524 : (Jvm.Cond.code ({ cls := "HopArenaModel", name := "pushTogether", desc := "(II)V" } : Jvm.MethodName) prog_4_method_19_code (7 : Nat) (Option.none : Option Jvm.ClassFile.FieldType)) ∈ wsA := mA (List.mem_of_getElem? (i := 524) (by decide +kernel)) rfl
theorem m_525 : (Jvm.Cond.methodLink "HopArenaModel" (77 : Nat) ({ cls := "HopArenaModel", name := "nextFrom", desc := "(I)I" } : Jvm.MethodName)) ∈ wsA := mA (List.mem_of_getElem? (i := 525) (by decide +kernel)) rfl
theorem m_527 : (Jvm.Cond.instanceMethod ({ cls := "HopArenaModel", name := "nextFrom", desc := "(I)I" } : Jvm.MethodName)) ∈ wsA := mA (List.mem_of_getElem? (i := 527) (by decide +kernel)) rfl
theorem m_528 : (Jvm.Cond.code ({ cls := "HopArenaModel", name := "nextFrom", desc := "(I)I" } : Jvm.MethodName) prog_4_method_16_code (5 : Nat) (Option.some Jvm.ClassFile.FieldType.int)) ∈ wsA := mA (List.mem_of_getElem? (i := 528) (by decide +kernel)) rfl
theorem m_529 : (Jvm.Cond.constant "HopArenaModel" (88 : Nat) (1664525 : Int32)) ∈ wsA := mA (List.mem_of_getElem? (i := 529) (by decide +kernel)) rfl
theorem m_530 : (Jvm.Cond.constant "HopArenaModel" (89 : Nat) (1013904223 : Int32)) ∈ wsA := mA (List.mem_of_getElem? (i := 530) (by decide +kernel)) rfl
theorem m_531 : (Jvm.Cond.methodLink "HopArenaModel" (90 : Nat) ({ cls := "HopArenaModel", name := "empty", desc := "(I)V" } : Jvm.MethodName)) ∈ wsA := mA (List.mem_of_getElem? (i := 531) (by decide +kernel)) rfl
theorem m_533 : (Jvm.Cond.instanceMethod ({ cls := "HopArenaModel", name := "empty", desc := "(I)V" } : Jvm.MethodName)) ∈ wsA := mA (List.mem_of_getElem? (i := 533) (by decide +kernel)) rfl
theorem m_534 : (Jvm.Cond.code ({ cls := "HopArenaModel", name := "empty", desc := "(I)V" } : Jvm.MethodName) prog_4_method_13_code (3 : Nat) (Option.none : Option Jvm.ClassFile.FieldType)) ∈ wsA := mA (List.mem_of_getElem? (i := 534) (by decide +kernel)) rfl
theorem m_535 : (Jvm.Cond.methodLink "HopArenaModel" (97 : Nat) ({ cls := "HopArenaModel", name := "putBack", desc := "(III)V" } : Jvm.MethodName)) ∈ wsA := mA (List.mem_of_getElem? (i := 535) (by decide +kernel)) rfl
theorem m_537 : (Jvm.Cond.instanceMethod ({ cls := "HopArenaModel", name := "putBack", desc := "(III)V" } : Jvm.MethodName)) ∈ wsA := mA (List.mem_of_getElem? (i := 537) (by decide +kernel)) rfl
theorem m_538 : (Jvm.Cond.code ({ cls := "HopArenaModel", name := "putBack", desc := "(III)V" } : Jvm.MethodName) prog_4_method_15_code (5 : Nat) (Option.none : Option Jvm.ClassFile.FieldType)) ∈ wsA := mA (List.mem_of_getElem? (i := 538) (by decide +kernel)) rfl
theorem m_539 : (Jvm.Cond.methodLink "HopArenaLaw" (77 : Nat) ({ cls := "HopArenaModel", name := "get", desc := "(II)I" } : Jvm.MethodName)) ∈ wsA := mA (List.mem_of_getElem? (i := 539) (by decide +kernel)) rfl
theorem m_540 : (Jvm.Cond.instanceMethod ({ cls := "HopArenaModel", name := "get", desc := "(II)I" } : Jvm.MethodName)) ∈ wsA := mA (List.mem_of_getElem? (i := 540) (by decide +kernel)) rfl
theorem m_541 : (Jvm.Cond.selects "HopArenaModel" ({ cls := "HopArenaModel", name := "get", desc := "(II)I" } : Jvm.MethodName) ({ cls := "HopArenaModel", name := "get", desc := "(II)I" } : Jvm.MethodName)) ∈ wsA := mA (List.mem_of_getElem? (i := 541) (by decide +kernel)) rfl
theorem m_542 : (Jvm.Cond.code ({ cls := "HopArenaModel", name := "get", desc := "(II)I" } : Jvm.MethodName) prog_4_method_23_code (4 : Nat) (Option.some Jvm.ClassFile.FieldType.int)) ∈ wsA := mA (List.mem_of_getElem? (i := 542) (by decide +kernel)) rfl
theorem m_543 : (Jvm.Cond.methodLink "HopArenaModel" (113 : Nat) ({ cls := "HopArenaModel", name := "find", desc := "(II)I" } : Jvm.MethodName)) ∈ wsA := mA (List.mem_of_getElem? (i := 543) (by decide +kernel)) rfl
theorem m_545 : (Jvm.Cond.instanceMethod ({ cls := "HopArenaModel", name := "find", desc := "(II)I" } : Jvm.MethodName)) ∈ wsA := mA (List.mem_of_getElem? (i := 545) (by decide +kernel)) rfl
theorem m_546 : (Jvm.Cond.code ({ cls := "HopArenaModel", name := "find", desc := "(II)I" } : Jvm.MethodName) prog_4_method_22_code (4 : Nat) (Option.some Jvm.ClassFile.FieldType.int)) ∈ wsA := mA (List.mem_of_getElem? (i := 546) (by decide +kernel)) rfl
theorem m_547 : (Jvm.Cond.methodLink "HopArenaLaw" (80 : Nat) ({ cls := "HopArenaModel", name := "remove", desc := "(II)I" } : Jvm.MethodName)) ∈ wsA := mA (List.mem_of_getElem? (i := 547) (by decide +kernel)) rfl
theorem m_548 : (Jvm.Cond.instanceMethod ({ cls := "HopArenaModel", name := "remove", desc := "(II)I" } : Jvm.MethodName)) ∈ wsA := mA (List.mem_of_getElem? (i := 548) (by decide +kernel)) rfl
theorem m_549 : (Jvm.Cond.selects "HopArenaModel" ({ cls := "HopArenaModel", name := "remove", desc := "(II)I" } : Jvm.MethodName) ({ cls := "HopArenaModel", name := "remove", desc := "(II)I" } : Jvm.MethodName)) ∈ wsA := mA (List.mem_of_getElem? (i := 549) (by decide +kernel)) rfl
theorem m_550 : (Jvm.Cond.code ({ cls := "HopArenaModel", name := "remove", desc := "(II)I" } : Jvm.MethodName) prog_4_method_24_code (4 : Nat) (Option.some Jvm.ClassFile.FieldType.int)) ∈ wsA := mA (List.mem_of_getElem? (i := 550) (by decide +kernel)) rfl
theorem m_551 : (Jvm.Cond.methodLink "HopArenaLaw" (83 : Nat) ({ cls := "HopArenaModel", name := "has", desc := "(II)Z" } : Jvm.MethodName)) ∈ wsA := mA (List.mem_of_getElem? (i := 551) (by decide +kernel)) rfl
theorem m_552 : (Jvm.Cond.instanceMethod ({ cls := "HopArenaModel", name := "has", desc := "(II)Z" } : Jvm.MethodName)) ∈ wsA := mA (List.mem_of_getElem? (i := 552) (by decide +kernel)) rfl
theorem m_553 : (Jvm.Cond.selects "HopArenaModel" ({ cls := "HopArenaModel", name := "has", desc := "(II)Z" } : Jvm.MethodName) ({ cls := "HopArenaModel", name := "has", desc := "(II)Z" } : Jvm.MethodName)) ∈ wsA := mA (List.mem_of_getElem? (i := 553) (by decide +kernel)) rfl
theorem m_554 : (Jvm.Cond.code ({ cls := "HopArenaModel", name := "has", desc := "(II)Z" } : Jvm.MethodName) prog_4_method_25_code (3 : Nat) (Option.some Jvm.ClassFile.FieldType.boolean)) ∈ wsA := mA (List.mem_of_getElem? (i := 554) (by decide +kernel)) rfl
theorem m_555 : (Jvm.Cond.methodLink "HopArenaLaw" (87 : Nat) ({ cls := "HopArenaModel", name := "size", desc := "(I)I" } : Jvm.MethodName)) ∈ wsA := mA (List.mem_of_getElem? (i := 555) (by decide +kernel)) rfl
theorem m_556 : (Jvm.Cond.instanceMethod ({ cls := "HopArenaModel", name := "size", desc := "(I)I" } : Jvm.MethodName)) ∈ wsA := mA (List.mem_of_getElem? (i := 556) (by decide +kernel)) rfl
theorem m_557 : (Jvm.Cond.selects "HopArenaModel" ({ cls := "HopArenaModel", name := "size", desc := "(I)I" } : Jvm.MethodName) ({ cls := "HopArenaModel", name := "size", desc := "(I)I" } : Jvm.MethodName)) ∈ wsA := mA (List.mem_of_getElem? (i := 557) (by decide +kernel)) rfl
theorem m_558 : (Jvm.Cond.code ({ cls := "HopArenaModel", name := "size", desc := "(I)I" } : Jvm.MethodName) prog_4_method_27_code (2 : Nat) (Option.some Jvm.ClassFile.FieldType.int)) ∈ wsA := mA (List.mem_of_getElem? (i := 558) (by decide +kernel)) rfl
theorem m_559 : (Jvm.Cond.methodLink "HopArenaModel" (116 : Nat) ({ cls := "HopArenaModel", name := "sizeOf", desc := "(I)I" } : Jvm.MethodName)) ∈ wsA := mA (List.mem_of_getElem? (i := 559) (by decide +kernel)) rfl
theorem m_561 : (Jvm.Cond.instanceMethod ({ cls := "HopArenaModel", name := "sizeOf", desc := "(I)I" } : Jvm.MethodName)) ∈ wsA := mA (List.mem_of_getElem? (i := 561) (by decide +kernel)) rfl
theorem m_562 : (Jvm.Cond.code ({ cls := "HopArenaModel", name := "sizeOf", desc := "(I)I" } : Jvm.MethodName) prog_4_method_26_code (4 : Nat) (Option.some Jvm.ClassFile.FieldType.int)) ∈ wsA := mA (List.mem_of_getElem? (i := 562) (by decide +kernel)) rfl
theorem m_563 : (Jvm.Cond.methodLink "HopArenaLaw" (90 : Nat) ({ cls := "HopArenaModel", name := "clear", desc := "(I)I" } : Jvm.MethodName)) ∈ wsA := mA (List.mem_of_getElem? (i := 563) (by decide +kernel)) rfl
theorem m_564 : (Jvm.Cond.instanceMethod ({ cls := "HopArenaModel", name := "clear", desc := "(I)I" } : Jvm.MethodName)) ∈ wsA := mA (List.mem_of_getElem? (i := 564) (by decide +kernel)) rfl
theorem m_565 : (Jvm.Cond.selects "HopArenaModel" ({ cls := "HopArenaModel", name := "clear", desc := "(I)I" } : Jvm.MethodName) ({ cls := "HopArenaModel", name := "clear", desc := "(I)I" } : Jvm.MethodName)) ∈ wsA := mA (List.mem_of_getElem? (i := 565) (by decide +kernel)) rfl
theorem m_566 : (Jvm.Cond.code ({ cls := "HopArenaModel", name := "clear", desc := "(I)I" } : Jvm.MethodName) prog_4_method_28_code (3 : Nat) (Option.some Jvm.ClassFile.FieldType.int)) ∈ wsA := mA (List.mem_of_getElem? (i := 566) (by decide +kernel)) rfl
theorem m_567 : (Jvm.Cond.methodLink "HopArenaLaw" (93 : Nat) ({ cls := "HopArenaModel", name := "about", desc := "(II)I" } : Jvm.MethodName)) ∈ wsA := mA (List.mem_of_getElem? (i := 567) (by decide +kernel)) rfl
theorem m_568 : (Jvm.Cond.instanceMethod ({ cls := "HopArenaModel", name := "about", desc := "(II)I" } : Jvm.MethodName)) ∈ wsA := mA (List.mem_of_getElem? (i := 568) (by decide +kernel)) rfl
theorem m_569 : (Jvm.Cond.selects "HopArenaModel" ({ cls := "HopArenaModel", name := "about", desc := "(II)I" } : Jvm.MethodName) ({ cls := "HopArenaModel", name := "about", desc := "(II)I" } : Jvm.MethodName)) ∈ wsA := mA (List.mem_of_getElem? (i := 569) (by decide +kernel)) rfl
theorem m_570 : (Jvm.Cond.code ({ cls := "HopArenaModel", name := "about", desc := "(II)I" } : Jvm.MethodName) prog_4_method_29_code (3 : Nat) (Option.some Jvm.ClassFile.FieldType.int)) ∈ wsA := mA (List.mem_of_getElem? (i := 570) (by decide +kernel)) rfl
theorem m_571 : (Jvm.Cond.methodLink "HopArenaLaw" (96 : Nat) ({ cls := "HopArenaModel", name := "home", desc := "(II)I" } : Jvm.MethodName)) ∈ wsA := mA (List.mem_of_getElem? (i := 571) (by decide +kernel)) rfl
theorem m_572 : (Jvm.Cond.instanceMethod ({ cls := "HopArenaModel", name := "home", desc := "(II)I" } : Jvm.MethodName)) ∈ wsA := mA (List.mem_of_getElem? (i := 572) (by decide +kernel)) rfl
theorem m_573 : (Jvm.Cond.selects "HopArenaModel" ({ cls := "HopArenaModel", name := "home", desc := "(II)I" } : Jvm.MethodName) ({ cls := "HopArenaModel", name := "home", desc := "(II)I" } : Jvm.MethodName)) ∈ wsA := mA (List.mem_of_getElem? (i := 573) (by decide +kernel)) rfl
theorem m_574 : (Jvm.Cond.code ({ cls := "HopArenaModel", name := "home", desc := "(II)I" } : Jvm.MethodName) prog_4_method_30_code (3 : Nat) (Option.some Jvm.ClassFile.FieldType.int)) ∈ wsA := mA (List.mem_of_getElem? (i := 574) (by decide +kernel)) rfl
theorem m_575 : (Jvm.Cond.methodLink "HopArenaLaw" (99 : Nat) ({ cls := "HopArenaModel", name := "distance", desc := "(II)I" } : Jvm.MethodName)) ∈ wsA := mA (List.mem_of_getElem? (i := 575) (by decide +kernel)) rfl
theorem m_576 : (Jvm.Cond.instanceMethod ({ cls := "HopArenaModel", name := "distance", desc := "(II)I" } : Jvm.MethodName)) ∈ wsA := mA (List.mem_of_getElem? (i := 576) (by decide +kernel)) rfl
theorem m_577 : (Jvm.Cond.selects "HopArenaModel" ({ cls := "HopArenaModel", name := "distance", desc := "(II)I" } : Jvm.MethodName) ({ cls := "HopArenaModel", name := "distance", desc := "(II)I" } : Jvm.MethodName)) ∈ wsA := mA (List.mem_of_getElem? (i := 577) (by decide +kernel)) rfl
theorem m_578 : (Jvm.Cond.code ({ cls := "HopArenaModel", name := "distance", desc := "(II)I" } : Jvm.MethodName) prog_4_method_31_code (4 : Nat) (Option.some Jvm.ClassFile.FieldType.int)) ∈ wsA := mA (List.mem_of_getElem? (i := 578) (by decide +kernel)) rfl
theorem m_579 : (Jvm.Cond.methodLink "HopArenaModel" (119 : Nat) ({ cls := "HopArenaModel", name := "distanceAt", desc := "(II)I" } : Jvm.MethodName)) ∈ wsA := mA (List.mem_of_getElem? (i := 579) (by decide +kernel)) rfl
theorem m_581 : (Jvm.Cond.instanceMethod ({ cls := "HopArenaModel", name := "distanceAt", desc := "(II)I" } : Jvm.MethodName)) ∈ wsA := mA (List.mem_of_getElem? (i := 581) (by decide +kernel)) rfl
theorem m_582 : (Jvm.Cond.code ({ cls := "HopArenaModel", name := "distanceAt", desc := "(II)I" } : Jvm.MethodName) prog_4_method_8_code (4 : Nat) (Option.some Jvm.ClassFile.FieldType.int)) ∈ wsA := mA (List.mem_of_getElem? (i := 582) (by decide +kernel)) rfl
theorem m_583 : (Jvm.Cond.methodLink "HopArenaLaw" (102 : Nat) ({ cls := "HopArenaModel", name := "bits", desc := "(II)I" } : Jvm.MethodName)) ∈ wsA := mA (List.mem_of_getElem? (i := 583) (by decide +kernel)) rfl
theorem m_584 : (Jvm.Cond.instanceMethod ({ cls := "HopArenaModel", name := "bits", desc := "(II)I" } : Jvm.MethodName)) ∈ wsA := mA (List.mem_of_getElem? (i := 584) (by decide +kernel)) rfl
theorem m_585 : (Jvm.Cond.selects "HopArenaModel" ({ cls := "HopArenaModel", name := "bits", desc := "(II)I" } : Jvm.MethodName) ({ cls := "HopArenaModel", name := "bits", desc := "(II)I" } : Jvm.MethodName)) ∈ wsA := mA (List.mem_of_getElem? (i := 585) (by decide +kernel)) rfl
theorem m_586 : (Jvm.Cond.code ({ cls := "HopArenaModel", name := "bits", desc := "(II)I" } : Jvm.MethodName) prog_4_method_33_code (3 : Nat) (Option.some Jvm.ClassFile.FieldType.int)) ∈ wsA := mA (List.mem_of_getElem? (i := 586) (by decide +kernel)) rfl
theorem m_587 : (Jvm.Cond.methodLink "HopArenaModel" (122 : Nat) ({ cls := "HopArenaModel", name := "isPlace", desc := "(II)Z" } : Jvm.MethodName)) ∈ wsA := mA (List.mem_of_getElem? (i := 587) (by decide +kernel)) rfl
theorem m_589 : (Jvm.Cond.instanceMethod ({ cls := "HopArenaModel", name := "isPlace", desc := "(II)Z" } : Jvm.MethodName)) ∈ wsA := mA (List.mem_of_getElem? (i := 589) (by decide +kernel)) rfl
theorem m_590 : (Jvm.Cond.code ({ cls := "HopArenaModel", name := "isPlace", desc := "(II)Z" } : Jvm.MethodName) prog_4_method_32_code (3 : Nat) (Option.some Jvm.ClassFile.FieldType.boolean)) ∈ wsA := mA (List.mem_of_getElem? (i := 590) (by decide +kernel)) rfl
theorem m_591 : (Jvm.Cond.methodLink "HopArenaModel" (126 : Nat) ({ cls := "HopArenaModel", name := "bitsOf", desc := "(II)I" } : Jvm.MethodName)) ∈ wsA := mA (List.mem_of_getElem? (i := 591) (by decide +kernel)) rfl
theorem m_593 : (Jvm.Cond.instanceMethod ({ cls := "HopArenaModel", name := "bitsOf", desc := "(II)I" } : Jvm.MethodName)) ∈ wsA := mA (List.mem_of_getElem? (i := 593) (by decide +kernel)) rfl
theorem m_594 : (Jvm.Cond.code ({ cls := "HopArenaModel", name := "bitsOf", desc := "(II)I" } : Jvm.MethodName) prog_4_method_9_code (7 : Nat) (Option.some Jvm.ClassFile.FieldType.int)) ∈ wsA := mA (List.mem_of_getElem? (i := 594) (by decide +kernel)) rfl
theorem m_595 : (Jvm.Cond.methodLink "HopArenaLaw" (105 : Nat) ({ cls := "HopArenaModel", name := "next", desc := "(II)I" } : Jvm.MethodName)) ∈ wsA := mA (List.mem_of_getElem? (i := 595) (by decide +kernel)) rfl
theorem m_596 : (Jvm.Cond.instanceMethod ({ cls := "HopArenaModel", name := "next", desc := "(II)I" } : Jvm.MethodName)) ∈ wsA := mA (List.mem_of_getElem? (i := 596) (by decide +kernel)) rfl
theorem m_597 : (Jvm.Cond.selects "HopArenaModel" ({ cls := "HopArenaModel", name := "next", desc := "(II)I" } : Jvm.MethodName) ({ cls := "HopArenaModel", name := "next", desc := "(II)I" } : Jvm.MethodName)) ∈ wsA := mA (List.mem_of_getElem? (i := 597) (by decide +kernel)) rfl
theorem m_598 : (Jvm.Cond.code ({ cls := "HopArenaModel", name := "next", desc := "(II)I" } : Jvm.MethodName) prog_4_method_34_code (4 : Nat) (Option.some Jvm.ClassFile.FieldType.int)) ∈ wsA := mA (List.mem_of_getElem? (i := 598) (by decide +kernel)) rfl
theorem m_599 : (Jvm.Cond.methodLink "HopArenaLaw" (108 : Nat) ({ cls := "HopArenaModel", name := "key", desc := "(II)I" } : Jvm.MethodName)) ∈ wsA := mA (List.mem_of_getElem? (i := 599) (by decide +kernel)) rfl
theorem m_600 : (Jvm.Cond.instanceMethod ({ cls := "HopArenaModel", name := "key", desc := "(II)I" } : Jvm.MethodName)) ∈ wsA := mA (List.mem_of_getElem? (i := 600) (by decide +kernel)) rfl
theorem m_601 : (Jvm.Cond.selects "HopArenaModel" ({ cls := "HopArenaModel", name := "key", desc := "(II)I" } : Jvm.MethodName) ({ cls := "HopArenaModel", name := "key", desc := "(II)I" } : Jvm.MethodName)) ∈ wsA := mA (List.mem_of_getElem? (i := 601) (by decide +kernel)) rfl
theorem m_602 : (Jvm.Cond.code ({ cls := "HopArenaModel", name := "key", desc := "(II)I" } : Jvm.MethodName) prog_4_method_35_code (3 : Nat) (Option.some Jvm.ClassFile.FieldType.int)) ∈ wsA := mA (List.mem_of_getElem? (i := 602) (by decide +kernel)) rfl
theorem m_603 : (Jvm.Cond.methodLink "HopArenaLaw" (111 : Nat) ({ cls := "HopArenaModel", name := "count", desc := "(I)I" } : Jvm.MethodName)) ∈ wsA := mA (List.mem_of_getElem? (i := 603) (by decide +kernel)) rfl
theorem m_604 : (Jvm.Cond.instanceMethod ({ cls := "HopArenaModel", name := "count", desc := "(I)I" } : Jvm.MethodName)) ∈ wsA := mA (List.mem_of_getElem? (i := 604) (by decide +kernel)) rfl
theorem m_605 : (Jvm.Cond.selects "HopArenaModel" ({ cls := "HopArenaModel", name := "count", desc := "(I)I" } : Jvm.MethodName) ({ cls := "HopArenaModel", name := "count", desc := "(I)I" } : Jvm.MethodName)) ∈ wsA := mA (List.mem_of_getElem? (i := 605) (by decide +kernel)) rfl
theorem m_606 : (Jvm.Cond.code ({ cls := "HopArenaModel", name := "count", desc := "(I)I" } : Jvm.MethodName) prog_4_method_36_code (2 : Nat) (Option.some Jvm.ClassFile.FieldType.int)) ∈ wsA := mA (List.mem_of_getElem? (i := 606) (by decide +kernel)) rfl
theorem m_607 : (Jvm.Cond.arrayClass Jvm.ClassFile.FieldType.long) ∈ wsA := mA (List.mem_of_getElem? (i := 607) (by decide +kernel)) rfl
theorem g_Hop_Part_around : GoodIn wsA (wsV R_Hop 89 R_Part y_Part_around w_Part_around) := gV m_207 m_208 m_209 m_41 m_210
theorem g_Hop_Part_slotOf : GoodIn wsA (wsV R_Hop 99 R_Part y_Part_slotOf w_Part_slotOf) := gV m_191 m_192 m_193 m_41 m_194
theorem g_Hop_Part_homeOf : GoodIn wsA (wsV R_Hop 85 R_Part y_Part_homeOf w_Part_homeOf) := gV m_186 m_187 m_188 m_41 m_189
theorem g_Hop_Part_end : GoodIn wsA (wsV R_Hop 122 R_Part y_Part_end w_Part_end) := gV m_237 m_238 m_239 m_41 m_240
theorem g_Hop_Part_isPlace : GoodIn wsA (wsV R_Hop 114 R_Part y_Part_isPlace w_Part_isPlace) := gV m_388 m_389 m_390 m_41 m_391
theorem g_Hop_slotOrNone : GoodIn wsA (wsV R_Hop 40 R_Hop y_Hop_slotOrNone w_Hop_slotOrNone) := gV m_182 m_184 m_2 m_40 m_185
theorem g_Hop_keysIn : GoodIn wsA (wsV R_Hop 62 R_Hop y_Hop_keysIn w_Hop_keysIn) := gV m_329 m_331 m_18 m_40 m_332
theorem g_Hop_isBitSet : GoodIn wsA (wsV R_Hop 96 R_Hop y_Hop_isBitSet w_Hop_isBitSet) := gV m_211 m_213 m_6 m_40 m_214
theorem g_Hop_stepsToFree : GoodIn wsA (wsV R_Hop 126 R_Hop y_Hop_stepsToFree w_Hop_stepsToFree) := gV m_199 m_201 m_4 m_40 m_202
theorem g_Hop_copySlot : GoodIn wsA (wsV R_Hop 132 R_Hop y_Hop_copySlot w_Hop_copySlot) := gV m_215 m_217 m_7 m_40 m_218
theorem g_Hop_freeAll : GoodIn wsA (wsV R_Hop 70 R_Hop y_Hop_freeAll w_Hop_freeAll) := gV m_256 m_258 m_15 m_40 m_259
theorem g_Hop_sumOfCapacities : GoodIn wsA (wsV R_Hop 136 R_Hop y_Hop_sumOfCapacities w_Hop_sumOfCapacities) := gV m_223 m_225 m_9 m_40 m_226
theorem g_Hop_lastEnd : GoodIn wsA (wsV R_Hop 149 R_Hop y_Hop_lastEnd w_Hop_lastEnd) := gV m_233 m_235 m_11 m_40 m_236
theorem g_Hop_lowestFrom : GoodIn wsA (wsV R_Hop 161 R_Hop y_Hop_lowestFrom w_Hop_lowestFrom) := gV m_248 m_250 m_13 m_40 m_251
theorem g_Hop_moveDown : GoodIn wsA (wsV R_Hop 164 R_Hop y_Hop_moveDown w_Hop_moveDown) := gV m_252 m_254 m_14 m_40 m_255
theorem g_Hop_hopNearer : GoodIn wsA (wsV R_Hop 129 R_Hop y_Hop_hopNearer w_Hop_hopNearer) := gV m_203 m_205 m_5 m_40 m_206
theorem g_Hop_insert : GoodIn wsA (wsV R_Hop 44 R_Hop y_Hop_insert w_Hop_insert) := gV m_195 m_197 m_3 m_40 m_198
theorem g_Hop_insertAnew : GoodIn wsA (wsV R_Hop 145 R_Hop y_Hop_insertAnew w_Hop_insertAnew) := gV m_260 m_262 m_16 m_40 m_263
theorem g_Hop_pushTogether : GoodIn wsA (wsV R_Hop 152 R_Hop y_Hop_pushTogether w_Hop_pushTogether) := gV m_244 m_246 m_12 m_40 m_247
theorem g_Hop_layOut : GoodIn wsA (wsV R_Hop 141 R_Hop y_Hop_layOut w_Hop_layOut) := gV m_229 m_231 m_10 m_40 m_232
theorem g_Hop_growWith : GoodIn wsA (wsV R_Hop 48 R_Hop y_Hop_growWith w_Hop_growWith) := gV m_219 m_221 m_8 m_40 m_222
end
section
theorem d_Part_init_0 : decode b_Part_init 0 = .ok (.aload_n 0, 1) := by decide +kernel
theorem d_Part_init_1 : decode b_Part_init 1 = .ok (.invokespecial 1, 3) := by decide +kernel
theorem d_Part_init_4 : decode b_Part_init 4 = .ok (.aload_n 0, 1) := by decide +kernel
theorem d_Part_init_5 : decode b_Part_init 5 = .ok (.iload_n 1, 1) := by decide +kernel
theorem d_Part_init_6 : decode b_Part_init 6 = .ok (.putfield 7, 3) := by decide +kernel
theorem d_Part_init_9 : decode b_Part_init 9 = .ok (.aload_n 0, 1) := by decide +kernel
theorem d_Part_init_10 : decode b_Part_init 10 = .ok (.iload_n 2, 1) := by decide +kernel
theorem d_Part_init_11 : decode b_Part_init 11 = .ok (.putfield 13, 3) := by decide +kernel
theorem d_Part_init_14 : decode b_Part_init 14 = .ok (.aload_n 0, 1) := by decide +kernel
theorem d_Part_init_15 : decode b_Part_init 15 = .ok (.iload_n 3, 1) := by decide +kernel
theorem d_Part_init_16 : decode b_Part_init 16 = .ok (.putfield 16, 3) := by decide +kernel
theorem d_Part_init_19 : decode b_Part_init 19 = .ok (.return_, 1) := by decide +kernel
theorem d_Part_around_0 : decode b_Part_around 0 = .ok (.iload_n 1, 1) := by decide +kernel
theorem d_Part_around_1 : decode b_Part_around 1 = .ok (.aload_n 0, 1) := by decide +kernel
theorem d_Part_around_2 : decode b_Part_around 2 = .ok (.getfield 13, 3) := by decide +kernel
theorem d_Part_around_5 : decode b_Part_around 5 = .ok (.iconst 1, 1) := by decide +kernel
theorem d_Part_around_6 : decode b_Part_around 6 = .ok (.isub, 1) := by decide +kernel
theorem d_Part_around_7 : decode b_Part_around 7 = .ok (.iand, 1) := by decide +kernel
theorem d_Part_around_8 : decode b_Part_around 8 = .ok (.ireturn, 1) := by decide +kernel
theorem d_Part_slotOf_0 : decode b_Part_slotOf 0 = .ok (.aload_n 0, 1) := by decide +kernel
theorem d_Part_slotOf_1 : decode b_Part_slotOf 1 = .ok (.getfield 7, 3) := by decide +kernel
theorem d_Part_slotOf_4 : decode b_Part_slotOf 4 = .ok (.iload_n 1, 1) := by decide +kernel
theorem d_Part_slotOf_5 : decode b_Part_slotOf 5 = .ok (.aload_n 0, 1) := by decide +kernel
theorem d_Part_slotOf_6 : decode b_Part_slotOf 6 = .ok (.getfield 13, 3) := by decide +kernel
theorem d_Part_slotOf_9 : decode b_Part_slotOf 9 = .ok (.iconst 1, 1) := by decide +kernel
theorem d_Part_slotOf_10 : decode b_Part_slotOf 10 = .ok (.isub, 1) := by decide +kernel
theorem d_Part_slotOf_11 : decode b_Part_slotOf 11 = .ok (.iand, 1) := by decide +kernel
theorem d_Part_slotOf_12 : decode b_Part_slotOf 12 = .ok (.iadd, 1) := by decide +kernel
theorem d_Part_slotOf_13 : decode b_Part_slotOf 13 = .ok (.ireturn, 1) := by decide +kernel
theorem d_Part_homeOf_0 : decode b_Part_homeOf 0 = .ok (.iload_n 1, 1) := by decide +kernel
theorem d_Part_homeOf_1 : decode b_Part_homeOf 1 = .ok (.aload_n 0, 1) := by decide +kernel
theorem d_Part_homeOf_2 : decode b_Part_homeOf 2 = .ok (.getfield 16, 3) := by decide +kernel
theorem d_Part_homeOf_5 : decode b_Part_homeOf 5 = .ok (.ixor, 1) := by decide +kernel
theorem d_Part_homeOf_6 : decode b_Part_homeOf 6 = .ok (.ldc 19, 2) := by decide +kernel
theorem d_Part_homeOf_8 : decode b_Part_homeOf 8 = .ok (.imul, 1) := by decide +kernel
theorem d_Part_homeOf_9 : decode b_Part_homeOf 9 = .ok (.bipush 9, 2) := by decide +kernel
theorem d_Part_homeOf_11 : decode b_Part_homeOf 11 = .ok (.iushr, 1) := by decide +kernel
theorem d_Part_homeOf_12 : decode b_Part_homeOf 12 = .ok (.aload_n 0, 1) := by decide +kernel
theorem d_Part_homeOf_13 : decode b_Part_homeOf 13 = .ok (.getfield 13, 3) := by decide +kernel
theorem d_Part_homeOf_16 : decode b_Part_homeOf 16 = .ok (.iconst 1, 1) := by decide +kernel
theorem d_Part_homeOf_17 : decode b_Part_homeOf 17 = .ok (.isub, 1) := by decide +kernel
theorem d_Part_homeOf_18 : decode b_Part_homeOf 18 = .ok (.iand, 1) := by decide +kernel
theorem d_Part_homeOf_19 : decode b_Part_homeOf 19 = .ok (.ireturn, 1) := by decide +kernel
theorem d_Part_end_0 : decode b_Part_end 0 = .ok (.aload_n 0, 1) := by decide +kernel
theorem d_Part_end_1 : decode b_Part_end 1 = .ok (.getfield 7, 3) := by decide +kernel
theorem d_Part_end_4 : decode b_Part_end 4 = .ok (.aload_n 0, 1) := by decide +kernel
theorem d_Part_end_5 : decode b_Part_end 5 = .ok (.getfield 13, 3) := by decide +kernel
theorem d_Part_end_8 : decode b_Part_end 8 = .ok (.iadd, 1) := by decide +kernel
theorem d_Part_end_9 : decode b_Part_end 9 = .ok (.ireturn, 1) := by decide +kernel
theorem d_Part_isPlace_0 : decode b_Part_isPlace 0 = .ok (.iload_n 1, 1) := by decide +kernel
theorem d_Part_isPlace_1 : decode b_Part_isPlace 1 = .ok (.ifCond .lt 15, 3) := by decide +kernel
theorem d_Part_isPlace_4 : decode b_Part_isPlace 4 = .ok (.iload_n 1, 1) := by decide +kernel
theorem d_Part_isPlace_5 : decode b_Part_isPlace 5 = .ok (.aload_n 0, 1) := by decide +kernel
theorem d_Part_isPlace_6 : decode b_Part_isPlace 6 = .ok (.getfield 13, 3) := by decide +kernel
theorem d_Part_isPlace_9 : decode b_Part_isPlace 9 = .ok (.if_icmp .ge 7, 3) := by decide +kernel
theorem d_Part_isPlace_12 : decode b_Part_isPlace 12 = .ok (.iconst 1, 1) := by decide +kernel
theorem d_Part_isPlace_13 : decode b_Part_isPlace 13 = .ok (.goto 4, 3) := by decide +kernel
theorem d_Part_isPlace_16 : decode b_Part_isPlace 16 = .ok (.iconst 0, 1) := by decide +kernel
theorem d_Part_isPlace_17 : decode b_Part_isPlace 17 = .ok (.ireturn, 1) := by decide +kernel
theorem d_Hop_init_0 : decode b_Hop_init 0 = .ok (.aload_n 0, 1) := by decide +kernel
theorem d_Hop_init_1 : decode b_Hop_init 1 = .ok (.invokespecial 1, 3) := by decide +kernel
theorem d_Hop_init_4 : decode b_Hop_init 4 = .ok (.aload_n 0, 1) := by decide +kernel
theorem d_Hop_init_5 : decode b_Hop_init 5 = .ok (.sipush 256, 3) := by decide +kernel
theorem d_Hop_init_8 : decode b_Hop_init 8 = .ok (.newarray .int, 2) := by decide +kernel
theorem d_Hop_init_10 : decode b_Hop_init 10 = .ok (.putfield 9, 3) := by decide +kernel
theorem d_Hop_init_13 : decode b_Hop_init 13 = .ok (.aload_n 0, 1) := by decide +kernel
theorem d_Hop_init_14 : decode b_Hop_init 14 = .ok (.sipush 256, 3) := by decide +kernel
theorem d_Hop_init_17 : decode b_Hop_init 17 = .ok (.newarray .int, 2) := by decide +kernel
theorem d_Hop_init_19 : decode b_Hop_init 19 = .ok (.putfield 13, 3) := by decide +kernel
theorem d_Hop_init_22 : decode b_Hop_init 22 = .ok (.aload_n 0, 1) := by decide +kernel
theorem d_Hop_init_23 : decode b_Hop_init 23 = .ok (.sipush 256, 3) := by decide +kernel
theorem d_Hop_init_26 : decode b_Hop_init 26 = .ok (.newarray .boolean, 2) := by decide +kernel
theorem d_Hop_init_28 : decode b_Hop_init 28 = .ok (.putfield 16, 3) := by decide +kernel
theorem d_Hop_init_31 : decode b_Hop_init 31 = .ok (.aload_n 0, 1) := by decide +kernel
theorem d_Hop_init_32 : decode b_Hop_init 32 = .ok (.iconst 3, 1) := by decide +kernel
theorem d_Hop_init_33 : decode b_Hop_init 33 = .ok (.newarray .int, 2) := by decide +kernel
theorem d_Hop_init_35 : decode b_Hop_init 35 = .ok (.putfield 20, 3) := by decide +kernel
theorem d_Hop_init_38 : decode b_Hop_init 38 = .ok (.aload_n 0, 1) := by decide +kernel
theorem d_Hop_init_39 : decode b_Hop_init 39 = .ok (.iconst 3, 1) := by decide +kernel
theorem d_Hop_init_40 : decode b_Hop_init 40 = .ok (.anewarray 23, 3) := by decide +kernel
theorem d_Hop_init_43 : decode b_Hop_init 43 = .ok (.putfield 25, 3) := by decide +kernel
theorem d_Hop_init_46 : decode b_Hop_init 46 = .ok (.iconst 0, 1) := by decide +kernel
theorem d_Hop_init_47 : decode b_Hop_init 47 = .ok (.istore_n 1, 1) := by decide +kernel
theorem d_Hop_init_48 : decode b_Hop_init 48 = .ok (.iload_n 1, 1) := by decide +kernel
theorem d_Hop_init_49 : decode b_Hop_init 49 = .ok (.iconst 3, 1) := by decide +kernel
theorem d_Hop_init_50 : decode b_Hop_init 50 = .ok (.if_icmp .ge 31, 3) := by decide +kernel
theorem d_Hop_init_53 : decode b_Hop_init 53 = .ok (.aload_n 0, 1) := by decide +kernel
theorem d_Hop_init_54 : decode b_Hop_init 54 = .ok (.getfield 25, 3) := by decide +kernel
theorem d_Hop_init_57 : decode b_Hop_init 57 = .ok (.iload_n 1, 1) := by decide +kernel
theorem d_Hop_init_58 : decode b_Hop_init 58 = .ok (.new 23, 3) := by decide +kernel
theorem d_Hop_init_61 : decode b_Hop_init 61 = .ok (.dup, 1) := by decide +kernel
theorem d_Hop_init_62 : decode b_Hop_init 62 = .ok (.iload_n 1, 1) := by decide +kernel
theorem d_Hop_init_63 : decode b_Hop_init 63 = .ok (.bipush 8, 2) := by decide +kernel
theorem d_Hop_init_65 : decode b_Hop_init 65 = .ok (.imul, 1) := by decide +kernel
theorem d_Hop_init_66 : decode b_Hop_init 66 = .ok (.bipush 8, 2) := by decide +kernel
theorem d_Hop_init_68 : decode b_Hop_init 68 = .ok (.iload_n 1, 1) := by decide +kernel
theorem d_Hop_init_69 : decode b_Hop_init 69 = .ok (.iconst 1, 1) := by decide +kernel
theorem d_Hop_init_70 : decode b_Hop_init 70 = .ok (.iadd, 1) := by decide +kernel
theorem d_Hop_init_71 : decode b_Hop_init 71 = .ok (.invokespecial 29, 3) := by decide +kernel
theorem d_Hop_init_74 : decode b_Hop_init 74 = .ok (.aastore, 1) := by decide +kernel
theorem d_Hop_init_75 : decode b_Hop_init 75 = .ok (.iinc 1 1, 3) := by decide +kernel
theorem d_Hop_init_78 : decode b_Hop_init 78 = .ok (.goto (-30), 3) := by decide +kernel
theorem d_Hop_init_81 : decode b_Hop_init 81 = .ok (.aload_n 0, 1) := by decide +kernel
theorem d_Hop_init_82 : decode b_Hop_init 82 = .ok (.new 23, 3) := by decide +kernel
theorem d_Hop_init_85 : decode b_Hop_init 85 = .ok (.dup, 1) := by decide +kernel
theorem d_Hop_init_86 : decode b_Hop_init 86 = .ok (.iconst 0, 1) := by decide +kernel
theorem d_Hop_init_87 : decode b_Hop_init 87 = .ok (.bipush 8, 2) := by decide +kernel
theorem d_Hop_init_89 : decode b_Hop_init 89 = .ok (.iconst 0, 1) := by decide +kernel
theorem d_Hop_init_90 : decode b_Hop_init 90 = .ok (.invokespecial 29, 3) := by decide +kernel
theorem d_Hop_init_93 : decode b_Hop_init 93 = .ok (.putfield 32, 3) := by decide +kernel
theorem d_Hop_init_96 : decode b_Hop_init 96 = .ok (.return_, 1) := by decide +kernel
theorem d_Hop_put_0 : decode b_Hop_put 0 = .ok (.aload_n 0, 1) := by decide +kernel
theorem d_Hop_put_1 : decode b_Hop_put 1 = .ok (.iload_n 1, 1) := by decide +kernel
theorem d_Hop_put_2 : decode b_Hop_put 2 = .ok (.invokevirtual 36, 3) := by decide +kernel
theorem d_Hop_put_5 : decode b_Hop_put 5 = .ok (.astore 4, 2) := by decide +kernel
theorem d_Hop_put_7 : decode b_Hop_put 7 = .ok (.aload_n 0, 1) := by decide +kernel
theorem d_Hop_put_8 : decode b_Hop_put 8 = .ok (.aload 4, 2) := by decide +kernel
theorem d_Hop_put_10 : decode b_Hop_put 10 = .ok (.iload_n 2, 1) := by decide +kernel
theorem d_Hop_put_11 : decode b_Hop_put 11 = .ok (.invokevirtual 40, 3) := by decide +kernel
theorem d_Hop_put_14 : decode b_Hop_put 14 = .ok (.istore 5, 2) := by decide +kernel
theorem d_Hop_put_16 : decode b_Hop_put 16 = .ok (.iload 5, 2) := by decide +kernel
theorem d_Hop_put_18 : decode b_Hop_put 18 = .ok (.iconst (-1), 1) := by decide +kernel
theorem d_Hop_put_19 : decode b_Hop_put 19 = .ok (.if_icmp .eq 13, 3) := by decide +kernel
theorem d_Hop_put_22 : decode b_Hop_put 22 = .ok (.aload_n 0, 1) := by decide +kernel
theorem d_Hop_put_23 : decode b_Hop_put 23 = .ok (.getfield 13, 3) := by decide +kernel
theorem d_Hop_put_26 : decode b_Hop_put 26 = .ok (.iload 5, 2) := by decide +kernel
theorem d_Hop_put_28 : decode b_Hop_put 28 = .ok (.iload_n 3, 1) := by decide +kernel
theorem d_Hop_put_29 : decode b_Hop_put 29 = .ok (.iastore, 1) := by decide +kernel
theorem d_Hop_put_30 : decode b_Hop_put 30 = .ok (.iconst 1, 1) := by decide +kernel
theorem d_Hop_put_31 : decode b_Hop_put 31 = .ok (.ireturn, 1) := by decide +kernel
theorem d_Hop_put_32 : decode b_Hop_put 32 = .ok (.aload_n 0, 1) := by decide +kernel
theorem d_Hop_put_33 : decode b_Hop_put 33 = .ok (.aload 4, 2) := by decide +kernel
theorem d_Hop_put_35 : decode b_Hop_put 35 = .ok (.iload_n 2, 1) := by decide +kernel
theorem d_Hop_put_36 : decode b_Hop_put 36 = .ok (.iload_n 3, 1) := by decide +kernel
theorem d_Hop_put_37 : decode b_Hop_put 37 = .ok (.invokevirtual 44, 3) := by decide +kernel
theorem d_Hop_put_40 : decode b_Hop_put 40 = .ok (.ifCond .ne 23, 3) := by decide +kernel
theorem d_Hop_put_43 : decode b_Hop_put 43 = .ok (.aload_n 0, 1) := by decide +kernel
theorem d_Hop_put_44 : decode b_Hop_put 44 = .ok (.iload_n 1, 1) := by decide +kernel
theorem d_Hop_put_45 : decode b_Hop_put 45 = .ok (.iload_n 2, 1) := by decide +kernel
theorem d_Hop_put_46 : decode b_Hop_put 46 = .ok (.iload_n 3, 1) := by decide +kernel
theorem d_Hop_put_47 : decode b_Hop_put 47 = .ok (.invokevirtual 48, 3) := by decide +kernel
theorem d_Hop_put_50 : decode b_Hop_put 50 = .ok (.ifCond .ne 13, 3) := by decide +kernel
theorem d_Hop_put_53 : decode b_Hop_put 53 = .ok (.new 52, 3) := by decide +kernel
theorem d_Hop_put_56 : decode b_Hop_put 56 = .ok (.dup, 1) := by decide +kernel
theorem d_Hop_put_57 : decode b_Hop_put 57 = .ok (.ldc 54, 2) := by decide +kernel
theorem d_Hop_put_59 : decode b_Hop_put 59 = .ok (.invokespecial 56, 3) := by decide +kernel
theorem d_Hop_put_62 : decode b_Hop_put 62 = .ok (.athrow, 1) := by decide +kernel
theorem d_Hop_put_63 : decode b_Hop_put 63 = .ok (.iconst 0, 1) := by decide +kernel
theorem d_Hop_put_64 : decode b_Hop_put 64 = .ok (.ireturn, 1) := by decide +kernel
theorem d_Hop_get_0 : decode b_Hop_get 0 = .ok (.aload_n 0, 1) := by decide +kernel
theorem d_Hop_get_1 : decode b_Hop_get 1 = .ok (.getfield 13, 3) := by decide +kernel
theorem d_Hop_get_4 : decode b_Hop_get 4 = .ok (.aload_n 0, 1) := by decide +kernel
theorem d_Hop_get_5 : decode b_Hop_get 5 = .ok (.aload_n 0, 1) := by decide +kernel
theorem d_Hop_get_6 : decode b_Hop_get 6 = .ok (.iload_n 1, 1) := by decide +kernel
theorem d_Hop_get_7 : decode b_Hop_get 7 = .ok (.invokevirtual 36, 3) := by decide +kernel
theorem d_Hop_get_10 : decode b_Hop_get 10 = .ok (.iload_n 2, 1) := by decide +kernel
theorem d_Hop_get_11 : decode b_Hop_get 11 = .ok (.invokevirtual 59, 3) := by decide +kernel
theorem d_Hop_get_14 : decode b_Hop_get 14 = .ok (.iaload, 1) := by decide +kernel
theorem d_Hop_get_15 : decode b_Hop_get 15 = .ok (.ireturn, 1) := by decide +kernel
theorem d_Hop_remove_0 : decode b_Hop_remove 0 = .ok (.aload_n 0, 1) := by decide +kernel
theorem d_Hop_remove_1 : decode b_Hop_remove 1 = .ok (.aload_n 0, 1) := by decide +kernel
theorem d_Hop_remove_2 : decode b_Hop_remove 2 = .ok (.iload_n 1, 1) := by decide +kernel
theorem d_Hop_remove_3 : decode b_Hop_remove 3 = .ok (.invokevirtual 36, 3) := by decide +kernel
theorem d_Hop_remove_6 : decode b_Hop_remove 6 = .ok (.iload_n 2, 1) := by decide +kernel
theorem d_Hop_remove_7 : decode b_Hop_remove 7 = .ok (.invokevirtual 59, 3) := by decide +kernel
theorem d_Hop_remove_10 : decode b_Hop_remove 10 = .ok (.istore_n 3, 1) := by decide +kernel
theorem d_Hop_remove_11 : decode b_Hop_remove 11 = .ok (.aload_n 0, 1) := by decide +kernel
theorem d_Hop_remove_12 : decode b_Hop_remove 12 = .ok (.getfield 16, 3) := by decide +kernel
theorem d_Hop_remove_15 : decode b_Hop_remove 15 = .ok (.iload_n 3, 1) := by decide +kernel
theorem d_Hop_remove_16 : decode b_Hop_remove 16 = .ok (.iconst 0, 1) := by decide +kernel
theorem d_Hop_remove_17 : decode b_Hop_remove 17 = .ok (.bastore, 1) := by decide +kernel
theorem d_Hop_remove_18 : decode b_Hop_remove 18 = .ok (.aload_n 0, 1) := by decide +kernel
theorem d_Hop_remove_19 : decode b_Hop_remove 19 = .ok (.getfield 13, 3) := by decide +kernel
theorem d_Hop_remove_22 : decode b_Hop_remove 22 = .ok (.iload_n 3, 1) := by decide +kernel
theorem d_Hop_remove_23 : decode b_Hop_remove 23 = .ok (.iaload, 1) := by decide +kernel
theorem d_Hop_remove_24 : decode b_Hop_remove 24 = .ok (.ireturn, 1) := by decide +kernel
theorem d_Hop_has_0 : decode b_Hop_has 0 = .ok (.aload_n 0, 1) := by decide +kernel
theorem d_Hop_has_1 : decode b_Hop_has 1 = .ok (.aload_n 0, 1) := by decide +kernel
theorem d_Hop_has_2 : decode b_Hop_has 2 = .ok (.iload_n 1, 1) := by decide +kernel
theorem d_Hop_has_3 : decode b_Hop_has 3 = .ok (.invokevirtual 36, 3) := by decide +kernel
theorem d_Hop_has_6 : decode b_Hop_has 6 = .ok (.iload_n 2, 1) := by decide +kernel
theorem d_Hop_has_7 : decode b_Hop_has 7 = .ok (.invokevirtual 40, 3) := by decide +kernel
theorem d_Hop_has_10 : decode b_Hop_has 10 = .ok (.iconst (-1), 1) := by decide +kernel
theorem d_Hop_has_11 : decode b_Hop_has 11 = .ok (.if_icmp .eq 7, 3) := by decide +kernel
theorem d_Hop_has_14 : decode b_Hop_has 14 = .ok (.iconst 1, 1) := by decide +kernel
theorem d_Hop_has_15 : decode b_Hop_has 15 = .ok (.goto 4, 3) := by decide +kernel
theorem d_Hop_has_18 : decode b_Hop_has 18 = .ok (.iconst 0, 1) := by decide +kernel
theorem d_Hop_has_19 : decode b_Hop_has 19 = .ok (.ireturn, 1) := by decide +kernel
theorem d_Hop_size_0 : decode b_Hop_size 0 = .ok (.aload_n 0, 1) := by decide +kernel
theorem d_Hop_size_1 : decode b_Hop_size 1 = .ok (.aload_n 0, 1) := by decide +kernel
theorem d_Hop_size_2 : decode b_Hop_size 2 = .ok (.iload_n 1, 1) := by decide +kernel
theorem d_Hop_size_3 : decode b_Hop_size 3 = .ok (.invokevirtual 36, 3) := by decide +kernel
theorem d_Hop_size_6 : decode b_Hop_size 6 = .ok (.invokevirtual 62, 3) := by decide +kernel
theorem d_Hop_size_9 : decode b_Hop_size 9 = .ok (.ireturn, 1) := by decide +kernel
theorem d_Hop_clear_0 : decode b_Hop_clear 0 = .ok (.aload_n 0, 1) := by decide +kernel
theorem d_Hop_clear_1 : decode b_Hop_clear 1 = .ok (.iload_n 1, 1) := by decide +kernel
theorem d_Hop_clear_2 : decode b_Hop_clear 2 = .ok (.invokevirtual 36, 3) := by decide +kernel
theorem d_Hop_clear_5 : decode b_Hop_clear 5 = .ok (.astore_n 2, 1) := by decide +kernel
theorem d_Hop_clear_6 : decode b_Hop_clear 6 = .ok (.aload_n 0, 1) := by decide +kernel
theorem d_Hop_clear_7 : decode b_Hop_clear 7 = .ok (.aload_n 2, 1) := by decide +kernel
theorem d_Hop_clear_8 : decode b_Hop_clear 8 = .ok (.invokevirtual 62, 3) := by decide +kernel
theorem d_Hop_clear_11 : decode b_Hop_clear 11 = .ok (.istore_n 3, 1) := by decide +kernel
theorem d_Hop_clear_12 : decode b_Hop_clear 12 = .ok (.aload_n 2, 1) := by decide +kernel
theorem d_Hop_clear_13 : decode b_Hop_clear 13 = .ok (.bipush 8, 2) := by decide +kernel
theorem d_Hop_clear_15 : decode b_Hop_clear 15 = .ok (.putfield 66, 3) := by decide +kernel
theorem d_Hop_clear_18 : decode b_Hop_clear 18 = .ok (.aload_n 0, 1) := by decide +kernel
theorem d_Hop_clear_19 : decode b_Hop_clear 19 = .ok (.aload_n 2, 1) := by decide +kernel
theorem d_Hop_clear_20 : decode b_Hop_clear 20 = .ok (.invokevirtual 70, 3) := by decide +kernel
theorem d_Hop_clear_23 : decode b_Hop_clear 23 = .ok (.iload_n 3, 1) := by decide +kernel
theorem d_Hop_clear_24 : decode b_Hop_clear 24 = .ok (.ireturn, 1) := by decide +kernel
theorem d_Hop_about_0 : decode b_Hop_about 0 = .ok (.aload_n 0, 1) := by decide +kernel
theorem d_Hop_about_1 : decode b_Hop_about 1 = .ok (.iload_n 1, 1) := by decide +kernel
theorem d_Hop_about_2 : decode b_Hop_about 2 = .ok (.invokevirtual 36, 3) := by decide +kernel
theorem d_Hop_about_5 : decode b_Hop_about 5 = .ok (.astore_n 3, 1) := by decide +kernel
theorem d_Hop_about_6 : decode b_Hop_about 6 = .ok (.iload_n 2, 1) := by decide +kernel
theorem d_Hop_about_7 : decode b_Hop_about 7 = .ok (.tableswitch 40 0 2 #[25, 30, 35], 25) := by decide +kernel
theorem d_Hop_about_32 : decode b_Hop_about 32 = .ok (.aload_n 3, 1) := by decide +kernel
theorem d_Hop_about_33 : decode b_Hop_about 33 = .ok (.getfield 66, 3) := by decide +kernel
theorem d_Hop_about_36 : decode b_Hop_about 36 = .ok (.ireturn, 1) := by decide +kernel
theorem d_Hop_about_37 : decode b_Hop_about 37 = .ok (.aload_n 3, 1) := by decide +kernel
theorem d_Hop_about_38 : decode b_Hop_about 38 = .ok (.getfield 74, 3) := by decide +kernel
theorem d_Hop_about_41 : decode b_Hop_about 41 = .ok (.ireturn, 1) := by decide +kernel
theorem d_Hop_about_42 : decode b_Hop_about 42 = .ok (.aload_n 3, 1) := by decide +kernel
theorem d_Hop_about_43 : decode b_Hop_about 43 = .ok (.getfield 77, 3) := by decide +kernel
theorem d_Hop_about_46 : decode b_Hop_about 46 = .ok (.ireturn, 1) := by decide +kernel
theorem d_Hop_about_47 : decode b_Hop_about 47 = .ok (.new 80, 3) := by decide +kernel
theorem d_Hop_about_50 : decode b_Hop_about 50 = .ok (.dup, 1) := by decide +kernel
theorem d_Hop_about_51 : decode b_Hop_about 51 = .ok (.ldc 82, 2) := by decide +kernel
theorem d_Hop_about_53 : decode b_Hop_about 53 = .ok (.invokespecial 84, 3) := by decide +kernel
theorem d_Hop_about_56 : decode b_Hop_about 56 = .ok (.athrow, 1) := by decide +kernel
theorem d_Hop_home_0 : decode b_Hop_home 0 = .ok (.aload_n 0, 1) := by decide +kernel
theorem d_Hop_home_1 : decode b_Hop_home 1 = .ok (.iload_n 1, 1) := by decide +kernel
theorem d_Hop_home_2 : decode b_Hop_home 2 = .ok (.invokevirtual 36, 3) := by decide +kernel
theorem d_Hop_home_5 : decode b_Hop_home 5 = .ok (.iload_n 2, 1) := by decide +kernel
theorem d_Hop_home_6 : decode b_Hop_home 6 = .ok (.invokevirtual 85, 3) := by decide +kernel
theorem d_Hop_home_9 : decode b_Hop_home 9 = .ok (.ireturn, 1) := by decide +kernel
theorem d_Hop_distance_0 : decode b_Hop_distance 0 = .ok (.aload_n 0, 1) := by decide +kernel
theorem d_Hop_distance_1 : decode b_Hop_distance 1 = .ok (.iload_n 1, 1) := by decide +kernel
theorem d_Hop_distance_2 : decode b_Hop_distance 2 = .ok (.invokevirtual 36, 3) := by decide +kernel
theorem d_Hop_distance_5 : decode b_Hop_distance 5 = .ok (.astore_n 3, 1) := by decide +kernel
theorem d_Hop_distance_6 : decode b_Hop_distance 6 = .ok (.aload_n 0, 1) := by decide +kernel
theorem d_Hop_distance_7 : decode b_Hop_distance 7 = .ok (.aload_n 3, 1) := by decide +kernel
theorem d_Hop_distance_8 : decode b_Hop_distance 8 = .ok (.iload_n 2, 1) := by decide +kernel
theorem d_Hop_distance_9 : decode b_Hop_distance 9 = .ok (.invokevirtual 59, 3) := by decide +kernel
theorem d_Hop_distance_12 : decode b_Hop_distance 12 = .ok (.aload_n 3, 1) := by decide +kernel
theorem d_Hop_distance_13 : decode b_Hop_distance 13 = .ok (.getfield 74, 3) := by decide +kernel
theorem d_Hop_distance_16 : decode b_Hop_distance 16 = .ok (.isub, 1) := by decide +kernel
theorem d_Hop_distance_17 : decode b_Hop_distance 17 = .ok (.istore 4, 2) := by decide +kernel
theorem d_Hop_distance_19 : decode b_Hop_distance 19 = .ok (.aload_n 3, 1) := by decide +kernel
theorem d_Hop_distance_20 : decode b_Hop_distance 20 = .ok (.iload 4, 2) := by decide +kernel
theorem d_Hop_distance_22 : decode b_Hop_distance 22 = .ok (.aload_n 3, 1) := by decide +kernel
theorem d_Hop_distance_23 : decode b_Hop_distance 23 = .ok (.iload_n 2, 1) := by decide +kernel
theorem d_Hop_distance_24 : decode b_Hop_distance 24 = .ok (.invokevirtual 85, 3) := by decide +kernel
theorem d_Hop_distance_27 : decode b_Hop_distance 27 = .ok (.isub, 1) := by decide +kernel
theorem d_Hop_distance_28 : decode b_Hop_distance 28 = .ok (.invokevirtual 89, 3) := by decide +kernel
theorem d_Hop_distance_31 : decode b_Hop_distance 31 = .ok (.ireturn, 1) := by decide +kernel
theorem d_Hop_bits_0 : decode b_Hop_bits 0 = .ok (.aload_n 0, 1) := by decide +kernel
theorem d_Hop_bits_1 : decode b_Hop_bits 1 = .ok (.iload_n 1, 1) := by decide +kernel
theorem d_Hop_bits_2 : decode b_Hop_bits 2 = .ok (.invokevirtual 36, 3) := by decide +kernel
theorem d_Hop_bits_5 : decode b_Hop_bits 5 = .ok (.astore_n 3, 1) := by decide +kernel
theorem d_Hop_bits_6 : decode b_Hop_bits 6 = .ok (.aload_n 3, 1) := by decide +kernel
theorem d_Hop_bits_7 : decode b_Hop_bits 7 = .ok (.iload_n 2, 1) := by decide +kernel
theorem d_Hop_bits_8 : decode b_Hop_bits 8 = .ok (.invokestatic 92, 3) := by decide +kernel
theorem d_Hop_bits_11 : decode b_Hop_bits 11 = .ok (.iconst 0, 1) := by decide +kernel
theorem d_Hop_bits_12 : decode b_Hop_bits 12 = .ok (.istore 4, 2) := by decide +kernel
theorem d_Hop_bits_14 : decode b_Hop_bits 14 = .ok (.iconst 0, 1) := by decide +kernel
theorem d_Hop_bits_15 : decode b_Hop_bits 15 = .ok (.istore 5, 2) := by decide +kernel
theorem d_Hop_bits_17 : decode b_Hop_bits 17 = .ok (.iload 5, 2) := by decide +kernel
theorem d_Hop_bits_19 : decode b_Hop_bits 19 = .ok (.bipush 8, 2) := by decide +kernel
theorem d_Hop_bits_21 : decode b_Hop_bits 21 = .ok (.if_icmp .ge 29, 3) := by decide +kernel
theorem d_Hop_bits_24 : decode b_Hop_bits 24 = .ok (.aload_n 0, 1) := by decide +kernel
theorem d_Hop_bits_25 : decode b_Hop_bits 25 = .ok (.aload_n 3, 1) := by decide +kernel
theorem d_Hop_bits_26 : decode b_Hop_bits 26 = .ok (.iload_n 2, 1) := by decide +kernel
theorem d_Hop_bits_27 : decode b_Hop_bits 27 = .ok (.iload 5, 2) := by decide +kernel
theorem d_Hop_bits_29 : decode b_Hop_bits 29 = .ok (.invokevirtual 96, 3) := by decide +kernel
theorem d_Hop_bits_32 : decode b_Hop_bits 32 = .ok (.ifCond .eq 12, 3) := by decide +kernel
theorem d_Hop_bits_35 : decode b_Hop_bits 35 = .ok (.iload 4, 2) := by decide +kernel
theorem d_Hop_bits_37 : decode b_Hop_bits 37 = .ok (.iconst 1, 1) := by decide +kernel
theorem d_Hop_bits_38 : decode b_Hop_bits 38 = .ok (.iload 5, 2) := by decide +kernel
theorem d_Hop_bits_40 : decode b_Hop_bits 40 = .ok (.ishl, 1) := by decide +kernel
theorem d_Hop_bits_41 : decode b_Hop_bits 41 = .ok (.ior, 1) := by decide +kernel
theorem d_Hop_bits_42 : decode b_Hop_bits 42 = .ok (.istore 4, 2) := by decide +kernel
theorem d_Hop_bits_44 : decode b_Hop_bits 44 = .ok (.iinc 5 1, 3) := by decide +kernel
theorem d_Hop_bits_47 : decode b_Hop_bits 47 = .ok (.goto (-30), 3) := by decide +kernel
theorem d_Hop_bits_50 : decode b_Hop_bits 50 = .ok (.iload 4, 2) := by decide +kernel
theorem d_Hop_bits_52 : decode b_Hop_bits 52 = .ok (.ireturn, 1) := by decide +kernel
theorem d_Hop_next_0 : decode b_Hop_next 0 = .ok (.aload_n 0, 1) := by decide +kernel
theorem d_Hop_next_1 : decode b_Hop_next 1 = .ok (.iload_n 1, 1) := by decide +kernel
theorem d_Hop_next_2 : decode b_Hop_next 2 = .ok (.invokevirtual 36, 3) := by decide +kernel
theorem d_Hop_next_5 : decode b_Hop_next 5 = .ok (.astore_n 3, 1) := by decide +kernel
theorem d_Hop_next_6 : decode b_Hop_next 6 = .ok (.aload_n 3, 1) := by decide +kernel
theorem d_Hop_next_7 : decode b_Hop_next 7 = .ok (.iload_n 2, 1) := by decide +kernel
theorem d_Hop_next_8 : decode b_Hop_next 8 = .ok (.invokestatic 92, 3) := by decide +kernel
theorem d_Hop_next_11 : decode b_Hop_next 11 = .ok (.iload_n 2, 1) := by decide +kernel
theorem d_Hop_next_12 : decode b_Hop_next 12 = .ok (.istore 4, 2) := by decide +kernel
theorem d_Hop_next_14 : decode b_Hop_next 14 = .ok (.iload 4, 2) := by decide +kernel
theorem d_Hop_next_16 : decode b_Hop_next 16 = .ok (.aload_n 3, 1) := by decide +kernel
theorem d_Hop_next_17 : decode b_Hop_next 17 = .ok (.getfield 66, 3) := by decide +kernel
theorem d_Hop_next_20 : decode b_Hop_next 20 = .ok (.if_icmp .ge 26, 3) := by decide +kernel
theorem d_Hop_next_23 : decode b_Hop_next 23 = .ok (.aload_n 0, 1) := by decide +kernel
theorem d_Hop_next_24 : decode b_Hop_next 24 = .ok (.getfield 16, 3) := by decide +kernel
theorem d_Hop_next_27 : decode b_Hop_next 27 = .ok (.aload_n 3, 1) := by decide +kernel
theorem d_Hop_next_28 : decode b_Hop_next 28 = .ok (.iload 4, 2) := by decide +kernel
theorem d_Hop_next_30 : decode b_Hop_next 30 = .ok (.invokevirtual 99, 3) := by decide +kernel
theorem d_Hop_next_33 : decode b_Hop_next 33 = .ok (.baload, 1) := by decide +kernel
theorem d_Hop_next_34 : decode b_Hop_next 34 = .ok (.ifCond .eq 6, 3) := by decide +kernel
theorem d_Hop_next_37 : decode b_Hop_next 37 = .ok (.iload 4, 2) := by decide +kernel
theorem d_Hop_next_39 : decode b_Hop_next 39 = .ok (.ireturn, 1) := by decide +kernel
theorem d_Hop_next_40 : decode b_Hop_next 40 = .ok (.iinc 4 1, 3) := by decide +kernel
theorem d_Hop_next_43 : decode b_Hop_next 43 = .ok (.goto (-29), 3) := by decide +kernel
theorem d_Hop_next_46 : decode b_Hop_next 46 = .ok (.iconst (-1), 1) := by decide +kernel
theorem d_Hop_next_47 : decode b_Hop_next 47 = .ok (.ireturn, 1) := by decide +kernel
theorem d_Hop_key_0 : decode b_Hop_key 0 = .ok (.aload_n 0, 1) := by decide +kernel
theorem d_Hop_key_1 : decode b_Hop_key 1 = .ok (.iload_n 1, 1) := by decide +kernel
theorem d_Hop_key_2 : decode b_Hop_key 2 = .ok (.invokevirtual 36, 3) := by decide +kernel
theorem d_Hop_key_5 : decode b_Hop_key 5 = .ok (.astore_n 3, 1) := by decide +kernel
theorem d_Hop_key_6 : decode b_Hop_key 6 = .ok (.aload_n 3, 1) := by decide +kernel
theorem d_Hop_key_7 : decode b_Hop_key 7 = .ok (.iload_n 2, 1) := by decide +kernel
theorem d_Hop_key_8 : decode b_Hop_key 8 = .ok (.invokestatic 92, 3) := by decide +kernel
theorem d_Hop_key_11 : decode b_Hop_key 11 = .ok (.aload_n 3, 1) := by decide +kernel
theorem d_Hop_key_12 : decode b_Hop_key 12 = .ok (.iload_n 2, 1) := by decide +kernel
theorem d_Hop_key_13 : decode b_Hop_key 13 = .ok (.invokevirtual 99, 3) := by decide +kernel
theorem d_Hop_key_16 : decode b_Hop_key 16 = .ok (.istore 4, 2) := by decide +kernel
theorem d_Hop_key_18 : decode b_Hop_key 18 = .ok (.aload_n 0, 1) := by decide +kernel
theorem d_Hop_key_19 : decode b_Hop_key 19 = .ok (.getfield 16, 3) := by decide +kernel
theorem d_Hop_key_22 : decode b_Hop_key 22 = .ok (.iload 4, 2) := by decide +kernel
theorem d_Hop_key_24 : decode b_Hop_key 24 = .ok (.baload, 1) := by decide +kernel
theorem d_Hop_key_25 : decode b_Hop_key 25 = .ok (.ifCond .ne 13, 3) := by decide +kernel
theorem d_Hop_key_28 : decode b_Hop_key 28 = .ok (.new 102, 3) := by decide +kernel
theorem d_Hop_key_31 : decode b_Hop_key 31 = .ok (.dup, 1) := by decide +kernel
theorem d_Hop_key_32 : decode b_Hop_key 32 = .ok (.ldc 104, 2) := by decide +kernel
theorem d_Hop_key_34 : decode b_Hop_key 34 = .ok (.invokespecial 106, 3) := by decide +kernel
theorem d_Hop_key_37 : decode b_Hop_key 37 = .ok (.athrow, 1) := by decide +kernel
theorem d_Hop_key_38 : decode b_Hop_key 38 = .ok (.aload_n 0, 1) := by decide +kernel
theorem d_Hop_key_39 : decode b_Hop_key 39 = .ok (.getfield 9, 3) := by decide +kernel
theorem d_Hop_key_42 : decode b_Hop_key 42 = .ok (.iload 4, 2) := by decide +kernel
theorem d_Hop_key_44 : decode b_Hop_key 44 = .ok (.iaload, 1) := by decide +kernel
theorem d_Hop_key_45 : decode b_Hop_key 45 = .ok (.ireturn, 1) := by decide +kernel
theorem d_Hop_count_0 : decode b_Hop_count 0 = .ok (.iload_n 1, 1) := by decide +kernel
theorem d_Hop_count_1 : decode b_Hop_count 1 = .ok (.ifCond .lt 8, 3) := by decide +kernel
theorem d_Hop_count_4 : decode b_Hop_count 4 = .ok (.iload_n 1, 1) := by decide +kernel
theorem d_Hop_count_5 : decode b_Hop_count 5 = .ok (.iconst 3, 1) := by decide +kernel
theorem d_Hop_count_6 : decode b_Hop_count 6 = .ok (.if_icmp .lt 13, 3) := by decide +kernel
theorem d_Hop_count_9 : decode b_Hop_count 9 = .ok (.new 80, 3) := by decide +kernel
theorem d_Hop_count_12 : decode b_Hop_count 12 = .ok (.dup, 1) := by decide +kernel
theorem d_Hop_count_13 : decode b_Hop_count 13 = .ok (.ldc 107, 2) := by decide +kernel
theorem d_Hop_count_15 : decode b_Hop_count 15 = .ok (.invokespecial 84, 3) := by decide +kernel
theorem d_Hop_count_18 : decode b_Hop_count 18 = .ok (.athrow, 1) := by decide +kernel
theorem d_Hop_count_19 : decode b_Hop_count 19 = .ok (.aload_n 0, 1) := by decide +kernel
theorem d_Hop_count_20 : decode b_Hop_count 20 = .ok (.getfield 20, 3) := by decide +kernel
theorem d_Hop_count_23 : decode b_Hop_count 23 = .ok (.iload_n 1, 1) := by decide +kernel
theorem d_Hop_count_24 : decode b_Hop_count 24 = .ok (.iaload, 1) := by decide +kernel
theorem d_Hop_count_25 : decode b_Hop_count 25 = .ok (.ireturn, 1) := by decide +kernel
theorem d_Hop_partOf_0 : decode b_Hop_partOf 0 = .ok (.iload_n 1, 1) := by decide +kernel
theorem d_Hop_partOf_1 : decode b_Hop_partOf 1 = .ok (.ifCond .lt 8, 3) := by decide +kernel
theorem d_Hop_partOf_4 : decode b_Hop_partOf 4 = .ok (.iload_n 1, 1) := by decide +kernel
theorem d_Hop_partOf_5 : decode b_Hop_partOf 5 = .ok (.iconst 3, 1) := by decide +kernel
theorem d_Hop_partOf_6 : decode b_Hop_partOf 6 = .ok (.if_icmp .lt 13, 3) := by decide +kernel
theorem d_Hop_partOf_9 : decode b_Hop_partOf 9 = .ok (.new 109, 3) := by decide +kernel
theorem d_Hop_partOf_12 : decode b_Hop_partOf 12 = .ok (.dup, 1) := by decide +kernel
theorem d_Hop_partOf_13 : decode b_Hop_partOf 13 = .ok (.ldc 111, 2) := by decide +kernel
theorem d_Hop_partOf_15 : decode b_Hop_partOf 15 = .ok (.invokespecial 113, 3) := by decide +kernel
theorem d_Hop_partOf_18 : decode b_Hop_partOf 18 = .ok (.athrow, 1) := by decide +kernel
theorem d_Hop_partOf_19 : decode b_Hop_partOf 19 = .ok (.aload_n 0, 1) := by decide +kernel
theorem d_Hop_partOf_20 : decode b_Hop_partOf 20 = .ok (.getfield 25, 3) := by decide +kernel
theorem d_Hop_partOf_23 : decode b_Hop_partOf 23 = .ok (.iload_n 1, 1) := by decide +kernel
theorem d_Hop_partOf_24 : decode b_Hop_partOf 24 = .ok (.aaload, 1) := by decide +kernel
theorem d_Hop_partOf_25 : decode b_Hop_partOf 25 = .ok (.areturn, 1) := by decide +kernel
theorem d_Hop_requirePlace_0 : decode b_Hop_requirePlace 0 = .ok (.aload_n 0, 1) := by decide +kernel
theorem d_Hop_requirePlace_1 : decode b_Hop_requirePlace 1 = .ok (.iload_n 1, 1) := by decide +kernel
theorem d_Hop_requirePlace_2 : decode b_Hop_requirePlace 2 = .ok (.invokevirtual 114, 3) := by decide +kernel
theorem d_Hop_requirePlace_5 : decode b_Hop_requirePlace 5 = .ok (.ifCond .ne 13, 3) := by decide +kernel
theorem d_Hop_requirePlace_8 : decode b_Hop_requirePlace 8 = .ok (.new 80, 3) := by decide +kernel
theorem d_Hop_requirePlace_11 : decode b_Hop_requirePlace 11 = .ok (.dup, 1) := by decide +kernel
theorem d_Hop_requirePlace_12 : decode b_Hop_requirePlace 12 = .ok (.ldc 118, 2) := by decide +kernel
theorem d_Hop_requirePlace_14 : decode b_Hop_requirePlace 14 = .ok (.invokespecial 84, 3) := by decide +kernel
theorem d_Hop_requirePlace_17 : decode b_Hop_requirePlace 17 = .ok (.athrow, 1) := by decide +kernel
theorem d_Hop_requirePlace_18 : decode b_Hop_requirePlace 18 = .ok (.return_, 1) := by decide +kernel
theorem d_Hop_slotHolding_0 : decode b_Hop_slotHolding 0 = .ok (.aload_n 0, 1) := by decide +kernel
theorem d_Hop_slotHolding_1 : decode b_Hop_slotHolding 1 = .ok (.aload_n 1, 1) := by decide +kernel
theorem d_Hop_slotHolding_2 : decode b_Hop_slotHolding 2 = .ok (.iload_n 2, 1) := by decide +kernel
theorem d_Hop_slotHolding_3 : decode b_Hop_slotHolding 3 = .ok (.invokevirtual 40, 3) := by decide +kernel
theorem d_Hop_slotHolding_6 : decode b_Hop_slotHolding 6 = .ok (.istore_n 3, 1) := by decide +kernel
theorem d_Hop_slotHolding_7 : decode b_Hop_slotHolding 7 = .ok (.iload_n 3, 1) := by decide +kernel
theorem d_Hop_slotHolding_8 : decode b_Hop_slotHolding 8 = .ok (.iconst (-1), 1) := by decide +kernel
theorem d_Hop_slotHolding_9 : decode b_Hop_slotHolding 9 = .ok (.if_icmp .ne 13, 3) := by decide +kernel
theorem d_Hop_slotHolding_12 : decode b_Hop_slotHolding 12 = .ok (.new 102, 3) := by decide +kernel
theorem d_Hop_slotHolding_15 : decode b_Hop_slotHolding 15 = .ok (.dup, 1) := by decide +kernel
theorem d_Hop_slotHolding_16 : decode b_Hop_slotHolding 16 = .ok (.ldc 120, 2) := by decide +kernel
theorem d_Hop_slotHolding_18 : decode b_Hop_slotHolding 18 = .ok (.invokespecial 106, 3) := by decide +kernel
theorem d_Hop_slotHolding_21 : decode b_Hop_slotHolding 21 = .ok (.athrow, 1) := by decide +kernel
theorem d_Hop_slotHolding_22 : decode b_Hop_slotHolding 22 = .ok (.iload_n 3, 1) := by decide +kernel
theorem d_Hop_slotHolding_23 : decode b_Hop_slotHolding 23 = .ok (.ireturn, 1) := by decide +kernel
theorem d_Hop_slotOrNone_0 : decode b_Hop_slotOrNone 0 = .ok (.aload_n 1, 1) := by decide +kernel
theorem d_Hop_slotOrNone_1 : decode b_Hop_slotOrNone 1 = .ok (.iload_n 2, 1) := by decide +kernel
theorem d_Hop_slotOrNone_2 : decode b_Hop_slotOrNone 2 = .ok (.invokevirtual 85, 3) := by decide +kernel
theorem d_Hop_slotOrNone_5 : decode b_Hop_slotOrNone 5 = .ok (.istore_n 3, 1) := by decide +kernel
theorem d_Hop_slotOrNone_6 : decode b_Hop_slotOrNone 6 = .ok (.iconst 0, 1) := by decide +kernel
theorem d_Hop_slotOrNone_7 : decode b_Hop_slotOrNone 7 = .ok (.istore 4, 2) := by decide +kernel
theorem d_Hop_slotOrNone_9 : decode b_Hop_slotOrNone 9 = .ok (.iload 4, 2) := by decide +kernel
theorem d_Hop_slotOrNone_11 : decode b_Hop_slotOrNone 11 = .ok (.bipush 8, 2) := by decide +kernel
theorem d_Hop_slotOrNone_13 : decode b_Hop_slotOrNone 13 = .ok (.if_icmp .ge 43, 3) := by decide +kernel
theorem d_Hop_slotOrNone_16 : decode b_Hop_slotOrNone 16 = .ok (.aload_n 1, 1) := by decide +kernel
theorem d_Hop_slotOrNone_17 : decode b_Hop_slotOrNone 17 = .ok (.iload_n 3, 1) := by decide +kernel
theorem d_Hop_slotOrNone_18 : decode b_Hop_slotOrNone 18 = .ok (.iload 4, 2) := by decide +kernel
theorem d_Hop_slotOrNone_20 : decode b_Hop_slotOrNone 20 = .ok (.iadd, 1) := by decide +kernel
theorem d_Hop_slotOrNone_21 : decode b_Hop_slotOrNone 21 = .ok (.invokevirtual 99, 3) := by decide +kernel
theorem d_Hop_slotOrNone_24 : decode b_Hop_slotOrNone 24 = .ok (.istore 5, 2) := by decide +kernel
theorem d_Hop_slotOrNone_26 : decode b_Hop_slotOrNone 26 = .ok (.aload_n 0, 1) := by decide +kernel
theorem d_Hop_slotOrNone_27 : decode b_Hop_slotOrNone 27 = .ok (.getfield 16, 3) := by decide +kernel
theorem d_Hop_slotOrNone_30 : decode b_Hop_slotOrNone 30 = .ok (.iload 5, 2) := by decide +kernel
theorem d_Hop_slotOrNone_32 : decode b_Hop_slotOrNone 32 = .ok (.baload, 1) := by decide +kernel
theorem d_Hop_slotOrNone_33 : decode b_Hop_slotOrNone 33 = .ok (.ifCond .eq 17, 3) := by decide +kernel
theorem d_Hop_slotOrNone_36 : decode b_Hop_slotOrNone 36 = .ok (.aload_n 0, 1) := by decide +kernel
theorem d_Hop_slotOrNone_37 : decode b_Hop_slotOrNone 37 = .ok (.getfield 9, 3) := by decide +kernel
theorem d_Hop_slotOrNone_40 : decode b_Hop_slotOrNone 40 = .ok (.iload 5, 2) := by decide +kernel
theorem d_Hop_slotOrNone_42 : decode b_Hop_slotOrNone 42 = .ok (.iaload, 1) := by decide +kernel
theorem d_Hop_slotOrNone_43 : decode b_Hop_slotOrNone 43 = .ok (.iload_n 2, 1) := by decide +kernel
theorem d_Hop_slotOrNone_44 : decode b_Hop_slotOrNone 44 = .ok (.if_icmp .ne 6, 3) := by decide +kernel
theorem d_Hop_slotOrNone_47 : decode b_Hop_slotOrNone 47 = .ok (.iload 5, 2) := by decide +kernel
theorem d_Hop_slotOrNone_49 : decode b_Hop_slotOrNone 49 = .ok (.ireturn, 1) := by decide +kernel
theorem d_Hop_slotOrNone_50 : decode b_Hop_slotOrNone 50 = .ok (.iinc 4 1, 3) := by decide +kernel
theorem d_Hop_slotOrNone_53 : decode b_Hop_slotOrNone 53 = .ok (.goto (-44), 3) := by decide +kernel
theorem d_Hop_slotOrNone_56 : decode b_Hop_slotOrNone 56 = .ok (.iconst (-1), 1) := by decide +kernel
theorem d_Hop_slotOrNone_57 : decode b_Hop_slotOrNone 57 = .ok (.ireturn, 1) := by decide +kernel
theorem d_Hop_keysIn_0 : decode b_Hop_keysIn 0 = .ok (.iconst 0, 1) := by decide +kernel
theorem d_Hop_keysIn_1 : decode b_Hop_keysIn 1 = .ok (.istore_n 2, 1) := by decide +kernel
theorem d_Hop_keysIn_2 : decode b_Hop_keysIn 2 = .ok (.aload_n 1, 1) := by decide +kernel
theorem d_Hop_keysIn_3 : decode b_Hop_keysIn 3 = .ok (.getfield 74, 3) := by decide +kernel
theorem d_Hop_keysIn_6 : decode b_Hop_keysIn 6 = .ok (.istore_n 3, 1) := by decide +kernel
theorem d_Hop_keysIn_7 : decode b_Hop_keysIn 7 = .ok (.iload_n 3, 1) := by decide +kernel
theorem d_Hop_keysIn_8 : decode b_Hop_keysIn 8 = .ok (.aload_n 1, 1) := by decide +kernel
theorem d_Hop_keysIn_9 : decode b_Hop_keysIn 9 = .ok (.invokevirtual 122, 3) := by decide +kernel
theorem d_Hop_keysIn_12 : decode b_Hop_keysIn 12 = .ok (.if_icmp .ge 21, 3) := by decide +kernel
theorem d_Hop_keysIn_15 : decode b_Hop_keysIn 15 = .ok (.aload_n 0, 1) := by decide +kernel
theorem d_Hop_keysIn_16 : decode b_Hop_keysIn 16 = .ok (.getfield 16, 3) := by decide +kernel
theorem d_Hop_keysIn_19 : decode b_Hop_keysIn 19 = .ok (.iload_n 3, 1) := by decide +kernel
theorem d_Hop_keysIn_20 : decode b_Hop_keysIn 20 = .ok (.baload, 1) := by decide +kernel
theorem d_Hop_keysIn_21 : decode b_Hop_keysIn 21 = .ok (.ifCond .eq 6, 3) := by decide +kernel
theorem d_Hop_keysIn_24 : decode b_Hop_keysIn 24 = .ok (.iinc 2 1, 3) := by decide +kernel
theorem d_Hop_keysIn_27 : decode b_Hop_keysIn 27 = .ok (.iinc 3 1, 3) := by decide +kernel
theorem d_Hop_keysIn_30 : decode b_Hop_keysIn 30 = .ok (.goto (-23), 3) := by decide +kernel
theorem d_Hop_keysIn_33 : decode b_Hop_keysIn 33 = .ok (.iload_n 2, 1) := by decide +kernel
theorem d_Hop_keysIn_34 : decode b_Hop_keysIn 34 = .ok (.ireturn, 1) := by decide +kernel
theorem d_Hop_freeAll_0 : decode b_Hop_freeAll 0 = .ok (.aload_n 1, 1) := by decide +kernel
theorem d_Hop_freeAll_1 : decode b_Hop_freeAll 1 = .ok (.getfield 74, 3) := by decide +kernel
theorem d_Hop_freeAll_4 : decode b_Hop_freeAll 4 = .ok (.istore_n 2, 1) := by decide +kernel
theorem d_Hop_freeAll_5 : decode b_Hop_freeAll 5 = .ok (.iload_n 2, 1) := by decide +kernel
theorem d_Hop_freeAll_6 : decode b_Hop_freeAll 6 = .ok (.aload_n 1, 1) := by decide +kernel
theorem d_Hop_freeAll_7 : decode b_Hop_freeAll 7 = .ok (.invokevirtual 122, 3) := by decide +kernel
theorem d_Hop_freeAll_10 : decode b_Hop_freeAll 10 = .ok (.if_icmp .ge 16, 3) := by decide +kernel
theorem d_Hop_freeAll_13 : decode b_Hop_freeAll 13 = .ok (.aload_n 0, 1) := by decide +kernel
theorem d_Hop_freeAll_14 : decode b_Hop_freeAll 14 = .ok (.getfield 16, 3) := by decide +kernel
theorem d_Hop_freeAll_17 : decode b_Hop_freeAll 17 = .ok (.iload_n 2, 1) := by decide +kernel
theorem d_Hop_freeAll_18 : decode b_Hop_freeAll 18 = .ok (.iconst 0, 1) := by decide +kernel
theorem d_Hop_freeAll_19 : decode b_Hop_freeAll 19 = .ok (.bastore, 1) := by decide +kernel
theorem d_Hop_freeAll_20 : decode b_Hop_freeAll 20 = .ok (.iinc 2 1, 3) := by decide +kernel
theorem d_Hop_freeAll_23 : decode b_Hop_freeAll 23 = .ok (.goto (-18), 3) := by decide +kernel
theorem d_Hop_freeAll_26 : decode b_Hop_freeAll 26 = .ok (.return_, 1) := by decide +kernel
theorem d_Hop_isBitSet_0 : decode b_Hop_isBitSet 0 = .ok (.aload_n 1, 1) := by decide +kernel
theorem d_Hop_isBitSet_1 : decode b_Hop_isBitSet 1 = .ok (.iload_n 2, 1) := by decide +kernel
theorem d_Hop_isBitSet_2 : decode b_Hop_isBitSet 2 = .ok (.iload_n 3, 1) := by decide +kernel
theorem d_Hop_isBitSet_3 : decode b_Hop_isBitSet 3 = .ok (.iadd, 1) := by decide +kernel
theorem d_Hop_isBitSet_4 : decode b_Hop_isBitSet 4 = .ok (.invokevirtual 99, 3) := by decide +kernel
theorem d_Hop_isBitSet_7 : decode b_Hop_isBitSet 7 = .ok (.istore 4, 2) := by decide +kernel
theorem d_Hop_isBitSet_9 : decode b_Hop_isBitSet 9 = .ok (.aload_n 0, 1) := by decide +kernel
theorem d_Hop_isBitSet_10 : decode b_Hop_isBitSet 10 = .ok (.getfield 16, 3) := by decide +kernel
theorem d_Hop_isBitSet_13 : decode b_Hop_isBitSet 13 = .ok (.iload 4, 2) := by decide +kernel
theorem d_Hop_isBitSet_15 : decode b_Hop_isBitSet 15 = .ok (.baload, 1) := by decide +kernel
theorem d_Hop_isBitSet_16 : decode b_Hop_isBitSet 16 = .ok (.ifCond .eq 22, 3) := by decide +kernel
theorem d_Hop_isBitSet_19 : decode b_Hop_isBitSet 19 = .ok (.aload_n 1, 1) := by decide +kernel
theorem d_Hop_isBitSet_20 : decode b_Hop_isBitSet 20 = .ok (.aload_n 0, 1) := by decide +kernel
theorem d_Hop_isBitSet_21 : decode b_Hop_isBitSet 21 = .ok (.getfield 9, 3) := by decide +kernel
theorem d_Hop_isBitSet_24 : decode b_Hop_isBitSet 24 = .ok (.iload 4, 2) := by decide +kernel
theorem d_Hop_isBitSet_26 : decode b_Hop_isBitSet 26 = .ok (.iaload, 1) := by decide +kernel
theorem d_Hop_isBitSet_27 : decode b_Hop_isBitSet 27 = .ok (.invokevirtual 85, 3) := by decide +kernel
theorem d_Hop_isBitSet_30 : decode b_Hop_isBitSet 30 = .ok (.iload_n 2, 1) := by decide +kernel
theorem d_Hop_isBitSet_31 : decode b_Hop_isBitSet 31 = .ok (.if_icmp .ne 7, 3) := by decide +kernel
theorem d_Hop_isBitSet_34 : decode b_Hop_isBitSet 34 = .ok (.iconst 1, 1) := by decide +kernel
theorem d_Hop_isBitSet_35 : decode b_Hop_isBitSet 35 = .ok (.goto 4, 3) := by decide +kernel
theorem d_Hop_isBitSet_38 : decode b_Hop_isBitSet 38 = .ok (.iconst 0, 1) := by decide +kernel
theorem d_Hop_isBitSet_39 : decode b_Hop_isBitSet 39 = .ok (.ireturn, 1) := by decide +kernel
theorem d_Hop_insert_0 : decode b_Hop_insert 0 = .ok (.aload_n 1, 1) := by decide +kernel
theorem d_Hop_insert_1 : decode b_Hop_insert 1 = .ok (.iload_n 2, 1) := by decide +kernel
theorem d_Hop_insert_2 : decode b_Hop_insert 2 = .ok (.invokevirtual 85, 3) := by decide +kernel
theorem d_Hop_insert_5 : decode b_Hop_insert 5 = .ok (.istore 4, 2) := by decide +kernel
theorem d_Hop_insert_7 : decode b_Hop_insert 7 = .ok (.aload_n 0, 1) := by decide +kernel
theorem d_Hop_insert_8 : decode b_Hop_insert 8 = .ok (.aload_n 1, 1) := by decide +kernel
theorem d_Hop_insert_9 : decode b_Hop_insert 9 = .ok (.iload 4, 2) := by decide +kernel
theorem d_Hop_insert_11 : decode b_Hop_insert 11 = .ok (.invokevirtual 126, 3) := by decide +kernel
theorem d_Hop_insert_14 : decode b_Hop_insert 14 = .ok (.istore 5, 2) := by decide +kernel
theorem d_Hop_insert_16 : decode b_Hop_insert 16 = .ok (.iload 5, 2) := by decide +kernel
theorem d_Hop_insert_18 : decode b_Hop_insert 18 = .ok (.iconst (-1), 1) := by decide +kernel
theorem d_Hop_insert_19 : decode b_Hop_insert 19 = .ok (.if_icmp .ne 5, 3) := by decide +kernel
theorem d_Hop_insert_22 : decode b_Hop_insert 22 = .ok (.iconst 0, 1) := by decide +kernel
theorem d_Hop_insert_23 : decode b_Hop_insert 23 = .ok (.ireturn, 1) := by decide +kernel
theorem d_Hop_insert_24 : decode b_Hop_insert 24 = .ok (.iconst 0, 1) := by decide +kernel
theorem d_Hop_insert_25 : decode b_Hop_insert 25 = .ok (.istore 6, 2) := by decide +kernel
theorem d_Hop_insert_27 : decode b_Hop_insert 27 = .ok (.iload 6, 2) := by decide +kernel
theorem d_Hop_insert_29 : decode b_Hop_insert 29 = .ok (.aload_n 1, 1) := by decide +kernel
theorem d_Hop_insert_30 : decode b_Hop_insert 30 = .ok (.getfield 66, 3) := by decide +kernel
theorem d_Hop_insert_33 : decode b_Hop_insert 33 = .ok (.if_icmp .ge 42, 3) := by decide +kernel
theorem d_Hop_insert_36 : decode b_Hop_insert 36 = .ok (.iload 5, 2) := by decide +kernel
theorem d_Hop_insert_38 : decode b_Hop_insert 38 = .ok (.bipush 8, 2) := by decide +kernel
theorem d_Hop_insert_40 : decode b_Hop_insert 40 = .ok (.if_icmp .lt 35, 3) := by decide +kernel
theorem d_Hop_insert_43 : decode b_Hop_insert 43 = .ok (.aload_n 0, 1) := by decide +kernel
theorem d_Hop_insert_44 : decode b_Hop_insert 44 = .ok (.aload_n 1, 1) := by decide +kernel
theorem d_Hop_insert_45 : decode b_Hop_insert 45 = .ok (.iload 4, 2) := by decide +kernel
theorem d_Hop_insert_47 : decode b_Hop_insert 47 = .ok (.iload 5, 2) := by decide +kernel
theorem d_Hop_insert_49 : decode b_Hop_insert 49 = .ok (.iadd, 1) := by decide +kernel
theorem d_Hop_insert_50 : decode b_Hop_insert 50 = .ok (.invokevirtual 129, 3) := by decide +kernel
theorem d_Hop_insert_53 : decode b_Hop_insert 53 = .ok (.istore 7, 2) := by decide +kernel
theorem d_Hop_insert_55 : decode b_Hop_insert 55 = .ok (.iload 7, 2) := by decide +kernel
theorem d_Hop_insert_57 : decode b_Hop_insert 57 = .ok (.ifCond .ne 5, 3) := by decide +kernel
theorem d_Hop_insert_60 : decode b_Hop_insert 60 = .ok (.iconst 0, 1) := by decide +kernel
theorem d_Hop_insert_61 : decode b_Hop_insert 61 = .ok (.ireturn, 1) := by decide +kernel
theorem d_Hop_insert_62 : decode b_Hop_insert 62 = .ok (.iload 5, 2) := by decide +kernel
theorem d_Hop_insert_64 : decode b_Hop_insert 64 = .ok (.iload 7, 2) := by decide +kernel
theorem d_Hop_insert_66 : decode b_Hop_insert 66 = .ok (.isub, 1) := by decide +kernel
theorem d_Hop_insert_67 : decode b_Hop_insert 67 = .ok (.istore 5, 2) := by decide +kernel
theorem d_Hop_insert_69 : decode b_Hop_insert 69 = .ok (.iinc 6 1, 3) := by decide +kernel
theorem d_Hop_insert_72 : decode b_Hop_insert 72 = .ok (.goto (-45), 3) := by decide +kernel
theorem d_Hop_insert_75 : decode b_Hop_insert 75 = .ok (.aload_n 1, 1) := by decide +kernel
theorem d_Hop_insert_76 : decode b_Hop_insert 76 = .ok (.iload 4, 2) := by decide +kernel
theorem d_Hop_insert_78 : decode b_Hop_insert 78 = .ok (.iload 5, 2) := by decide +kernel
theorem d_Hop_insert_80 : decode b_Hop_insert 80 = .ok (.iadd, 1) := by decide +kernel
theorem d_Hop_insert_81 : decode b_Hop_insert 81 = .ok (.invokevirtual 99, 3) := by decide +kernel
theorem d_Hop_insert_84 : decode b_Hop_insert 84 = .ok (.istore 6, 2) := by decide +kernel
theorem d_Hop_insert_86 : decode b_Hop_insert 86 = .ok (.aload_n 0, 1) := by decide +kernel
theorem d_Hop_insert_87 : decode b_Hop_insert 87 = .ok (.getfield 9, 3) := by decide +kernel
theorem d_Hop_insert_90 : decode b_Hop_insert 90 = .ok (.iload 6, 2) := by decide +kernel
theorem d_Hop_insert_92 : decode b_Hop_insert 92 = .ok (.iload_n 2, 1) := by decide +kernel
theorem d_Hop_insert_93 : decode b_Hop_insert 93 = .ok (.iastore, 1) := by decide +kernel
theorem d_Hop_insert_94 : decode b_Hop_insert 94 = .ok (.aload_n 0, 1) := by decide +kernel
theorem d_Hop_insert_95 : decode b_Hop_insert 95 = .ok (.getfield 13, 3) := by decide +kernel
theorem d_Hop_insert_98 : decode b_Hop_insert 98 = .ok (.iload 6, 2) := by decide +kernel
theorem d_Hop_insert_100 : decode b_Hop_insert 100 = .ok (.iload_n 3, 1) := by decide +kernel
theorem d_Hop_insert_101 : decode b_Hop_insert 101 = .ok (.iastore, 1) := by decide +kernel
theorem d_Hop_insert_102 : decode b_Hop_insert 102 = .ok (.aload_n 0, 1) := by decide +kernel
theorem d_Hop_insert_103 : decode b_Hop_insert 103 = .ok (.getfield 16, 3) := by decide +kernel
theorem d_Hop_insert_106 : decode b_Hop_insert 106 = .ok (.iload 6, 2) := by decide +kernel
theorem d_Hop_insert_108 : decode b_Hop_insert 108 = .ok (.iconst 1, 1) := by decide +kernel
theorem d_Hop_insert_109 : decode b_Hop_insert 109 = .ok (.bastore, 1) := by decide +kernel
theorem d_Hop_insert_110 : decode b_Hop_insert 110 = .ok (.iconst 1, 1) := by decide +kernel
theorem d_Hop_insert_111 : decode b_Hop_insert 111 = .ok (.ireturn, 1) := by decide +kernel
theorem d_Hop_stepsToFree_0 : decode b_Hop_stepsToFree 0 = .ok (.iconst 0, 1) := by decide +kernel
theorem d_Hop_stepsToFree_1 : decode b_Hop_stepsToFree 1 = .ok (.istore_n 3, 1) := by decide +kernel
theorem d_Hop_stepsToFree_2 : decode b_Hop_stepsToFree 2 = .ok (.iload_n 3, 1) := by decide +kernel
theorem d_Hop_stepsToFree_3 : decode b_Hop_stepsToFree 3 = .ok (.aload_n 1, 1) := by decide +kernel
theorem d_Hop_stepsToFree_4 : decode b_Hop_stepsToFree 4 = .ok (.getfield 66, 3) := by decide +kernel
theorem d_Hop_stepsToFree_7 : decode b_Hop_stepsToFree 7 = .ok (.if_icmp .ge 26, 3) := by decide +kernel
theorem d_Hop_stepsToFree_10 : decode b_Hop_stepsToFree 10 = .ok (.aload_n 0, 1) := by decide +kernel
theorem d_Hop_stepsToFree_11 : decode b_Hop_stepsToFree 11 = .ok (.getfield 16, 3) := by decide +kernel
theorem d_Hop_stepsToFree_14 : decode b_Hop_stepsToFree 14 = .ok (.aload_n 1, 1) := by decide +kernel
theorem d_Hop_stepsToFree_15 : decode b_Hop_stepsToFree 15 = .ok (.iload_n 2, 1) := by decide +kernel
theorem d_Hop_stepsToFree_16 : decode b_Hop_stepsToFree 16 = .ok (.iload_n 3, 1) := by decide +kernel
theorem d_Hop_stepsToFree_17 : decode b_Hop_stepsToFree 17 = .ok (.iadd, 1) := by decide +kernel
theorem d_Hop_stepsToFree_18 : decode b_Hop_stepsToFree 18 = .ok (.invokevirtual 99, 3) := by decide +kernel
theorem d_Hop_stepsToFree_21 : decode b_Hop_stepsToFree 21 = .ok (.baload, 1) := by decide +kernel
theorem d_Hop_stepsToFree_22 : decode b_Hop_stepsToFree 22 = .ok (.ifCond .ne 5, 3) := by decide +kernel
theorem d_Hop_stepsToFree_25 : decode b_Hop_stepsToFree 25 = .ok (.iload_n 3, 1) := by decide +kernel
theorem d_Hop_stepsToFree_26 : decode b_Hop_stepsToFree 26 = .ok (.ireturn, 1) := by decide +kernel
theorem d_Hop_stepsToFree_27 : decode b_Hop_stepsToFree 27 = .ok (.iinc 3 1, 3) := by decide +kernel
theorem d_Hop_stepsToFree_30 : decode b_Hop_stepsToFree 30 = .ok (.goto (-28), 3) := by decide +kernel
theorem d_Hop_stepsToFree_33 : decode b_Hop_stepsToFree 33 = .ok (.iconst (-1), 1) := by decide +kernel
theorem d_Hop_stepsToFree_34 : decode b_Hop_stepsToFree 34 = .ok (.ireturn, 1) := by decide +kernel
theorem d_Hop_hopNearer_0 : decode b_Hop_hopNearer 0 = .ok (.bipush 7, 2) := by decide +kernel
theorem d_Hop_hopNearer_2 : decode b_Hop_hopNearer 2 = .ok (.istore_n 3, 1) := by decide +kernel
theorem d_Hop_hopNearer_3 : decode b_Hop_hopNearer 3 = .ok (.iload_n 3, 1) := by decide +kernel
theorem d_Hop_hopNearer_4 : decode b_Hop_hopNearer 4 = .ok (.iconst 1, 1) := by decide +kernel
theorem d_Hop_hopNearer_5 : decode b_Hop_hopNearer 5 = .ok (.if_icmp .lt 90, 3) := by decide +kernel
theorem d_Hop_hopNearer_8 : decode b_Hop_hopNearer 8 = .ok (.aload_n 1, 1) := by decide +kernel
theorem d_Hop_hopNearer_9 : decode b_Hop_hopNearer 9 = .ok (.iload_n 2, 1) := by decide +kernel
theorem d_Hop_hopNearer_10 : decode b_Hop_hopNearer 10 = .ok (.iload_n 3, 1) := by decide +kernel
theorem d_Hop_hopNearer_11 : decode b_Hop_hopNearer 11 = .ok (.isub, 1) := by decide +kernel
theorem d_Hop_hopNearer_12 : decode b_Hop_hopNearer 12 = .ok (.invokevirtual 89, 3) := by decide +kernel
theorem d_Hop_hopNearer_15 : decode b_Hop_hopNearer 15 = .ok (.istore 4, 2) := by decide +kernel
theorem d_Hop_hopNearer_17 : decode b_Hop_hopNearer 17 = .ok (.iconst 0, 1) := by decide +kernel
theorem d_Hop_hopNearer_18 : decode b_Hop_hopNearer 18 = .ok (.istore 5, 2) := by decide +kernel
theorem d_Hop_hopNearer_20 : decode b_Hop_hopNearer 20 = .ok (.iload 5, 2) := by decide +kernel
theorem d_Hop_hopNearer_22 : decode b_Hop_hopNearer 22 = .ok (.iload_n 3, 1) := by decide +kernel
theorem d_Hop_hopNearer_23 : decode b_Hop_hopNearer 23 = .ok (.if_icmp .ge 66, 3) := by decide +kernel
theorem d_Hop_hopNearer_26 : decode b_Hop_hopNearer 26 = .ok (.aload_n 0, 1) := by decide +kernel
theorem d_Hop_hopNearer_27 : decode b_Hop_hopNearer 27 = .ok (.aload_n 1, 1) := by decide +kernel
theorem d_Hop_hopNearer_28 : decode b_Hop_hopNearer 28 = .ok (.iload 4, 2) := by decide +kernel
theorem d_Hop_hopNearer_30 : decode b_Hop_hopNearer 30 = .ok (.iload 5, 2) := by decide +kernel
theorem d_Hop_hopNearer_32 : decode b_Hop_hopNearer 32 = .ok (.invokevirtual 96, 3) := by decide +kernel
theorem d_Hop_hopNearer_35 : decode b_Hop_hopNearer 35 = .ok (.ifCond .eq 48, 3) := by decide +kernel
theorem d_Hop_hopNearer_38 : decode b_Hop_hopNearer 38 = .ok (.aload_n 1, 1) := by decide +kernel
theorem d_Hop_hopNearer_39 : decode b_Hop_hopNearer 39 = .ok (.iload 4, 2) := by decide +kernel
theorem d_Hop_hopNearer_41 : decode b_Hop_hopNearer 41 = .ok (.iload 5, 2) := by decide +kernel
theorem d_Hop_hopNearer_43 : decode b_Hop_hopNearer 43 = .ok (.iadd, 1) := by decide +kernel
theorem d_Hop_hopNearer_44 : decode b_Hop_hopNearer 44 = .ok (.invokevirtual 99, 3) := by decide +kernel
theorem d_Hop_hopNearer_47 : decode b_Hop_hopNearer 47 = .ok (.istore 6, 2) := by decide +kernel
theorem d_Hop_hopNearer_49 : decode b_Hop_hopNearer 49 = .ok (.aload_n 0, 1) := by decide +kernel
theorem d_Hop_hopNearer_50 : decode b_Hop_hopNearer 50 = .ok (.iload 6, 2) := by decide +kernel
theorem d_Hop_hopNearer_52 : decode b_Hop_hopNearer 52 = .ok (.aload_n 1, 1) := by decide +kernel
theorem d_Hop_hopNearer_53 : decode b_Hop_hopNearer 53 = .ok (.iload_n 2, 1) := by decide +kernel
theorem d_Hop_hopNearer_54 : decode b_Hop_hopNearer 54 = .ok (.invokevirtual 99, 3) := by decide +kernel
theorem d_Hop_hopNearer_57 : decode b_Hop_hopNearer 57 = .ok (.invokevirtual 132, 3) := by decide +kernel
theorem d_Hop_hopNearer_60 : decode b_Hop_hopNearer 60 = .ok (.aload_n 0, 1) := by decide +kernel
theorem d_Hop_hopNearer_61 : decode b_Hop_hopNearer 61 = .ok (.getfield 16, 3) := by decide +kernel
theorem d_Hop_hopNearer_64 : decode b_Hop_hopNearer 64 = .ok (.iload 6, 2) := by decide +kernel
theorem d_Hop_hopNearer_66 : decode b_Hop_hopNearer 66 = .ok (.iconst 0, 1) := by decide +kernel
theorem d_Hop_hopNearer_67 : decode b_Hop_hopNearer 67 = .ok (.bastore, 1) := by decide +kernel
theorem d_Hop_hopNearer_68 : decode b_Hop_hopNearer 68 = .ok (.aload_n 0, 1) := by decide +kernel
theorem d_Hop_hopNearer_69 : decode b_Hop_hopNearer 69 = .ok (.getfield 20, 3) := by decide +kernel
theorem d_Hop_hopNearer_72 : decode b_Hop_hopNearer 72 = .ok (.iconst 0, 1) := by decide +kernel
theorem d_Hop_hopNearer_73 : decode b_Hop_hopNearer 73 = .ok (.dup2, 1) := by decide +kernel
theorem d_Hop_hopNearer_74 : decode b_Hop_hopNearer 74 = .ok (.iaload, 1) := by decide +kernel
theorem d_Hop_hopNearer_75 : decode b_Hop_hopNearer 75 = .ok (.iconst 1, 1) := by decide +kernel
theorem d_Hop_hopNearer_76 : decode b_Hop_hopNearer 76 = .ok (.iadd, 1) := by decide +kernel
theorem d_Hop_hopNearer_77 : decode b_Hop_hopNearer 77 = .ok (.iastore, 1) := by decide +kernel
theorem d_Hop_hopNearer_78 : decode b_Hop_hopNearer 78 = .ok (.iload_n 3, 1) := by decide +kernel
theorem d_Hop_hopNearer_79 : decode b_Hop_hopNearer 79 = .ok (.iload 5, 2) := by decide +kernel
theorem d_Hop_hopNearer_81 : decode b_Hop_hopNearer 81 = .ok (.isub, 1) := by decide +kernel
theorem d_Hop_hopNearer_82 : decode b_Hop_hopNearer 82 = .ok (.ireturn, 1) := by decide +kernel
theorem d_Hop_hopNearer_83 : decode b_Hop_hopNearer 83 = .ok (.iinc 5 1, 3) := by decide +kernel
theorem d_Hop_hopNearer_86 : decode b_Hop_hopNearer 86 = .ok (.goto (-66), 3) := by decide +kernel
theorem d_Hop_hopNearer_89 : decode b_Hop_hopNearer 89 = .ok (.iinc 3 (-1), 3) := by decide +kernel
theorem d_Hop_hopNearer_92 : decode b_Hop_hopNearer 92 = .ok (.goto (-89), 3) := by decide +kernel
theorem d_Hop_hopNearer_95 : decode b_Hop_hopNearer 95 = .ok (.iconst 0, 1) := by decide +kernel
theorem d_Hop_hopNearer_96 : decode b_Hop_hopNearer 96 = .ok (.ireturn, 1) := by decide +kernel
theorem d_Hop_copySlot_0 : decode b_Hop_copySlot 0 = .ok (.aload_n 0, 1) := by decide +kernel
theorem d_Hop_copySlot_1 : decode b_Hop_copySlot 1 = .ok (.getfield 9, 3) := by decide +kernel
theorem d_Hop_copySlot_4 : decode b_Hop_copySlot 4 = .ok (.iload_n 2, 1) := by decide +kernel
theorem d_Hop_copySlot_5 : decode b_Hop_copySlot 5 = .ok (.aload_n 0, 1) := by decide +kernel
theorem d_Hop_copySlot_6 : decode b_Hop_copySlot 6 = .ok (.getfield 9, 3) := by decide +kernel
theorem d_Hop_copySlot_9 : decode b_Hop_copySlot 9 = .ok (.iload_n 1, 1) := by decide +kernel
theorem d_Hop_copySlot_10 : decode b_Hop_copySlot 10 = .ok (.iaload, 1) := by decide +kernel
theorem d_Hop_copySlot_11 : decode b_Hop_copySlot 11 = .ok (.iastore, 1) := by decide +kernel
theorem d_Hop_copySlot_12 : decode b_Hop_copySlot 12 = .ok (.aload_n 0, 1) := by decide +kernel
theorem d_Hop_copySlot_13 : decode b_Hop_copySlot 13 = .ok (.getfield 13, 3) := by decide +kernel
theorem d_Hop_copySlot_16 : decode b_Hop_copySlot 16 = .ok (.iload_n 2, 1) := by decide +kernel
theorem d_Hop_copySlot_17 : decode b_Hop_copySlot 17 = .ok (.aload_n 0, 1) := by decide +kernel
theorem d_Hop_copySlot_18 : decode b_Hop_copySlot 18 = .ok (.getfield 13, 3) := by decide +kernel
theorem d_Hop_copySlot_21 : decode b_Hop_copySlot 21 = .ok (.iload_n 1, 1) := by decide +kernel
theorem d_Hop_copySlot_22 : decode b_Hop_copySlot 22 = .ok (.iaload, 1) := by decide +kernel
theorem d_Hop_copySlot_23 : decode b_Hop_copySlot 23 = .ok (.iastore, 1) := by decide +kernel
theorem d_Hop_copySlot_24 : decode b_Hop_copySlot 24 = .ok (.aload_n 0, 1) := by decide +kernel
theorem d_Hop_copySlot_25 : decode b_Hop_copySlot 25 = .ok (.getfield 16, 3) := by decide +kernel
theorem d_Hop_copySlot_28 : decode b_Hop_copySlot 28 = .ok (.iload_n 2, 1) := by decide +kernel
theorem d_Hop_copySlot_29 : decode b_Hop_copySlot 29 = .ok (.aload_n 0, 1) := by decide +kernel
theorem d_Hop_copySlot_30 : decode b_Hop_copySlot 30 = .ok (.getfield 16, 3) := by decide +kernel
theorem d_Hop_copySlot_33 : decode b_Hop_copySlot 33 = .ok (.iload_n 1, 1) := by decide +kernel
theorem d_Hop_copySlot_34 : decode b_Hop_copySlot 34 = .ok (.baload, 1) := by decide +kernel
theorem d_Hop_copySlot_35 : decode b_Hop_copySlot 35 = .ok (.bastore, 1) := by decide +kernel
theorem d_Hop_copySlot_36 : decode b_Hop_copySlot 36 = .ok (.return_, 1) := by decide +kernel
theorem d_Hop_growWith_0 : decode b_Hop_growWith 0 = .ok (.aload_n 0, 1) := by decide +kernel
theorem d_Hop_growWith_1 : decode b_Hop_growWith 1 = .ok (.getfield 25, 3) := by decide +kernel
theorem d_Hop_growWith_4 : decode b_Hop_growWith 4 = .ok (.iload_n 1, 1) := by decide +kernel
theorem d_Hop_growWith_5 : decode b_Hop_growWith 5 = .ok (.aaload, 1) := by decide +kernel
theorem d_Hop_growWith_6 : decode b_Hop_growWith 6 = .ok (.astore 4, 2) := by decide +kernel
theorem d_Hop_growWith_8 : decode b_Hop_growWith 8 = .ok (.aload_n 0, 1) := by decide +kernel
theorem d_Hop_growWith_9 : decode b_Hop_growWith 9 = .ok (.getfield 32, 3) := by decide +kernel
theorem d_Hop_growWith_12 : decode b_Hop_growWith 12 = .ok (.astore 5, 2) := by decide +kernel
theorem d_Hop_growWith_14 : decode b_Hop_growWith 14 = .ok (.aload_n 0, 1) := by decide +kernel
theorem d_Hop_growWith_15 : decode b_Hop_growWith 15 = .ok (.invokevirtual 136, 3) := by decide +kernel
theorem d_Hop_growWith_18 : decode b_Hop_growWith 18 = .ok (.istore 6, 2) := by decide +kernel
theorem d_Hop_growWith_20 : decode b_Hop_growWith 20 = .ok (.aload 4, 2) := by decide +kernel
theorem d_Hop_growWith_22 : decode b_Hop_growWith 22 = .ok (.getfield 77, 3) := by decide +kernel
theorem d_Hop_growWith_25 : decode b_Hop_growWith 25 = .ok (.istore 7, 2) := by decide +kernel
theorem d_Hop_growWith_27 : decode b_Hop_growWith 27 = .ok (.iconst 1, 1) := by decide +kernel
theorem d_Hop_growWith_28 : decode b_Hop_growWith 28 = .ok (.istore 8, 2) := by decide +kernel
theorem d_Hop_growWith_30 : decode b_Hop_growWith 30 = .ok (.iload 8, 2) := by decide +kernel
theorem d_Hop_growWith_32 : decode b_Hop_growWith 32 = .ok (.iconst 4, 1) := by decide +kernel
theorem d_Hop_growWith_33 : decode b_Hop_growWith 33 = .ok (.if_icmp .gt 98, 3) := by decide +kernel
theorem d_Hop_growWith_36 : decode b_Hop_growWith 36 = .ok (.aload 4, 2) := by decide +kernel
theorem d_Hop_growWith_38 : decode b_Hop_growWith 38 = .ok (.getfield 66, 3) := by decide +kernel
theorem d_Hop_growWith_41 : decode b_Hop_growWith 41 = .ok (.iload 8, 2) := by decide +kernel
theorem d_Hop_growWith_43 : decode b_Hop_growWith 43 = .ok (.ishl, 1) := by decide +kernel
theorem d_Hop_growWith_44 : decode b_Hop_growWith 44 = .ok (.istore 9, 2) := by decide +kernel
theorem d_Hop_growWith_46 : decode b_Hop_growWith 46 = .ok (.iload 9, 2) := by decide +kernel
theorem d_Hop_growWith_48 : decode b_Hop_growWith 48 = .ok (.sipush 128, 3) := by decide +kernel
theorem d_Hop_growWith_51 : decode b_Hop_growWith 51 = .ok (.if_icmp .gt 14, 3) := by decide +kernel
theorem d_Hop_growWith_54 : decode b_Hop_growWith 54 = .ok (.iload 6, 2) := by decide +kernel
theorem d_Hop_growWith_56 : decode b_Hop_growWith 56 = .ok (.iload 9, 2) := by decide +kernel
theorem d_Hop_growWith_58 : decode b_Hop_growWith 58 = .ok (.iadd, 1) := by decide +kernel
theorem d_Hop_growWith_59 : decode b_Hop_growWith 59 = .ok (.sipush 256, 3) := by decide +kernel
theorem d_Hop_growWith_62 : decode b_Hop_growWith 62 = .ok (.if_icmp .le 5, 3) := by decide +kernel
theorem d_Hop_growWith_65 : decode b_Hop_growWith 65 = .ok (.iconst 0, 1) := by decide +kernel
theorem d_Hop_growWith_66 : decode b_Hop_growWith 66 = .ok (.ireturn, 1) := by decide +kernel
theorem d_Hop_growWith_67 : decode b_Hop_growWith 67 = .ok (.iload 7, 2) := by decide +kernel
theorem d_Hop_growWith_69 : decode b_Hop_growWith 69 = .ok (.ldc 139, 2) := by decide +kernel
theorem d_Hop_growWith_71 : decode b_Hop_growWith 71 = .ok (.imul, 1) := by decide +kernel
theorem d_Hop_growWith_72 : decode b_Hop_growWith 72 = .ok (.ldc 140, 2) := by decide +kernel
theorem d_Hop_growWith_74 : decode b_Hop_growWith 74 = .ok (.iadd, 1) := by decide +kernel
theorem d_Hop_growWith_75 : decode b_Hop_growWith 75 = .ok (.istore 7, 2) := by decide +kernel
theorem d_Hop_growWith_77 : decode b_Hop_growWith 77 = .ok (.aload_n 0, 1) := by decide +kernel
theorem d_Hop_growWith_78 : decode b_Hop_growWith 78 = .ok (.aload 5, 2) := by decide +kernel
theorem d_Hop_growWith_80 : decode b_Hop_growWith 80 = .ok (.iload 9, 2) := by decide +kernel
theorem d_Hop_growWith_82 : decode b_Hop_growWith 82 = .ok (.iload 7, 2) := by decide +kernel
theorem d_Hop_growWith_84 : decode b_Hop_growWith 84 = .ok (.invokevirtual 141, 3) := by decide +kernel
theorem d_Hop_growWith_87 : decode b_Hop_growWith 87 = .ok (.aload_n 0, 1) := by decide +kernel
theorem d_Hop_growWith_88 : decode b_Hop_growWith 88 = .ok (.aload 4, 2) := by decide +kernel
theorem d_Hop_growWith_90 : decode b_Hop_growWith 90 = .ok (.aload 5, 2) := by decide +kernel
theorem d_Hop_growWith_92 : decode b_Hop_growWith 92 = .ok (.invokevirtual 145, 3) := by decide +kernel
theorem d_Hop_growWith_95 : decode b_Hop_growWith 95 = .ok (.ifCond .eq 30, 3) := by decide +kernel
theorem d_Hop_growWith_98 : decode b_Hop_growWith 98 = .ok (.aload_n 0, 1) := by decide +kernel
theorem d_Hop_growWith_99 : decode b_Hop_growWith 99 = .ok (.aload 5, 2) := by decide +kernel
theorem d_Hop_growWith_101 : decode b_Hop_growWith 101 = .ok (.iload_n 2, 1) := by decide +kernel
theorem d_Hop_growWith_102 : decode b_Hop_growWith 102 = .ok (.iload_n 3, 1) := by decide +kernel
theorem d_Hop_growWith_103 : decode b_Hop_growWith 103 = .ok (.invokevirtual 44, 3) := by decide +kernel
theorem d_Hop_growWith_106 : decode b_Hop_growWith 106 = .ok (.ifCond .eq 19, 3) := by decide +kernel
theorem d_Hop_growWith_109 : decode b_Hop_growWith 109 = .ok (.aload_n 0, 1) := by decide +kernel
theorem d_Hop_growWith_110 : decode b_Hop_growWith 110 = .ok (.getfield 25, 3) := by decide +kernel
theorem d_Hop_growWith_113 : decode b_Hop_growWith 113 = .ok (.iload_n 1, 1) := by decide +kernel
theorem d_Hop_growWith_114 : decode b_Hop_growWith 114 = .ok (.aload 5, 2) := by decide +kernel
theorem d_Hop_growWith_116 : decode b_Hop_growWith 116 = .ok (.aastore, 1) := by decide +kernel
theorem d_Hop_growWith_117 : decode b_Hop_growWith 117 = .ok (.aload_n 0, 1) := by decide +kernel
theorem d_Hop_growWith_118 : decode b_Hop_growWith 118 = .ok (.aload 4, 2) := by decide +kernel
theorem d_Hop_growWith_120 : decode b_Hop_growWith 120 = .ok (.putfield 32, 3) := by decide +kernel
theorem d_Hop_growWith_123 : decode b_Hop_growWith 123 = .ok (.iconst 1, 1) := by decide +kernel
theorem d_Hop_growWith_124 : decode b_Hop_growWith 124 = .ok (.ireturn, 1) := by decide +kernel
theorem d_Hop_growWith_125 : decode b_Hop_growWith 125 = .ok (.iinc 8 1, 3) := by decide +kernel
theorem d_Hop_growWith_128 : decode b_Hop_growWith 128 = .ok (.goto (-98), 3) := by decide +kernel
theorem d_Hop_growWith_131 : decode b_Hop_growWith 131 = .ok (.iconst 0, 1) := by decide +kernel
theorem d_Hop_growWith_132 : decode b_Hop_growWith 132 = .ok (.ireturn, 1) := by decide +kernel
theorem d_Hop_sumOfCapacities_0 : decode b_Hop_sumOfCapacities 0 = .ok (.iconst 0, 1) := by decide +kernel
theorem d_Hop_sumOfCapacities_1 : decode b_Hop_sumOfCapacities 1 = .ok (.istore_n 1, 1) := by decide +kernel
theorem d_Hop_sumOfCapacities_2 : decode b_Hop_sumOfCapacities 2 = .ok (.iconst 0, 1) := by decide +kernel
theorem d_Hop_sumOfCapacities_3 : decode b_Hop_sumOfCapacities 3 = .ok (.istore_n 2, 1) := by decide +kernel
theorem d_Hop_sumOfCapacities_4 : decode b_Hop_sumOfCapacities 4 = .ok (.iload_n 2, 1) := by decide +kernel
theorem d_Hop_sumOfCapacities_5 : decode b_Hop_sumOfCapacities 5 = .ok (.iconst 3, 1) := by decide +kernel
theorem d_Hop_sumOfCapacities_6 : decode b_Hop_sumOfCapacities 6 = .ok (.if_icmp .ge 21, 3) := by decide +kernel
theorem d_Hop_sumOfCapacities_9 : decode b_Hop_sumOfCapacities 9 = .ok (.iload_n 1, 1) := by decide +kernel
theorem d_Hop_sumOfCapacities_10 : decode b_Hop_sumOfCapacities 10 = .ok (.aload_n 0, 1) := by decide +kernel
theorem d_Hop_sumOfCapacities_11 : decode b_Hop_sumOfCapacities 11 = .ok (.getfield 25, 3) := by decide +kernel
theorem d_Hop_sumOfCapacities_14 : decode b_Hop_sumOfCapacities 14 = .ok (.iload_n 2, 1) := by decide +kernel
theorem d_Hop_sumOfCapacities_15 : decode b_Hop_sumOfCapacities 15 = .ok (.aaload, 1) := by decide +kernel
theorem d_Hop_sumOfCapacities_16 : decode b_Hop_sumOfCapacities 16 = .ok (.getfield 66, 3) := by decide +kernel
theorem d_Hop_sumOfCapacities_19 : decode b_Hop_sumOfCapacities 19 = .ok (.iadd, 1) := by decide +kernel
theorem d_Hop_sumOfCapacities_20 : decode b_Hop_sumOfCapacities 20 = .ok (.istore_n 1, 1) := by decide +kernel
theorem d_Hop_sumOfCapacities_21 : decode b_Hop_sumOfCapacities 21 = .ok (.iinc 2 1, 3) := by decide +kernel
theorem d_Hop_sumOfCapacities_24 : decode b_Hop_sumOfCapacities 24 = .ok (.goto (-20), 3) := by decide +kernel
theorem d_Hop_sumOfCapacities_27 : decode b_Hop_sumOfCapacities 27 = .ok (.iload_n 1, 1) := by decide +kernel
theorem d_Hop_sumOfCapacities_28 : decode b_Hop_sumOfCapacities 28 = .ok (.ireturn, 1) := by decide +kernel
theorem d_Hop_layOut_0 : decode b_Hop_layOut 0 = .ok (.aload_n 0, 1) := by decide +kernel
theorem d_Hop_layOut_1 : decode b_Hop_layOut 1 = .ok (.invokevirtual 149, 3) := by decide +kernel
theorem d_Hop_layOut_4 : decode b_Hop_layOut 4 = .ok (.iload_n 2, 1) := by decide +kernel
theorem d_Hop_layOut_5 : decode b_Hop_layOut 5 = .ok (.iadd, 1) := by decide +kernel
theorem d_Hop_layOut_6 : decode b_Hop_layOut 6 = .ok (.sipush 256, 3) := by decide +kernel
theorem d_Hop_layOut_9 : decode b_Hop_layOut 9 = .ok (.if_icmp .le 7, 3) := by decide +kernel
theorem d_Hop_layOut_12 : decode b_Hop_layOut 12 = .ok (.aload_n 0, 1) := by decide +kernel
theorem d_Hop_layOut_13 : decode b_Hop_layOut 13 = .ok (.invokevirtual 152, 3) := by decide +kernel
theorem d_Hop_layOut_16 : decode b_Hop_layOut 16 = .ok (.aload_n 1, 1) := by decide +kernel
theorem d_Hop_layOut_17 : decode b_Hop_layOut 17 = .ok (.aload_n 0, 1) := by decide +kernel
theorem d_Hop_layOut_18 : decode b_Hop_layOut 18 = .ok (.invokevirtual 149, 3) := by decide +kernel
theorem d_Hop_layOut_21 : decode b_Hop_layOut 21 = .ok (.putfield 74, 3) := by decide +kernel
theorem d_Hop_layOut_24 : decode b_Hop_layOut 24 = .ok (.aload_n 1, 1) := by decide +kernel
theorem d_Hop_layOut_25 : decode b_Hop_layOut 25 = .ok (.iload_n 2, 1) := by decide +kernel
theorem d_Hop_layOut_26 : decode b_Hop_layOut 26 = .ok (.putfield 66, 3) := by decide +kernel
theorem d_Hop_layOut_29 : decode b_Hop_layOut 29 = .ok (.aload_n 1, 1) := by decide +kernel
theorem d_Hop_layOut_30 : decode b_Hop_layOut 30 = .ok (.iload_n 3, 1) := by decide +kernel
theorem d_Hop_layOut_31 : decode b_Hop_layOut 31 = .ok (.putfield 77, 3) := by decide +kernel
theorem d_Hop_layOut_34 : decode b_Hop_layOut 34 = .ok (.aload_n 0, 1) := by decide +kernel
theorem d_Hop_layOut_35 : decode b_Hop_layOut 35 = .ok (.aload_n 1, 1) := by decide +kernel
theorem d_Hop_layOut_36 : decode b_Hop_layOut 36 = .ok (.invokevirtual 70, 3) := by decide +kernel
theorem d_Hop_layOut_39 : decode b_Hop_layOut 39 = .ok (.aload_n 0, 1) := by decide +kernel
theorem d_Hop_layOut_40 : decode b_Hop_layOut 40 = .ok (.getfield 20, 3) := by decide +kernel
theorem d_Hop_layOut_43 : decode b_Hop_layOut 43 = .ok (.iconst 1, 1) := by decide +kernel
theorem d_Hop_layOut_44 : decode b_Hop_layOut 44 = .ok (.dup2, 1) := by decide +kernel
theorem d_Hop_layOut_45 : decode b_Hop_layOut 45 = .ok (.iaload, 1) := by decide +kernel
theorem d_Hop_layOut_46 : decode b_Hop_layOut 46 = .ok (.iconst 1, 1) := by decide +kernel
theorem d_Hop_layOut_47 : decode b_Hop_layOut 47 = .ok (.iadd, 1) := by decide +kernel
theorem d_Hop_layOut_48 : decode b_Hop_layOut 48 = .ok (.iastore, 1) := by decide +kernel
theorem d_Hop_layOut_49 : decode b_Hop_layOut 49 = .ok (.return_, 1) := by decide +kernel
theorem d_Hop_lastEnd_0 : decode b_Hop_lastEnd 0 = .ok (.iconst 0, 1) := by decide +kernel
theorem d_Hop_lastEnd_1 : decode b_Hop_lastEnd 1 = .ok (.istore_n 1, 1) := by decide +kernel
theorem d_Hop_lastEnd_2 : decode b_Hop_lastEnd 2 = .ok (.iconst 0, 1) := by decide +kernel
theorem d_Hop_lastEnd_3 : decode b_Hop_lastEnd 3 = .ok (.istore_n 2, 1) := by decide +kernel
theorem d_Hop_lastEnd_4 : decode b_Hop_lastEnd 4 = .ok (.iload_n 2, 1) := by decide +kernel
theorem d_Hop_lastEnd_5 : decode b_Hop_lastEnd 5 = .ok (.iconst 3, 1) := by decide +kernel
theorem d_Hop_lastEnd_6 : decode b_Hop_lastEnd 6 = .ok (.if_icmp .ge 23, 3) := by decide +kernel
theorem d_Hop_lastEnd_9 : decode b_Hop_lastEnd 9 = .ok (.iload_n 1, 1) := by decide +kernel
theorem d_Hop_lastEnd_10 : decode b_Hop_lastEnd 10 = .ok (.aload_n 0, 1) := by decide +kernel
theorem d_Hop_lastEnd_11 : decode b_Hop_lastEnd 11 = .ok (.getfield 25, 3) := by decide +kernel
theorem d_Hop_lastEnd_14 : decode b_Hop_lastEnd 14 = .ok (.iload_n 2, 1) := by decide +kernel
theorem d_Hop_lastEnd_15 : decode b_Hop_lastEnd 15 = .ok (.aaload, 1) := by decide +kernel
theorem d_Hop_lastEnd_16 : decode b_Hop_lastEnd 16 = .ok (.invokevirtual 122, 3) := by decide +kernel
theorem d_Hop_lastEnd_19 : decode b_Hop_lastEnd 19 = .ok (.invokestatic 155, 3) := by decide +kernel
theorem d_Hop_lastEnd_22 : decode b_Hop_lastEnd 22 = .ok (.istore_n 1, 1) := by decide +kernel
theorem d_Hop_lastEnd_23 : decode b_Hop_lastEnd 23 = .ok (.iinc 2 1, 3) := by decide +kernel
theorem d_Hop_lastEnd_26 : decode b_Hop_lastEnd 26 = .ok (.goto (-22), 3) := by decide +kernel
theorem d_Hop_lastEnd_29 : decode b_Hop_lastEnd 29 = .ok (.iload_n 1, 1) := by decide +kernel
theorem d_Hop_lastEnd_30 : decode b_Hop_lastEnd 30 = .ok (.ireturn, 1) := by decide +kernel
theorem d_Hop_pushTogether_0 : decode b_Hop_pushTogether 0 = .ok (.iconst 0, 1) := by decide +kernel
theorem d_Hop_pushTogether_1 : decode b_Hop_pushTogether 1 = .ok (.istore_n 1, 1) := by decide +kernel
theorem d_Hop_pushTogether_2 : decode b_Hop_pushTogether 2 = .ok (.iconst 0, 1) := by decide +kernel
theorem d_Hop_pushTogether_3 : decode b_Hop_pushTogether 3 = .ok (.istore_n 2, 1) := by decide +kernel
theorem d_Hop_pushTogether_4 : decode b_Hop_pushTogether 4 = .ok (.iload_n 2, 1) := by decide +kernel
theorem d_Hop_pushTogether_5 : decode b_Hop_pushTogether 5 = .ok (.iconst 3, 1) := by decide +kernel
theorem d_Hop_pushTogether_6 : decode b_Hop_pushTogether 6 = .ok (.if_icmp .ge 30, 3) := by decide +kernel
theorem d_Hop_pushTogether_9 : decode b_Hop_pushTogether 9 = .ok (.aload_n 0, 1) := by decide +kernel
theorem d_Hop_pushTogether_10 : decode b_Hop_pushTogether 10 = .ok (.iload_n 1, 1) := by decide +kernel
theorem d_Hop_pushTogether_11 : decode b_Hop_pushTogether 11 = .ok (.invokevirtual 161, 3) := by decide +kernel
theorem d_Hop_pushTogether_14 : decode b_Hop_pushTogether 14 = .ok (.astore_n 3, 1) := by decide +kernel
theorem d_Hop_pushTogether_15 : decode b_Hop_pushTogether 15 = .ok (.aload_n 3, 1) := by decide +kernel
theorem d_Hop_pushTogether_16 : decode b_Hop_pushTogether 16 = .ok (.ifnull 14, 3) := by decide +kernel
theorem d_Hop_pushTogether_19 : decode b_Hop_pushTogether 19 = .ok (.aload_n 0, 1) := by decide +kernel
theorem d_Hop_pushTogether_20 : decode b_Hop_pushTogether 20 = .ok (.aload_n 3, 1) := by decide +kernel
theorem d_Hop_pushTogether_21 : decode b_Hop_pushTogether 21 = .ok (.iload_n 1, 1) := by decide +kernel
theorem d_Hop_pushTogether_22 : decode b_Hop_pushTogether 22 = .ok (.invokevirtual 164, 3) := by decide +kernel
theorem d_Hop_pushTogether_25 : decode b_Hop_pushTogether 25 = .ok (.aload_n 3, 1) := by decide +kernel
theorem d_Hop_pushTogether_26 : decode b_Hop_pushTogether 26 = .ok (.invokevirtual 122, 3) := by decide +kernel
theorem d_Hop_pushTogether_29 : decode b_Hop_pushTogether 29 = .ok (.istore_n 1, 1) := by decide +kernel
theorem d_Hop_pushTogether_30 : decode b_Hop_pushTogether 30 = .ok (.iinc 2 1, 3) := by decide +kernel
theorem d_Hop_pushTogether_33 : decode b_Hop_pushTogether 33 = .ok (.goto (-29), 3) := by decide +kernel
theorem d_Hop_pushTogether_36 : decode b_Hop_pushTogether 36 = .ok (.aload_n 0, 1) := by decide +kernel
theorem d_Hop_pushTogether_37 : decode b_Hop_pushTogether 37 = .ok (.getfield 20, 3) := by decide +kernel
theorem d_Hop_pushTogether_40 : decode b_Hop_pushTogether 40 = .ok (.iconst 2, 1) := by decide +kernel
theorem d_Hop_pushTogether_41 : decode b_Hop_pushTogether 41 = .ok (.dup2, 1) := by decide +kernel
theorem d_Hop_pushTogether_42 : decode b_Hop_pushTogether 42 = .ok (.iaload, 1) := by decide +kernel
theorem d_Hop_pushTogether_43 : decode b_Hop_pushTogether 43 = .ok (.iconst 1, 1) := by decide +kernel
theorem d_Hop_pushTogether_44 : decode b_Hop_pushTogether 44 = .ok (.iadd, 1) := by decide +kernel
theorem d_Hop_pushTogether_45 : decode b_Hop_pushTogether 45 = .ok (.iastore, 1) := by decide +kernel
theorem d_Hop_pushTogether_46 : decode b_Hop_pushTogether 46 = .ok (.return_, 1) := by decide +kernel
theorem d_Hop_lowestFrom_0 : decode b_Hop_lowestFrom 0 = .ok (.aconst_null, 1) := by decide +kernel
theorem d_Hop_lowestFrom_1 : decode b_Hop_lowestFrom 1 = .ok (.astore_n 2, 1) := by decide +kernel
theorem d_Hop_lowestFrom_2 : decode b_Hop_lowestFrom 2 = .ok (.iconst 0, 1) := by decide +kernel
theorem d_Hop_lowestFrom_3 : decode b_Hop_lowestFrom 3 = .ok (.istore_n 3, 1) := by decide +kernel
theorem d_Hop_lowestFrom_4 : decode b_Hop_lowestFrom 4 = .ok (.iload_n 3, 1) := by decide +kernel
theorem d_Hop_lowestFrom_5 : decode b_Hop_lowestFrom 5 = .ok (.iconst 3, 1) := by decide +kernel
theorem d_Hop_lowestFrom_6 : decode b_Hop_lowestFrom 6 = .ok (.if_icmp .ge 45, 3) := by decide +kernel
theorem d_Hop_lowestFrom_9 : decode b_Hop_lowestFrom 9 = .ok (.aload_n 0, 1) := by decide +kernel
theorem d_Hop_lowestFrom_10 : decode b_Hop_lowestFrom 10 = .ok (.getfield 25, 3) := by decide +kernel
theorem d_Hop_lowestFrom_13 : decode b_Hop_lowestFrom 13 = .ok (.iload_n 3, 1) := by decide +kernel
theorem d_Hop_lowestFrom_14 : decode b_Hop_lowestFrom 14 = .ok (.aaload, 1) := by decide +kernel
theorem d_Hop_lowestFrom_15 : decode b_Hop_lowestFrom 15 = .ok (.astore 4, 2) := by decide +kernel
theorem d_Hop_lowestFrom_17 : decode b_Hop_lowestFrom 17 = .ok (.aload 4, 2) := by decide +kernel
theorem d_Hop_lowestFrom_19 : decode b_Hop_lowestFrom 19 = .ok (.getfield 74, 3) := by decide +kernel
theorem d_Hop_lowestFrom_22 : decode b_Hop_lowestFrom 22 = .ok (.iload_n 1, 1) := by decide +kernel
theorem d_Hop_lowestFrom_23 : decode b_Hop_lowestFrom 23 = .ok (.if_icmp .lt 22, 3) := by decide +kernel
theorem d_Hop_lowestFrom_26 : decode b_Hop_lowestFrom 26 = .ok (.aload_n 2, 1) := by decide +kernel
theorem d_Hop_lowestFrom_27 : decode b_Hop_lowestFrom 27 = .ok (.ifnull 15, 3) := by decide +kernel
theorem d_Hop_lowestFrom_30 : decode b_Hop_lowestFrom 30 = .ok (.aload 4, 2) := by decide +kernel
theorem d_Hop_lowestFrom_32 : decode b_Hop_lowestFrom 32 = .ok (.getfield 74, 3) := by decide +kernel
theorem d_Hop_lowestFrom_35 : decode b_Hop_lowestFrom 35 = .ok (.aload_n 2, 1) := by decide +kernel
theorem d_Hop_lowestFrom_36 : decode b_Hop_lowestFrom 36 = .ok (.getfield 74, 3) := by decide +kernel
theorem d_Hop_lowestFrom_39 : decode b_Hop_lowestFrom 39 = .ok (.if_icmp .ge 6, 3) := by decide +kernel
theorem d_Hop_lowestFrom_42 : decode b_Hop_lowestFrom 42 = .ok (.aload 4, 2) := by decide +kernel
theorem d_Hop_lowestFrom_44 : decode b_Hop_lowestFrom 44 = .ok (.astore_n 2, 1) := by decide +kernel
theorem d_Hop_lowestFrom_45 : decode b_Hop_lowestFrom 45 = .ok (.iinc 3 1, 3) := by decide +kernel
theorem d_Hop_lowestFrom_48 : decode b_Hop_lowestFrom 48 = .ok (.goto (-44), 3) := by decide +kernel
theorem d_Hop_lowestFrom_51 : decode b_Hop_lowestFrom 51 = .ok (.aload_n 2, 1) := by decide +kernel
theorem d_Hop_lowestFrom_52 : decode b_Hop_lowestFrom 52 = .ok (.areturn, 1) := by decide +kernel
theorem d_Hop_moveDown_0 : decode b_Hop_moveDown 0 = .ok (.iconst 0, 1) := by decide +kernel
theorem d_Hop_moveDown_1 : decode b_Hop_moveDown 1 = .ok (.istore_n 3, 1) := by decide +kernel
theorem d_Hop_moveDown_2 : decode b_Hop_moveDown 2 = .ok (.iload_n 3, 1) := by decide +kernel
theorem d_Hop_moveDown_3 : decode b_Hop_moveDown 3 = .ok (.aload_n 1, 1) := by decide +kernel
theorem d_Hop_moveDown_4 : decode b_Hop_moveDown 4 = .ok (.getfield 66, 3) := by decide +kernel
theorem d_Hop_moveDown_7 : decode b_Hop_moveDown 7 = .ok (.if_icmp .ge 22, 3) := by decide +kernel
theorem d_Hop_moveDown_10 : decode b_Hop_moveDown 10 = .ok (.aload_n 0, 1) := by decide +kernel
theorem d_Hop_moveDown_11 : decode b_Hop_moveDown 11 = .ok (.aload_n 1, 1) := by decide +kernel
theorem d_Hop_moveDown_12 : decode b_Hop_moveDown 12 = .ok (.getfield 74, 3) := by decide +kernel
theorem d_Hop_moveDown_15 : decode b_Hop_moveDown 15 = .ok (.iload_n 3, 1) := by decide +kernel
theorem d_Hop_moveDown_16 : decode b_Hop_moveDown 16 = .ok (.iadd, 1) := by decide +kernel
theorem d_Hop_moveDown_17 : decode b_Hop_moveDown 17 = .ok (.iload_n 2, 1) := by decide +kernel
theorem d_Hop_moveDown_18 : decode b_Hop_moveDown 18 = .ok (.iload_n 3, 1) := by decide +kernel
theorem d_Hop_moveDown_19 : decode b_Hop_moveDown 19 = .ok (.iadd, 1) := by decide +kernel
theorem d_Hop_moveDown_20 : decode b_Hop_moveDown 20 = .ok (.invokevirtual 132, 3) := by decide +kernel
theorem d_Hop_moveDown_23 : decode b_Hop_moveDown 23 = .ok (.iinc 3 1, 3) := by decide +kernel
theorem d_Hop_moveDown_26 : decode b_Hop_moveDown 26 = .ok (.goto (-24), 3) := by decide +kernel
theorem d_Hop_moveDown_29 : decode b_Hop_moveDown 29 = .ok (.aload_n 1, 1) := by decide +kernel
theorem d_Hop_moveDown_30 : decode b_Hop_moveDown 30 = .ok (.iload_n 2, 1) := by decide +kernel
theorem d_Hop_moveDown_31 : decode b_Hop_moveDown 31 = .ok (.putfield 74, 3) := by decide +kernel
theorem d_Hop_moveDown_34 : decode b_Hop_moveDown 34 = .ok (.return_, 1) := by decide +kernel
theorem d_Hop_insertAnew_0 : decode b_Hop_insertAnew 0 = .ok (.aload_n 1, 1) := by decide +kernel
theorem d_Hop_insertAnew_1 : decode b_Hop_insertAnew 1 = .ok (.getfield 74, 3) := by decide +kernel
theorem d_Hop_insertAnew_4 : decode b_Hop_insertAnew 4 = .ok (.istore_n 3, 1) := by decide +kernel
theorem d_Hop_insertAnew_5 : decode b_Hop_insertAnew 5 = .ok (.iload_n 3, 1) := by decide +kernel
theorem d_Hop_insertAnew_6 : decode b_Hop_insertAnew 6 = .ok (.aload_n 1, 1) := by decide +kernel
theorem d_Hop_insertAnew_7 : decode b_Hop_insertAnew 7 = .ok (.invokevirtual 122, 3) := by decide +kernel
theorem d_Hop_insertAnew_10 : decode b_Hop_insertAnew 10 = .ok (.if_icmp .ge 40, 3) := by decide +kernel
theorem d_Hop_insertAnew_13 : decode b_Hop_insertAnew 13 = .ok (.aload_n 0, 1) := by decide +kernel
theorem d_Hop_insertAnew_14 : decode b_Hop_insertAnew 14 = .ok (.getfield 16, 3) := by decide +kernel
theorem d_Hop_insertAnew_17 : decode b_Hop_insertAnew 17 = .ok (.iload_n 3, 1) := by decide +kernel
theorem d_Hop_insertAnew_18 : decode b_Hop_insertAnew 18 = .ok (.baload, 1) := by decide +kernel
theorem d_Hop_insertAnew_19 : decode b_Hop_insertAnew 19 = .ok (.ifCond .eq 25, 3) := by decide +kernel
theorem d_Hop_insertAnew_22 : decode b_Hop_insertAnew 22 = .ok (.aload_n 0, 1) := by decide +kernel
theorem d_Hop_insertAnew_23 : decode b_Hop_insertAnew 23 = .ok (.aload_n 2, 1) := by decide +kernel
theorem d_Hop_insertAnew_24 : decode b_Hop_insertAnew 24 = .ok (.aload_n 0, 1) := by decide +kernel
theorem d_Hop_insertAnew_25 : decode b_Hop_insertAnew 25 = .ok (.getfield 9, 3) := by decide +kernel
theorem d_Hop_insertAnew_28 : decode b_Hop_insertAnew 28 = .ok (.iload_n 3, 1) := by decide +kernel
theorem d_Hop_insertAnew_29 : decode b_Hop_insertAnew 29 = .ok (.iaload, 1) := by decide +kernel
theorem d_Hop_insertAnew_30 : decode b_Hop_insertAnew 30 = .ok (.aload_n 0, 1) := by decide +kernel
theorem d_Hop_insertAnew_31 : decode b_Hop_insertAnew 31 = .ok (.getfield 13, 3) := by decide +kernel
theorem d_Hop_insertAnew_34 : decode b_Hop_insertAnew 34 = .ok (.iload_n 3, 1) := by decide +kernel
theorem d_Hop_insertAnew_35 : decode b_Hop_insertAnew 35 = .ok (.iaload, 1) := by decide +kernel
theorem d_Hop_insertAnew_36 : decode b_Hop_insertAnew 36 = .ok (.invokevirtual 44, 3) := by decide +kernel
theorem d_Hop_insertAnew_39 : decode b_Hop_insertAnew 39 = .ok (.ifCond .ne 5, 3) := by decide +kernel
theorem d_Hop_insertAnew_42 : decode b_Hop_insertAnew 42 = .ok (.iconst 0, 1) := by decide +kernel
theorem d_Hop_insertAnew_43 : decode b_Hop_insertAnew 43 = .ok (.ireturn, 1) := by decide +kernel
theorem d_Hop_insertAnew_44 : decode b_Hop_insertAnew 44 = .ok (.iinc 3 1, 3) := by decide +kernel
theorem d_Hop_insertAnew_47 : decode b_Hop_insertAnew 47 = .ok (.goto (-42), 3) := by decide +kernel
theorem d_Hop_insertAnew_50 : decode b_Hop_insertAnew 50 = .ok (.iconst 1, 1) := by decide +kernel
theorem d_Hop_insertAnew_51 : decode b_Hop_insertAnew 51 = .ok (.ireturn, 1) := by decide +kernel
end
section
/-! pure words: arrays are functions, a part is (o, c, s): where it begins, how long it is, its seed -/
abbrev IT : Type := Nat → Int32
abbrev BT : Type := Nat → Bool
def bI (b : Bool) : Int32 := if b = true then 1 else 0
theorem bI_t : bI true = 1 := rfl
theorem bI_f : bI false = 0 := rfl
theorem bI_0 {b : Bool} : bI b = 0 ↔ b = false := by
  cases b <;> decide
theorem bI_n0 {b : Bool} : ¬ bI b = 0 ↔ b = true := by
  cases b <;> decide
def oI (x : Option Nat) : Int32 := match x with
  | some k => nI k
  | none => -1
def pw (c : Nat) : Prop := c = 8 ∨ c = 16 ∨ c = 32 ∨ c = 64 ∨ c = 128
theorem pw_pos {c : Nat} (h : pw c) : 0 < c := by unfold pw at h; omega
theorem pw_le {c : Nat} (h : pw c) : c ≤ 128 := by unfold pw at h; omega
theorem pw_ge {c : Nat} (h : pw c) : 8 ≤ c := by unfold pw at h; omega
theorem pw_and {c : Nat} (h : pw c) (x : Int32) : x &&& (nI c - 1) = nI (x.toBitVec.toNat % c) := by
  rcases h with rfl | rfl | rfl | rfl | rfl
  · exact pk_and x 3 (by decide)
  · exact pk_and x 4 (by decide)
  · exact pk_and x 5 (by decide)
  · exact pk_and x 6 (by decide)
  · exact pk_and x 7 (by decide)
theorem pw_andN {c n : Nat} (h : pw c) (hn : n < 2 ^ 31) : nI n &&& (nI c - 1) = nI (n % c) := by
  rw [pw_and h, pk_tn (by omega)]
theorem md_lt {x c : Nat} (h : pw c) : x % c < c := Nat.mod_lt _ (pw_pos h)
def hraw (key s : Int32) : Nat := ((key ^^^ s) * (-1640531535)).toBitVec.toNat / 512
def hom (key s : Int32) (c : Nat) : Nat := hraw key s % c
theorem hom_lt {key s : Int32} {c : Nat} (h : pw c) : hom key s c < c := md_lt h
theorem hom_eq {c : Nat} (h : pw c) (key s : Int32) : ((((key ^^^ s) * (-1640531535)).toUInt32 >>> ((9 : Int32).toUInt32 &&& Int32.toUInt32 31)).toInt32) &&& (nI c - 1) = nI (hom key s c) := by
  rw [pw_and h, pk_ushr _ 9 9 (by decide)]
  rfl
theorem inc1 (a : Nat) : nI a + Int32.ofInt 1 = nI (a + 1) := nI_1 a
theorem dec1 (a : Nat) : nI (a + 1) + Int32.ofInt (-1) = nI a := pk_m1 a
/-- the slot of a key, looked for at h + i and on, n times -/
def fnd (T : BT) (K : IT) (o c h : Nat) (key : Int32) : Nat → Nat → Option Nat
  | _, 0 => none
  | i, n + 1 => if T (o + (h + i) % c) = true ∧ K (o + (h + i) % c) = key then some (o + (h + i) % c) else fnd T K o c h key (i + 1) n
def cnt (T : BT) (o : Nat) : Nat → Nat
  | 0 => 0
  | n + 1 => if T (o + n) = true then cnt T o n + 1 else cnt T o n
def clr (T : BT) (o n : Nat) : BT := fun i => if o ≤ i ∧ i < o + n then false else T i
theorem clr_0 (T : BT) (o : Nat) : clr T o 0 = T := by
  funext i
  unfold clr
  rw [if_neg (by omega)]
theorem clr_s (T : BT) (o n : Nat) : va_up (clr T o n) (o + n) false = clr T o (n + 1) := by
  funext i
  unfold clr va_up
  show (if i = o + n then false else if o ≤ i ∧ i < o + n then false else T i) = if o ≤ i ∧ i < o + (n + 1) then false else T i
  by_cases h : i = o + n
  · rw [if_pos h, if_pos (by omega)]
  · rw [if_neg h]
    by_cases h2 : o ≤ i ∧ i < o + n
    · rw [if_pos h2, if_pos (by omega)]
    · rw [if_neg h2, if_neg (by omega)]
def bit (T : BT) (K : IT) (o c : Nat) (s : Int32) (h i : Nat) : Bool := T (o + (h + i) % c) && decide (hom (K (o + (h + i) % c)) s c = h)
def stp (T : BT) (o c h : Nat) : Nat → Nat → Option Nat
  | _, 0 => none
  | i, n + 1 => if T (o + (h + i) % c) = false then some i else stp T o c h (i + 1) n
def hpI (T : BT) (K : IT) (o c : Nat) (s : Int32) (h : Nat) : Nat → Nat → Option Nat
  | _, 0 => none
  | i, n + 1 => if bit T K o c s h i = true then some i else hpI T K o c s h (i + 1) n
def hpD (T : BT) (K : IT) (o c : Nat) (s : Int32) (f : Nat) : Nat → Option (Nat × Nat)
  | 0 => none
  | d + 1 => match hpI T K o c s ((f + c - (d + 1)) % c) 0 (d + 1) with
    | some i => some (d + 1, i)
    | none => hpD T K o c s f d
def mvT (T : BT) (g f : Nat) : BT := va_up (va_up T f (T g)) g false
abbrev XS : Type := IT × IT × BT × IT
def hopX (o c f : Nat) (r : Option (Nat × Nat)) (X : XS) : XS := match r with
  | some x => (upd X.1 (o + f % c) (X.1 (o + ((f + c - x.1) % c + x.2) % c)), upd X.2.1 (o + f % c) (X.2.1 (o + ((f + c - x.1) % c + x.2) % c)), mvT X.2.2.1 (o + ((f + c - x.1) % c + x.2) % c) (o + f % c), upd X.2.2.2 0 (X.2.2.2 0 + 1))
  | none => X
def plc (o c h : Nat) (key val : Int32) (b : Nat) (X : XS) : XS := (upd X.1 (o + (h + b) % c) key, upd X.2.1 (o + (h + b) % c) val, va_up X.2.2.1 (o + (h + b) % c) true, X.2.2.2)
def inL (o c : Nat) (s : Int32) (h : Nat) (key val : Int32) : Nat → Nat → XS → Bool × XS
  | 0, b, X => (true, plc o c h key val b X)
  | k + 1, b, X => if b < 8 then (true, plc o c h key val b X) else
    match hpD X.2.2.1 X.1 o c s (h + b) 7 with
    | none => (false, X)
    | some x => inL o c s h key val k (b - (x.1 - x.2)) (hopX o c (h + b) (some x) X)
theorem inL_p {o c : Nat} {s : Int32} {h : Nat} {key val : Int32} {k b : Nat} {X : XS} (hb : b < 8) : inL o c s h key val (k + 1) b X = (true, plc o c h key val b X) := if_pos hb
theorem inL_n {o c : Nat} {s : Int32} {h : Nat} {key val : Int32} {k b : Nat} {X : XS} (hb : ¬ b < 8) (hq : hpD X.2.2.1 X.1 o c s (h + b) 7 = none) : inL o c s h key val (k + 1) b X = (false, X) := by
  simp only [inL, if_neg hb, hq]
theorem inL_s {o c : Nat} {s : Int32} {h : Nat} {key val : Int32} {k b : Nat} {X : XS} {x : Nat × Nat} (hb : ¬ b < 8) (hq : hpD X.2.2.1 X.1 o c s (h + b) 7 = some x) : inL o c s h key val (k + 1) b X = inL o c s h key val k (b - (x.1 - x.2)) (hopX o c (h + b) (some x) X) := by
  simp only [inL, if_neg hb, hq]
def ins (o c : Nat) (s key val : Int32) (X : XS) : Bool × XS := match stp X.2.2.1 o c (hom key s c) 0 c with
  | none => (false, X)
  | some b => inL o c s (hom key s c) key val c b X
theorem ins_n {o c : Nat} {s key val : Int32} {X : XS} (h : stp X.2.2.1 o c (hom key s c) 0 c = none) : ins o c s key val X = (false, X) := by
  simp only [ins, h]
theorem ins_s {o c : Nat} {s key val : Int32} {X : XS} {b : Nat} (h : stp X.2.2.1 o c (hom key s c) 0 c = some b) : ins o c s key val X = inL o c s (hom key s c) key val c b X := by
  simp only [ins, h]
def anw (o c : Nat) (s : Int32) : Nat → Nat → XS → Bool × XS
  | _, 0, X => (true, X)
  | i, n + 1, X => if X.2.2.1 i = true then
      (if (ins o c s (X.1 i) (X.2.1 i) X).1 = true then anw o c s (i + 1) n (ins o c s (X.1 i) (X.2.1 i) X).2 else (false, (ins o c s (X.1 i) (X.2.1 i) X).2))
    else anw o c s (i + 1) n X
/-- where the last part ends -/
def lastE (B P : Nat → Nat) : Nat := max (max (max 0 (B 0 + P 0)) (B 1 + P 1)) (B 2 + P 2)
theorem mxI {a b : Nat} (ha : a < 2 ^ 31) (hb : b < 2 ^ 31) : (if nI a < nI b then nI b else nI a) = nI (max a b) := by
  by_cases h : a < b
  · rw [if_pos (nI_lt h hb), Nat.max_eq_right (Nat.le_of_lt h)]
  · rw [if_neg (nI_nlt (Nat.not_lt.mp h) ha), Nat.max_eq_left (Nat.not_lt.mp h)]
/-- the lowest part from f on, among the first n -/
def lowS (B : Nat → Nat) (f : Nat) : Nat → Option Nat
  | 0 => none
  | i + 1 => match lowS B f i with
    | none => if f ≤ B i then some i else none
    | some j => if f ≤ B i ∧ B i < B j then some i else some j
theorem lowS_n {B : Nat → Nat} {f i : Nat} {r : Option Nat} (h : lowS B f i = r) (hn : ¬ f ≤ B i) : lowS B f (i + 1) = r := by
  show (match lowS B f i with | none => if f ≤ B i then some i else none | some j => if f ≤ B i ∧ B i < B j then some i else some j) = r
  rw [h]
  cases r with
  | none => exact if_neg hn
  | some j => exact if_neg (fun z => hn z.1)
theorem lowS_0 {B : Nat → Nat} {f i : Nat} (h : lowS B f i = none) (hn : f ≤ B i) : lowS B f (i + 1) = some i := by
  show (match lowS B f i with | none => if f ≤ B i then some i else none | some j => if f ≤ B i ∧ B i < B j then some i else some j) = some i
  rw [h]
  exact if_pos hn
theorem lowS_k {B : Nat → Nat} {f i j : Nat} (h : lowS B f i = some j) (hn : ¬ B i < B j) : lowS B f (i + 1) = some j := by
  show (match lowS B f i with | none => if f ≤ B i then some i else none | some j => if f ≤ B i ∧ B i < B j then some i else some j) = some j
  rw [h]
  exact if_neg (fun z => hn z.2)
theorem lowS_s {B : Nat → Nat} {f i j : Nat} (h : lowS B f i = some j) (hn : f ≤ B i) (h2 : B i < B j) : lowS B f (i + 1) = some i := by
  show (match lowS B f i with | none => if f ≤ B i then some i else none | some j => if f ≤ B i ∧ B i < B j then some i else some j) = some i
  rw [h]
  exact if_pos ⟨hn, h2⟩
def rQ (q : Nat → Nat) (r : Option Nat) : Value := match r with
  | some j => .ref (q j)
  | none => .null
def cpyI (f : IT) (b e : Nat) : Nat → IT
  | 0 => f
  | n + 1 => upd (cpyI f b e n) (e + n) (cpyI f b e n (b + n))
def cpyB (f : BT) (b e : Nat) : Nat → BT
  | 0 => f
  | n + 1 => va_up (cpyB f b e n) (e + n) (cpyB f b e n (b + n))
theorem sl_lt {o c x : Nat} (hc : pw c) (hb : o + c ≤ 256) : o + x % c < 256 := by
  have := md_lt (x := x) hc
  omega
def hopV (r : Option (Nat × Nat)) : Int32 := match r with
  | some x => nI (x.1 - x.2)
  | none => 0
theorem sub_md {f c x : Nat} (h : x ≤ f) : (f - x) % c = (f + c - x) % c := by
  rw [show f + c - x = (f - x) + c by omega, Nat.add_mod_right]
theorem hpD_s {T : BT} {K : IT} {o c : Nat} {s : Int32} {f d i : Nat} (h : hpI T K o c s ((f + c - (d + 1)) % c) 0 (d + 1) = some i) : hpD T K o c s f (d + 1) = some (d + 1, i) := by
  show (match hpI T K o c s ((f + c - (d + 1)) % c) 0 (d + 1) with | some i => some (d + 1, i) | none => hpD T K o c s f d) = _
  rw [h]
theorem hpD_n {T : BT} {K : IT} {o c : Nat} {s : Int32} {f d : Nat} (h : hpI T K o c s ((f + c - (d + 1)) % c) 0 (d + 1) = none) : hpD T K o c s f (d + 1) = hpD T K o c s f d := by
  show (match hpI T K o c s ((f + c - (d + 1)) % c) 0 (d + 1) with | some i => some (d + 1, i) | none => hpD T K o c s f d) = _
  rw [h]
theorem stp_lt {T : BT} {o c h : Nat} : ∀ (n i b : Nat), stp T o c h i n = some b → b < i + n := by
  intro n
  induction n with
  | zero =>
    intro i b hb
    cases hb
  | succ n ih =>
    intro i b hb
    have hb : (if T (o + (h + i) % c) = false then some i else stp T o c h (i + 1) n) = some b := hb
    by_cases hc : T (o + (h + i) % c) = false
    · rw [if_pos hc] at hb
      cases hb
      omega
    · rw [if_neg hc] at hb
      have := ih (i + 1) b hb
      omega
theorem hpI_lt {T : BT} {K : IT} {o c : Nat} {s : Int32} {h : Nat} : ∀ (n i b : Nat), hpI T K o c s h i n = some b → b < i + n := by
  intro n
  induction n with
  | zero =>
    intro i b hb
    cases hb
  | succ n ih =>
    intro i b hb
    have hb : (if bit T K o c s h i = true then some i else hpI T K o c s h (i + 1) n) = some b := hb
    by_cases hc : bit T K o c s h i = true
    · rw [if_pos hc] at hb
      cases hb
      omega
    · rw [if_neg hc] at hb
      have := ih (i + 1) b hb
      omega
theorem hpD_lt {T : BT} {K : IT} {o c : Nat} {s : Int32} {f : Nat} : ∀ (n d i : Nat), hpD T K o c s f n = some (d, i) → i < d ∧ d ≤ n := by
  intro n
  induction n with
  | zero =>
    intro d i h
    cases h
  | succ n ih =>
    intro d i h
    cases hq : hpI T K o c s ((f + c - (n + 1)) % c) 0 (n + 1) with
    | none =>
      rw [hpD_n hq] at h
      have := ih d i h
      omega
    | some x =>
      rw [hpD_s hq] at h
      cases h
      have := hpI_lt _ _ _ hq
      omega
theorem nI_m1 {b : Nat} (h : b < 2 ^ 31) : ¬ nI b = -1 := fun z => by
  have h1 := congrArg Int32.toInt z
  rw [nI_toInt h] at h1
  have h2 : ((-1 : Int32)).toInt = -1 := by decide
  omega
theorem anw_f {o c : Nat} {s : Int32} {i n : Nat} {X : XS} (h : X.2.2.1 i = false) : anw o c s i (n + 1) X = anw o c s (i + 1) n X := by
  show (if X.2.2.1 i = true then _ else _) = _
  rw [if_neg (by rw [h]; decide)]
theorem anw_t {o c : Nat} {s : Int32} {i n : Nat} {X : XS} (h : X.2.2.1 i = true) (h2 : (ins o c s (X.1 i) (X.2.1 i) X).1 = true) : anw o c s i (n + 1) X = anw o c s (i + 1) n (ins o c s (X.1 i) (X.2.1 i) X).2 := by
  show (if X.2.2.1 i = true then (if (ins o c s (X.1 i) (X.2.1 i) X).1 = true then _ else _) else _) = _
  rw [if_pos h, if_pos h2]
theorem anw_n {o c : Nat} {s : Int32} {i n : Nat} {X : XS} (h : X.2.2.1 i = true) (h2 : (ins o c s (X.1 i) (X.2.1 i) X).1 = false) : anw o c s i (n + 1) X = (false, (ins o c s (X.1 i) (X.2.1 i) X).2) := by
  show (if X.2.2.1 i = true then (if (ins o c s (X.1 i) (X.2.1 i) X).1 = true then _ else _) else _) = _
  rw [if_pos h, if_neg (by rw [h2]; decide)]
abbrev YS : Type := IT × IT × BT × (Nat → Nat)
def psh (P : Nat → Nat) : Nat → Nat → YS → YS
  | 0, _, Y => Y
  | n + 1, f, Y => match lowS Y.2.2.2 f 3 with
    | none => psh P n f Y
    | some r => psh P n (f + P r) (cpyI Y.1 (Y.2.2.2 r) f (P r), cpyI Y.2.1 (Y.2.2.2 r) f (P r), cpyB Y.2.2.1 (Y.2.2.2 r) f (P r), va_up Y.2.2.2 r f)
theorem psh_n {P : Nat → Nat} {n f : Nat} {Y : YS} (h : lowS Y.2.2.2 f 3 = none) : psh P (n + 1) f Y = psh P n f Y := by
  simp only [psh, h]
theorem psh_s {P : Nat → Nat} {n f r : Nat} {Y : YS} (h : lowS Y.2.2.2 f 3 = some r) : psh P (n + 1) f Y = psh P n (f + P r) (cpyI Y.1 (Y.2.2.2 r) f (P r), cpyI Y.2.1 (Y.2.2.2 r) f (P r), cpyB Y.2.2.1 (Y.2.2.2 r) f (P r), va_up Y.2.2.2 r f) := by
  simp only [psh, h]
theorem lowS_lt {B : Nat → Nat} {f : Nat} : ∀ (n r : Nat), lowS B f n = some r → r < n ∧ f ≤ B r := by
  intro n
  induction n with
  | zero =>
    intro r h
    cases h
  | succ n ih =>
    intro r h
    cases hq : lowS B f n with
    | none =>
      by_cases hf : f ≤ B n
      · rw [lowS_0 hq hf] at h
        cases h
        exact ⟨Nat.lt_succ_self _, hf⟩
      · rw [lowS_n hq hf] at h
        cases h
    | some j =>
      have hj := ih j hq
      by_cases hf : f ≤ B n
      · by_cases h2 : B n < B j
        · rw [lowS_s hq hf h2] at h
          cases h
          exact ⟨Nat.lt_succ_self _, hf⟩
        · rw [lowS_k hq h2] at h
          cases h
          exact ⟨Nat.lt_succ_of_lt hj.1, hj.2⟩
      · rw [lowS_n hq hf] at h
        cases h
        exact ⟨Nat.lt_succ_of_lt hj.1, hj.2⟩
theorem up_bd {B P : Nat → Nat} {r f : Nat} (h : ∀ i, i < 3 → B i + P i ≤ 256) (hf : f ≤ B r) (hr : r < 3) : ∀ i, i < 3 → (va_up B r f) i + P i ≤ 256 := by
  intro i hi
  unfold va_up
  by_cases e : i = r
  · rw [if_pos e, e]
    have := h r hr
    omega
  · rw [if_neg e]
    exact h i hi
end
section
/-! rows of mine over the kit: readers (the heap stays), writers (a world becomes another at the same addresses) -/
section HQA
variable {p : Program} {l : Launch} {e : Env} {R : Room} {s : State} {m : MethodId} {args : Array Value} {below : List Frame} {meth : Method} {c : Code} {H : Heap} {locs : List Loc} {cells slots : Nat} {Q : State → Prop}
variable {cc : ByteArray} {pc nL : Nat} {ls : Array Slot} {rest st0 : List Value} {D : va_G} {cl : List vw_C} {A : Nat → Prop} {H0 : Heap} {tys tc : List (ClassId × FieldType)} {ws wc w1 : va_W}
theorem lv_tope {x y : Int32} (h : x = y) (k : W p l e R s m args below meth c H locs cells slots Q (F0 m pc ls (.int y :: rest))) : W p l e R s m args below meth c H locs cells slots Q (F0 m pc ls (.int x :: rest)) := h ▸ k
theorem lv_topv {v v' : Value} (h : v = v') (k : W p l e R s m args below meth c H locs cells slots Q (F0 m pc ls (v' :: rest))) : W p l e R s m args below meth c H locs cells slots Q (F0 m pc ls (v :: rest)) := h ▸ k
def hq_R (v : Option Value) : Array Value → State → Outcome → State → Prop := fun _ st o t => o = .returned v ∧ t.heap = st.heap
def hq_no : Addr → Prop := fun _ => False
def hb_R (D : va_G) (cl : List vw_C) (ws : va_W) (tys : List (ClassId × FieldType)) (U : State) : Prop := va_P D cl ws U.heap ∧ va_K D cl tys U
theorem hq_nl : ∀ q ∈ ([] : List Loc), hq_no q.base := fun _ h => by cases h
theorem hr_call {a : Array Value} {v : Option Value} (hr : va_Run p l e R s m args below meth c H locs cells slots 0 0 (F0 m pc ls st0) rest (hq_R v a) hq_no) (kk : W p l e R s m args below meth c H locs cells slots Q (F0 m (pc + 3) ls (v.toList ++ rest))) : W p l e R s m args below meth c H locs cells slots Q (F0 m pc ls st0) := by
  intro T hT X
  obtain ⟨v', st₀, t, T', L, h0, X', hL, e1, e2, ⟨hv, hh⟩, st⟩ := hr T hT X
  cases hv
  obtain ⟨t2, a1, b1⟩ := kk T' (by rw [e1, hh, h0]) (Stand.forget (locs := locs) (extra := L) X' (fun q h => (hL q h).elim))
  exact ⟨t2, st t2 a1, b1⟩
theorem hb_blind {av : List Value} : FrameBlind (va_Pc av (hb_R D cl ws tys)) := fun a U g mk q => ⟨q.1, q.2.1, va_K.moved (u := U) (U := U.calling g mk a) (Vm.Alike.refl U.vm) q.2.2⟩
theorem hb_pre {C : String} {b : Addr} {As : List Value} (hP : va_P D cl ws H) (hK : va_K D cl tys s) (hrec : ∃ cellB : Cell, H[b]? = some cellB ∧ cellB.vm.isStatics = false ∧ s.vm.findClass C = some cellB.cls) : PreV s H C b (va_Pc (.ref b :: As) (hb_R D cl ws tys)) As :=
  ⟨hb_blind, hrec, fun U hU hW => ⟨rfl, by rw [hU]; exact hP, va_K.moved hW.alike hK⟩⟩
variable {y : MethodName} {bytes : ByteArray} {maxL mc ms n index : Nat} {ret : Option FieldType} {wy : List Cond} {rm : Room} {Ts : List Cond} {own C : String} {b : Addr} {As : List Value}
theorem hr_V {v : Option Value} (S : CallFix p m c cc nL s args Ts own) (hM : Met l y wy rm (va_Pc (.ref b :: As) (hb_R D cl wc tc)) (hq_R v) 0 0 hq_no) (cw : CallW R s args own C index y bytes maxL ret wy rm 0 0 n) (hP : va_P D cl wc H) (hK : va_K D cl tc s) (hrec : ∃ cellB : Cell, H[b]? = some cellB ∧ cellB.vm.isStatics = false ∧ s.vm.findClass C = some cellB.cls)
    (hn : As.length = n) (hsz : ls.size = nL) (hst : st0 = As.reverse ++ .ref b :: rest) (hrm : (rest.map fun v => v.category).sum ≤ 8) (hf : cells ≤ R.cells ∧ slots ≤ R.slots) (d : decode cc pc = .ok (.invokevirtual index, 3)) (kk : W p l e R s m args below meth c H locs cells slots Q (F0 m (pc + 3) ls (v.toList ++ rest))) : W p l e R s m args below meth c H locs cells slots Q (F0 m pc ls st0) :=
  hr_call (va_runV (As := As) (rest := rest) S hM cw (hb_pre hP hK hrec) rfl hn hsz hst (lv_room hrm) d hf) kk
def hA (ws : va_W) : Nat → Prop := fun q => ∃ (k : Nat) (e : va_E), ws[k]? = some (q, e)
def hq_W (v : Option Value) (D : va_G) (cl : List vw_C) (w1 : va_W) (A : Nat → Prop) : Array Value → State → Outcome → State → Prop := fun _ st o t => o = .returned v ∧ va_P D cl w1 t.heap ∧ va_F A st t
def hb_W (D : va_G) (cl : List vw_C) (ws : va_W) (tys : List (ClassId × FieldType)) (U : State) : Prop := va_P D cl ws U.heap ∧ va_K D cl tys U ∧ va_D (fun _ => True) ws
theorem hA_D {B : Nat → Prop} (h : va_D B ws) : va_D (hA ws) ws := ⟨h.1, fun k q hk => ⟨k, q.2, hk⟩⟩
theorem hA_sub (h : va_D A ws) : ∀ x, hA ws x → A x := fun _ hx => by
  obtain ⟨k, e, hk⟩ := hx
  exact h.2 k _ hk
theorem va_Das (h : va_D A ws) (e : ws.map (fun q => q.1) = w1.map (fun q => q.1)) : va_D A w1 := by
  have key : ∀ (k : Nat) (q : Nat × va_E), w1[k]? = some q → ∃ q0, ws[k]? = some q0 ∧ q0.1 = q.1 := by
    intro k q hk
    have h1 : (w1.map (fun q => q.1))[k]? = some q.1 := by rw [List.getElem?_map, hk]; rfl
    rw [← e, List.getElem?_map] at h1
    cases hq : ws[k]? with
    | none => rw [hq] at h1; cases h1
    | some q0 => rw [hq] at h1; exact ⟨q0, rfl, Option.some.inj h1⟩
  refine ⟨fun i j x y hi hj hxy => ?_, fun k q hk => ?_⟩
  · obtain ⟨x0, h1, h2⟩ := key i x hi
    obtain ⟨y0, h3, h4⟩ := key j y hj
    exact h.1 i j x0 y0 h1 h3 (h2.trans (hxy.trans h4.symm))
  · obtain ⟨q0, h1, h2⟩ := key k q hk
    rw [← h2]
    exact h.2 k q0 h1
theorem hA_as (e : ws.map (fun q => q.1) = w1.map (fun q => q.1)) : ∀ x, hA w1 x → hA ws x := fun x hx => by
  obtain ⟨k, e0, hk⟩ := hx
  have h1 : (w1.map (fun q => q.1))[k]? = some x := by rw [List.getElem?_map, hk]; rfl
  rw [← e, List.getElem?_map] at h1
  cases hq : ws[k]? with
  | none => rw [hq] at h1; cases h1
  | some q0 => rw [hq] at h1; exact ⟨k, q0.2, by rw [hq]; exact congrArg some (Prod.ext (Option.some.inj h1) rfl)⟩
theorem hb_blindW {av : List Value} : FrameBlind (va_Pc av (hb_W D cl ws tys)) := fun a U g mk q => ⟨q.1, q.2.1, va_K.moved (u := U) (U := U.calling g mk a) (Vm.Alike.refl U.vm) q.2.2.1, q.2.2.2⟩
theorem hb_preW {C : String} {b : Addr} {As : List Value} (hP : va_P D cl ws H) (hK : va_K D cl tys s) (hD : va_D A ws) (hrec : ∃ cellB : Cell, H[b]? = some cellB ∧ cellB.vm.isStatics = false ∧ s.vm.findClass C = some cellB.cls) : PreV s H C b (va_Pc (.ref b :: As) (hb_W D cl ws tys)) As :=
  ⟨hb_blindW, hrec, fun U hU hW => ⟨rfl, by rw [hU]; exact hP, va_K.moved hW.alike hK, hD.weaken (fun _ _ _ _ => trivial)⟩⟩
theorem hw_call {a : Array Value} {v : Option Value} (hr : va_Run p l e R s m args below meth c H locs cells slots 0 0 (F0 m pc ls st0) rest (hq_W v D cl w1 (hA wc) a) (hA wc)) (hS : va_S A H0 H locs) (hsub : ∀ x, hA wc x → A x)
    (kk : ∀ (H1 : Heap) (locs1 : List Loc), va_P D cl w1 H1 → (∀ q : Nat, q < H.size → ¬ hA wc q → H1[q]? = H[q]?) → va_S A H0 H1 locs1 → W p l e R s m args below meth c H1 locs1 cells slots Q (F0 m (pc + 3) ls (v.toList ++ rest))) : W p l e R s m args below meth c H locs cells slots Q (F0 m pc ls st0) := by
  intro T hT X
  obtain ⟨v', st₀, t, T', L, h0, X', hL, e1, e2, ⟨hv, hp, hz, hk⟩, st⟩ := hr T hT X
  cases hv
  rw [h0] at hz hk
  obtain ⟨t2, a1, b1⟩ := kk T'.heap (locs ++ L) (by rw [e1]; exact hp) (fun q h1 h2 => by rw [e1]; exact hk q h1 h2)
    ⟨Nat.le_trans hS.1 (by rw [e1]; exact hz), fun q h1 h2 => by rw [e1, hk q (Nat.lt_of_lt_of_le h1 hS.1) (fun z => h2 (hsub q z))]; exact hS.2.1 q h1 h2, fun q hq => by
      rcases List.mem_append.mp hq with h | h
      · exact hS.2.2 q h
      · exact hsub _ (hL q h)⟩ T' rfl X'
  exact ⟨t2, st t2 a1, b1⟩
theorem hw_V {v : Option Value} (S : CallFix p m c cc nL s args Ts own) (hM : Met l y wy rm (va_Pc (.ref b :: As) (hb_W D cl ws tys)) (hq_W v D cl w1 (hA ws)) 0 0 (hA ws)) (cw : CallW R s args own C index y bytes maxL ret wy rm 0 0 n) (hP : va_P D cl ws H) (hK : va_K D cl tys s) (hD : va_D A ws) (hS : va_S A H0 H locs) (he : ws.map (fun q => q.1) = w1.map (fun q => q.1)) (hrec : ∃ cellB : Cell, H[b]? = some cellB ∧ cellB.vm.isStatics = false ∧ s.vm.findClass C = some cellB.cls)
    (hn : As.length = n) (hsz : ls.size = nL) (hst : st0 = As.reverse ++ .ref b :: rest) (hrm : (rest.map fun v => v.category).sum ≤ 8) (hf : cells ≤ R.cells ∧ slots ≤ R.slots) (d : decode cc pc = .ok (.invokevirtual index, 3))
    (kk : ∀ (H1 : Heap) (locs1 : List Loc), va_P D cl w1 H1 → va_D A w1 → va_S A H0 H1 locs1 → W p l e R s m args below meth c H1 locs1 cells slots Q (F0 m (pc + 3) ls (v.toList ++ rest))) : W p l e R s m args below meth c H locs cells slots Q (F0 m pc ls st0) :=
  hw_call (va_runV (As := As) (rest := rest) S hM cw (hb_preW hP hK hD hrec) rfl hn hsz hst (lv_room hrm) d hf) hS (hA_sub hD) (fun H1 locs1 h1 _ h2 => kk H1 locs1 h1 (va_Das hD he) h2)
end HQA
section HQB
variable {p : Program} {l : Launch} {e : Env} {R : Room} {s : State} {m : MethodId} {args : Array Value} {below : List Frame} {meth : Method} {c : Code} {H : Heap} {locs : List Loc} {cells slots : Nat} {Q : State → Prop}
variable {cc : ByteArray} {pc : Nat} {ls : Array Slot} {rest : List Value}
theorem lvT_if_eq (hexec : p.tables.exec = Jvm.exec) (hb : c.code = cc) {x : Int32} {off : Int} {tgt : Nat} (hdg : decode cc pc = .ok (.ifCond .eq off, 3)) (ht : (pc : Int) + off = (tgt : Int)) (h : x = 0) (k : W p l e R s m args below meth c H locs cells slots Q (F0 m tgt ls rest)) : W p l e R s m args below meth c H locs cells slots Q (F0 m pc ls (.int x :: rest)) := lv_if_eq hexec hb hdg ht (fun _ => k) (fun z => absurd h z)
theorem lvF_if_eq (hexec : p.tables.exec = Jvm.exec) (hb : c.code = cc) {x : Int32} {off : Int} {tgt : Nat} (hdg : decode cc pc = .ok (.ifCond .eq off, 3)) (ht : (pc : Int) + off = (tgt : Int)) (h : ¬ (x = 0)) (k : W p l e R s m args below meth c H locs cells slots Q (F0 m (pc + 3) ls rest)) : W p l e R s m args below meth c H locs cells slots Q (F0 m pc ls (.int x :: rest)) := lv_if_eq hexec hb hdg ht (fun z => absurd z h) (fun _ => k)
theorem lvT_if_ne (hexec : p.tables.exec = Jvm.exec) (hb : c.code = cc) {x : Int32} {off : Int} {tgt : Nat} (hdg : decode cc pc = .ok (.ifCond .ne off, 3)) (ht : (pc : Int) + off = (tgt : Int)) (h : ¬ x = 0) (k : W p l e R s m args below meth c H locs cells slots Q (F0 m tgt ls rest)) : W p l e R s m args below meth c H locs cells slots Q (F0 m pc ls (.int x :: rest)) := lv_if_ne hexec hb hdg ht (fun _ => k) (fun z => absurd z h)
theorem lvF_if_ne (hexec : p.tables.exec = Jvm.exec) (hb : c.code = cc) {x : Int32} {off : Int} {tgt : Nat} (hdg : decode cc pc = .ok (.ifCond .ne off, 3)) (ht : (pc : Int) + off = (tgt : Int)) (h : x = 0) (k : W p l e R s m args below meth c H locs cells slots Q (F0 m (pc + 3) ls rest)) : W p l e R s m args below meth c H locs cells slots Q (F0 m pc ls (.int x :: rest)) := lv_if_ne hexec hb hdg ht (fun z => absurd h z) (fun _ => k)
theorem lvT_if_lt (hexec : p.tables.exec = Jvm.exec) (hb : c.code = cc) {x : Int32} {off : Int} {tgt : Nat} (hdg : decode cc pc = .ok (.ifCond .lt off, 3)) (ht : (pc : Int) + off = (tgt : Int)) (h : x < 0) (k : W p l e R s m args below meth c H locs cells slots Q (F0 m tgt ls rest)) : W p l e R s m args below meth c H locs cells slots Q (F0 m pc ls (.int x :: rest)) := lv_if_lt hexec hb hdg ht (fun _ => k) (fun z => absurd h z)
theorem lvF_if_lt (hexec : p.tables.exec = Jvm.exec) (hb : c.code = cc) {x : Int32} {off : Int} {tgt : Nat} (hdg : decode cc pc = .ok (.ifCond .lt off, 3)) (ht : (pc : Int) + off = (tgt : Int)) (h : ¬ (x < 0)) (k : W p l e R s m args below meth c H locs cells slots Q (F0 m (pc + 3) ls rest)) : W p l e R s m args below meth c H locs cells slots Q (F0 m pc ls (.int x :: rest)) := lv_if_lt hexec hb hdg ht (fun z => absurd z h) (fun _ => k)
theorem lvT_if_ge (hexec : p.tables.exec = Jvm.exec) (hb : c.code = cc) {x : Int32} {off : Int} {tgt : Nat} (hdg : decode cc pc = .ok (.ifCond .ge off, 3)) (ht : (pc : Int) + off = (tgt : Int)) (h : 0 ≤ x) (k : W p l e R s m args below meth c H locs cells slots Q (F0 m tgt ls rest)) : W p l e R s m args below meth c H locs cells slots Q (F0 m pc ls (.int x :: rest)) := lv_if_ge hexec hb hdg ht (fun _ => k) (fun z => absurd h z)
theorem lvF_if_ge (hexec : p.tables.exec = Jvm.exec) (hb : c.code = cc) {x : Int32} {off : Int} {tgt : Nat} (hdg : decode cc pc = .ok (.ifCond .ge off, 3)) (ht : (pc : Int) + off = (tgt : Int)) (h : ¬ (0 ≤ x)) (k : W p l e R s m args below meth c H locs cells slots Q (F0 m (pc + 3) ls rest)) : W p l e R s m args below meth c H locs cells slots Q (F0 m pc ls (.int x :: rest)) := lv_if_ge hexec hb hdg ht (fun z => absurd z h) (fun _ => k)
theorem lvT_if_gt (hexec : p.tables.exec = Jvm.exec) (hb : c.code = cc) {x : Int32} {off : Int} {tgt : Nat} (hdg : decode cc pc = .ok (.ifCond .gt off, 3)) (ht : (pc : Int) + off = (tgt : Int)) (h : 0 < x) (k : W p l e R s m args below meth c H locs cells slots Q (F0 m tgt ls rest)) : W p l e R s m args below meth c H locs cells slots Q (F0 m pc ls (.int x :: rest)) := lv_if_gt hexec hb hdg ht (fun _ => k) (fun z => absurd h z)
theorem lvF_if_gt (hexec : p.tables.exec = Jvm.exec) (hb : c.code = cc) {x : Int32} {off : Int} {tgt : Nat} (hdg : decode cc pc = .ok (.ifCond .gt off, 3)) (ht : (pc : Int) + off = (tgt : Int)) (h : ¬ (0 < x)) (k : W p l e R s m args below meth c H locs cells slots Q (F0 m (pc + 3) ls rest)) : W p l e R s m args below meth c H locs cells slots Q (F0 m pc ls (.int x :: rest)) := lv_if_gt hexec hb hdg ht (fun z => absurd z h) (fun _ => k)
theorem lvT_if_le (hexec : p.tables.exec = Jvm.exec) (hb : c.code = cc) {x : Int32} {off : Int} {tgt : Nat} (hdg : decode cc pc = .ok (.ifCond .le off, 3)) (ht : (pc : Int) + off = (tgt : Int)) (h : x ≤ 0) (k : W p l e R s m args below meth c H locs cells slots Q (F0 m tgt ls rest)) : W p l e R s m args below meth c H locs cells slots Q (F0 m pc ls (.int x :: rest)) := lv_if_le hexec hb hdg ht (fun _ => k) (fun z => absurd h z)
theorem lvF_if_le (hexec : p.tables.exec = Jvm.exec) (hb : c.code = cc) {x : Int32} {off : Int} {tgt : Nat} (hdg : decode cc pc = .ok (.ifCond .le off, 3)) (ht : (pc : Int) + off = (tgt : Int)) (h : ¬ (x ≤ 0)) (k : W p l e R s m args below meth c H locs cells slots Q (F0 m (pc + 3) ls rest)) : W p l e R s m args below meth c H locs cells slots Q (F0 m pc ls (.int x :: rest)) := lv_if_le hexec hb hdg ht (fun z => absurd z h) (fun _ => k)
theorem lvT_icmp_eq (hexec : p.tables.exec = Jvm.exec) (hb : c.code = cc) {x y : Int32} {off : Int} {tgt : Nat} (hdg : decode cc pc = .ok (.if_icmp .eq off, 3)) (ht : (pc : Int) + off = (tgt : Int)) (h : x = y) (k : W p l e R s m args below meth c H locs cells slots Q (F0 m tgt ls rest)) : W p l e R s m args below meth c H locs cells slots Q (F0 m pc ls (.int y :: .int x :: rest)) := lv_icmp_eq hexec hb hdg ht (fun _ => k) (fun z => absurd h z)
theorem lvF_icmp_eq (hexec : p.tables.exec = Jvm.exec) (hb : c.code = cc) {x y : Int32} {off : Int} {tgt : Nat} (hdg : decode cc pc = .ok (.if_icmp .eq off, 3)) (ht : (pc : Int) + off = (tgt : Int)) (h : ¬ (x = y)) (k : W p l e R s m args below meth c H locs cells slots Q (F0 m (pc + 3) ls rest)) : W p l e R s m args below meth c H locs cells slots Q (F0 m pc ls (.int y :: .int x :: rest)) := lv_icmp_eq hexec hb hdg ht (fun z => absurd z h) (fun _ => k)
theorem lvT_icmp_ne (hexec : p.tables.exec = Jvm.exec) (hb : c.code = cc) {x y : Int32} {off : Int} {tgt : Nat} (hdg : decode cc pc = .ok (.if_icmp .ne off, 3)) (ht : (pc : Int) + off = (tgt : Int)) (h : ¬ x = y) (k : W p l e R s m args below meth c H locs cells slots Q (F0 m tgt ls rest)) : W p l e R s m args below meth c H locs cells slots Q (F0 m pc ls (.int y :: .int x :: rest)) := lv_icmp_ne hexec hb hdg ht (fun _ => k) (fun z => absurd z h)
theorem lvF_icmp_ne (hexec : p.tables.exec = Jvm.exec) (hb : c.code = cc) {x y : Int32} {off : Int} {tgt : Nat} (hdg : decode cc pc = .ok (.if_icmp .ne off, 3)) (ht : (pc : Int) + off = (tgt : Int)) (h : x = y) (k : W p l e R s m args below meth c H locs cells slots Q (F0 m (pc + 3) ls rest)) : W p l e R s m args below meth c H locs cells slots Q (F0 m pc ls (.int y :: .int x :: rest)) := lv_icmp_ne hexec hb hdg ht (fun z => absurd h z) (fun _ => k)
theorem lvT_icmp_lt (hexec : p.tables.exec = Jvm.exec) (hb : c.code = cc) {x y : Int32} {off : Int} {tgt : Nat} (hdg : decode cc pc = .ok (.if_icmp .lt off, 3)) (ht : (pc : Int) + off = (tgt : Int)) (h : x < y) (k : W p l e R s m args below meth c H locs cells slots Q (F0 m tgt ls rest)) : W p l e R s m args below meth c H locs cells slots Q (F0 m pc ls (.int y :: .int x :: rest)) := lv_icmp_lt hexec hb hdg ht (fun _ => k) (fun z => absurd h z)
theorem lvF_icmp_lt (hexec : p.tables.exec = Jvm.exec) (hb : c.code = cc) {x y : Int32} {off : Int} {tgt : Nat} (hdg : decode cc pc = .ok (.if_icmp .lt off, 3)) (ht : (pc : Int) + off = (tgt : Int)) (h : ¬ (x < y)) (k : W p l e R s m args below meth c H locs cells slots Q (F0 m (pc + 3) ls rest)) : W p l e R s m args below meth c H locs cells slots Q (F0 m pc ls (.int y :: .int x :: rest)) := lv_icmp_lt hexec hb hdg ht (fun z => absurd z h) (fun _ => k)
theorem lvT_icmp_ge (hexec : p.tables.exec = Jvm.exec) (hb : c.code = cc) {x y : Int32} {off : Int} {tgt : Nat} (hdg : decode cc pc = .ok (.if_icmp .ge off, 3)) (ht : (pc : Int) + off = (tgt : Int)) (h : y ≤ x) (k : W p l e R s m args below meth c H locs cells slots Q (F0 m tgt ls rest)) : W p l e R s m args below meth c H locs cells slots Q (F0 m pc ls (.int y :: .int x :: rest)) := lv_icmp_ge hexec hb hdg ht (fun _ => k) (fun z => absurd h z)
theorem lvF_icmp_ge (hexec : p.tables.exec = Jvm.exec) (hb : c.code = cc) {x y : Int32} {off : Int} {tgt : Nat} (hdg : decode cc pc = .ok (.if_icmp .ge off, 3)) (ht : (pc : Int) + off = (tgt : Int)) (h : ¬ (y ≤ x)) (k : W p l e R s m args below meth c H locs cells slots Q (F0 m (pc + 3) ls rest)) : W p l e R s m args below meth c H locs cells slots Q (F0 m pc ls (.int y :: .int x :: rest)) := lv_icmp_ge hexec hb hdg ht (fun z => absurd z h) (fun _ => k)
theorem lvT_icmp_gt (hexec : p.tables.exec = Jvm.exec) (hb : c.code = cc) {x y : Int32} {off : Int} {tgt : Nat} (hdg : decode cc pc = .ok (.if_icmp .gt off, 3)) (ht : (pc : Int) + off = (tgt : Int)) (h : y < x) (k : W p l e R s m args below meth c H locs cells slots Q (F0 m tgt ls rest)) : W p l e R s m args below meth c H locs cells slots Q (F0 m pc ls (.int y :: .int x :: rest)) := lv_icmp_gt hexec hb hdg ht (fun _ => k) (fun z => absurd h z)
theorem lvF_icmp_gt (hexec : p.tables.exec = Jvm.exec) (hb : c.code = cc) {x y : Int32} {off : Int} {tgt : Nat} (hdg : decode cc pc = .ok (.if_icmp .gt off, 3)) (ht : (pc : Int) + off = (tgt : Int)) (h : ¬ (y < x)) (k : W p l e R s m args below meth c H locs cells slots Q (F0 m (pc + 3) ls rest)) : W p l e R s m args below meth c H locs cells slots Q (F0 m pc ls (.int y :: .int x :: rest)) := lv_icmp_gt hexec hb hdg ht (fun z => absurd z h) (fun _ => k)
theorem lvT_icmp_le (hexec : p.tables.exec = Jvm.exec) (hb : c.code = cc) {x y : Int32} {off : Int} {tgt : Nat} (hdg : decode cc pc = .ok (.if_icmp .le off, 3)) (ht : (pc : Int) + off = (tgt : Int)) (h : x ≤ y) (k : W p l e R s m args below meth c H locs cells slots Q (F0 m tgt ls rest)) : W p l e R s m args below meth c H locs cells slots Q (F0 m pc ls (.int y :: .int x :: rest)) := lv_icmp_le hexec hb hdg ht (fun _ => k) (fun z => absurd h z)
theorem lvF_icmp_le (hexec : p.tables.exec = Jvm.exec) (hb : c.code = cc) {x y : Int32} {off : Int} {tgt : Nat} (hdg : decode cc pc = .ok (.if_icmp .le off, 3)) (ht : (pc : Int) + off = (tgt : Int)) (h : ¬ (x ≤ y)) (k : W p l e R s m args below meth c H locs cells slots Q (F0 m (pc + 3) ls rest)) : W p l e R s m args below meth c H locs cells slots Q (F0 m pc ls (.int y :: .int x :: rest)) := lv_icmp_le hexec hb hdg ht (fun z => absurd z h) (fun _ => k)
end HQB
end
section
/-! the class: its cells, its words -/
abbrev pt (b c : Nat) (sd : Int32) : va_E := .inr (1, [.int (nI b), .int (nI c), .int sd])
def pA (q : Nat → Nat) : Nat → Option Nat := fun i => if i < 3 then some (q i) else none
def wH (ca a q : Nat → Nat) (K V : IT) (T : BT) (C : IT) (B P : Nat → Nat) (S : IT) : va_W :=
  [(a 0, .inr (0, [.ref (a 1), .ref (a 2), .ref (a 3), .ref (a 4), .ref (a 5), .ref (q 3)])), (a 1, .inl (ca 1, 256, .inl K)), (a 2, .inl (ca 2, 256, .inl V)), (a 3, .inl (ca 3, 256, .inl (fun i => bI (T i)))), (a 4, .inl (ca 4, 3, .inr (.inr (.inr (.inr (pA q)))))), (a 5, .inl (ca 5, 3, .inl C)),
   (q 0, pt (B 0) (P 0) (S 0)), (q 1, pt (B 1) (P 1) (S 1)), (q 2, pt (B 2) (P 2) (S 2)), (q 3, pt (B 3) (P 3) (S 3))]
def tyH (ca : Nat → Nat) : List (ClassId × FieldType) := [(ca 1, .int), (ca 2, .int), (ca 3, .boolean), (ca 4, .object R_Part), (ca 5, .int)]
theorem wH_p {ca a q : Nat → Nat} {K V : IT} {T : BT} {C : IT} {B P : Nat → Nat} {S : IT} {j : Nat} (hj : j < 4) : (wH ca a q K V T C B P S)[6 + j]? = some (q j, pt (B j) (P j) (S j)) := by
  rcases (show j = 0 ∨ j = 1 ∨ j = 2 ∨ j = 3 by omega) with rfl | rfl | rfl | rfl <;> rfl
theorem wH_a {ca a q : Nat → Nat} {K V : IT} {T : BT} {C : IT} {B P : Nat → Nat} {S : IT} {K' V' : IT} {T' : BT} {C' : IT} {B' P' : Nat → Nat} {S' : IT} : (wH ca a q K V T C B P S).map (fun x => x.1) = (wH ca a q K' V' T' C' B' P' S').map (fun x => x.1) := rfl
def rmD (d mc ms : Nat) : Room := { frames := d, cells := mc, slots := ms, locals := 30 * d }
section HWA
variable {p : Program} {l : Launch} {e : Env} {R : Room} {s : State} {m : MethodId} {args : Array Value} {below : List Frame} {meth : Method} {c : Code} {H : Heap} {locs : List Loc} {cells slots : Nat} {Q : State → Prop}
variable {cc : ByteArray} {pc nL : Nat} {ls : Array Slot} {rest st0 : List Value} {D : va_G} {A : Nat → Prop} {H0 : Heap} {tys : List (ClassId × FieldType)} {ca a q : Nat → Nat} {K V : IT} {T : BT} {C : IT} {B P : Nat → Nat} {S : IT}
theorem hg_keys (X : CallFix p m c cc nL s args wsA R_Hop) (hK : va_K D hCl (tyH ca) s) (hP : va_P D hCl (wH ca a q K V T C B P S) H) (d : decode cc pc = .ok (.getfield 9, 3)) (k : W p l e R s m args below meth c H locs cells slots Q (F0 m (pc + 3) ls (.ref (a 1) :: rest))) : W p l e R s m args below meth c H locs cells slots Q (F0 m pc ls (.ref (a 0) :: rest)) :=
  va_get (D := D) (ci := 0) (v := .ref (a 1)) (C := R_Hop) (T := F_Hop) (N := 6) X.1 X.2.1 X.2.2.2.2 hin_Hop X.2.2.2.1 hK hP 0 rfl rfl 0 (by decide) (X.2.2.2.2 (.fieldLink R_Hop 9 "HopArena" "keys" "[I") m_81) (fun _ h9 => h9) rfl d k
theorem hg_values (X : CallFix p m c cc nL s args wsA R_Hop) (hK : va_K D hCl (tyH ca) s) (hP : va_P D hCl (wH ca a q K V T C B P S) H) (d : decode cc pc = .ok (.getfield 13, 3)) (k : W p l e R s m args below meth c H locs cells slots Q (F0 m (pc + 3) ls (.ref (a 2) :: rest))) : W p l e R s m args below meth c H locs cells slots Q (F0 m pc ls (.ref (a 0) :: rest)) :=
  va_get (D := D) (ci := 0) (v := .ref (a 2)) (C := R_Hop) (T := F_Hop) (N := 6) X.1 X.2.1 X.2.2.2.2 hin_Hop X.2.2.2.1 hK hP 0 rfl rfl 1 (by decide) (X.2.2.2.2 (.fieldLink R_Hop 13 "HopArena" "values" "[I") m_82) (fun _ h9 => h9) rfl d k
theorem hg_taken (X : CallFix p m c cc nL s args wsA R_Hop) (hK : va_K D hCl (tyH ca) s) (hP : va_P D hCl (wH ca a q K V T C B P S) H) (d : decode cc pc = .ok (.getfield 16, 3)) (k : W p l e R s m args below meth c H locs cells slots Q (F0 m (pc + 3) ls (.ref (a 3) :: rest))) : W p l e R s m args below meth c H locs cells slots Q (F0 m pc ls (.ref (a 0) :: rest)) :=
  va_get (D := D) (ci := 0) (v := .ref (a 3)) (C := R_Hop) (T := F_Hop) (N := 6) X.1 X.2.1 X.2.2.2.2 hin_Hop X.2.2.2.1 hK hP 0 rfl rfl 2 (by decide) (X.2.2.2.2 (.fieldLink R_Hop 16 "HopArena" "taken" "[Z") m_83) (fun _ h9 => h9) rfl d k
theorem hg_parts (X : CallFix p m c cc nL s args wsA R_Hop) (hK : va_K D hCl (tyH ca) s) (hP : va_P D hCl (wH ca a q K V T C B P S) H) (d : decode cc pc = .ok (.getfield 25, 3)) (k : W p l e R s m args below meth c H locs cells slots Q (F0 m (pc + 3) ls (.ref (a 4) :: rest))) : W p l e R s m args below meth c H locs cells slots Q (F0 m pc ls (.ref (a 0) :: rest)) :=
  va_get (D := D) (ci := 0) (v := .ref (a 4)) (C := R_Hop) (T := F_Hop) (N := 6) X.1 X.2.1 X.2.2.2.2 hin_Hop X.2.2.2.1 hK hP 0 rfl rfl 3 (by decide) (X.2.2.2.2 (.fieldLink R_Hop 25 "HopArena" "parts" "[LHopArena$Part;") m_84) (fun _ h9 => h9) rfl d k
theorem hg_counts (X : CallFix p m c cc nL s args wsA R_Hop) (hK : va_K D hCl (tyH ca) s) (hP : va_P D hCl (wH ca a q K V T C B P S) H) (d : decode cc pc = .ok (.getfield 20, 3)) (k : W p l e R s m args below meth c H locs cells slots Q (F0 m (pc + 3) ls (.ref (a 5) :: rest))) : W p l e R s m args below meth c H locs cells slots Q (F0 m pc ls (.ref (a 0) :: rest)) :=
  va_get (D := D) (ci := 0) (v := .ref (a 5)) (C := R_Hop) (T := F_Hop) (N := 6) X.1 X.2.1 X.2.2.2.2 hin_Hop X.2.2.2.1 hK hP 0 rfl rfl 4 (by decide) (X.2.2.2.2 (.fieldLink R_Hop 20 "HopArena" "counts" "[I") m_85) (fun _ h9 => h9) rfl d k
theorem hg_spare (X : CallFix p m c cc nL s args wsA R_Hop) (hK : va_K D hCl (tyH ca) s) (hP : va_P D hCl (wH ca a q K V T C B P S) H) (d : decode cc pc = .ok (.getfield 32, 3)) (k : W p l e R s m args below meth c H locs cells slots Q (F0 m (pc + 3) ls (.ref (q 3) :: rest))) : W p l e R s m args below meth c H locs cells slots Q (F0 m pc ls (.ref (a 0) :: rest)) :=
  va_get (D := D) (ci := 0) (v := .ref (q 3)) (C := R_Hop) (T := F_Hop) (N := 6) X.1 X.2.1 X.2.2.2.2 hin_Hop X.2.2.2.1 hK hP 0 rfl rfl 5 (by decide) (X.2.2.2.2 (.fieldLink R_Hop 32 "HopArena" "spare" "LHopArena$Part;") m_86) (fun _ h9 => h9) rfl d k
theorem hg_base (X : CallFix p m c cc nL s args wsA R_Hop) (hK : va_K D hCl (tyH ca) s) (hP : va_P D hCl (wH ca a q K V T C B P S) H) {j : Nat} (hj : j < 4) (d : decode cc pc = .ok (.getfield 74, 3)) (k : W p l e R s m args below meth c H locs cells slots Q (F0 m (pc + 3) ls (.int (nI (B j)) :: rest))) : W p l e R s m args below meth c H locs cells slots Q (F0 m pc ls (.ref (q j) :: rest)) :=
  va_get (D := D) (ci := 1) (v := .int (nI (B j))) (C := R_Part) (T := F_Part) (N := 3) X.1 X.2.1 X.2.2.2.2 hin_Part X.2.2.2.1 hK hP (6 + j) (wH_p hj) rfl 0 (by decide) (X.2.2.2.2 (.fieldLink R_Hop 74 "HopArena$Part" "base" "I") m_67) (fun _ h9 => h9) rfl d k
theorem hg_capacity (X : CallFix p m c cc nL s args wsA R_Hop) (hK : va_K D hCl (tyH ca) s) (hP : va_P D hCl (wH ca a q K V T C B P S) H) {j : Nat} (hj : j < 4) (d : decode cc pc = .ok (.getfield 66, 3)) (k : W p l e R s m args below meth c H locs cells slots Q (F0 m (pc + 3) ls (.int (nI (P j)) :: rest))) : W p l e R s m args below meth c H locs cells slots Q (F0 m pc ls (.ref (q j) :: rest)) :=
  va_get (D := D) (ci := 1) (v := .int (nI (P j))) (C := R_Part) (T := F_Part) (N := 3) X.1 X.2.1 X.2.2.2.2 hin_Part X.2.2.2.1 hK hP (6 + j) (wH_p hj) rfl 1 (by decide) (X.2.2.2.2 (.fieldLink R_Hop 66 "HopArena$Part" "capacity" "I") m_69) (fun _ h9 => h9) rfl d k
theorem hg_seed (X : CallFix p m c cc nL s args wsA R_Hop) (hK : va_K D hCl (tyH ca) s) (hP : va_P D hCl (wH ca a q K V T C B P S) H) {j : Nat} (hj : j < 4) (d : decode cc pc = .ok (.getfield 77, 3)) (k : W p l e R s m args below meth c H locs cells slots Q (F0 m (pc + 3) ls (.int (S j) :: rest))) : W p l e R s m args below meth c H locs cells slots Q (F0 m pc ls (.ref (q j) :: rest)) :=
  va_get (D := D) (ci := 1) (v := .int (S j)) (C := R_Part) (T := F_Part) (N := 3) X.1 X.2.1 X.2.2.2.2 hin_Part X.2.2.2.1 hK hP (6 + j) (wH_p hj) rfl 2 (by decide) (X.2.2.2.2 (.fieldLink R_Hop 77 "HopArena$Part" "seed" "I") m_71) (fun _ h9 => h9) rfl d k
theorem hl_K (X : CallFix p m c cc nL s args wsA R_Hop) (hK : va_K D hCl (tyH ca) s) (hP : va_P D hCl (wH ca a q K V T C B P S) H) {i : Nat} (hi : i < 256) (d : decode cc pc = .ok (.iaload, 1)) (k : W p l e R s m args below meth c H locs cells slots Q (F0 m (pc + 1) ls (.int (K i) :: rest))) : W p l e R s m args below meth c H locs cells slots Q (F0 m pc ls (.int (nI i) :: .ref (a 1) :: rest)) :=
  va_iald X.1 X.2.1 hK hP 1 0 rfl rfl (vp_in_nI hi (by decide)) d (by rw [nI_clamp (by omega)]; exact k)
theorem hl_V (X : CallFix p m c cc nL s args wsA R_Hop) (hK : va_K D hCl (tyH ca) s) (hP : va_P D hCl (wH ca a q K V T C B P S) H) {i : Nat} (hi : i < 256) (d : decode cc pc = .ok (.iaload, 1)) (k : W p l e R s m args below meth c H locs cells slots Q (F0 m (pc + 1) ls (.int (V i) :: rest))) : W p l e R s m args below meth c H locs cells slots Q (F0 m pc ls (.int (nI i) :: .ref (a 2) :: rest)) :=
  va_iald X.1 X.2.1 hK hP 2 1 rfl rfl (vp_in_nI hi (by decide)) d (by rw [nI_clamp (by omega)]; exact k)
theorem hl_T (X : CallFix p m c cc nL s args wsA R_Hop) (hK : va_K D hCl (tyH ca) s) (hP : va_P D hCl (wH ca a q K V T C B P S) H) {i : Nat} (hi : i < 256) (d : decode cc pc = .ok (.baload, 1)) (k : W p l e R s m args below meth c H locs cells slots Q (F0 m (pc + 1) ls (.int (bI (T i)) :: rest))) : W p l e R s m args below meth c H locs cells slots Q (F0 m pc ls (.int (nI i) :: .ref (a 3) :: rest)) :=
  va_zald X.1 X.2.1 hK hP 3 2 rfl rfl (vp_in_nI hi (by decide)) d (by rw [nI_clamp (by omega)]; exact k)
theorem hl_C (X : CallFix p m c cc nL s args wsA R_Hop) (hK : va_K D hCl (tyH ca) s) (hP : va_P D hCl (wH ca a q K V T C B P S) H) {i : Nat} (hi : i < 3) (d : decode cc pc = .ok (.iaload, 1)) (k : W p l e R s m args below meth c H locs cells slots Q (F0 m (pc + 1) ls (.int (C i) :: rest))) : W p l e R s m args below meth c H locs cells slots Q (F0 m pc ls (.int (nI i) :: .ref (a 5) :: rest)) :=
  va_iald X.1 X.2.1 hK hP 5 4 rfl rfl (vp_in_nI hi (by decide)) d (by rw [nI_clamp (by omega)]; exact k)
theorem hl_P (X : CallFix p m c cc nL s args wsA R_Hop) (hK : va_K D hCl (tyH ca) s) (hP : va_P D hCl (wH ca a q K V T C B P S) H) {i : Nat} (hi : i < 3) (d : decode cc pc = .ok (.aaload, 1)) (k : W p l e R s m args below meth c H locs cells slots Q (F0 m (pc + 1) ls (.ref (q i) :: rest))) : W p l e R s m args below meth c H locs cells slots Q (F0 m pc ls (.int (nI i) :: .ref (a 4) :: rest)) :=
  va_aldq (C := R_Part) X.1 X.2.1 hK hP 4 3 rfl rfl (vp_in_nI hi (by decide)) d (by rw [nI_clamp (by omega), show pA q i = some (q i) from if_pos hi]; exact k)
theorem hs_K (X : CallFix p m c cc nL s args wsA R_Hop) (hK : va_K D hCl (tyH ca) s) (hP : va_P D hCl (wH ca a q K V T C B P S) H) (hD : va_D A (wH ca a q K V T C B P S)) (hS : va_S A H0 H locs) {i : Nat} {x : Int32} (hi : i < 256) (d : decode cc pc = .ok (.iastore, 1)) (k : ∀ (H1 : Heap) (locs1 : List Loc), va_P D hCl (wH ca a q (upd K i x) V T C B P S) H1 → va_D A (wH ca a q (upd K i x) V T C B P S) → va_S A H0 H1 locs1 → W p l e R s m args below meth c H1 locs1 cells slots Q (F0 m (pc + 1) ls rest)) : W p l e R s m args below meth c H locs cells slots Q (F0 m pc ls (.int x :: .int (nI i) :: .ref (a 1) :: rest)) :=
  va_iast X.1 X.2.1 hK hP hD hS 1 0 rfl rfl (vp_in_nI hi (by decide)) d (by rw [nI_clamp (by omega)]; exact k)
theorem hs_V (X : CallFix p m c cc nL s args wsA R_Hop) (hK : va_K D hCl (tyH ca) s) (hP : va_P D hCl (wH ca a q K V T C B P S) H) (hD : va_D A (wH ca a q K V T C B P S)) (hS : va_S A H0 H locs) {i : Nat} {x : Int32} (hi : i < 256) (d : decode cc pc = .ok (.iastore, 1)) (k : ∀ (H1 : Heap) (locs1 : List Loc), va_P D hCl (wH ca a q K (upd V i x) T C B P S) H1 → va_D A (wH ca a q K (upd V i x) T C B P S) → va_S A H0 H1 locs1 → W p l e R s m args below meth c H1 locs1 cells slots Q (F0 m (pc + 1) ls rest)) : W p l e R s m args below meth c H locs cells slots Q (F0 m pc ls (.int x :: .int (nI i) :: .ref (a 2) :: rest)) :=
  va_iast X.1 X.2.1 hK hP hD hS 2 1 rfl rfl (vp_in_nI hi (by decide)) d (by rw [nI_clamp (by omega)]; exact k)
theorem hs_C (X : CallFix p m c cc nL s args wsA R_Hop) (hK : va_K D hCl (tyH ca) s) (hP : va_P D hCl (wH ca a q K V T C B P S) H) (hD : va_D A (wH ca a q K V T C B P S)) (hS : va_S A H0 H locs) {i : Nat} {x : Int32} (hi : i < 3) (d : decode cc pc = .ok (.iastore, 1)) (k : ∀ (H1 : Heap) (locs1 : List Loc), va_P D hCl (wH ca a q K V T (upd C i x) B P S) H1 → va_D A (wH ca a q K V T (upd C i x) B P S) → va_S A H0 H1 locs1 → W p l e R s m args below meth c H1 locs1 cells slots Q (F0 m (pc + 1) ls rest)) : W p l e R s m args below meth c H locs cells slots Q (F0 m pc ls (.int x :: .int (nI i) :: .ref (a 5) :: rest)) :=
  va_iast X.1 X.2.1 hK hP hD hS 5 4 rfl rfl (vp_in_nI hi (by decide)) d (by rw [nI_clamp (by omega)]; exact k)
theorem bI_nar (b : Bool) : vp_nar .boolean (bI b) = bI b := by cases b <;> decide
theorem bI_upd (T : BT) (i : Nat) (b : Bool) : upd (fun i => bI (T i)) i (bI b) = fun k => bI (va_up T i b k) := by
  funext k
  unfold upd va_up
  by_cases h : k = i
  · rw [if_pos h, if_pos h]
  · rw [if_neg h, if_neg h]
theorem hs_T (X : CallFix p m c cc nL s args wsA R_Hop) (hK : va_K D hCl (tyH ca) s) (hP : va_P D hCl (wH ca a q K V T C B P S) H) (hD : va_D A (wH ca a q K V T C B P S)) (hS : va_S A H0 H locs) {i : Nat} {x : Bool} (hi : i < 256) (d : decode cc pc = .ok (.bastore, 1)) (k : ∀ (H1 : Heap) (locs1 : List Loc), va_P D hCl (wH ca a q K V (va_up T i x) C B P S) H1 → va_D A (wH ca a q K V (va_up T i x) C B P S) → va_S A H0 H1 locs1 → W p l e R s m args below meth c H1 locs1 cells slots Q (F0 m (pc + 1) ls rest)) : W p l e R s m args below meth c H locs cells slots Q (F0 m pc ls (.int (bI x) :: .int (nI i) :: .ref (a 3) :: rest)) :=
  va_zast X.1 X.2.1 hK hP hD hS 3 2 rfl rfl (vp_in_nI hi (by decide)) d (by rw [nI_clamp (by omega), bI_nar, bI_upd]; exact k)
theorem wH_base {j : Nat} {x : Nat} (hj : j < 4) : (wH ca a q K V T C B P S).set (6 + j) (q j, pt x (P j) (S j)) = wH ca a q K V T C (va_up B j x) P S := by
  rcases (show j = 0 ∨ j = 1 ∨ j = 2 ∨ j = 3 by omega) with rfl | rfl | rfl | rfl <;> rfl
theorem hp_base (X : CallFix p m c cc nL s args wsA R_Hop) (hK : va_K D hCl (tyH ca) s) (hP : va_P D hCl (wH ca a q K V T C B P S) H) (hD : va_D A (wH ca a q K V T C B P S)) (hS : va_S A H0 H locs) {j : Nat} {x : Nat} (hj : j < 4) (d : decode cc pc = .ok (.putfield 74, 3)) (k : ∀ (H1 : Heap) (locs1 : List Loc), va_P D hCl (wH ca a q K V T C (va_up B j x) P S) H1 → va_D A (wH ca a q K V T C (va_up B j x) P S) → va_S A H0 H1 locs1 → W p l e R s m args below meth c H1 locs1 cells slots Q (F0 m (pc + 3) ls rest)) : W p l e R s m args below meth c H locs cells slots Q (F0 m pc ls (.int (nI x) :: .ref (q j) :: rest)) :=
  va_put (D := D) (ci := 1) (v := .int (nI x)) (ty := .int) (C := R_Part) (T := F_Part) (N := 3) X.1 X.2.1 X.2.2.2.2 hin_Part t_Part t_Part_ok n_Part X.2.2.2.1 hK hP hD hS (6 + j) (wH_p hj) rfl 0 (by decide) (X.2.2.2.2 (.fieldLink R_Hop 74 "HopArena$Part" "base" "I") m_67) (fun _ h9 => h9) rfl (by decide +kernel) rfl rfl (Nat.le_of_ble_eq_true rfl) d (fun H1 locs1 h1 h2 h3 => k H1 locs1 (by rw [← wH_base hj]; exact h1) (by rw [← wH_base hj]; exact h2) h3)
theorem wH_capacity {j : Nat} {x : Nat} (hj : j < 4) : (wH ca a q K V T C B P S).set (6 + j) (q j, pt (B j) x (S j)) = wH ca a q K V T C B (va_up P j x) S := by
  rcases (show j = 0 ∨ j = 1 ∨ j = 2 ∨ j = 3 by omega) with rfl | rfl | rfl | rfl <;> rfl
theorem hp_capacity (X : CallFix p m c cc nL s args wsA R_Hop) (hK : va_K D hCl (tyH ca) s) (hP : va_P D hCl (wH ca a q K V T C B P S) H) (hD : va_D A (wH ca a q K V T C B P S)) (hS : va_S A H0 H locs) {j : Nat} {x : Nat} (hj : j < 4) (d : decode cc pc = .ok (.putfield 66, 3)) (k : ∀ (H1 : Heap) (locs1 : List Loc), va_P D hCl (wH ca a q K V T C B (va_up P j x) S) H1 → va_D A (wH ca a q K V T C B (va_up P j x) S) → va_S A H0 H1 locs1 → W p l e R s m args below meth c H1 locs1 cells slots Q (F0 m (pc + 3) ls rest)) : W p l e R s m args below meth c H locs cells slots Q (F0 m pc ls (.int (nI x) :: .ref (q j) :: rest)) :=
  va_put (D := D) (ci := 1) (v := .int (nI x)) (ty := .int) (C := R_Part) (T := F_Part) (N := 3) X.1 X.2.1 X.2.2.2.2 hin_Part t_Part t_Part_ok n_Part X.2.2.2.1 hK hP hD hS (6 + j) (wH_p hj) rfl 1 (by decide) (X.2.2.2.2 (.fieldLink R_Hop 66 "HopArena$Part" "capacity" "I") m_69) (fun _ h9 => h9) rfl (by decide +kernel) rfl rfl (Nat.le_of_ble_eq_true rfl) d (fun H1 locs1 h1 h2 h3 => k H1 locs1 (by rw [← wH_capacity hj]; exact h1) (by rw [← wH_capacity hj]; exact h2) h3)
theorem wH_seed {j : Nat} {x : Int32} (hj : j < 4) : (wH ca a q K V T C B P S).set (6 + j) (q j, pt (B j) (P j) x) = wH ca a q K V T C B P (upd S j x) := by
  rcases (show j = 0 ∨ j = 1 ∨ j = 2 ∨ j = 3 by omega) with rfl | rfl | rfl | rfl <;> rfl
theorem hp_seed (X : CallFix p m c cc nL s args wsA R_Hop) (hK : va_K D hCl (tyH ca) s) (hP : va_P D hCl (wH ca a q K V T C B P S) H) (hD : va_D A (wH ca a q K V T C B P S)) (hS : va_S A H0 H locs) {j : Nat} {x : Int32} (hj : j < 4) (d : decode cc pc = .ok (.putfield 77, 3)) (k : ∀ (H1 : Heap) (locs1 : List Loc), va_P D hCl (wH ca a q K V T C B P (upd S j x)) H1 → va_D A (wH ca a q K V T C B P (upd S j x)) → va_S A H0 H1 locs1 → W p l e R s m args below meth c H1 locs1 cells slots Q (F0 m (pc + 3) ls rest)) : W p l e R s m args below meth c H locs cells slots Q (F0 m pc ls (.int (x) :: .ref (q j) :: rest)) :=
  va_put (D := D) (ci := 1) (v := .int (x)) (ty := .int) (C := R_Part) (T := F_Part) (N := 3) X.1 X.2.1 X.2.2.2.2 hin_Part t_Part t_Part_ok n_Part X.2.2.2.1 hK hP hD hS (6 + j) (wH_p hj) rfl 2 (by decide) (X.2.2.2.2 (.fieldLink R_Hop 77 "HopArena$Part" "seed" "I") m_71) (fun _ h9 => h9) rfl (by decide +kernel) rfl rfl (Nat.le_of_ble_eq_true rfl) d (fun H1 locs1 h1 h2 h3 => k H1 locs1 (by rw [← wH_seed hj]; exact h1) (by rw [← wH_seed hj]; exact h2) h3)
end HWA
end
section
set_option maxHeartbeats 4000000 in
set_option maxRecDepth 100000 in
/-- around: a place, taken around -/
theorem c_Part_around (l : Launch) (D : va_G) (h b c : Nat) (sd : Int32) (x : Nat) (hc : pw c) (hx9 : x < 2 ^ 31) : Met l y_Part_around w_Part_around (rmD 0 0 0) (va_Pc [.ref h, .int (nI x)] (hb_R D hCl [(h, pt b c sd)] [])) (hq_R (some (.int (nI (x % c))))) 0 0 hq_no := by
  refine Met.ofW (cc := b_Part_around) (maxL := 2) (ret := some .int) (by decide) rfl ?_
  intro p e s m args below meth c0 s₁ B0 hml hv
  obtain ⟨rfl, hP, hK⟩ := hv
  have hx := B0.exec
  have hb := B0.bytes
  have hr := B0.returns
  have hts := atoms_spec (ws := w_Part_around) B0.pre
  have hown : s.vm.findClass R_Part = some m.cls := findClass_of_methodNamed B0.named
  have hlocks := B0.notSynchronized
  have hwA : ∀ w ∈ wsA, w.before ([.ref h, .int (nI x)] : List Value).toArray s = true := fun w h => hts w (List.mem_cons_of_mem _ h)
  have X : CallFix p m c0 b_Part_around 2 s ([.ref h, .int (nI x)] : List Value).toArray wsA R_Part := ⟨hx, hb, hml, hown, hwA⟩
  have hl := lv_entry ([.ref h, .int (nI x)]) (n := 2) (Nat.le_of_ble_eq_true rfl)
  rw [lg_entry_eq]
  generalize (lg_sl ([.ref h, .int (nI x)]) ++ List.replicate (2 - (lg_sl ([.ref h, .int (nI x)])).length) Slot.unset).toArray = ls at hl ⊢
  have hl : lv_has ls 2 [(0, .ref h), (1, .int (nI x))] := hl
  refine lv_iload_n hx hb d_Part_around_0 rfl (lv_at hl 1 rfl) ?_
  refine lv_aload_n hx hb d_Part_around_1 rfl (lv_at hl 0 rfl) ?_
  refine va_get (D := D) (ci := 1) (v := .int (nI c)) (C := R_Part) (T := F_Part) (N := 3) hx hb hwA hin_Part hown hK hP 0 rfl rfl 1 (by decide) (hwA (.fieldLink R_Part 13 "HopArena$Part" "capacity" "I") m_68) (fun _ h9 => h9) rfl d_Part_around_2 ?_
  refine lv_iconst (v := 1) hx hb d_Part_around_5 (by decide) ?_
  refine lv_isub hx hb d_Part_around_6 ?_
  refine lv_iand hx hb d_Part_around_7 ?_
  refine lv_tope (y := nI (x % c)) (pw_andN hc hx9) ?_
  exact W.iret (v := nI (x % c)) hx hb hr (fun t ht hW => ⟨rfl, ht⟩) hq_nl d_Part_around_8
set_option maxHeartbeats 4000000 in
set_option maxRecDepth 100000 in
/-- slotOf: the slot of a place -/
theorem c_Part_slotOf (l : Launch) (D : va_G) (h b c : Nat) (sd : Int32) (x : Nat) (hc : pw c) (hx9 : x < 2 ^ 31) : Met l y_Part_slotOf w_Part_slotOf (rmD 0 0 0) (va_Pc [.ref h, .int (nI x)] (hb_R D hCl [(h, pt b c sd)] [])) (hq_R (some (.int (nI (b + x % c))))) 0 0 hq_no := by
  refine Met.ofW (cc := b_Part_slotOf) (maxL := 2) (ret := some .int) (by decide) rfl ?_
  intro p e s m args below meth c0 s₁ B0 hml hv
  obtain ⟨rfl, hP, hK⟩ := hv
  have hx := B0.exec
  have hb := B0.bytes
  have hr := B0.returns
  have hts := atoms_spec (ws := w_Part_slotOf) B0.pre
  have hown : s.vm.findClass R_Part = some m.cls := findClass_of_methodNamed B0.named
  have hlocks := B0.notSynchronized
  have hwA : ∀ w ∈ wsA, w.before ([.ref h, .int (nI x)] : List Value).toArray s = true := fun w h => hts w (List.mem_cons_of_mem _ h)
  have X : CallFix p m c0 b_Part_slotOf 2 s ([.ref h, .int (nI x)] : List Value).toArray wsA R_Part := ⟨hx, hb, hml, hown, hwA⟩
  have hl := lv_entry ([.ref h, .int (nI x)]) (n := 2) (Nat.le_of_ble_eq_true rfl)
  rw [lg_entry_eq]
  generalize (lg_sl ([.ref h, .int (nI x)]) ++ List.replicate (2 - (lg_sl ([.ref h, .int (nI x)])).length) Slot.unset).toArray = ls at hl ⊢
  have hl : lv_has ls 2 [(0, .ref h), (1, .int (nI x))] := hl
  refine lv_aload_n hx hb d_Part_slotOf_0 rfl (lv_at hl 0 rfl) ?_
  refine va_get (D := D) (ci := 1) (v := .int (nI b)) (C := R_Part) (T := F_Part) (N := 3) hx hb hwA hin_Part hown hK hP 0 rfl rfl 0 (by decide) (hwA (.fieldLink R_Part 7 "HopArena$Part" "base" "I") m_66) (fun _ h9 => h9) rfl d_Part_slotOf_1 ?_
  refine lv_iload_n hx hb d_Part_slotOf_4 rfl (lv_at hl 1 rfl) ?_
  refine lv_aload_n hx hb d_Part_slotOf_5 rfl (lv_at hl 0 rfl) ?_
  refine va_get (D := D) (ci := 1) (v := .int (nI c)) (C := R_Part) (T := F_Part) (N := 3) hx hb hwA hin_Part hown hK hP 0 rfl rfl 1 (by decide) (hwA (.fieldLink R_Part 13 "HopArena$Part" "capacity" "I") m_68) (fun _ h9 => h9) rfl d_Part_slotOf_6 ?_
  refine lv_iconst (v := 1) hx hb d_Part_slotOf_9 (by decide) ?_
  refine lv_isub hx hb d_Part_slotOf_10 ?_
  refine lv_iand hx hb d_Part_slotOf_11 ?_
  refine lv_tope (y := nI (x % c)) (pw_andN hc hx9) ?_
  refine lv_iadd hx hb d_Part_slotOf_12 ?_
  refine lv_tope (y := nI (b + x % c)) (nI_add _ _) ?_
  exact W.iret (v := nI (b + x % c)) hx hb hr (fun t ht hW => ⟨rfl, ht⟩) hq_nl d_Part_slotOf_13
set_option maxHeartbeats 4000000 in
set_option maxRecDepth 100000 in
/-- homeOf: the home of a key -/
theorem c_Part_homeOf (l : Launch) (D : va_G) (h b c : Nat) (sd : Int32) (key : Int32) (hc : pw c) : Met l y_Part_homeOf w_Part_homeOf (rmD 0 0 0) (va_Pc [.ref h, .int key] (hb_R D hCl [(h, pt b c sd)] [])) (hq_R (some (.int (nI (hom key sd c))))) 0 0 hq_no := by
  refine Met.ofW (cc := b_Part_homeOf) (maxL := 2) (ret := some .int) (by decide) rfl ?_
  intro p e s m args below meth c0 s₁ B0 hml hv
  obtain ⟨rfl, hP, hK⟩ := hv
  have hx := B0.exec
  have hb := B0.bytes
  have hr := B0.returns
  have hts := atoms_spec (ws := w_Part_homeOf) B0.pre
  have hown : s.vm.findClass R_Part = some m.cls := findClass_of_methodNamed B0.named
  have hlocks := B0.notSynchronized
  have hwA : ∀ w ∈ wsA, w.before ([.ref h, .int key] : List Value).toArray s = true := fun w h => hts w (List.mem_cons_of_mem _ h)
  have X : CallFix p m c0 b_Part_homeOf 2 s ([.ref h, .int key] : List Value).toArray wsA R_Part := ⟨hx, hb, hml, hown, hwA⟩
  have hl := lv_entry ([.ref h, .int key]) (n := 2) (Nat.le_of_ble_eq_true rfl)
  rw [lg_entry_eq]
  generalize (lg_sl ([.ref h, .int key]) ++ List.replicate (2 - (lg_sl ([.ref h, .int key])).length) Slot.unset).toArray = ls at hl ⊢
  have hl : lv_has ls 2 [(0, .ref h), (1, .int key)] := hl
  refine lv_iload_n hx hb d_Part_homeOf_0 rfl (lv_at hl 1 rfl) ?_
  refine lv_aload_n hx hb d_Part_homeOf_1 rfl (lv_at hl 0 rfl) ?_
  refine va_get (D := D) (ci := 1) (v := .int (sd)) (C := R_Part) (T := F_Part) (N := 3) hx hb hwA hin_Part hown hK hP 0 rfl rfl 2 (by decide) (hwA (.fieldLink R_Part 16 "HopArena$Part" "seed" "I") m_70) (fun _ h9 => h9) rfl d_Part_homeOf_2 ?_
  refine lv_ixor hx hb d_Part_homeOf_5 ?_
  refine lv_ldc (v := -1640531535) hx hb hown (hwA (.constant R_Part 19 (-1640531535)) m_190) d_Part_homeOf_6 ?_
  refine lv_imul hx hb d_Part_homeOf_8 ?_
  refine lv_bipush (v := 9) hx hb d_Part_homeOf_9 (by decide) ?_
  refine lv_iushr (v := (((((key) ^^^ (sd)) * (-1640531535)) : Int32).toUInt32 >>> (((9) : Int32).toUInt32 &&& Int32.toUInt32 31)).toInt32) hx hb d_Part_homeOf_11 rfl ?_
  refine lv_aload_n hx hb d_Part_homeOf_12 rfl (lv_at hl 0 rfl) ?_
  refine va_get (D := D) (ci := 1) (v := .int (nI c)) (C := R_Part) (T := F_Part) (N := 3) hx hb hwA hin_Part hown hK hP 0 rfl rfl 1 (by decide) (hwA (.fieldLink R_Part 13 "HopArena$Part" "capacity" "I") m_68) (fun _ h9 => h9) rfl d_Part_homeOf_13 ?_
  refine lv_iconst (v := 1) hx hb d_Part_homeOf_16 (by decide) ?_
  refine lv_isub hx hb d_Part_homeOf_17 ?_
  refine lv_iand hx hb d_Part_homeOf_18 ?_
  refine lv_tope (y := nI (hom key sd c)) (hom_eq hc key sd) ?_
  exact W.iret (v := nI (hom key sd c)) hx hb hr (fun t ht hW => ⟨rfl, ht⟩) hq_nl d_Part_homeOf_19
set_option maxHeartbeats 4000000 in
set_option maxRecDepth 100000 in
/-- end: where the part ends -/
theorem c_Part_end (l : Launch) (D : va_G) (h b c : Nat) (sd : Int32)  : Met l y_Part_end w_Part_end (rmD 0 0 0) (va_Pc [.ref h] (hb_R D hCl [(h, pt b c sd)] [])) (hq_R (some (.int (nI (b + c))))) 0 0 hq_no := by
  refine Met.ofW (cc := b_Part_end) (maxL := 1) (ret := some .int) (by decide) rfl ?_
  intro p e s m args below meth c0 s₁ B0 hml hv
  obtain ⟨rfl, hP, hK⟩ := hv
  have hx := B0.exec
  have hb := B0.bytes
  have hr := B0.returns
  have hts := atoms_spec (ws := w_Part_end) B0.pre
  have hown : s.vm.findClass R_Part = some m.cls := findClass_of_methodNamed B0.named
  have hlocks := B0.notSynchronized
  have hwA : ∀ w ∈ wsA, w.before ([.ref h] : List Value).toArray s = true := fun w h => hts w (List.mem_cons_of_mem _ h)
  have X : CallFix p m c0 b_Part_end 1 s ([.ref h] : List Value).toArray wsA R_Part := ⟨hx, hb, hml, hown, hwA⟩
  have hl := lv_entry ([.ref h]) (n := 1) (Nat.le_of_ble_eq_true rfl)
  rw [lg_entry_eq]
  generalize (lg_sl ([.ref h]) ++ List.replicate (1 - (lg_sl ([.ref h])).length) Slot.unset).toArray = ls at hl ⊢
  have hl : lv_has ls 1 [(0, .ref h)] := hl
  refine lv_aload_n hx hb d_Part_end_0 rfl (lv_at hl 0 rfl) ?_
  refine va_get (D := D) (ci := 1) (v := .int (nI b)) (C := R_Part) (T := F_Part) (N := 3) hx hb hwA hin_Part hown hK hP 0 rfl rfl 0 (by decide) (hwA (.fieldLink R_Part 7 "HopArena$Part" "base" "I") m_66) (fun _ h9 => h9) rfl d_Part_end_1 ?_
  refine lv_aload_n hx hb d_Part_end_4 rfl (lv_at hl 0 rfl) ?_
  refine va_get (D := D) (ci := 1) (v := .int (nI c)) (C := R_Part) (T := F_Part) (N := 3) hx hb hwA hin_Part hown hK hP 0 rfl rfl 1 (by decide) (hwA (.fieldLink R_Part 13 "HopArena$Part" "capacity" "I") m_68) (fun _ h9 => h9) rfl d_Part_end_5 ?_
  refine lv_iadd hx hb d_Part_end_8 ?_
  refine lv_tope (y := nI (b + c)) (nI_add _ _) ?_
  exact W.iret (v := nI (b + c)) hx hb hr (fun t ht hW => ⟨rfl, ht⟩) hq_nl d_Part_end_9
set_option maxHeartbeats 4000000 in
set_option maxRecDepth 100000 in
/-- isPlace -/
theorem c_Part_isPlace (l : Launch) (D : va_G) (h b c : Nat) (sd : Int32) (x : Int32) (hc : c < 2 ^ 31) : Met l y_Part_isPlace w_Part_isPlace (rmD 0 0 0) (va_Pc [.ref h, .int x] (hb_R D hCl [(h, pt b c sd)] [])) (hq_R (some (.int (bI (decide (0 ≤ x ∧ x < nI c)))))) 0 0 hq_no := by
  refine Met.ofW (cc := b_Part_isPlace) (maxL := 2) (ret := some .boolean) (by decide) rfl ?_
  intro p e s m args below meth c0 s₁ B0 hml hv
  obtain ⟨rfl, hP, hK⟩ := hv
  have hx := B0.exec
  have hb := B0.bytes
  have hr := B0.returns
  have hts := atoms_spec (ws := w_Part_isPlace) B0.pre
  have hown : s.vm.findClass R_Part = some m.cls := findClass_of_methodNamed B0.named
  have hlocks := B0.notSynchronized
  have hwA : ∀ w ∈ wsA, w.before ([.ref h, .int x] : List Value).toArray s = true := fun w h => hts w (List.mem_cons_of_mem _ h)
  have X : CallFix p m c0 b_Part_isPlace 2 s ([.ref h, .int x] : List Value).toArray wsA R_Part := ⟨hx, hb, hml, hown, hwA⟩
  have hl := lv_entry ([.ref h, .int x]) (n := 2) (Nat.le_of_ble_eq_true rfl)
  rw [lg_entry_eq]
  generalize (lg_sl ([.ref h, .int x]) ++ List.replicate (2 - (lg_sl ([.ref h, .int x])).length) Slot.unset).toArray = ls at hl ⊢
  have hl : lv_has ls 2 [(0, .ref h), (1, .int x)] := hl
  refine lv_iload_n hx hb d_Part_isPlace_0 rfl (lv_at hl 1 rfl) ?_
  refine lv_if_lt (tgt := 16) hx hb d_Part_isPlace_1 (by decide) (fun h1 => ?_) (fun h1 => ?_)
  · refine lv_iconst (v := 0) hx hb d_Part_isPlace_16 (by decide) ?_
    exact W.zret (v := 0) hx hb hr rfl (fun t ht hW => ⟨by rw [decide_eq_false (fun z => absurd h1 (Int32.not_lt.mpr z.1))]; rfl, ht⟩) hq_nl d_Part_isPlace_17
  · refine lv_iload_n hx hb d_Part_isPlace_4 rfl (lv_at hl 1 rfl) ?_
    refine lv_aload_n hx hb d_Part_isPlace_5 rfl (lv_at hl 0 rfl) ?_
    refine va_get (D := D) (ci := 1) (v := .int (nI c)) (C := R_Part) (T := F_Part) (N := 3) hx hb hwA hin_Part hown hK hP 0 rfl rfl 1 (by decide) (hwA (.fieldLink R_Part 13 "HopArena$Part" "capacity" "I") m_68) (fun _ h9 => h9) rfl d_Part_isPlace_6 ?_
    refine lv_icmp_ge (tgt := 16) hx hb d_Part_isPlace_9 (by decide) (fun h2 => ?_) (fun h2 => ?_)
    · refine lv_iconst (v := 0) hx hb d_Part_isPlace_16 (by decide) ?_
      exact W.zret (v := 0) hx hb hr rfl (fun t ht hW => ⟨by rw [decide_eq_false (fun z => absurd z.2 (Int32.not_lt.mpr h2))]; rfl, ht⟩) hq_nl d_Part_isPlace_17
    · refine lv_iconst (v := 1) hx hb d_Part_isPlace_12 (by decide) ?_
      refine lv_goto (tgt := 17) hx hb d_Part_isPlace_13 (by decide) ?_
      exact W.zret (v := 1) hx hb hr rfl (fun t ht hW => ⟨by rw [decide_eq_true ⟨Int32.not_lt.mp h1, Int32.not_le.mp h2⟩]; rfl, ht⟩) hq_nl d_Part_isPlace_17
end
section
section HKA
variable {p : Program} {l : Launch} {e : Env} {R : Room} {s : State} {m : MethodId} {args : Array Value} {below : List Frame} {meth : Method} {c : Code} {H : Heap} {locs : List Loc} {cells slots : Nat} {Q : State → Prop}
variable {cc : ByteArray} {pc nL : Nat} {ls : Array Slot} {rest st0 : List Value} {D : va_G} {A : Nat → Prop} {H0 : Heap} {ca a q : Nat → Nat} {K V : IT} {T : BT} {C : IT} {B P : Nat → Nat} {S : IT}
theorem wH_sub (hP : va_P D hCl (wH ca a q K V T C B P S) H) {j : Nat} (hj : j < 4) : va_P D hCl [(q j, pt (B j) (P j) (S j))] H :=
  hP.sub [6 + j] (by rw [List.filterMap_cons, wH_p hj]; rfl)
theorem k_around (X : CallFix p m c cc nL s args wsA R_Hop) (hK : va_K D hCl (tyH ca) s) (hP : va_P D hCl (wH ca a q K V T C B P S) H) (hsz : ls.size = nL) {j : Nat} {x : Nat} (hc : pw (P j)) (hx9 : x < 2 ^ 31) (hj : j < 4) (hrm : (rest.map fun v => v.category).sum ≤ 8) (hf : cells ≤ R.cells ∧ slots ≤ R.slots) (hR : 1 ≤ R.frames ∧ 30 ≤ R.locals) (d : decode cc pc = .ok (.invokevirtual 89, 3)) (k : W p l e R s m args below meth c H locs cells slots Q (F0 m (pc + 3) ls (.int (nI (x % P j)) :: rest))) : W p l e R s m args below meth c H locs cells slots Q (F0 m pc ls (.int (nI x) :: .ref (q j) :: rest)) :=
  hr_V (As := [.int (nI x)]) (v := some (.int (nI (x % P j)))) (C := R_Part) X (c_Part_around l D (q j) (B j) (P j) (S j) x hc hx9) (cwV 1 X.2.2.2.2 (g_Hop_Part_around) rfl rfl rfl (by decide +kernel) ⟨by show 0 + 1 ≤ _; omega, by show 8 + (2 + 11) + 30 * 0 ≤ _; omega⟩) (wH_sub hP hj) (hK.sub [] rfl) (va_recv hK hP rfl (wH_p hj)) rfl hsz rfl hrm hf d k
theorem k_slotOf (X : CallFix p m c cc nL s args wsA R_Hop) (hK : va_K D hCl (tyH ca) s) (hP : va_P D hCl (wH ca a q K V T C B P S) H) (hsz : ls.size = nL) {j : Nat} {x : Nat} (hc : pw (P j)) (hx9 : x < 2 ^ 31) (hj : j < 4) (hrm : (rest.map fun v => v.category).sum ≤ 8) (hf : cells ≤ R.cells ∧ slots ≤ R.slots) (hR : 1 ≤ R.frames ∧ 30 ≤ R.locals) (d : decode cc pc = .ok (.invokevirtual 99, 3)) (k : W p l e R s m args below meth c H locs cells slots Q (F0 m (pc + 3) ls (.int (nI (B j + x % P j)) :: rest))) : W p l e R s m args below meth c H locs cells slots Q (F0 m pc ls (.int (nI x) :: .ref (q j) :: rest)) :=
  hr_V (As := [.int (nI x)]) (v := some (.int (nI (B j + x % P j)))) (C := R_Part) X (c_Part_slotOf l D (q j) (B j) (P j) (S j) x hc hx9) (cwV 1 X.2.2.2.2 (g_Hop_Part_slotOf) rfl rfl rfl (by decide +kernel) ⟨by show 0 + 1 ≤ _; omega, by show 8 + (2 + 11) + 30 * 0 ≤ _; omega⟩) (wH_sub hP hj) (hK.sub [] rfl) (va_recv hK hP rfl (wH_p hj)) rfl hsz rfl hrm hf d k
theorem k_homeOf (X : CallFix p m c cc nL s args wsA R_Hop) (hK : va_K D hCl (tyH ca) s) (hP : va_P D hCl (wH ca a q K V T C B P S) H) (hsz : ls.size = nL) {j : Nat} {key : Int32} (hc : pw (P j)) (hj : j < 4) (hrm : (rest.map fun v => v.category).sum ≤ 8) (hf : cells ≤ R.cells ∧ slots ≤ R.slots) (hR : 1 ≤ R.frames ∧ 30 ≤ R.locals) (d : decode cc pc = .ok (.invokevirtual 85, 3)) (k : W p l e R s m args below meth c H locs cells slots Q (F0 m (pc + 3) ls (.int (nI (hom key (S j) (P j))) :: rest))) : W p l e R s m args below meth c H locs cells slots Q (F0 m pc ls (.int key :: .ref (q j) :: rest)) :=
  hr_V (As := [.int key]) (v := some (.int (nI (hom key (S j) (P j))))) (C := R_Part) X (c_Part_homeOf l D (q j) (B j) (P j) (S j) key hc) (cwV 1 X.2.2.2.2 (g_Hop_Part_homeOf) rfl rfl rfl (by decide +kernel) ⟨by show 0 + 1 ≤ _; omega, by show 8 + (2 + 11) + 30 * 0 ≤ _; omega⟩) (wH_sub hP hj) (hK.sub [] rfl) (va_recv hK hP rfl (wH_p hj)) rfl hsz rfl hrm hf d k
theorem k_end (X : CallFix p m c cc nL s args wsA R_Hop) (hK : va_K D hCl (tyH ca) s) (hP : va_P D hCl (wH ca a q K V T C B P S) H) (hsz : ls.size = nL) {j : Nat}  (hj : j < 4) (hrm : (rest.map fun v => v.category).sum ≤ 8) (hf : cells ≤ R.cells ∧ slots ≤ R.slots) (hR : 1 ≤ R.frames ∧ 30 ≤ R.locals) (d : decode cc pc = .ok (.invokevirtual 122, 3)) (k : W p l e R s m args below meth c H locs cells slots Q (F0 m (pc + 3) ls (.int (nI (B j + P j)) :: rest))) : W p l e R s m args below meth c H locs cells slots Q (F0 m pc ls (.ref (q j) :: rest)) :=
  hr_V (As := []) (v := some (.int (nI (B j + P j)))) (C := R_Part) X (c_Part_end l D (q j) (B j) (P j) (S j) ) (cwV 0 X.2.2.2.2 (g_Hop_Part_end) rfl rfl rfl (by decide +kernel) ⟨by show 0 + 1 ≤ _; omega, by show 8 + (1 + 11) + 30 * 0 ≤ _; omega⟩) (wH_sub hP hj) (hK.sub [] rfl) (va_recv hK hP rfl (wH_p hj)) rfl hsz rfl hrm hf d k
theorem k_isPlace (X : CallFix p m c cc nL s args wsA R_Hop) (hK : va_K D hCl (tyH ca) s) (hP : va_P D hCl (wH ca a q K V T C B P S) H) (hsz : ls.size = nL) {j : Nat} {x : Int32} (hc : P j < 2 ^ 31) (hj : j < 4) (hrm : (rest.map fun v => v.category).sum ≤ 8) (hf : cells ≤ R.cells ∧ slots ≤ R.slots) (hR : 1 ≤ R.frames ∧ 30 ≤ R.locals) (d : decode cc pc = .ok (.invokevirtual 114, 3)) (k : W p l e R s m args below meth c H locs cells slots Q (F0 m (pc + 3) ls (.int (bI (decide (0 ≤ x ∧ x < nI (P j)))) :: rest))) : W p l e R s m args below meth c H locs cells slots Q (F0 m pc ls (.int x :: .ref (q j) :: rest)) :=
  hr_V (As := [.int x]) (v := some (.int (bI (decide (0 ≤ x ∧ x < nI (P j)))))) (C := R_Part) X (c_Part_isPlace l D (q j) (B j) (P j) (S j) x hc) (cwV 1 X.2.2.2.2 (g_Hop_Part_isPlace) rfl rfl rfl (by decide +kernel) ⟨by show 0 + 1 ≤ _; omega, by show 8 + (2 + 11) + 30 * 0 ≤ _; omega⟩) (wH_sub hP hj) (hK.sub [] rfl) (va_recv hK hP rfl (wH_p hj)) rfl hsz rfl hrm hf d k
end HKA
end
section
set_option maxHeartbeats 4000000 in
set_option maxRecDepth 100000 in
/-- slotOrNone -/
theorem c_Hop_slotOrNone (l : Launch) (D : va_G) (ca a q : Nat → Nat) (K V : IT) (T : BT) (C : IT) (B P : Nat → Nat) (S : IT) (j : Nat) (key : Int32) (hj : j < 4) (hc : pw (P j)) (hbd : B j + P j ≤ 256) : Met l y_Hop_slotOrNone w_Hop_slotOrNone (rmD 1 0 0) (va_Pc [.ref (a 0), .ref (q j), .int key] (hb_R D hCl (wH ca a q K V T C B P S) (tyH ca))) (hq_R (some (.int (oI (fnd T K (B j) (P j) (hom key (S j) (P j)) key 0 8))))) 0 0 hq_no := by
  refine Met.ofW (cc := b_Hop_slotOrNone) (maxL := 6) (ret := some .int) (by decide) rfl ?_
  intro p e s m args below meth c0 s₁ B0 hml hv
  obtain ⟨rfl, hP, hK⟩ := hv
  have hx := B0.exec
  have hb := B0.bytes
  have hr := B0.returns
  have hts := atoms_spec (ws := w_Hop_slotOrNone) B0.pre
  have hown : s.vm.findClass R_Hop = some m.cls := findClass_of_methodNamed B0.named
  have hlocks := B0.notSynchronized
  have hwA : ∀ w ∈ wsA, w.before ([.ref (a 0), .ref (q j), .int key] : List Value).toArray s = true := fun w h => hts w (List.mem_cons_of_mem _ h)
  have X : CallFix p m c0 b_Hop_slotOrNone 6 s ([.ref (a 0), .ref (q j), .int key] : List Value).toArray wsA R_Hop := ⟨hx, hb, hml, hown, hwA⟩
  have hl := lv_entry ([.ref (a 0), .ref (q j), .int key]) (n := 6) (Nat.le_of_ble_eq_true rfl)
  rw [lg_entry_eq]
  generalize (lg_sl ([.ref (a 0), .ref (q j), .int key]) ++ List.replicate (6 - (lg_sl ([.ref (a 0), .ref (q j), .int key])).length) Slot.unset).toArray = ls at hl ⊢
  have hl : lv_has ls 6 [(0, .ref (a 0)), (1, .ref (q j)), (2, .int key)] := hl
  have loop : ∀ (n i : Nat) (ls : Array Slot), i + n = 8 → fnd T K (B j) (P j) (hom key (S j) (P j)) key i n = fnd T K (B j) (P j) (hom key (S j) (P j)) key 0 8 → lv_has ls 6 [(4, .int (nI i)), (3, .int (nI (hom key (S j) (P j)))), (0, .ref (a 0)), (1, .ref (q j)), (2, .int key)] → W p l e (headSpec w_Hop_slotOrNone (rmD 1 0 0)).room s m ([.ref (a 0), .ref (q j), .int key] : List Value).toArray below meth c0 s.heap [] 0 0 (MQ below (hq_R (some (.int (oI (fnd T K (B j) (P j) (hom key (S j) (P j)) key 0 8))))) ([.ref (a 0), .ref (q j), .int key] : List Value).toArray s 0 0 hq_no) (F0 m 9 ls []) := by
    intro n
    induction n with
    | zero =>
      intro i ls hi hf hl
      have hi8 : i = 8 := by omega
      refine lv_iload hx hb d_Hop_slotOrNone_9 (lv_at hl 0 rfl) ?_
      refine lv_bipush (v := 8) hx hb d_Hop_slotOrNone_11 (by decide) ?_
      refine lvT_icmp_ge (tgt := 56) hx hb d_Hop_slotOrNone_13 (by decide) (nI_le (a := 8) (b := i) (by omega) (by omega)) ?_
      refine lv_iconst (v := -1) hx hb d_Hop_slotOrNone_56 (by decide) ?_
      exact W.iret (v := -1) hx hb hr (fun t ht hW => ⟨by rw [← hf]; rfl, ht⟩) hq_nl d_Hop_slotOrNone_57
    | succ n ih =>
      intro i ls hi hf hl
      refine lv_iload hx hb d_Hop_slotOrNone_9 (lv_at hl 0 rfl) ?_
      refine lv_bipush (v := 8) hx hb d_Hop_slotOrNone_11 (by decide) ?_
      refine lvF_icmp_ge (tgt := 56) hx hb d_Hop_slotOrNone_13 (by decide) (nI_ge (a := i) (b := 8) (by omega) (by omega)) ?_
      refine lv_aload_n hx hb d_Hop_slotOrNone_16 rfl (lv_at hl 3 rfl) ?_
      refine lv_iload_n hx hb d_Hop_slotOrNone_17 rfl (lv_at hl 1 rfl) ?_
      refine lv_iload hx hb d_Hop_slotOrNone_18 (lv_at hl 0 rfl) ?_
      refine lv_iadd hx hb d_Hop_slotOrNone_20 ?_
      refine lv_tope (y := nI (hom key (S j) (P j) + i)) (nI_add _ _) ?_
      refine k_slotOf X hK hP hl.1 (x := hom key (S j) (P j) + i) hc (by have := hom_lt (key := key) (s := S j) hc; have := pw_le hc; omega) hj (Nat.le_of_ble_eq_true rfl) ⟨Nat.zero_le _, Nat.zero_le _⟩ ⟨Nat.le_of_ble_eq_true rfl, Nat.le_of_ble_eq_true rfl⟩ d_Hop_slotOrNone_21 ?_
      refine lv_istore (lv' := [(5, .int (nI (B j + (hom key (S j) (P j) + i) % P j))), (4, .int (nI i)), (3, .int (nI (hom key (S j) (P j)))), (0, .ref (a 0)), (1, .ref (q j)), (2, .int key)]) hx hb d_Hop_slotOrNone_24 hl (by decide) rfl (fun ls hl => ?_)
      refine lv_aload_n hx hb d_Hop_slotOrNone_26 rfl (lv_at hl 3 rfl) ?_
      refine hg_taken X hK hP d_Hop_slotOrNone_27 ?_
      refine lv_iload hx hb d_Hop_slotOrNone_30 (lv_at hl 0 rfl) ?_
      refine hl_T X hK hP (i := B j + (hom key (S j) (P j) + i) % P j) (sl_lt hc hbd) d_Hop_slotOrNone_32 ?_
      refine lv_if_eq (tgt := 50) hx hb d_Hop_slotOrNone_33 (by decide) (fun h1 => ?_) (fun h1 => ?_)
      · refine lv_iinc (k := 1) (v := nI (i + 1)) (lv' := [(4, .int (nI (i + 1))), (5, .int (nI (B j + (hom key (S j) (P j) + i) % P j))), (3, .int (nI (hom key (S j) (P j)))), (0, .ref (a 0)), (1, .ref (q j)), (2, .int key)]) hx hb d_Hop_slotOrNone_50 hl rfl (inc1 i) (by decide) rfl (fun ls hl => ?_)
        refine lv_goto (tgt := 9) hx hb d_Hop_slotOrNone_53 (by decide) ?_
        exact ih (i + 1) ls (by omega) (by rw [← hf]; exact (if_neg (fun z => by rw [bI_0.mp h1] at z; exact absurd z.1 (by decide))).symm) (lv_sub hl [0, 2, 3, 4, 5] rfl)
      · refine lv_aload_n hx hb d_Hop_slotOrNone_36 rfl (lv_at hl 3 rfl) ?_
        refine hg_keys X hK hP d_Hop_slotOrNone_37 ?_
        refine lv_iload hx hb d_Hop_slotOrNone_40 (lv_at hl 0 rfl) ?_
        refine hl_K X hK hP (i := B j + (hom key (S j) (P j) + i) % P j) (sl_lt hc hbd) d_Hop_slotOrNone_42 ?_
        refine lv_iload_n hx hb d_Hop_slotOrNone_43 rfl (lv_at hl 5 rfl) ?_
        refine lv_icmp_ne (tgt := 50) hx hb d_Hop_slotOrNone_44 (by decide) (fun h2 => ?_) (fun h2 => ?_)
        · refine lv_iinc (k := 1) (v := nI (i + 1)) (lv' := [(4, .int (nI (i + 1))), (5, .int (nI (B j + (hom key (S j) (P j) + i) % P j))), (3, .int (nI (hom key (S j) (P j)))), (0, .ref (a 0)), (1, .ref (q j)), (2, .int key)]) hx hb d_Hop_slotOrNone_50 hl rfl (inc1 i) (by decide) rfl (fun ls hl => ?_)
          refine lv_goto (tgt := 9) hx hb d_Hop_slotOrNone_53 (by decide) ?_
          exact ih (i + 1) ls (by omega) (by rw [← hf]; exact (if_neg (fun z => h2 z.2)).symm) (lv_sub hl [0, 2, 3, 4, 5] rfl)
        · refine lv_iload hx hb d_Hop_slotOrNone_47 (lv_at hl 0 rfl) ?_
          exact W.iret (v := nI (B j + (hom key (S j) (P j) + i) % P j)) hx hb hr (fun t ht hW => ⟨by rw [← hf]; show _ = Outcome.returned (some (Value.int (oI (ite _ _ _)))); rw [if_pos ⟨bI_n0.mp h1, h2⟩]; rfl, ht⟩) hq_nl d_Hop_slotOrNone_49
  refine lv_aload_n hx hb d_Hop_slotOrNone_0 rfl (lv_at hl 1 rfl) ?_
  refine lv_iload_n hx hb d_Hop_slotOrNone_1 rfl (lv_at hl 2 rfl) ?_
  refine k_homeOf X hK hP hl.1 hc hj (Nat.le_of_ble_eq_true rfl) ⟨Nat.zero_le _, Nat.zero_le _⟩ ⟨Nat.le_of_ble_eq_true rfl, Nat.le_of_ble_eq_true rfl⟩ d_Hop_slotOrNone_2 ?_
  refine lv_istore_n (lv' := [(3, .int (nI (hom (key) (S j) (P j)))), (0, .ref (a 0)), (1, .ref (q j)), (2, .int key)]) hx hb d_Hop_slotOrNone_5 rfl hl (by decide) rfl (fun ls hl => ?_)
  refine lv_iconst (v := 0) hx hb d_Hop_slotOrNone_6 (by decide) ?_
  refine lv_istore (lv' := [(4, .int 0), (3, .int (nI (hom (key) (S j) (P j)))), (0, .ref (a 0)), (1, .ref (q j)), (2, .int key)]) hx hb d_Hop_slotOrNone_7 hl (by decide) rfl (fun ls hl => ?_)
  exact loop 8 0 ls rfl rfl (lv_sub hl [0, 1, 2, 3, 4] rfl)
set_option maxHeartbeats 4000000 in
set_option maxRecDepth 100000 in
/-- keysIn: how many of its places hold a key -/
theorem c_Hop_keysIn (l : Launch) (D : va_G) (ca a q : Nat → Nat) (K V : IT) (T : BT) (C : IT) (B P : Nat → Nat) (S : IT) (j : Nat) (hj : j < 4) (hbd : B j + P j ≤ 256) : Met l y_Hop_keysIn w_Hop_keysIn (rmD 1 0 0) (va_Pc [.ref (a 0), .ref (q j)] (hb_R D hCl (wH ca a q K V T C B P S) (tyH ca))) (hq_R (some (.int (nI (cnt T (B j) (P j)))))) 0 0 hq_no := by
  refine Met.ofW (cc := b_Hop_keysIn) (maxL := 4) (ret := some .int) (by decide) rfl ?_
  intro p e s m args below meth c0 s₁ B0 hml hv
  obtain ⟨rfl, hP, hK⟩ := hv
  have hx := B0.exec
  have hb := B0.bytes
  have hr := B0.returns
  have hts := atoms_spec (ws := w_Hop_keysIn) B0.pre
  have hown : s.vm.findClass R_Hop = some m.cls := findClass_of_methodNamed B0.named
  have hlocks := B0.notSynchronized
  have hwA : ∀ w ∈ wsA, w.before ([.ref (a 0), .ref (q j)] : List Value).toArray s = true := fun w h => hts w (List.mem_cons_of_mem _ h)
  have X : CallFix p m c0 b_Hop_keysIn 4 s ([.ref (a 0), .ref (q j)] : List Value).toArray wsA R_Hop := ⟨hx, hb, hml, hown, hwA⟩
  have hl := lv_entry ([.ref (a 0), .ref (q j)]) (n := 4) (Nat.le_of_ble_eq_true rfl)
  rw [lg_entry_eq]
  generalize (lg_sl ([.ref (a 0), .ref (q j)]) ++ List.replicate (4 - (lg_sl ([.ref (a 0), .ref (q j)])).length) Slot.unset).toArray = ls at hl ⊢
  have hl : lv_has ls 4 [(0, .ref (a 0)), (1, .ref (q j))] := hl
  have loop : ∀ (n i : Nat) (ls : Array Slot), i + n = P j → lv_has ls 4 [(3, .int (nI (B j + i))), (2, .int (nI (cnt T (B j) i))), (0, .ref (a 0)), (1, .ref (q j))] → W p l e (headSpec w_Hop_keysIn (rmD 1 0 0)).room s m ([.ref (a 0), .ref (q j)] : List Value).toArray below meth c0 s.heap [] 0 0 (MQ below (hq_R (some (.int (nI (cnt T (B j) (P j)))))) ([.ref (a 0), .ref (q j)] : List Value).toArray s 0 0 hq_no) (F0 m 7 ls []) := by
    intro n
    induction n with
    | zero =>
      intro i ls hi hl
      have hiP : i = P j := by omega
      refine lv_iload_n hx hb d_Hop_keysIn_7 rfl (lv_at hl 0 rfl) ?_
      refine lv_aload_n hx hb d_Hop_keysIn_8 rfl (lv_at hl 3 rfl) ?_
      refine k_end X hK hP hl.1 hj (Nat.le_of_ble_eq_true rfl) ⟨Nat.zero_le _, Nat.zero_le _⟩ ⟨Nat.le_of_ble_eq_true rfl, Nat.le_of_ble_eq_true rfl⟩ d_Hop_keysIn_9 ?_
      refine lvT_icmp_ge (tgt := 33) hx hb d_Hop_keysIn_12 (by decide) (nI_le (a := B j + P j) (b := B j + i) (by omega) (by omega)) ?_
      refine lv_iload_n hx hb d_Hop_keysIn_33 rfl (lv_at hl 1 rfl) ?_
      exact W.iret (v := nI (cnt T (B j) i)) hx hb hr (fun t ht hW => ⟨by rw [hiP], ht⟩) hq_nl d_Hop_keysIn_34
    | succ n ih =>
      intro i ls hi hl
      refine lv_iload_n hx hb d_Hop_keysIn_7 rfl (lv_at hl 0 rfl) ?_
      refine lv_aload_n hx hb d_Hop_keysIn_8 rfl (lv_at hl 3 rfl) ?_
      refine k_end X hK hP hl.1 hj (Nat.le_of_ble_eq_true rfl) ⟨Nat.zero_le _, Nat.zero_le _⟩ ⟨Nat.le_of_ble_eq_true rfl, Nat.le_of_ble_eq_true rfl⟩ d_Hop_keysIn_9 ?_
      refine lvF_icmp_ge (tgt := 33) hx hb d_Hop_keysIn_12 (by decide) (nI_ge (a := B j + i) (b := B j + P j) (by omega) (by omega)) ?_
      refine lv_aload_n hx hb d_Hop_keysIn_15 rfl (lv_at hl 2 rfl) ?_
      refine hg_taken X hK hP d_Hop_keysIn_16 ?_
      refine lv_iload_n hx hb d_Hop_keysIn_19 rfl (lv_at hl 0 rfl) ?_
      refine hl_T X hK hP (i := B j + i) (by omega) d_Hop_keysIn_20 ?_
      refine lv_if_eq (tgt := 27) hx hb d_Hop_keysIn_21 (by decide) (fun h1 => ?_) (fun h1 => ?_)
      · have e1 : cnt T (B j) (i + 1) = cnt T (B j) i := if_neg (by rw [bI_0.mp h1]; decide)
        refine lv_iinc (k := 0) (v := nI (B j + i + 1)) (lv' := [(3, .int (nI (B j + i + 1))), (2, .int (nI (cnt T (B j) i))), (0, .ref (a 0)), (1, .ref (q j))]) hx hb d_Hop_keysIn_27 hl rfl (inc1 (B j + i)) (by decide) rfl (fun ls hl => ?_)
        refine lv_goto (tgt := 7) hx hb d_Hop_keysIn_30 (by decide) ?_
        exact ih (i + 1) ls (by omega) (by rw [e1]; exact hl)
      · have e1 : cnt T (B j) (i + 1) = cnt T (B j) i + 1 := if_pos (bI_n0.mp h1)
        refine lv_iinc (k := 1) (v := nI (cnt T (B j) i + 1)) (lv' := [(2, .int (nI (cnt T (B j) i + 1))), (3, .int (nI (B j + i))), (0, .ref (a 0)), (1, .ref (q j))]) hx hb d_Hop_keysIn_24 hl rfl (inc1 _) (by decide) rfl (fun ls hl => ?_)
        refine lv_iinc (k := 1) (v := nI (B j + i + 1)) (lv' := [(3, .int (nI (B j + i + 1))), (2, .int (nI (cnt T (B j) i + 1))), (0, .ref (a 0)), (1, .ref (q j))]) hx hb d_Hop_keysIn_27 hl rfl (inc1 (B j + i)) (by decide) rfl (fun ls hl => ?_)
        refine lv_goto (tgt := 7) hx hb d_Hop_keysIn_30 (by decide) ?_
        exact ih (i + 1) ls (by omega) (by rw [e1]; exact lv_sub hl [0, 1, 2, 3] rfl)
  refine lv_iconst (v := 0) hx hb d_Hop_keysIn_0 (by decide) ?_
  refine lv_istore_n (lv' := [(2, .int 0), (0, .ref (a 0)), (1, .ref (q j))]) hx hb d_Hop_keysIn_1 rfl hl (by decide) rfl (fun ls hl => ?_)
  refine lv_aload_n hx hb d_Hop_keysIn_2 rfl (lv_at hl 2 rfl) ?_
  refine hg_base X hK hP hj d_Hop_keysIn_3 ?_
  refine lv_istore_n (lv' := [(3, .int (nI (B j))), (2, .int 0), (0, .ref (a 0)), (1, .ref (q j))]) hx hb d_Hop_keysIn_6 rfl hl (by decide) rfl (fun ls hl => ?_)
  exact loop (P j) 0 ls (by omega) (lv_sub hl [0, 1, 2, 3] rfl)
set_option maxHeartbeats 4000000 in
set_option maxRecDepth 100000 in
/-- isBitSet -/
theorem c_Hop_isBitSet (l : Launch) (D : va_G) (ca a q : Nat → Nat) (K V : IT) (T : BT) (C : IT) (B P : Nat → Nat) (S : IT) (j : Nat) (hj : j < 4) (h i : Nat) (hc : pw (P j)) (hbd : B j + P j ≤ 256) (hh : h < 65536) (hi : i < 65536) : Met l y_Hop_isBitSet w_Hop_isBitSet (rmD 1 0 0) (va_Pc [.ref (a 0), .ref (q j), .int (nI h), .int (nI i)] (hb_R D hCl (wH ca a q K V T C B P S) (tyH ca))) (hq_R (some (.int (bI (bit T K (B j) (P j) (S j) h i))))) 0 0 hq_no := by
  refine Met.ofW (cc := b_Hop_isBitSet) (maxL := 5) (ret := some .boolean) (by decide) rfl ?_
  intro p e s m args below meth c0 s₁ B0 hml hv
  obtain ⟨rfl, hP, hK⟩ := hv
  have hx := B0.exec
  have hb := B0.bytes
  have hr := B0.returns
  have hts := atoms_spec (ws := w_Hop_isBitSet) B0.pre
  have hown : s.vm.findClass R_Hop = some m.cls := findClass_of_methodNamed B0.named
  have hlocks := B0.notSynchronized
  have hwA : ∀ w ∈ wsA, w.before ([.ref (a 0), .ref (q j), .int (nI h), .int (nI i)] : List Value).toArray s = true := fun w h => hts w (List.mem_cons_of_mem _ h)
  have X : CallFix p m c0 b_Hop_isBitSet 5 s ([.ref (a 0), .ref (q j), .int (nI h), .int (nI i)] : List Value).toArray wsA R_Hop := ⟨hx, hb, hml, hown, hwA⟩
  have hl := lv_entry ([.ref (a 0), .ref (q j), .int (nI h), .int (nI i)]) (n := 5) (Nat.le_of_ble_eq_true rfl)
  rw [lg_entry_eq]
  generalize (lg_sl ([.ref (a 0), .ref (q j), .int (nI h), .int (nI i)]) ++ List.replicate (5 - (lg_sl ([.ref (a 0), .ref (q j), .int (nI h), .int (nI i)])).length) Slot.unset).toArray = ls at hl ⊢
  have hl : lv_has ls 5 [(0, .ref (a 0)), (1, .ref (q j)), (2, .int (nI h)), (3, .int (nI i))] := hl
  refine lv_aload_n hx hb d_Hop_isBitSet_0 rfl (lv_at hl 1 rfl) ?_
  refine lv_iload_n hx hb d_Hop_isBitSet_1 rfl (lv_at hl 2 rfl) ?_
  refine lv_iload_n hx hb d_Hop_isBitSet_2 rfl (lv_at hl 3 rfl) ?_
  refine lv_iadd hx hb d_Hop_isBitSet_3 ?_
  refine lv_tope (y := nI (h + i)) (nI_add _ _) ?_
  refine k_slotOf X hK hP hl.1 (x := h + i) hc (by omega) hj (Nat.le_of_ble_eq_true rfl) ⟨Nat.zero_le _, Nat.zero_le _⟩ ⟨Nat.le_of_ble_eq_true rfl, Nat.le_of_ble_eq_true rfl⟩ d_Hop_isBitSet_4 ?_
  refine lv_istore (lv' := [(4, .int (nI (B j + (h + i) % P j))), (0, .ref (a 0)), (1, .ref (q j)), (2, .int (nI h)), (3, .int (nI i))]) hx hb d_Hop_isBitSet_7 hl (by decide) rfl (fun ls hl => ?_)
  refine lv_aload_n hx hb d_Hop_isBitSet_9 rfl (lv_at hl 1 rfl) ?_
  refine hg_taken X hK hP d_Hop_isBitSet_10 ?_
  refine lv_iload hx hb d_Hop_isBitSet_13 (lv_at hl 0 rfl) ?_
  refine hl_T X hK hP (i := B j + (h + i) % P j) (sl_lt hc hbd) d_Hop_isBitSet_15 ?_
  refine lv_if_eq (tgt := 38) hx hb d_Hop_isBitSet_16 (by decide) (fun h1 => ?_) (fun h1 => ?_)
  · refine lv_iconst (v := 0) hx hb d_Hop_isBitSet_38 (by decide) ?_
    exact W.zret (v := 0) hx hb hr rfl (fun t ht hW => ⟨by unfold bit; rw [bI_0.mp h1]; rfl, ht⟩) hq_nl d_Hop_isBitSet_39
  · refine lv_aload_n hx hb d_Hop_isBitSet_19 rfl (lv_at hl 2 rfl) ?_
    refine lv_aload_n hx hb d_Hop_isBitSet_20 rfl (lv_at hl 1 rfl) ?_
    refine hg_keys X hK hP d_Hop_isBitSet_21 ?_
    refine lv_iload hx hb d_Hop_isBitSet_24 (lv_at hl 0 rfl) ?_
    refine hl_K X hK hP (i := B j + (h + i) % P j) (sl_lt hc hbd) d_Hop_isBitSet_26 ?_
    refine k_homeOf X hK hP hl.1 hc hj (Nat.le_of_ble_eq_true rfl) ⟨Nat.zero_le _, Nat.zero_le _⟩ ⟨Nat.le_of_ble_eq_true rfl, Nat.le_of_ble_eq_true rfl⟩ d_Hop_isBitSet_27 ?_
    refine lv_iload_n hx hb d_Hop_isBitSet_30 rfl (lv_at hl 3 rfl) ?_
    refine lv_icmp_ne (tgt := 38) hx hb d_Hop_isBitSet_31 (by decide) (fun h2 => ?_) (fun h2 => ?_)
    · refine lv_iconst (v := 0) hx hb d_Hop_isBitSet_38 (by decide) ?_
      exact W.zret (v := 0) hx hb hr rfl (fun t ht hW => ⟨by unfold bit; rw [bI_n0.mp h1, decide_eq_false (fun z => h2 ((nI_eq (by have := hom_lt (key := K (B j + (h + i) % P j)) (s := S j) hc; have := pw_le hc; omega) (by omega)).mpr z))]; rfl, ht⟩) hq_nl d_Hop_isBitSet_39
    · refine lv_iconst (v := 1) hx hb d_Hop_isBitSet_34 (by decide) ?_
      refine lv_goto (tgt := 39) hx hb d_Hop_isBitSet_35 (by decide) ?_
      exact W.zret (v := 1) hx hb hr rfl (fun t ht hW => ⟨by unfold bit; rw [bI_n0.mp h1, decide_eq_true ((nI_eq (by have := hom_lt (key := K (B j + (h + i) % P j)) (s := S j) hc; have := pw_le hc; omega) (by omega)).mp (h2))]; rfl, ht⟩) hq_nl d_Hop_isBitSet_39
set_option maxHeartbeats 4000000 in
set_option maxRecDepth 100000 in
/-- stepsToFree -/
theorem c_Hop_stepsToFree (l : Launch) (D : va_G) (ca a q : Nat → Nat) (K V : IT) (T : BT) (C : IT) (B P : Nat → Nat) (S : IT) (j : Nat) (hj : j < 4) (h : Nat) (hc : pw (P j)) (hbd : B j + P j ≤ 256) (hh : h < 65536) : Met l y_Hop_stepsToFree w_Hop_stepsToFree (rmD 1 0 0) (va_Pc [.ref (a 0), .ref (q j), .int (nI h)] (hb_R D hCl (wH ca a q K V T C B P S) (tyH ca))) (hq_R (some (.int (oI (stp T (B j) (P j) h 0 (P j)))))) 0 0 hq_no := by
  refine Met.ofW (cc := b_Hop_stepsToFree) (maxL := 4) (ret := some .int) (by decide) rfl ?_
  intro p e s m args below meth c0 s₁ B0 hml hv
  obtain ⟨rfl, hP, hK⟩ := hv
  have hx := B0.exec
  have hb := B0.bytes
  have hr := B0.returns
  have hts := atoms_spec (ws := w_Hop_stepsToFree) B0.pre
  have hown : s.vm.findClass R_Hop = some m.cls := findClass_of_methodNamed B0.named
  have hlocks := B0.notSynchronized
  have hwA : ∀ w ∈ wsA, w.before ([.ref (a 0), .ref (q j), .int (nI h)] : List Value).toArray s = true := fun w h => hts w (List.mem_cons_of_mem _ h)
  have X : CallFix p m c0 b_Hop_stepsToFree 4 s ([.ref (a 0), .ref (q j), .int (nI h)] : List Value).toArray wsA R_Hop := ⟨hx, hb, hml, hown, hwA⟩
  have hl := lv_entry ([.ref (a 0), .ref (q j), .int (nI h)]) (n := 4) (Nat.le_of_ble_eq_true rfl)
  rw [lg_entry_eq]
  generalize (lg_sl ([.ref (a 0), .ref (q j), .int (nI h)]) ++ List.replicate (4 - (lg_sl ([.ref (a 0), .ref (q j), .int (nI h)])).length) Slot.unset).toArray = ls at hl ⊢
  have hl : lv_has ls 4 [(0, .ref (a 0)), (1, .ref (q j)), (2, .int (nI h))] := hl
  have hP8 := pw_le hc
  have loop : ∀ (n i : Nat) (ls : Array Slot), i + n = P j → stp T (B j) (P j) h i n = stp T (B j) (P j) h 0 (P j) → lv_has ls 4 [(3, .int (nI i)), (0, .ref (a 0)), (1, .ref (q j)), (2, .int (nI h))] → W p l e (headSpec w_Hop_stepsToFree (rmD 1 0 0)).room s m ([.ref (a 0), .ref (q j), .int (nI h)] : List Value).toArray below meth c0 s.heap [] 0 0 (MQ below (hq_R (some (.int (oI (stp T (B j) (P j) h 0 (P j)))))) ([.ref (a 0), .ref (q j), .int (nI h)] : List Value).toArray s 0 0 hq_no) (F0 m 2 ls []) := by
    intro n
    induction n with
    | zero =>
      intro i ls hi hf hl
      refine lv_iload_n hx hb d_Hop_stepsToFree_2 rfl (lv_at hl 0 rfl) ?_
      refine lv_aload_n hx hb d_Hop_stepsToFree_3 rfl (lv_at hl 2 rfl) ?_
      refine hg_capacity X hK hP hj d_Hop_stepsToFree_4 ?_
      refine lvT_icmp_ge (tgt := 33) hx hb d_Hop_stepsToFree_7 (by decide) (nI_le (a := P j) (b := i) (by omega) (by omega)) ?_
      refine lv_iconst (v := -1) hx hb d_Hop_stepsToFree_33 (by decide) ?_
      exact W.iret (v := -1) hx hb hr (fun t ht hW => ⟨by rw [← hf]; rfl, ht⟩) hq_nl d_Hop_stepsToFree_34
    | succ n ih =>
      intro i ls hi hf hl
      refine lv_iload_n hx hb d_Hop_stepsToFree_2 rfl (lv_at hl 0 rfl) ?_
      refine lv_aload_n hx hb d_Hop_stepsToFree_3 rfl (lv_at hl 2 rfl) ?_
      refine hg_capacity X hK hP hj d_Hop_stepsToFree_4 ?_
      refine lvF_icmp_ge (tgt := 33) hx hb d_Hop_stepsToFree_7 (by decide) (nI_ge (a := i) (b := P j) (by omega) (by omega)) ?_
      refine lv_aload_n hx hb d_Hop_stepsToFree_10 rfl (lv_at hl 1 rfl) ?_
      refine hg_taken X hK hP d_Hop_stepsToFree_11 ?_
      refine lv_aload_n hx hb d_Hop_stepsToFree_14 rfl (lv_at hl 2 rfl) ?_
      refine lv_iload_n hx hb d_Hop_stepsToFree_15 rfl (lv_at hl 3 rfl) ?_
      refine lv_iload_n hx hb d_Hop_stepsToFree_16 rfl (lv_at hl 0 rfl) ?_
      refine lv_iadd hx hb d_Hop_stepsToFree_17 ?_
      refine lv_tope (y := nI (h + i)) (nI_add _ _) ?_
      refine k_slotOf X hK hP hl.1 (x := h + i) hc (by omega) hj (Nat.le_of_ble_eq_true rfl) ⟨Nat.zero_le _, Nat.zero_le _⟩ ⟨Nat.le_of_ble_eq_true rfl, Nat.le_of_ble_eq_true rfl⟩ d_Hop_stepsToFree_18 ?_
      refine hl_T X hK hP (i := B j + (h + i) % P j) (sl_lt hc hbd) d_Hop_stepsToFree_21 ?_
      refine lv_if_ne (tgt := 27) hx hb d_Hop_stepsToFree_22 (by decide) (fun h1 => ?_) (fun h1 => ?_)
      · refine lv_iinc (k := 0) (v := nI (i + 1)) (lv' := [(3, .int (nI (i + 1))), (0, .ref (a 0)), (1, .ref (q j)), (2, .int (nI h))]) hx hb d_Hop_stepsToFree_27 hl rfl (inc1 i) (by decide) rfl (fun ls hl => ?_)
        refine lv_goto (tgt := 2) hx hb d_Hop_stepsToFree_30 (by decide) ?_
        exact ih (i + 1) ls (by omega) (by rw [← hf]; exact (if_neg (by rw [bI_n0.mp h1]; decide)).symm) hl
      · refine lv_iload_n hx hb d_Hop_stepsToFree_25 rfl (lv_at hl 0 rfl) ?_
        exact W.iret (v := nI i) hx hb hr (fun t ht hW => ⟨by rw [← hf]; show _ = Outcome.returned (some (Value.int (oI (ite _ _ _)))); rw [if_pos (bI_0.mp (h1))]; rfl, ht⟩) hq_nl d_Hop_stepsToFree_26
  refine lv_iconst (v := 0) hx hb d_Hop_stepsToFree_0 (by decide) ?_
  refine lv_istore_n (lv' := [(3, .int 0), (0, .ref (a 0)), (1, .ref (q j)), (2, .int (nI h))]) hx hb d_Hop_stepsToFree_1 rfl hl (by decide) rfl (fun ls hl => ?_)
  exact loop (P j) 0 ls (by omega) rfl hl
end
section
set_option maxHeartbeats 4000000 in
set_option maxRecDepth 100000 in
/-- copySlot: what is at g comes to f -/
theorem c_Hop_copySlot (l : Launch) (D : va_G) (ca a q : Nat → Nat) (K V : IT) (T : BT) (C : IT) (B P : Nat → Nat) (S : IT) (g f : Nat) (hg : g < 256) (hf : f < 256) : Met l y_Hop_copySlot w_Hop_copySlot (rmD 0 0 0) (va_Pc [.ref (a 0), .int (nI g), .int (nI f)] (hb_W D hCl (wH ca a q K V T C B P S) (tyH ca))) (hq_W (none) D hCl (wH ca a q (upd K f (K g)) (upd V f (V g)) (va_up T f (T g)) C B P S) (hA (wH ca a q K V T C B P S))) 0 0 (hA (wH ca a q K V T C B P S)) := by
  refine Met.ofW (cc := b_Hop_copySlot) (maxL := 3) (ret := none) (by decide) rfl ?_
  intro p e s m args below meth c0 s₁ B0 hml hv
  obtain ⟨rfl, hP, hK, hD0⟩ := hv
  have hx := B0.exec
  have hb := B0.bytes
  have hr := B0.returns
  have hts := atoms_spec (ws := w_Hop_copySlot) B0.pre
  have hown : s.vm.findClass R_Hop = some m.cls := findClass_of_methodNamed B0.named
  have hlocks := B0.notSynchronized
  have hwA : ∀ w ∈ wsA, w.before ([.ref (a 0), .int (nI g), .int (nI f)] : List Value).toArray s = true := fun w h => hts w (List.mem_cons_of_mem _ h)
  have X : CallFix p m c0 b_Hop_copySlot 3 s ([.ref (a 0), .int (nI g), .int (nI f)] : List Value).toArray wsA R_Hop := ⟨hx, hb, hml, hown, hwA⟩
  have hD := hA_D hD0
  have hS : va_S (hA (wH ca a q K V T C B P S)) s.heap s.heap [] := va_S.rf
  have hl := lv_entry ([.ref (a 0), .int (nI g), .int (nI f)]) (n := 3) (Nat.le_of_ble_eq_true rfl)
  rw [lg_entry_eq]
  generalize (lg_sl ([.ref (a 0), .int (nI g), .int (nI f)]) ++ List.replicate (3 - (lg_sl ([.ref (a 0), .int (nI g), .int (nI f)])).length) Slot.unset).toArray = ls at hl ⊢
  have hl : lv_has ls 3 [(0, .ref (a 0)), (1, .int (nI g)), (2, .int (nI f))] := hl
  refine lv_aload_n hx hb d_Hop_copySlot_0 rfl (lv_at hl 0 rfl) ?_
  refine hg_keys X hK hP d_Hop_copySlot_1 ?_
  refine lv_iload_n hx hb d_Hop_copySlot_4 rfl (lv_at hl 2 rfl) ?_
  refine lv_aload_n hx hb d_Hop_copySlot_5 rfl (lv_at hl 0 rfl) ?_
  refine hg_keys X hK hP d_Hop_copySlot_6 ?_
  refine lv_iload_n hx hb d_Hop_copySlot_9 rfl (lv_at hl 1 rfl) ?_
  refine hl_K X hK hP (i := g) (hg) d_Hop_copySlot_10 ?_
  refine hs_K X hK hP hD hS (i := f) (x := K (g)) (hf) d_Hop_copySlot_11 (fun H locs hP hD hS => ?_)
  refine lv_aload_n hx hb d_Hop_copySlot_12 rfl (lv_at hl 0 rfl) ?_
  refine hg_values X hK hP d_Hop_copySlot_13 ?_
  refine lv_iload_n hx hb d_Hop_copySlot_16 rfl (lv_at hl 2 rfl) ?_
  refine lv_aload_n hx hb d_Hop_copySlot_17 rfl (lv_at hl 0 rfl) ?_
  refine hg_values X hK hP d_Hop_copySlot_18 ?_
  refine lv_iload_n hx hb d_Hop_copySlot_21 rfl (lv_at hl 1 rfl) ?_
  refine hl_V X hK hP (i := g) (hg) d_Hop_copySlot_22 ?_
  refine hs_V X hK hP hD hS (i := f) (x := V (g)) (hf) d_Hop_copySlot_23 (fun H locs hP hD hS => ?_)
  refine lv_aload_n hx hb d_Hop_copySlot_24 rfl (lv_at hl 0 rfl) ?_
  refine hg_taken X hK hP d_Hop_copySlot_25 ?_
  refine lv_iload_n hx hb d_Hop_copySlot_28 rfl (lv_at hl 2 rfl) ?_
  refine lv_aload_n hx hb d_Hop_copySlot_29 rfl (lv_at hl 0 rfl) ?_
  refine hg_taken X hK hP d_Hop_copySlot_30 ?_
  refine lv_iload_n hx hb d_Hop_copySlot_33 rfl (lv_at hl 1 rfl) ?_
  refine hl_T X hK hP (i := g) (hg) d_Hop_copySlot_34 ?_
  refine hs_T X hK hP hD hS (i := f) (x := (T (g))) (hf) d_Hop_copySlot_35 (fun H locs hP hD hS => ?_)
  exact W.vret hx hb hr (fun t ht hW => ⟨rfl, by rw [ht]; exact hP, hS.F ht⟩) hS.2.2 d_Hop_copySlot_36
set_option maxHeartbeats 4000000 in
set_option maxRecDepth 100000 in
/-- freeAll: all places of a part are free -/
theorem c_Hop_freeAll (l : Launch) (D : va_G) (ca a q : Nat → Nat) (K V : IT) (T : BT) (C : IT) (B P : Nat → Nat) (S : IT) (j : Nat) (hj : j < 4) (hbd : B j + P j ≤ 256) : Met l y_Hop_freeAll w_Hop_freeAll (rmD 1 0 0) (va_Pc [.ref (a 0), .ref (q j)] (hb_W D hCl (wH ca a q K V T C B P S) (tyH ca))) (hq_W (none) D hCl (wH ca a q K V (clr T (B j) (P j)) C B P S) (hA (wH ca a q K V T C B P S))) 0 0 (hA (wH ca a q K V T C B P S)) := by
  refine Met.ofW (cc := b_Hop_freeAll) (maxL := 3) (ret := none) (by decide) rfl ?_
  intro p e s m args below meth c0 s₁ B0 hml hv
  obtain ⟨rfl, hP, hK, hD0⟩ := hv
  have hx := B0.exec
  have hb := B0.bytes
  have hr := B0.returns
  have hts := atoms_spec (ws := w_Hop_freeAll) B0.pre
  have hown : s.vm.findClass R_Hop = some m.cls := findClass_of_methodNamed B0.named
  have hlocks := B0.notSynchronized
  have hwA : ∀ w ∈ wsA, w.before ([.ref (a 0), .ref (q j)] : List Value).toArray s = true := fun w h => hts w (List.mem_cons_of_mem _ h)
  have X : CallFix p m c0 b_Hop_freeAll 3 s ([.ref (a 0), .ref (q j)] : List Value).toArray wsA R_Hop := ⟨hx, hb, hml, hown, hwA⟩
  have hD := hA_D hD0
  have hS : va_S (hA (wH ca a q K V T C B P S)) s.heap s.heap [] := va_S.rf
  have hl := lv_entry ([.ref (a 0), .ref (q j)]) (n := 3) (Nat.le_of_ble_eq_true rfl)
  rw [lg_entry_eq]
  generalize (lg_sl ([.ref (a 0), .ref (q j)]) ++ List.replicate (3 - (lg_sl ([.ref (a 0), .ref (q j)])).length) Slot.unset).toArray = ls at hl ⊢
  have hl : lv_has ls 3 [(0, .ref (a 0)), (1, .ref (q j))] := hl
  have loop : ∀ (n i : Nat) (ls : Array Slot) (H : Heap) (locs : List Loc), i + n = P j → va_P D hCl (wH ca a q K V (clr T (B j) i) C B P S) H → va_D (hA (wH ca a q K V T C B P S)) (wH ca a q K V (clr T (B j) i) C B P S) → va_S (hA (wH ca a q K V T C B P S)) s.heap H locs → lv_has ls 3 [(2, .int (nI (B j + i))), (0, .ref (a 0)), (1, .ref (q j))] → W p l e (headSpec w_Hop_freeAll (rmD 1 0 0)).room s m ([.ref (a 0), .ref (q j)] : List Value).toArray below meth c0 H locs 0 0 (MQ below (hq_W (none) D hCl (wH ca a q K V (clr T (B j) (P j)) C B P S) (hA (wH ca a q K V T C B P S))) ([.ref (a 0), .ref (q j)] : List Value).toArray s 0 0 (hA (wH ca a q K V T C B P S))) (F0 m 5 ls []) := by
    intro n
    induction n with
    | zero =>
      intro i ls H locs hi hP hD hS hl
      have hiP : i = P j := by omega
      rw [hiP] at hP
      refine lv_iload_n hx hb d_Hop_freeAll_5 rfl (lv_at hl 0 rfl) ?_
      refine lv_aload_n hx hb d_Hop_freeAll_6 rfl (lv_at hl 2 rfl) ?_
      refine k_end X hK hP hl.1 hj (Nat.le_of_ble_eq_true rfl) ⟨Nat.zero_le _, Nat.zero_le _⟩ ⟨Nat.le_of_ble_eq_true rfl, Nat.le_of_ble_eq_true rfl⟩ d_Hop_freeAll_7 ?_
      refine lvT_icmp_ge (tgt := 26) hx hb d_Hop_freeAll_10 (by decide) (nI_le (a := B j + P j) (b := B j + i) (by omega) (by omega)) ?_
      exact W.vret hx hb hr (fun t ht hW => ⟨rfl, by rw [ht]; exact hP, hS.F ht⟩) hS.2.2 d_Hop_freeAll_26
    | succ n ih =>
      intro i ls H locs hi hP hD hS hl
      refine lv_iload_n hx hb d_Hop_freeAll_5 rfl (lv_at hl 0 rfl) ?_
      refine lv_aload_n hx hb d_Hop_freeAll_6 rfl (lv_at hl 2 rfl) ?_
      refine k_end X hK hP hl.1 hj (Nat.le_of_ble_eq_true rfl) ⟨Nat.zero_le _, Nat.zero_le _⟩ ⟨Nat.le_of_ble_eq_true rfl, Nat.le_of_ble_eq_true rfl⟩ d_Hop_freeAll_7 ?_
      refine lvF_icmp_ge (tgt := 26) hx hb d_Hop_freeAll_10 (by decide) (nI_ge (a := B j + i) (b := B j + P j) (by omega) (by omega)) ?_
      refine lv_aload_n hx hb d_Hop_freeAll_13 rfl (lv_at hl 1 rfl) ?_
      refine hg_taken X hK hP d_Hop_freeAll_14 ?_
      refine lv_iload_n hx hb d_Hop_freeAll_17 rfl (lv_at hl 0 rfl) ?_
      refine lv_iconst (v := 0) hx hb d_Hop_freeAll_18 (by decide) ?_
      refine hs_T X hK hP hD hS (i := B j + i) (x := false) (by omega) d_Hop_freeAll_19 (fun H locs hP hD hS => ?_)
      rw [clr_s] at hP hD
      refine lv_iinc (k := 0) (v := nI (B j + i + 1)) (lv' := [(2, .int (nI (B j + i + 1))), (0, .ref (a 0)), (1, .ref (q j))]) hx hb d_Hop_freeAll_20 hl rfl (inc1 (B j + i)) (by decide) rfl (fun ls hl => ?_)
      refine lv_goto (tgt := 5) hx hb d_Hop_freeAll_23 (by decide) ?_
      exact ih (i + 1) ls H locs (by omega) hP hD hS hl
  refine lv_aload_n hx hb d_Hop_freeAll_0 rfl (lv_at hl 1 rfl) ?_
  refine hg_base X hK hP hj d_Hop_freeAll_1 ?_
  refine lv_istore_n (lv' := [(2, .int (nI (B j))), (0, .ref (a 0)), (1, .ref (q j))]) hx hb d_Hop_freeAll_4 rfl hl (by decide) rfl (fun ls hl => ?_)
  exact loop (P j) 0 ls s.heap [] (by omega) (by rw [clr_0]; exact hP) (by rw [clr_0]; exact hD) hS hl
section HKB
variable {p : Program} {l : Launch} {e : Env} {R : Room} {s : State} {m : MethodId} {args : Array Value} {below : List Frame} {meth : Method} {c : Code} {H : Heap} {locs : List Loc} {cells slots : Nat} {Q : State → Prop}
variable {cc : ByteArray} {pc nL : Nat} {ls : Array Slot} {rest st0 : List Value} {D : va_G} {A : Nat → Prop} {H0 : Heap} {ca a q : Nat → Nat} {K V : IT} {T : BT} {C : IT} {B P : Nat → Nat} {S : IT}
theorem k_slotOrNone (X : CallFix p m c cc nL s args wsA R_Hop) (hK : va_K D hCl (tyH ca) s) (hP : va_P D hCl (wH ca a q K V T C B P S) H) (hsz : ls.size = nL) {j : Nat} {key : Int32} (hj : j < 4) (hc : pw (P j)) (hbd : B j + P j ≤ 256) (hrm : (rest.map fun v => v.category).sum ≤ 8) (hf : cells ≤ R.cells ∧ slots ≤ R.slots) (hR : 2 ≤ R.frames ∧ 60 ≤ R.locals) (d : decode cc pc = .ok (.invokevirtual 40, 3)) (k : W p l e R s m args below meth c H locs cells slots Q (F0 m (pc + 3) ls (.int (oI (fnd T K (B j) (P j) (hom key (S j) (P j)) key 0 8)) :: rest))) : W p l e R s m args below meth c H locs cells slots Q (F0 m pc ls (.int key :: .ref (q j) :: .ref (a 0) :: rest)) :=
  hr_V (As := [.ref (q j), .int key]) (v := some (.int (oI (fnd T K (B j) (P j) (hom key (S j) (P j)) key 0 8)))) (C := R_Hop) X (c_Hop_slotOrNone l D ca a q K V T C B P S j key hj hc hbd) (cwV 2 X.2.2.2.2 g_Hop_slotOrNone rfl rfl rfl (by decide +kernel) ⟨by show 1 + 1 ≤ _; omega, by show 8 + (6 + 11) + 30 * 1 ≤ _; omega⟩) hP hK (va_recv (q0 := 0) (ci := 0) (q := (R_Hop, F_Hop, 6)) hK hP rfl rfl) rfl hsz rfl hrm hf d k
theorem k_keysIn (X : CallFix p m c cc nL s args wsA R_Hop) (hK : va_K D hCl (tyH ca) s) (hP : va_P D hCl (wH ca a q K V T C B P S) H) (hsz : ls.size = nL) {j : Nat} (hj : j < 4) (hbd : B j + P j ≤ 256) (hrm : (rest.map fun v => v.category).sum ≤ 8) (hf : cells ≤ R.cells ∧ slots ≤ R.slots) (hR : 2 ≤ R.frames ∧ 60 ≤ R.locals) (d : decode cc pc = .ok (.invokevirtual 62, 3)) (k : W p l e R s m args below meth c H locs cells slots Q (F0 m (pc + 3) ls (.int (nI (cnt T (B j) (P j))) :: rest))) : W p l e R s m args below meth c H locs cells slots Q (F0 m pc ls (.ref (q j) :: .ref (a 0) :: rest)) :=
  hr_V (As := [.ref (q j)]) (v := some (.int (nI (cnt T (B j) (P j))))) (C := R_Hop) X (c_Hop_keysIn l D ca a q K V T C B P S j hj hbd) (cwV 1 X.2.2.2.2 g_Hop_keysIn rfl rfl rfl (by decide +kernel) ⟨by show 1 + 1 ≤ _; omega, by show 8 + (4 + 11) + 30 * 1 ≤ _; omega⟩) hP hK (va_recv (q0 := 0) (ci := 0) (q := (R_Hop, F_Hop, 6)) hK hP rfl rfl) rfl hsz rfl hrm hf d k
theorem k_isBitSet (X : CallFix p m c cc nL s args wsA R_Hop) (hK : va_K D hCl (tyH ca) s) (hP : va_P D hCl (wH ca a q K V T C B P S) H) (hsz : ls.size = nL) {j h i : Nat} (hj : j < 4) (hc : pw (P j)) (hbd : B j + P j ≤ 256) (hh : h < 65536) (hi : i < 65536) (hrm : (rest.map fun v => v.category).sum ≤ 8) (hf : cells ≤ R.cells ∧ slots ≤ R.slots) (hR : 2 ≤ R.frames ∧ 60 ≤ R.locals) (d : decode cc pc = .ok (.invokevirtual 96, 3)) (k : W p l e R s m args below meth c H locs cells slots Q (F0 m (pc + 3) ls (.int (bI (bit T K (B j) (P j) (S j) h i)) :: rest))) : W p l e R s m args below meth c H locs cells slots Q (F0 m pc ls (.int (nI i) :: .int (nI h) :: .ref (q j) :: .ref (a 0) :: rest)) :=
  hr_V (As := [.ref (q j), .int (nI h), .int (nI i)]) (v := some (.int (bI (bit T K (B j) (P j) (S j) h i)))) (C := R_Hop) X (c_Hop_isBitSet l D ca a q K V T C B P S j hj h i hc hbd hh hi) (cwV 3 X.2.2.2.2 g_Hop_isBitSet rfl rfl rfl (by decide +kernel) ⟨by show 1 + 1 ≤ _; omega, by show 8 + (5 + 11) + 30 * 1 ≤ _; omega⟩) hP hK (va_recv (q0 := 0) (ci := 0) (q := (R_Hop, F_Hop, 6)) hK hP rfl rfl) rfl hsz rfl hrm hf d k
theorem k_stepsToFree (X : CallFix p m c cc nL s args wsA R_Hop) (hK : va_K D hCl (tyH ca) s) (hP : va_P D hCl (wH ca a q K V T C B P S) H) (hsz : ls.size = nL) {j h : Nat} (hj : j < 4) (hc : pw (P j)) (hbd : B j + P j ≤ 256) (hh : h < 65536) (hrm : (rest.map fun v => v.category).sum ≤ 8) (hf : cells ≤ R.cells ∧ slots ≤ R.slots) (hR : 2 ≤ R.frames ∧ 60 ≤ R.locals) (d : decode cc pc = .ok (.invokevirtual 126, 3)) (k : W p l e R s m args below meth c H locs cells slots Q (F0 m (pc + 3) ls (.int (oI (stp T (B j) (P j) h 0 (P j))) :: rest))) : W p l e R s m args below meth c H locs cells slots Q (F0 m pc ls (.int (nI h) :: .ref (q j) :: .ref (a 0) :: rest)) :=
  hr_V (As := [.ref (q j), .int (nI h)]) (v := some (.int (oI (stp T (B j) (P j) h 0 (P j))))) (C := R_Hop) X (c_Hop_stepsToFree l D ca a q K V T C B P S j hj h hc hbd hh) (cwV 2 X.2.2.2.2 g_Hop_stepsToFree rfl rfl rfl (by decide +kernel) ⟨by show 1 + 1 ≤ _; omega, by show 8 + (4 + 11) + 30 * 1 ≤ _; omega⟩) hP hK (va_recv (q0 := 0) (ci := 0) (q := (R_Hop, F_Hop, 6)) hK hP rfl rfl) rfl hsz rfl hrm hf d k
theorem k_copySlot (X : CallFix p m c cc nL s args wsA R_Hop) (hK : va_K D hCl (tyH ca) s) (hP : va_P D hCl (wH ca a q K V T C B P S) H) (hD : va_D A (wH ca a q K V T C B P S)) (hS : va_S A H0 H locs) (hsz : ls.size = nL) {g f : Nat} (hg : g < 256) (hf9 : f < 256) (hrm : (rest.map fun v => v.category).sum ≤ 8) (hf : cells ≤ R.cells ∧ slots ≤ R.slots) (hR : 1 ≤ R.frames ∧ 30 ≤ R.locals) (d : decode cc pc = .ok (.invokevirtual 132, 3)) (k : ∀ (H1 : Heap) (locs1 : List Loc), va_P D hCl (wH ca a q (upd K f (K g)) (upd V f (V g)) (va_up T f (T g)) C B P S) H1 → va_D A (wH ca a q (upd K f (K g)) (upd V f (V g)) (va_up T f (T g)) C B P S) → va_S A H0 H1 locs1 → W p l e R s m args below meth c H1 locs1 cells slots Q (F0 m (pc + 3) ls (rest))) : W p l e R s m args below meth c H locs cells slots Q (F0 m pc ls (.int (nI f) :: .int (nI g) :: .ref (a 0) :: rest)) :=
  hw_V (As := [.int (nI g), .int (nI f)]) (v := none) (C := R_Hop) X (c_Hop_copySlot l D ca a q K V T C B P S g f hg hf9) (cwV 2 X.2.2.2.2 g_Hop_copySlot rfl rfl rfl (by decide +kernel) ⟨by show 0 + 1 ≤ _; omega, by show 8 + (3 + 11) + 30 * 0 ≤ _; omega⟩) hP hK hD hS wH_a (va_recv (q0 := 0) (ci := 0) (q := (R_Hop, F_Hop, 6)) hK hP rfl rfl) rfl hsz rfl hrm hf d k
theorem k_freeAll (X : CallFix p m c cc nL s args wsA R_Hop) (hK : va_K D hCl (tyH ca) s) (hP : va_P D hCl (wH ca a q K V T C B P S) H) (hD : va_D A (wH ca a q K V T C B P S)) (hS : va_S A H0 H locs) (hsz : ls.size = nL) {j : Nat} (hj : j < 4) (hbd : B j + P j ≤ 256) (hrm : (rest.map fun v => v.category).sum ≤ 8) (hf : cells ≤ R.cells ∧ slots ≤ R.slots) (hR : 2 ≤ R.frames ∧ 60 ≤ R.locals) (d : decode cc pc = .ok (.invokevirtual 70, 3)) (k : ∀ (H1 : Heap) (locs1 : List Loc), va_P D hCl (wH ca a q K V (clr T (B j) (P j)) C B P S) H1 → va_D A (wH ca a q K V (clr T (B j) (P j)) C B P S) → va_S A H0 H1 locs1 → W p l e R s m args below meth c H1 locs1 cells slots Q (F0 m (pc + 3) ls (rest))) : W p l e R s m args below meth c H locs cells slots Q (F0 m pc ls (.ref (q j) :: .ref (a 0) :: rest)) :=
  hw_V (As := [.ref (q j)]) (v := none) (C := R_Hop) X (c_Hop_freeAll l D ca a q K V T C B P S j hj hbd) (cwV 1 X.2.2.2.2 g_Hop_freeAll rfl rfl rfl (by decide +kernel) ⟨by show 1 + 1 ≤ _; omega, by show 8 + (3 + 11) + 30 * 1 ≤ _; omega⟩) hP hK hD hS wH_a (va_recv (q0 := 0) (ci := 0) (q := (R_Hop, F_Hop, 6)) hK hP rfl rfl) rfl hsz rfl hrm hf d k
end HKB
end
section
set_option maxHeartbeats 4000000 in
set_option maxRecDepth 100000 in
/-- sumOfCapacities -/
theorem c_Hop_sumOfCapacities (l : Launch) (D : va_G) (ca a q : Nat → Nat) (K V : IT) (T : BT) (C : IT) (B P : Nat → Nat) (S : IT)  : Met l y_Hop_sumOfCapacities w_Hop_sumOfCapacities (rmD 0 0 0) (va_Pc [.ref (a 0)] (hb_R D hCl (wH ca a q K V T C B P S) (tyH ca))) (hq_R (some (.int (nI (P 0 + P 1 + P 2))))) 0 0 hq_no := by
  refine Met.ofW (cc := b_Hop_sumOfCapacities) (maxL := 3) (ret := some .int) (by decide) rfl ?_
  intro p e s m args below meth c0 s₁ B0 hml hv
  obtain ⟨rfl, hP, hK⟩ := hv
  have hx := B0.exec
  have hb := B0.bytes
  have hr := B0.returns
  have hts := atoms_spec (ws := w_Hop_sumOfCapacities) B0.pre
  have hown : s.vm.findClass R_Hop = some m.cls := findClass_of_methodNamed B0.named
  have hlocks := B0.notSynchronized
  have hwA : ∀ w ∈ wsA, w.before ([.ref (a 0)] : List Value).toArray s = true := fun w h => hts w (List.mem_cons_of_mem _ h)
  have X : CallFix p m c0 b_Hop_sumOfCapacities 3 s ([.ref (a 0)] : List Value).toArray wsA R_Hop := ⟨hx, hb, hml, hown, hwA⟩
  have hl := lv_entry ([.ref (a 0)]) (n := 3) (Nat.le_of_ble_eq_true rfl)
  rw [lg_entry_eq]
  generalize (lg_sl ([.ref (a 0)]) ++ List.replicate (3 - (lg_sl ([.ref (a 0)])).length) Slot.unset).toArray = ls at hl ⊢
  have hl : lv_has ls 3 [(0, .ref (a 0))] := hl
  refine lv_iconst (v := 0) hx hb d_Hop_sumOfCapacities_0 (by decide) ?_
  refine lv_istore_n (lv' := [(1, .int 0), (0, .ref (a 0))]) hx hb d_Hop_sumOfCapacities_1 rfl hl (by decide) rfl (fun ls hl => ?_)
  refine lv_iconst (v := 0) hx hb d_Hop_sumOfCapacities_2 (by decide) ?_
  refine lv_istore_n (lv' := [(2, .int 0), (1, .int 0), (0, .ref (a 0))]) hx hb d_Hop_sumOfCapacities_3 rfl hl (by decide) rfl (fun ls hl => ?_)
  refine lv_iload_n hx hb d_Hop_sumOfCapacities_4 rfl (lv_at hl 0 rfl) ?_
  refine lv_iconst (v := 3) hx hb d_Hop_sumOfCapacities_5 (by decide) ?_
  refine lvF_icmp_ge (tgt := 27) hx hb d_Hop_sumOfCapacities_6 (by decide) (by decide) ?_
  refine lv_iload_n hx hb d_Hop_sumOfCapacities_9 rfl (lv_at hl 1 rfl) ?_
  refine lv_aload_n hx hb d_Hop_sumOfCapacities_10 rfl (lv_at hl 2 rfl) ?_
  refine hg_parts X hK hP d_Hop_sumOfCapacities_11 ?_
  refine lv_iload_n hx hb d_Hop_sumOfCapacities_14 rfl (lv_at hl 0 rfl) ?_
  refine hl_P X hK hP (i := 0) (by decide) d_Hop_sumOfCapacities_15 ?_
  refine hg_capacity X hK hP (by decide) d_Hop_sumOfCapacities_16 ?_
  refine lv_iadd hx hb d_Hop_sumOfCapacities_19 ?_
  refine lv_tope (y := nI (P 0)) (Int32.zero_add _) ?_
  refine lv_istore_n (lv' := [(1, .int (nI (P 0))), (2, .int 0), (0, .ref (a 0))]) hx hb d_Hop_sumOfCapacities_20 rfl hl (by decide) rfl (fun ls hl => ?_)
  refine lv_iinc (k := 1) (v := 1) (lv' := [(2, .int 1), (1, .int (nI (P 0))), (0, .ref (a 0))]) hx hb d_Hop_sumOfCapacities_21 hl rfl (by decide) (by decide) rfl (fun ls hl => ?_)
  refine lv_goto (tgt := 4) hx hb d_Hop_sumOfCapacities_24 (by decide) ?_
  refine lv_iload_n hx hb d_Hop_sumOfCapacities_4 rfl (lv_at hl 0 rfl) ?_
  refine lv_iconst (v := 3) hx hb d_Hop_sumOfCapacities_5 (by decide) ?_
  refine lvF_icmp_ge (tgt := 27) hx hb d_Hop_sumOfCapacities_6 (by decide) (by decide) ?_
  refine lv_iload_n hx hb d_Hop_sumOfCapacities_9 rfl (lv_at hl 1 rfl) ?_
  refine lv_aload_n hx hb d_Hop_sumOfCapacities_10 rfl (lv_at hl 2 rfl) ?_
  refine hg_parts X hK hP d_Hop_sumOfCapacities_11 ?_
  refine lv_iload_n hx hb d_Hop_sumOfCapacities_14 rfl (lv_at hl 0 rfl) ?_
  refine hl_P X hK hP (i := 1) (by decide) d_Hop_sumOfCapacities_15 ?_
  refine hg_capacity X hK hP (by decide) d_Hop_sumOfCapacities_16 ?_
  refine lv_iadd hx hb d_Hop_sumOfCapacities_19 ?_
  refine lv_tope (y := nI (P 0 + P 1)) (nI_add _ _) ?_
  refine lv_istore_n (lv' := [(1, .int (nI (P 0 + P 1))), (2, .int 1), (0, .ref (a 0))]) hx hb d_Hop_sumOfCapacities_20 rfl hl (by decide) rfl (fun ls hl => ?_)
  refine lv_iinc (k := 1) (v := 2) (lv' := [(2, .int 2), (1, .int (nI (P 0 + P 1))), (0, .ref (a 0))]) hx hb d_Hop_sumOfCapacities_21 hl rfl (by decide) (by decide) rfl (fun ls hl => ?_)
  refine lv_goto (tgt := 4) hx hb d_Hop_sumOfCapacities_24 (by decide) ?_
  refine lv_iload_n hx hb d_Hop_sumOfCapacities_4 rfl (lv_at hl 0 rfl) ?_
  refine lv_iconst (v := 3) hx hb d_Hop_sumOfCapacities_5 (by decide) ?_
  refine lvF_icmp_ge (tgt := 27) hx hb d_Hop_sumOfCapacities_6 (by decide) (by decide) ?_
  refine lv_iload_n hx hb d_Hop_sumOfCapacities_9 rfl (lv_at hl 1 rfl) ?_
  refine lv_aload_n hx hb d_Hop_sumOfCapacities_10 rfl (lv_at hl 2 rfl) ?_
  refine hg_parts X hK hP d_Hop_sumOfCapacities_11 ?_
  refine lv_iload_n hx hb d_Hop_sumOfCapacities_14 rfl (lv_at hl 0 rfl) ?_
  refine hl_P X hK hP (i := 2) (by decide) d_Hop_sumOfCapacities_15 ?_
  refine hg_capacity X hK hP (by decide) d_Hop_sumOfCapacities_16 ?_
  refine lv_iadd hx hb d_Hop_sumOfCapacities_19 ?_
  refine lv_tope (y := nI (P 0 + P 1 + P 2)) (nI_add _ _) ?_
  refine lv_istore_n (lv' := [(1, .int (nI (P 0 + P 1 + P 2))), (2, .int 2), (0, .ref (a 0))]) hx hb d_Hop_sumOfCapacities_20 rfl hl (by decide) rfl (fun ls hl => ?_)
  refine lv_iinc (k := 1) (v := 3) (lv' := [(2, .int 3), (1, .int (nI (P 0 + P 1 + P 2))), (0, .ref (a 0))]) hx hb d_Hop_sumOfCapacities_21 hl rfl (by decide) (by decide) rfl (fun ls hl => ?_)
  refine lv_goto (tgt := 4) hx hb d_Hop_sumOfCapacities_24 (by decide) ?_
  refine lv_iload_n hx hb d_Hop_sumOfCapacities_4 rfl (lv_at hl 0 rfl) ?_
  refine lv_iconst (v := 3) hx hb d_Hop_sumOfCapacities_5 (by decide) ?_
  refine lvT_icmp_ge (tgt := 27) hx hb d_Hop_sumOfCapacities_6 (by decide) (by decide) ?_
  refine lv_iload_n hx hb d_Hop_sumOfCapacities_27 rfl (lv_at hl 1 rfl) ?_
  exact W.iret (v := nI (P 0 + P 1 + P 2)) hx hb hr (fun t ht hW => ⟨rfl, ht⟩) hq_nl d_Hop_sumOfCapacities_28
set_option maxHeartbeats 4000000 in
set_option maxRecDepth 100000 in
/-- lastEnd -/
theorem c_Hop_lastEnd (l : Launch) (D : va_G) (ca a q : Nat → Nat) (K V : IT) (T : BT) (C : IT) (B P : Nat → Nat) (S : IT) (hb0 : B 0 + P 0 ≤ 256) (hb1 : B 1 + P 1 ≤ 256) (hb2 : B 2 + P 2 ≤ 256)  : Met l y_Hop_lastEnd w_Hop_lastEnd (rmD 1 0 0) (va_Pc [.ref (a 0)] (hb_R D hCl (wH ca a q K V T C B P S) (tyH ca))) (hq_R (some (.int (nI (lastE B P))))) 0 0 hq_no := by
  refine Met.ofW (cc := b_Hop_lastEnd) (maxL := 3) (ret := some .int) (by decide) rfl ?_
  intro p e s m args below meth c0 s₁ B0 hml hv
  obtain ⟨rfl, hP, hK⟩ := hv
  have hx := B0.exec
  have hb := B0.bytes
  have hr := B0.returns
  have hts := atoms_spec (ws := w_Hop_lastEnd) B0.pre
  have hown : s.vm.findClass R_Hop = some m.cls := findClass_of_methodNamed B0.named
  have hlocks := B0.notSynchronized
  have hwA : ∀ w ∈ wsA, w.before ([.ref (a 0)] : List Value).toArray s = true := fun w h => hts w (List.mem_cons_of_mem _ h)
  have X : CallFix p m c0 b_Hop_lastEnd 3 s ([.ref (a 0)] : List Value).toArray wsA R_Hop := ⟨hx, hb, hml, hown, hwA⟩
  have hl := lv_entry ([.ref (a 0)]) (n := 3) (Nat.le_of_ble_eq_true rfl)
  rw [lg_entry_eq]
  generalize (lg_sl ([.ref (a 0)]) ++ List.replicate (3 - (lg_sl ([.ref (a 0)])).length) Slot.unset).toArray = ls at hl ⊢
  have hl : lv_has ls 3 [(0, .ref (a 0))] := hl
  refine lv_iconst (v := 0) hx hb d_Hop_lastEnd_0 (by decide) ?_
  refine lv_istore_n (lv' := [(1, .int 0), (0, .ref (a 0))]) hx hb d_Hop_lastEnd_1 rfl hl (by decide) rfl (fun ls hl => ?_)
  refine lv_iconst (v := 0) hx hb d_Hop_lastEnd_2 (by decide) ?_
  refine lv_istore_n (lv' := [(2, .int 0), (1, .int 0), (0, .ref (a 0))]) hx hb d_Hop_lastEnd_3 rfl hl (by decide) rfl (fun ls hl => ?_)
  refine lv_iload_n hx hb d_Hop_lastEnd_4 rfl (lv_at hl 0 rfl) ?_
  refine lv_iconst (v := 3) hx hb d_Hop_lastEnd_5 (by decide) ?_
  refine lvF_icmp_ge (tgt := 29) hx hb d_Hop_lastEnd_6 (by decide) (by decide) ?_
  refine lv_iload_n hx hb d_Hop_lastEnd_9 rfl (lv_at hl 1 rfl) ?_
  refine lv_aload_n hx hb d_Hop_lastEnd_10 rfl (lv_at hl 2 rfl) ?_
  refine hg_parts X hK hP d_Hop_lastEnd_11 ?_
  refine lv_iload_n hx hb d_Hop_lastEnd_14 rfl (lv_at hl 0 rfl) ?_
  refine hl_P X hK hP (i := 0) (by decide) d_Hop_lastEnd_15 ?_
  refine k_end X hK hP hl.1 (by decide) (Nat.le_of_ble_eq_true rfl) ⟨Nat.zero_le _, Nat.zero_le _⟩ ⟨Nat.le_of_ble_eq_true rfl, Nat.le_of_ble_eq_true rfl⟩ d_Hop_lastEnd_16 ?_
  refine va_mmax hx hb (hml.trans hl.1.symm) hown (hwA (.methodLink R_Hop 155 Lib.Math.max.name) m_241) (hwA (.static Lib.Math.max.name) m_242) (hwA (.initialized "java/lang/Math") m_47) (hwA (.code Lib.Math.max.name Lib.Math.max.code 2 (some .int)) mx_code) (Nat.le_of_ble_eq_true rfl) (Nat.le_of_ble_eq_true rfl) (Nat.zero_le _) (Nat.zero_le _) d_Hop_lastEnd_19 ?_
  refine lv_tope (y := nI (max (0) (B 0 + P 0))) (mxI (a := 0) (b := B 0 + P 0) (by omega) (by omega)) ?_
  refine lv_istore_n (lv' := [(1, .int (nI (max (0) (B 0 + P 0)))), (2, .int 0), (0, .ref (a 0))]) hx hb d_Hop_lastEnd_22 rfl hl (by decide) rfl (fun ls hl => ?_)
  refine lv_iinc (k := 1) (v := 1) (lv' := [(2, .int 1), (1, .int (nI (max (0) (B 0 + P 0)))), (0, .ref (a 0))]) hx hb d_Hop_lastEnd_23 hl rfl (by decide) (by decide) rfl (fun ls hl => ?_)
  refine lv_goto (tgt := 4) hx hb d_Hop_lastEnd_26 (by decide) ?_
  refine lv_iload_n hx hb d_Hop_lastEnd_4 rfl (lv_at hl 0 rfl) ?_
  refine lv_iconst (v := 3) hx hb d_Hop_lastEnd_5 (by decide) ?_
  refine lvF_icmp_ge (tgt := 29) hx hb d_Hop_lastEnd_6 (by decide) (by decide) ?_
  refine lv_iload_n hx hb d_Hop_lastEnd_9 rfl (lv_at hl 1 rfl) ?_
  refine lv_aload_n hx hb d_Hop_lastEnd_10 rfl (lv_at hl 2 rfl) ?_
  refine hg_parts X hK hP d_Hop_lastEnd_11 ?_
  refine lv_iload_n hx hb d_Hop_lastEnd_14 rfl (lv_at hl 0 rfl) ?_
  refine hl_P X hK hP (i := 1) (by decide) d_Hop_lastEnd_15 ?_
  refine k_end X hK hP hl.1 (by decide) (Nat.le_of_ble_eq_true rfl) ⟨Nat.zero_le _, Nat.zero_le _⟩ ⟨Nat.le_of_ble_eq_true rfl, Nat.le_of_ble_eq_true rfl⟩ d_Hop_lastEnd_16 ?_
  refine va_mmax hx hb (hml.trans hl.1.symm) hown (hwA (.methodLink R_Hop 155 Lib.Math.max.name) m_241) (hwA (.static Lib.Math.max.name) m_242) (hwA (.initialized "java/lang/Math") m_47) (hwA (.code Lib.Math.max.name Lib.Math.max.code 2 (some .int)) mx_code) (Nat.le_of_ble_eq_true rfl) (Nat.le_of_ble_eq_true rfl) (Nat.zero_le _) (Nat.zero_le _) d_Hop_lastEnd_19 ?_
  refine lv_tope (y := nI (max (max (0) (B 0 + P 0)) (B 1 + P 1))) (mxI (a := max (0) (B 0 + P 0)) (b := B 1 + P 1) (by omega) (by omega)) ?_
  refine lv_istore_n (lv' := [(1, .int (nI (max (max (0) (B 0 + P 0)) (B 1 + P 1)))), (2, .int 1), (0, .ref (a 0))]) hx hb d_Hop_lastEnd_22 rfl hl (by decide) rfl (fun ls hl => ?_)
  refine lv_iinc (k := 1) (v := 2) (lv' := [(2, .int 2), (1, .int (nI (max (max (0) (B 0 + P 0)) (B 1 + P 1)))), (0, .ref (a 0))]) hx hb d_Hop_lastEnd_23 hl rfl (by decide) (by decide) rfl (fun ls hl => ?_)
  refine lv_goto (tgt := 4) hx hb d_Hop_lastEnd_26 (by decide) ?_
  refine lv_iload_n hx hb d_Hop_lastEnd_4 rfl (lv_at hl 0 rfl) ?_
  refine lv_iconst (v := 3) hx hb d_Hop_lastEnd_5 (by decide) ?_
  refine lvF_icmp_ge (tgt := 29) hx hb d_Hop_lastEnd_6 (by decide) (by decide) ?_
  refine lv_iload_n hx hb d_Hop_lastEnd_9 rfl (lv_at hl 1 rfl) ?_
  refine lv_aload_n hx hb d_Hop_lastEnd_10 rfl (lv_at hl 2 rfl) ?_
  refine hg_parts X hK hP d_Hop_lastEnd_11 ?_
  refine lv_iload_n hx hb d_Hop_lastEnd_14 rfl (lv_at hl 0 rfl) ?_
  refine hl_P X hK hP (i := 2) (by decide) d_Hop_lastEnd_15 ?_
  refine k_end X hK hP hl.1 (by decide) (Nat.le_of_ble_eq_true rfl) ⟨Nat.zero_le _, Nat.zero_le _⟩ ⟨Nat.le_of_ble_eq_true rfl, Nat.le_of_ble_eq_true rfl⟩ d_Hop_lastEnd_16 ?_
  refine va_mmax hx hb (hml.trans hl.1.symm) hown (hwA (.methodLink R_Hop 155 Lib.Math.max.name) m_241) (hwA (.static Lib.Math.max.name) m_242) (hwA (.initialized "java/lang/Math") m_47) (hwA (.code Lib.Math.max.name Lib.Math.max.code 2 (some .int)) mx_code) (Nat.le_of_ble_eq_true rfl) (Nat.le_of_ble_eq_true rfl) (Nat.zero_le _) (Nat.zero_le _) d_Hop_lastEnd_19 ?_
  refine lv_tope (y := nI (max (max (max (0) (B 0 + P 0)) (B 1 + P 1)) (B 2 + P 2))) (mxI (a := max (max (0) (B 0 + P 0)) (B 1 + P 1)) (b := B 2 + P 2) (by omega) (by omega)) ?_
  refine lv_istore_n (lv' := [(1, .int (nI (max (max (max (0) (B 0 + P 0)) (B 1 + P 1)) (B 2 + P 2)))), (2, .int 2), (0, .ref (a 0))]) hx hb d_Hop_lastEnd_22 rfl hl (by decide) rfl (fun ls hl => ?_)
  refine lv_iinc (k := 1) (v := 3) (lv' := [(2, .int 3), (1, .int (nI (max (max (max (0) (B 0 + P 0)) (B 1 + P 1)) (B 2 + P 2)))), (0, .ref (a 0))]) hx hb d_Hop_lastEnd_23 hl rfl (by decide) (by decide) rfl (fun ls hl => ?_)
  refine lv_goto (tgt := 4) hx hb d_Hop_lastEnd_26 (by decide) ?_
  refine lv_iload_n hx hb d_Hop_lastEnd_4 rfl (lv_at hl 0 rfl) ?_
  refine lv_iconst (v := 3) hx hb d_Hop_lastEnd_5 (by decide) ?_
  refine lvT_icmp_ge (tgt := 29) hx hb d_Hop_lastEnd_6 (by decide) (by decide) ?_
  refine lv_iload_n hx hb d_Hop_lastEnd_29 rfl (lv_at hl 1 rfl) ?_
  exact W.iret (v := nI (lastE B P)) hx hb hr (fun t ht hW => ⟨rfl, ht⟩) hq_nl d_Hop_lastEnd_30
set_option maxHeartbeats 4000000 in
set_option maxRecDepth 100000 in
/-- lowestFrom -/
theorem c_Hop_lowestFrom (l : Launch) (D : va_G) (ca a q : Nat → Nat) (K V : IT) (T : BT) (C : IT) (B P : Nat → Nat) (S : IT) (f : Nat) (hf : f < 65536) (hb0 : B 0 + P 0 ≤ 256) (hb1 : B 1 + P 1 ≤ 256) (hb2 : B 2 + P 2 ≤ 256)  : Met l y_Hop_lowestFrom w_Hop_lowestFrom (rmD 0 0 0) (va_Pc [.ref (a 0), .int (nI f)] (hb_R D hCl (wH ca a q K V T C B P S) (tyH ca))) (hq_R (some (rQ q (lowS B f 3)))) 0 0 hq_no := by
  refine Met.ofW (cc := b_Hop_lowestFrom) (maxL := 5) (ret := some (.object "HopArena$Part")) (by decide) rfl ?_
  intro p e s m args below meth c0 s₁ B0 hml hv
  obtain ⟨rfl, hP, hK⟩ := hv
  have hx := B0.exec
  have hb := B0.bytes
  have hr := B0.returns
  have hts := atoms_spec (ws := w_Hop_lowestFrom) B0.pre
  have hown : s.vm.findClass R_Hop = some m.cls := findClass_of_methodNamed B0.named
  have hlocks := B0.notSynchronized
  have hwA : ∀ w ∈ wsA, w.before ([.ref (a 0), .int (nI f)] : List Value).toArray s = true := fun w h => hts w (List.mem_cons_of_mem _ h)
  have X : CallFix p m c0 b_Hop_lowestFrom 5 s ([.ref (a 0), .int (nI f)] : List Value).toArray wsA R_Hop := ⟨hx, hb, hml, hown, hwA⟩
  have hl := lv_entry ([.ref (a 0), .int (nI f)]) (n := 5) (Nat.le_of_ble_eq_true rfl)
  rw [lg_entry_eq]
  generalize (lg_sl ([.ref (a 0), .int (nI f)]) ++ List.replicate (5 - (lg_sl ([.ref (a 0), .int (nI f)])).length) Slot.unset).toArray = ls at hl ⊢
  have hl : lv_has ls 5 [(0, .ref (a 0)), (1, .int (nI f))] := hl
  refine lv_null hx hb d_Hop_lowestFrom_0 ?_
  refine lv_astore_nN (lv' := [(2, .null), (0, .ref (a 0)), (1, .int (nI f))]) hx hb d_Hop_lowestFrom_1 rfl hl (by decide) rfl (fun ls hl => ?_)
  refine lv_iconst (v := 0) hx hb d_Hop_lowestFrom_2 (by decide) ?_
  refine lv_istore_n (lv' := [(3, .int 0), (2, .null), (0, .ref (a 0)), (1, .int (nI f))]) hx hb d_Hop_lowestFrom_3 rfl hl (by decide) rfl (fun ls hl => ?_)
  refine lv_iload_n hx hb d_Hop_lowestFrom_4 rfl (lv_at hl 0 rfl) ?_
  refine lv_iconst (v := 3) hx hb d_Hop_lowestFrom_5 (by decide) ?_
  refine lvF_icmp_ge (tgt := 51) hx hb d_Hop_lowestFrom_6 (by decide) (by decide) ?_
  refine lv_aload_n hx hb d_Hop_lowestFrom_9 rfl (lv_at hl 2 rfl) ?_
  refine hg_parts X hK hP d_Hop_lowestFrom_10 ?_
  refine lv_iload_n hx hb d_Hop_lowestFrom_13 rfl (lv_at hl 0 rfl) ?_
  refine hl_P X hK hP (i := 0) (by decide) d_Hop_lowestFrom_14 ?_
  refine lv_astore (lv' := [(4, .ref (q 0)), (3, .int 0), (2, .null), (0, .ref (a 0)), (1, .int (nI f))]) hx hb d_Hop_lowestFrom_15 hl (by decide) rfl (fun ls hl => ?_)
  refine lv_aload hx hb d_Hop_lowestFrom_17 (lv_at hl 0 rfl) ?_
  refine hg_base X hK hP (by decide) d_Hop_lowestFrom_19 ?_
  refine lv_iload_n hx hb d_Hop_lowestFrom_22 rfl (lv_at hl 4 rfl) ?_
  refine lv_icmp_lt (tgt := 45) hx hb d_Hop_lowestFrom_23 (by decide) (fun g0 => ?_) (fun g0 => ?_)
  · have e0 := lowS_n (B := B) (f := f) (i := 0) (r := none) rfl (fun z => absurd ((nI_ltI (by omega) (by omega)).mp g0) (by omega))
    refine lv_iinc (k := 1) (v := 1) (lv' := [(3, .int 1), (4, .ref (q 0)), (2, .null), (0, .ref (a 0)), (1, .int (nI f))]) hx hb d_Hop_lowestFrom_45 hl rfl (by decide) (by decide) rfl (fun ls hl => ?_)
    refine lv_goto (tgt := 4) hx hb d_Hop_lowestFrom_48 (by decide) ?_
    refine lv_iload_n hx hb d_Hop_lowestFrom_4 rfl (lv_at hl 0 rfl) ?_
    refine lv_iconst (v := 3) hx hb d_Hop_lowestFrom_5 (by decide) ?_
    refine lvF_icmp_ge (tgt := 51) hx hb d_Hop_lowestFrom_6 (by decide) (by decide) ?_
    refine lv_aload_n hx hb d_Hop_lowestFrom_9 rfl (lv_at hl 3 rfl) ?_
    refine hg_parts X hK hP d_Hop_lowestFrom_10 ?_
    refine lv_iload_n hx hb d_Hop_lowestFrom_13 rfl (lv_at hl 0 rfl) ?_
    refine hl_P X hK hP (i := 1) (by decide) d_Hop_lowestFrom_14 ?_
    refine lv_astore (lv' := [(4, .ref (q 1)), (3, .int 1), (2, .null), (0, .ref (a 0)), (1, .int (nI f))]) hx hb d_Hop_lowestFrom_15 hl (by decide) rfl (fun ls hl => ?_)
    refine lv_aload hx hb d_Hop_lowestFrom_17 (lv_at hl 0 rfl) ?_
    refine hg_base X hK hP (by decide) d_Hop_lowestFrom_19 ?_
    refine lv_iload_n hx hb d_Hop_lowestFrom_22 rfl (lv_at hl 4 rfl) ?_
    refine lv_icmp_lt (tgt := 45) hx hb d_Hop_lowestFrom_23 (by decide) (fun g1 => ?_) (fun g1 => ?_)
    · have e1 := lowS_n (B := B) (f := f) (i := 1) (r := none) e0 (fun z => absurd ((nI_ltI (by omega) (by omega)).mp g1) (by omega))
      refine lv_iinc (k := 1) (v := 2) (lv' := [(3, .int 2), (4, .ref (q 1)), (2, .null), (0, .ref (a 0)), (1, .int (nI f))]) hx hb d_Hop_lowestFrom_45 hl rfl (by decide) (by decide) rfl (fun ls hl => ?_)
      refine lv_goto (tgt := 4) hx hb d_Hop_lowestFrom_48 (by decide) ?_
      refine lv_iload_n hx hb d_Hop_lowestFrom_4 rfl (lv_at hl 0 rfl) ?_
      refine lv_iconst (v := 3) hx hb d_Hop_lowestFrom_5 (by decide) ?_
      refine lvF_icmp_ge (tgt := 51) hx hb d_Hop_lowestFrom_6 (by decide) (by decide) ?_
      refine lv_aload_n hx hb d_Hop_lowestFrom_9 rfl (lv_at hl 3 rfl) ?_
      refine hg_parts X hK hP d_Hop_lowestFrom_10 ?_
      refine lv_iload_n hx hb d_Hop_lowestFrom_13 rfl (lv_at hl 0 rfl) ?_
      refine hl_P X hK hP (i := 2) (by decide) d_Hop_lowestFrom_14 ?_
      refine lv_astore (lv' := [(4, .ref (q 2)), (3, .int 2), (2, .null), (0, .ref (a 0)), (1, .int (nI f))]) hx hb d_Hop_lowestFrom_15 hl (by decide) rfl (fun ls hl => ?_)
      refine lv_aload hx hb d_Hop_lowestFrom_17 (lv_at hl 0 rfl) ?_
      refine hg_base X hK hP (by decide) d_Hop_lowestFrom_19 ?_
      refine lv_iload_n hx hb d_Hop_lowestFrom_22 rfl (lv_at hl 4 rfl) ?_
      refine lv_icmp_lt (tgt := 45) hx hb d_Hop_lowestFrom_23 (by decide) (fun g2 => ?_) (fun g2 => ?_)
      · have e2 := lowS_n (B := B) (f := f) (i := 2) (r := none) e1 (fun z => absurd ((nI_ltI (by omega) (by omega)).mp g2) (by omega))
        refine lv_iinc (k := 1) (v := 3) (lv' := [(3, .int 3), (4, .ref (q 2)), (2, .null), (0, .ref (a 0)), (1, .int (nI f))]) hx hb d_Hop_lowestFrom_45 hl rfl (by decide) (by decide) rfl (fun ls hl => ?_)
        refine lv_goto (tgt := 4) hx hb d_Hop_lowestFrom_48 (by decide) ?_
        refine lv_iload_n hx hb d_Hop_lowestFrom_4 rfl (lv_at hl 0 rfl) ?_
        refine lv_iconst (v := 3) hx hb d_Hop_lowestFrom_5 (by decide) ?_
        refine lvT_icmp_ge (tgt := 51) hx hb d_Hop_lowestFrom_6 (by decide) (by decide) ?_
        refine lv_aload_nN hx hb d_Hop_lowestFrom_51 rfl (lv_at hl 2 rfl) ?_
        exact W.aret (v := .null) hx hb hr (Or.inl ⟨_, rfl⟩) (Or.inl rfl) (fun t ht hW => ⟨by rw [show lowS B f 3 = _ from e2]; rfl, ht⟩) hq_nl d_Hop_lowestFrom_52
      · have u2 : f ≤ B 2 := Nat.not_lt.mp (fun z => g2 ((nI_ltI (by omega) (by omega)).mpr z))
        have e2 := lowS_0 (B := B) (f := f) (i := 2) e1 u2
        refine lv_aload_nN hx hb d_Hop_lowestFrom_26 rfl (lv_at hl 2 rfl) ?_
        refine lv_ifnullN (tgt := 42) hx hb d_Hop_lowestFrom_27 (by decide) ?_
        refine lv_aload hx hb d_Hop_lowestFrom_42 (lv_at hl 0 rfl) ?_
        refine lv_astore_n (lv' := [(2, .ref (q 2)), (4, .ref (q 2)), (3, .int 2), (0, .ref (a 0)), (1, .int (nI f))]) hx hb d_Hop_lowestFrom_44 rfl hl (by decide) rfl (fun ls hl => ?_)
        refine lv_iinc (k := 2) (v := 3) (lv' := [(3, .int 3), (2, .ref (q 2)), (4, .ref (q 2)), (0, .ref (a 0)), (1, .int (nI f))]) hx hb d_Hop_lowestFrom_45 hl rfl (by decide) (by decide) rfl (fun ls hl => ?_)
        refine lv_goto (tgt := 4) hx hb d_Hop_lowestFrom_48 (by decide) ?_
        refine lv_iload_n hx hb d_Hop_lowestFrom_4 rfl (lv_at hl 0 rfl) ?_
        refine lv_iconst (v := 3) hx hb d_Hop_lowestFrom_5 (by decide) ?_
        refine lvT_icmp_ge (tgt := 51) hx hb d_Hop_lowestFrom_6 (by decide) (by decide) ?_
        refine lv_aload_n hx hb d_Hop_lowestFrom_51 rfl (lv_at hl 1 rfl) ?_
        exact W.aret (v := .ref (q 2)) hx hb hr (Or.inl ⟨_, rfl⟩) (Or.inr ⟨_, rfl⟩) (fun t ht hW => ⟨by rw [show lowS B f 3 = _ from e2]; rfl, ht⟩) hq_nl d_Hop_lowestFrom_52
    · have u1 : f ≤ B 1 := Nat.not_lt.mp (fun z => g1 ((nI_ltI (by omega) (by omega)).mpr z))
      have e1 := lowS_0 (B := B) (f := f) (i := 1) e0 u1
      refine lv_aload_nN hx hb d_Hop_lowestFrom_26 rfl (lv_at hl 2 rfl) ?_
      refine lv_ifnullN (tgt := 42) hx hb d_Hop_lowestFrom_27 (by decide) ?_
      refine lv_aload hx hb d_Hop_lowestFrom_42 (lv_at hl 0 rfl) ?_
      refine lv_astore_n (lv' := [(2, .ref (q 1)), (4, .ref (q 1)), (3, .int 1), (0, .ref (a 0)), (1, .int (nI f))]) hx hb d_Hop_lowestFrom_44 rfl hl (by decide) rfl (fun ls hl => ?_)
      refine lv_iinc (k := 2) (v := 2) (lv' := [(3, .int 2), (2, .ref (q 1)), (4, .ref (q 1)), (0, .ref (a 0)), (1, .int (nI f))]) hx hb d_Hop_lowestFrom_45 hl rfl (by decide) (by decide) rfl (fun ls hl => ?_)
      refine lv_goto (tgt := 4) hx hb d_Hop_lowestFrom_48 (by decide) ?_
      refine lv_iload_n hx hb d_Hop_lowestFrom_4 rfl (lv_at hl 0 rfl) ?_
      refine lv_iconst (v := 3) hx hb d_Hop_lowestFrom_5 (by decide) ?_
      refine lvF_icmp_ge (tgt := 51) hx hb d_Hop_lowestFrom_6 (by decide) (by decide) ?_
      refine lv_aload_n hx hb d_Hop_lowestFrom_9 rfl (lv_at hl 3 rfl) ?_
      refine hg_parts X hK hP d_Hop_lowestFrom_10 ?_
      refine lv_iload_n hx hb d_Hop_lowestFrom_13 rfl (lv_at hl 0 rfl) ?_
      refine hl_P X hK hP (i := 2) (by decide) d_Hop_lowestFrom_14 ?_
      refine lv_astore (lv' := [(4, .ref (q 2)), (3, .int 2), (2, .ref (q 1)), (0, .ref (a 0)), (1, .int (nI f))]) hx hb d_Hop_lowestFrom_15 hl (by decide) rfl (fun ls hl => ?_)
      refine lv_aload hx hb d_Hop_lowestFrom_17 (lv_at hl 0 rfl) ?_
      refine hg_base X hK hP (by decide) d_Hop_lowestFrom_19 ?_
      refine lv_iload_n hx hb d_Hop_lowestFrom_22 rfl (lv_at hl 4 rfl) ?_
      refine lv_icmp_lt (tgt := 45) hx hb d_Hop_lowestFrom_23 (by decide) (fun g2 => ?_) (fun g2 => ?_)
      · have e2 := lowS_n (B := B) (f := f) (i := 2) (r := (some 1)) e1 (fun z => absurd ((nI_ltI (by omega) (by omega)).mp g2) (by omega))
        refine lv_iinc (k := 1) (v := 3) (lv' := [(3, .int 3), (4, .ref (q 2)), (2, .ref (q 1)), (0, .ref (a 0)), (1, .int (nI f))]) hx hb d_Hop_lowestFrom_45 hl rfl (by decide) (by decide) rfl (fun ls hl => ?_)
        refine lv_goto (tgt := 4) hx hb d_Hop_lowestFrom_48 (by decide) ?_
        refine lv_iload_n hx hb d_Hop_lowestFrom_4 rfl (lv_at hl 0 rfl) ?_
        refine lv_iconst (v := 3) hx hb d_Hop_lowestFrom_5 (by decide) ?_
        refine lvT_icmp_ge (tgt := 51) hx hb d_Hop_lowestFrom_6 (by decide) (by decide) ?_
        refine lv_aload_n hx hb d_Hop_lowestFrom_51 rfl (lv_at hl 2 rfl) ?_
        exact W.aret (v := .ref (q 1)) hx hb hr (Or.inl ⟨_, rfl⟩) (Or.inr ⟨_, rfl⟩) (fun t ht hW => ⟨by rw [show lowS B f 3 = _ from e2]; rfl, ht⟩) hq_nl d_Hop_lowestFrom_52
      · have u2 : f ≤ B 2 := Nat.not_lt.mp (fun z => g2 ((nI_ltI (by omega) (by omega)).mpr z))
        refine lv_aload_n hx hb d_Hop_lowestFrom_26 rfl (lv_at hl 2 rfl) ?_
        refine lv_ifnull hx hb d_Hop_lowestFrom_27 ?_
        refine lv_aload hx hb d_Hop_lowestFrom_30 (lv_at hl 0 rfl) ?_
        refine hg_base X hK hP (by decide) d_Hop_lowestFrom_32 ?_
        refine lv_aload_n hx hb d_Hop_lowestFrom_35 rfl (lv_at hl 2 rfl) ?_
        refine hg_base X hK hP (by decide) d_Hop_lowestFrom_36 ?_
        refine lv_icmp_ge (tgt := 45) hx hb d_Hop_lowestFrom_39 (by decide) (fun v2 => ?_) (fun v2 => ?_)
        · have e2 := lowS_k (B := B) (f := f) (i := 2) (j := 1) e1 (fun z => absurd ((nI_leI (by omega) (by omega)).mp v2) (by omega))
          refine lv_iinc (k := 1) (v := 3) (lv' := [(3, .int 3), (4, .ref (q 2)), (2, .ref (q 1)), (0, .ref (a 0)), (1, .int (nI f))]) hx hb d_Hop_lowestFrom_45 hl rfl (by decide) (by decide) rfl (fun ls hl => ?_)
          refine lv_goto (tgt := 4) hx hb d_Hop_lowestFrom_48 (by decide) ?_
          refine lv_iload_n hx hb d_Hop_lowestFrom_4 rfl (lv_at hl 0 rfl) ?_
          refine lv_iconst (v := 3) hx hb d_Hop_lowestFrom_5 (by decide) ?_
          refine lvT_icmp_ge (tgt := 51) hx hb d_Hop_lowestFrom_6 (by decide) (by decide) ?_
          refine lv_aload_n hx hb d_Hop_lowestFrom_51 rfl (lv_at hl 2 rfl) ?_
          exact W.aret (v := .ref (q 1)) hx hb hr (Or.inl ⟨_, rfl⟩) (Or.inr ⟨_, rfl⟩) (fun t ht hW => ⟨by rw [show lowS B f 3 = _ from e2]; rfl, ht⟩) hq_nl d_Hop_lowestFrom_52
        · have e2 := lowS_s (B := B) (f := f) (i := 2) (j := 1) e1 u2 (Nat.not_le.mp (fun z => v2 ((nI_leI (by omega) (by omega)).mpr z)))
          refine lv_aload hx hb d_Hop_lowestFrom_42 (lv_at hl 0 rfl) ?_
          refine lv_astore_n (lv' := [(2, .ref (q 2)), (4, .ref (q 2)), (3, .int 2), (0, .ref (a 0)), (1, .int (nI f))]) hx hb d_Hop_lowestFrom_44 rfl hl (by decide) rfl (fun ls hl => ?_)
          refine lv_iinc (k := 2) (v := 3) (lv' := [(3, .int 3), (2, .ref (q 2)), (4, .ref (q 2)), (0, .ref (a 0)), (1, .int (nI f))]) hx hb d_Hop_lowestFrom_45 hl rfl (by decide) (by decide) rfl (fun ls hl => ?_)
          refine lv_goto (tgt := 4) hx hb d_Hop_lowestFrom_48 (by decide) ?_
          refine lv_iload_n hx hb d_Hop_lowestFrom_4 rfl (lv_at hl 0 rfl) ?_
          refine lv_iconst (v := 3) hx hb d_Hop_lowestFrom_5 (by decide) ?_
          refine lvT_icmp_ge (tgt := 51) hx hb d_Hop_lowestFrom_6 (by decide) (by decide) ?_
          refine lv_aload_n hx hb d_Hop_lowestFrom_51 rfl (lv_at hl 1 rfl) ?_
          exact W.aret (v := .ref (q 2)) hx hb hr (Or.inl ⟨_, rfl⟩) (Or.inr ⟨_, rfl⟩) (fun t ht hW => ⟨by rw [show lowS B f 3 = _ from e2]; rfl, ht⟩) hq_nl d_Hop_lowestFrom_52
  · have u0 : f ≤ B 0 := Nat.not_lt.mp (fun z => g0 ((nI_ltI (by omega) (by omega)).mpr z))
    have e0 := lowS_0 (B := B) (f := f) (i := 0) rfl u0
    refine lv_aload_nN hx hb d_Hop_lowestFrom_26 rfl (lv_at hl 2 rfl) ?_
    refine lv_ifnullN (tgt := 42) hx hb d_Hop_lowestFrom_27 (by decide) ?_
    refine lv_aload hx hb d_Hop_lowestFrom_42 (lv_at hl 0 rfl) ?_
    refine lv_astore_n (lv' := [(2, .ref (q 0)), (4, .ref (q 0)), (3, .int 0), (0, .ref (a 0)), (1, .int (nI f))]) hx hb d_Hop_lowestFrom_44 rfl hl (by decide) rfl (fun ls hl => ?_)
    refine lv_iinc (k := 2) (v := 1) (lv' := [(3, .int 1), (2, .ref (q 0)), (4, .ref (q 0)), (0, .ref (a 0)), (1, .int (nI f))]) hx hb d_Hop_lowestFrom_45 hl rfl (by decide) (by decide) rfl (fun ls hl => ?_)
    refine lv_goto (tgt := 4) hx hb d_Hop_lowestFrom_48 (by decide) ?_
    refine lv_iload_n hx hb d_Hop_lowestFrom_4 rfl (lv_at hl 0 rfl) ?_
    refine lv_iconst (v := 3) hx hb d_Hop_lowestFrom_5 (by decide) ?_
    refine lvF_icmp_ge (tgt := 51) hx hb d_Hop_lowestFrom_6 (by decide) (by decide) ?_
    refine lv_aload_n hx hb d_Hop_lowestFrom_9 rfl (lv_at hl 3 rfl) ?_
    refine hg_parts X hK hP d_Hop_lowestFrom_10 ?_
    refine lv_iload_n hx hb d_Hop_lowestFrom_13 rfl (lv_at hl 0 rfl) ?_
    refine hl_P X hK hP (i := 1) (by decide) d_Hop_lowestFrom_14 ?_
    refine lv_astore (lv' := [(4, .ref (q 1)), (3, .int 1), (2, .ref (q 0)), (0, .ref (a 0)), (1, .int (nI f))]) hx hb d_Hop_lowestFrom_15 hl (by decide) rfl (fun ls hl => ?_)
    refine lv_aload hx hb d_Hop_lowestFrom_17 (lv_at hl 0 rfl) ?_
    refine hg_base X hK hP (by decide) d_Hop_lowestFrom_19 ?_
    refine lv_iload_n hx hb d_Hop_lowestFrom_22 rfl (lv_at hl 4 rfl) ?_
    refine lv_icmp_lt (tgt := 45) hx hb d_Hop_lowestFrom_23 (by decide) (fun g1 => ?_) (fun g1 => ?_)
    · have e1 := lowS_n (B := B) (f := f) (i := 1) (r := (some 0)) e0 (fun z => absurd ((nI_ltI (by omega) (by omega)).mp g1) (by omega))
      refine lv_iinc (k := 1) (v := 2) (lv' := [(3, .int 2), (4, .ref (q 1)), (2, .ref (q 0)), (0, .ref (a 0)), (1, .int (nI f))]) hx hb d_Hop_lowestFrom_45 hl rfl (by decide) (by decide) rfl (fun ls hl => ?_)
      refine lv_goto (tgt := 4) hx hb d_Hop_lowestFrom_48 (by decide) ?_
      refine lv_iload_n hx hb d_Hop_lowestFrom_4 rfl (lv_at hl 0 rfl) ?_
      refine lv_iconst (v := 3) hx hb d_Hop_lowestFrom_5 (by decide) ?_
      refine lvF_icmp_ge (tgt := 51) hx hb d_Hop_lowestFrom_6 (by decide) (by decide) ?_
      refine lv_aload_n hx hb d_Hop_lowestFrom_9 rfl (lv_at hl 3 rfl) ?_
      refine hg_parts X hK hP d_Hop_lowestFrom_10 ?_
      refine lv_iload_n hx hb d_Hop_lowestFrom_13 rfl (lv_at hl 0 rfl) ?_
      refine hl_P X hK hP (i := 2) (by decide) d_Hop_lowestFrom_14 ?_
      refine lv_astore (lv' := [(4, .ref (q 2)), (3, .int 2), (2, .ref (q 0)), (0, .ref (a 0)), (1, .int (nI f))]) hx hb d_Hop_lowestFrom_15 hl (by decide) rfl (fun ls hl => ?_)
      refine lv_aload hx hb d_Hop_lowestFrom_17 (lv_at hl 0 rfl) ?_
      refine hg_base X hK hP (by decide) d_Hop_lowestFrom_19 ?_
      refine lv_iload_n hx hb d_Hop_lowestFrom_22 rfl (lv_at hl 4 rfl) ?_
      refine lv_icmp_lt (tgt := 45) hx hb d_Hop_lowestFrom_23 (by decide) (fun g2 => ?_) (fun g2 => ?_)
      · have e2 := lowS_n (B := B) (f := f) (i := 2) (r := (some 0)) e1 (fun z => absurd ((nI_ltI (by omega) (by omega)).mp g2) (by omega))
        refine lv_iinc (k := 1) (v := 3) (lv' := [(3, .int 3), (4, .ref (q 2)), (2, .ref (q 0)), (0, .ref (a 0)), (1, .int (nI f))]) hx hb d_Hop_lowestFrom_45 hl rfl (by decide) (by decide) rfl (fun ls hl => ?_)
        refine lv_goto (tgt := 4) hx hb d_Hop_lowestFrom_48 (by decide) ?_
        refine lv_iload_n hx hb d_Hop_lowestFrom_4 rfl (lv_at hl 0 rfl) ?_
        refine lv_iconst (v := 3) hx hb d_Hop_lowestFrom_5 (by decide) ?_
        refine lvT_icmp_ge (tgt := 51) hx hb d_Hop_lowestFrom_6 (by decide) (by decide) ?_
        refine lv_aload_n hx hb d_Hop_lowestFrom_51 rfl (lv_at hl 2 rfl) ?_
        exact W.aret (v := .ref (q 0)) hx hb hr (Or.inl ⟨_, rfl⟩) (Or.inr ⟨_, rfl⟩) (fun t ht hW => ⟨by rw [show lowS B f 3 = _ from e2]; rfl, ht⟩) hq_nl d_Hop_lowestFrom_52
      · have u2 : f ≤ B 2 := Nat.not_lt.mp (fun z => g2 ((nI_ltI (by omega) (by omega)).mpr z))
        refine lv_aload_n hx hb d_Hop_lowestFrom_26 rfl (lv_at hl 2 rfl) ?_
        refine lv_ifnull hx hb d_Hop_lowestFrom_27 ?_
        refine lv_aload hx hb d_Hop_lowestFrom_30 (lv_at hl 0 rfl) ?_
        refine hg_base X hK hP (by decide) d_Hop_lowestFrom_32 ?_
        refine lv_aload_n hx hb d_Hop_lowestFrom_35 rfl (lv_at hl 2 rfl) ?_
        refine hg_base X hK hP (by decide) d_Hop_lowestFrom_36 ?_
        refine lv_icmp_ge (tgt := 45) hx hb d_Hop_lowestFrom_39 (by decide) (fun v2 => ?_) (fun v2 => ?_)
        · have e2 := lowS_k (B := B) (f := f) (i := 2) (j := 0) e1 (fun z => absurd ((nI_leI (by omega) (by omega)).mp v2) (by omega))
          refine lv_iinc (k := 1) (v := 3) (lv' := [(3, .int 3), (4, .ref (q 2)), (2, .ref (q 0)), (0, .ref (a 0)), (1, .int (nI f))]) hx hb d_Hop_lowestFrom_45 hl rfl (by decide) (by decide) rfl (fun ls hl => ?_)
          refine lv_goto (tgt := 4) hx hb d_Hop_lowestFrom_48 (by decide) ?_
          refine lv_iload_n hx hb d_Hop_lowestFrom_4 rfl (lv_at hl 0 rfl) ?_
          refine lv_iconst (v := 3) hx hb d_Hop_lowestFrom_5 (by decide) ?_
          refine lvT_icmp_ge (tgt := 51) hx hb d_Hop_lowestFrom_6 (by decide) (by decide) ?_
          refine lv_aload_n hx hb d_Hop_lowestFrom_51 rfl (lv_at hl 2 rfl) ?_
          exact W.aret (v := .ref (q 0)) hx hb hr (Or.inl ⟨_, rfl⟩) (Or.inr ⟨_, rfl⟩) (fun t ht hW => ⟨by rw [show lowS B f 3 = _ from e2]; rfl, ht⟩) hq_nl d_Hop_lowestFrom_52
        · have e2 := lowS_s (B := B) (f := f) (i := 2) (j := 0) e1 u2 (Nat.not_le.mp (fun z => v2 ((nI_leI (by omega) (by omega)).mpr z)))
          refine lv_aload hx hb d_Hop_lowestFrom_42 (lv_at hl 0 rfl) ?_
          refine lv_astore_n (lv' := [(2, .ref (q 2)), (4, .ref (q 2)), (3, .int 2), (0, .ref (a 0)), (1, .int (nI f))]) hx hb d_Hop_lowestFrom_44 rfl hl (by decide) rfl (fun ls hl => ?_)
          refine lv_iinc (k := 2) (v := 3) (lv' := [(3, .int 3), (2, .ref (q 2)), (4, .ref (q 2)), (0, .ref (a 0)), (1, .int (nI f))]) hx hb d_Hop_lowestFrom_45 hl rfl (by decide) (by decide) rfl (fun ls hl => ?_)
          refine lv_goto (tgt := 4) hx hb d_Hop_lowestFrom_48 (by decide) ?_
          refine lv_iload_n hx hb d_Hop_lowestFrom_4 rfl (lv_at hl 0 rfl) ?_
          refine lv_iconst (v := 3) hx hb d_Hop_lowestFrom_5 (by decide) ?_
          refine lvT_icmp_ge (tgt := 51) hx hb d_Hop_lowestFrom_6 (by decide) (by decide) ?_
          refine lv_aload_n hx hb d_Hop_lowestFrom_51 rfl (lv_at hl 1 rfl) ?_
          exact W.aret (v := .ref (q 2)) hx hb hr (Or.inl ⟨_, rfl⟩) (Or.inr ⟨_, rfl⟩) (fun t ht hW => ⟨by rw [show lowS B f 3 = _ from e2]; rfl, ht⟩) hq_nl d_Hop_lowestFrom_52
    · have u1 : f ≤ B 1 := Nat.not_lt.mp (fun z => g1 ((nI_ltI (by omega) (by omega)).mpr z))
      refine lv_aload_n hx hb d_Hop_lowestFrom_26 rfl (lv_at hl 2 rfl) ?_
      refine lv_ifnull hx hb d_Hop_lowestFrom_27 ?_
      refine lv_aload hx hb d_Hop_lowestFrom_30 (lv_at hl 0 rfl) ?_
      refine hg_base X hK hP (by decide) d_Hop_lowestFrom_32 ?_
      refine lv_aload_n hx hb d_Hop_lowestFrom_35 rfl (lv_at hl 2 rfl) ?_
      refine hg_base X hK hP (by decide) d_Hop_lowestFrom_36 ?_
      refine lv_icmp_ge (tgt := 45) hx hb d_Hop_lowestFrom_39 (by decide) (fun v1 => ?_) (fun v1 => ?_)
      · have e1 := lowS_k (B := B) (f := f) (i := 1) (j := 0) e0 (fun z => absurd ((nI_leI (by omega) (by omega)).mp v1) (by omega))
        refine lv_iinc (k := 1) (v := 2) (lv' := [(3, .int 2), (4, .ref (q 1)), (2, .ref (q 0)), (0, .ref (a 0)), (1, .int (nI f))]) hx hb d_Hop_lowestFrom_45 hl rfl (by decide) (by decide) rfl (fun ls hl => ?_)
        refine lv_goto (tgt := 4) hx hb d_Hop_lowestFrom_48 (by decide) ?_
        refine lv_iload_n hx hb d_Hop_lowestFrom_4 rfl (lv_at hl 0 rfl) ?_
        refine lv_iconst (v := 3) hx hb d_Hop_lowestFrom_5 (by decide) ?_
        refine lvF_icmp_ge (tgt := 51) hx hb d_Hop_lowestFrom_6 (by decide) (by decide) ?_
        refine lv_aload_n hx hb d_Hop_lowestFrom_9 rfl (lv_at hl 3 rfl) ?_
        refine hg_parts X hK hP d_Hop_lowestFrom_10 ?_
        refine lv_iload_n hx hb d_Hop_lowestFrom_13 rfl (lv_at hl 0 rfl) ?_
        refine hl_P X hK hP (i := 2) (by decide) d_Hop_lowestFrom_14 ?_
        refine lv_astore (lv' := [(4, .ref (q 2)), (3, .int 2), (2, .ref (q 0)), (0, .ref (a 0)), (1, .int (nI f))]) hx hb d_Hop_lowestFrom_15 hl (by decide) rfl (fun ls hl => ?_)
        refine lv_aload hx hb d_Hop_lowestFrom_17 (lv_at hl 0 rfl) ?_
        refine hg_base X hK hP (by decide) d_Hop_lowestFrom_19 ?_
        refine lv_iload_n hx hb d_Hop_lowestFrom_22 rfl (lv_at hl 4 rfl) ?_
        refine lv_icmp_lt (tgt := 45) hx hb d_Hop_lowestFrom_23 (by decide) (fun g2 => ?_) (fun g2 => ?_)
        · have e2 := lowS_n (B := B) (f := f) (i := 2) (r := (some 0)) e1 (fun z => absurd ((nI_ltI (by omega) (by omega)).mp g2) (by omega))
          refine lv_iinc (k := 1) (v := 3) (lv' := [(3, .int 3), (4, .ref (q 2)), (2, .ref (q 0)), (0, .ref (a 0)), (1, .int (nI f))]) hx hb d_Hop_lowestFrom_45 hl rfl (by decide) (by decide) rfl (fun ls hl => ?_)
          refine lv_goto (tgt := 4) hx hb d_Hop_lowestFrom_48 (by decide) ?_
          refine lv_iload_n hx hb d_Hop_lowestFrom_4 rfl (lv_at hl 0 rfl) ?_
          refine lv_iconst (v := 3) hx hb d_Hop_lowestFrom_5 (by decide) ?_
          refine lvT_icmp_ge (tgt := 51) hx hb d_Hop_lowestFrom_6 (by decide) (by decide) ?_
          refine lv_aload_n hx hb d_Hop_lowestFrom_51 rfl (lv_at hl 2 rfl) ?_
          exact W.aret (v := .ref (q 0)) hx hb hr (Or.inl ⟨_, rfl⟩) (Or.inr ⟨_, rfl⟩) (fun t ht hW => ⟨by rw [show lowS B f 3 = _ from e2]; rfl, ht⟩) hq_nl d_Hop_lowestFrom_52
        · have u2 : f ≤ B 2 := Nat.not_lt.mp (fun z => g2 ((nI_ltI (by omega) (by omega)).mpr z))
          refine lv_aload_n hx hb d_Hop_lowestFrom_26 rfl (lv_at hl 2 rfl) ?_
          refine lv_ifnull hx hb d_Hop_lowestFrom_27 ?_
          refine lv_aload hx hb d_Hop_lowestFrom_30 (lv_at hl 0 rfl) ?_
          refine hg_base X hK hP (by decide) d_Hop_lowestFrom_32 ?_
          refine lv_aload_n hx hb d_Hop_lowestFrom_35 rfl (lv_at hl 2 rfl) ?_
          refine hg_base X hK hP (by decide) d_Hop_lowestFrom_36 ?_
          refine lv_icmp_ge (tgt := 45) hx hb d_Hop_lowestFrom_39 (by decide) (fun v2 => ?_) (fun v2 => ?_)
          · have e2 := lowS_k (B := B) (f := f) (i := 2) (j := 0) e1 (fun z => absurd ((nI_leI (by omega) (by omega)).mp v2) (by omega))
            refine lv_iinc (k := 1) (v := 3) (lv' := [(3, .int 3), (4, .ref (q 2)), (2, .ref (q 0)), (0, .ref (a 0)), (1, .int (nI f))]) hx hb d_Hop_lowestFrom_45 hl rfl (by decide) (by decide) rfl (fun ls hl => ?_)
            refine lv_goto (tgt := 4) hx hb d_Hop_lowestFrom_48 (by decide) ?_
            refine lv_iload_n hx hb d_Hop_lowestFrom_4 rfl (lv_at hl 0 rfl) ?_
            refine lv_iconst (v := 3) hx hb d_Hop_lowestFrom_5 (by decide) ?_
            refine lvT_icmp_ge (tgt := 51) hx hb d_Hop_lowestFrom_6 (by decide) (by decide) ?_
            refine lv_aload_n hx hb d_Hop_lowestFrom_51 rfl (lv_at hl 2 rfl) ?_
            exact W.aret (v := .ref (q 0)) hx hb hr (Or.inl ⟨_, rfl⟩) (Or.inr ⟨_, rfl⟩) (fun t ht hW => ⟨by rw [show lowS B f 3 = _ from e2]; rfl, ht⟩) hq_nl d_Hop_lowestFrom_52
          · have e2 := lowS_s (B := B) (f := f) (i := 2) (j := 0) e1 u2 (Nat.not_le.mp (fun z => v2 ((nI_leI (by omega) (by omega)).mpr z)))
            refine lv_aload hx hb d_Hop_lowestFrom_42 (lv_at hl 0 rfl) ?_
            refine lv_astore_n (lv' := [(2, .ref (q 2)), (4, .ref (q 2)), (3, .int 2), (0, .ref (a 0)), (1, .int (nI f))]) hx hb d_Hop_lowestFrom_44 rfl hl (by decide) rfl (fun ls hl => ?_)
            refine lv_iinc (k := 2) (v := 3) (lv' := [(3, .int 3), (2, .ref (q 2)), (4, .ref (q 2)), (0, .ref (a 0)), (1, .int (nI f))]) hx hb d_Hop_lowestFrom_45 hl rfl (by decide) (by decide) rfl (fun ls hl => ?_)
            refine lv_goto (tgt := 4) hx hb d_Hop_lowestFrom_48 (by decide) ?_
            refine lv_iload_n hx hb d_Hop_lowestFrom_4 rfl (lv_at hl 0 rfl) ?_
            refine lv_iconst (v := 3) hx hb d_Hop_lowestFrom_5 (by decide) ?_
            refine lvT_icmp_ge (tgt := 51) hx hb d_Hop_lowestFrom_6 (by decide) (by decide) ?_
            refine lv_aload_n hx hb d_Hop_lowestFrom_51 rfl (lv_at hl 1 rfl) ?_
            exact W.aret (v := .ref (q 2)) hx hb hr (Or.inl ⟨_, rfl⟩) (Or.inr ⟨_, rfl⟩) (fun t ht hW => ⟨by rw [show lowS B f 3 = _ from e2]; rfl, ht⟩) hq_nl d_Hop_lowestFrom_52
      · have e1 := lowS_s (B := B) (f := f) (i := 1) (j := 0) e0 u1 (Nat.not_le.mp (fun z => v1 ((nI_leI (by omega) (by omega)).mpr z)))
        refine lv_aload hx hb d_Hop_lowestFrom_42 (lv_at hl 0 rfl) ?_
        refine lv_astore_n (lv' := [(2, .ref (q 1)), (4, .ref (q 1)), (3, .int 1), (0, .ref (a 0)), (1, .int (nI f))]) hx hb d_Hop_lowestFrom_44 rfl hl (by decide) rfl (fun ls hl => ?_)
        refine lv_iinc (k := 2) (v := 2) (lv' := [(3, .int 2), (2, .ref (q 1)), (4, .ref (q 1)), (0, .ref (a 0)), (1, .int (nI f))]) hx hb d_Hop_lowestFrom_45 hl rfl (by decide) (by decide) rfl (fun ls hl => ?_)
        refine lv_goto (tgt := 4) hx hb d_Hop_lowestFrom_48 (by decide) ?_
        refine lv_iload_n hx hb d_Hop_lowestFrom_4 rfl (lv_at hl 0 rfl) ?_
        refine lv_iconst (v := 3) hx hb d_Hop_lowestFrom_5 (by decide) ?_
        refine lvF_icmp_ge (tgt := 51) hx hb d_Hop_lowestFrom_6 (by decide) (by decide) ?_
        refine lv_aload_n hx hb d_Hop_lowestFrom_9 rfl (lv_at hl 3 rfl) ?_
        refine hg_parts X hK hP d_Hop_lowestFrom_10 ?_
        refine lv_iload_n hx hb d_Hop_lowestFrom_13 rfl (lv_at hl 0 rfl) ?_
        refine hl_P X hK hP (i := 2) (by decide) d_Hop_lowestFrom_14 ?_
        refine lv_astore (lv' := [(4, .ref (q 2)), (3, .int 2), (2, .ref (q 1)), (0, .ref (a 0)), (1, .int (nI f))]) hx hb d_Hop_lowestFrom_15 hl (by decide) rfl (fun ls hl => ?_)
        refine lv_aload hx hb d_Hop_lowestFrom_17 (lv_at hl 0 rfl) ?_
        refine hg_base X hK hP (by decide) d_Hop_lowestFrom_19 ?_
        refine lv_iload_n hx hb d_Hop_lowestFrom_22 rfl (lv_at hl 4 rfl) ?_
        refine lv_icmp_lt (tgt := 45) hx hb d_Hop_lowestFrom_23 (by decide) (fun g2 => ?_) (fun g2 => ?_)
        · have e2 := lowS_n (B := B) (f := f) (i := 2) (r := (some 1)) e1 (fun z => absurd ((nI_ltI (by omega) (by omega)).mp g2) (by omega))
          refine lv_iinc (k := 1) (v := 3) (lv' := [(3, .int 3), (4, .ref (q 2)), (2, .ref (q 1)), (0, .ref (a 0)), (1, .int (nI f))]) hx hb d_Hop_lowestFrom_45 hl rfl (by decide) (by decide) rfl (fun ls hl => ?_)
          refine lv_goto (tgt := 4) hx hb d_Hop_lowestFrom_48 (by decide) ?_
          refine lv_iload_n hx hb d_Hop_lowestFrom_4 rfl (lv_at hl 0 rfl) ?_
          refine lv_iconst (v := 3) hx hb d_Hop_lowestFrom_5 (by decide) ?_
          refine lvT_icmp_ge (tgt := 51) hx hb d_Hop_lowestFrom_6 (by decide) (by decide) ?_
          refine lv_aload_n hx hb d_Hop_lowestFrom_51 rfl (lv_at hl 2 rfl) ?_
          exact W.aret (v := .ref (q 1)) hx hb hr (Or.inl ⟨_, rfl⟩) (Or.inr ⟨_, rfl⟩) (fun t ht hW => ⟨by rw [show lowS B f 3 = _ from e2]; rfl, ht⟩) hq_nl d_Hop_lowestFrom_52
        · have u2 : f ≤ B 2 := Nat.not_lt.mp (fun z => g2 ((nI_ltI (by omega) (by omega)).mpr z))
          refine lv_aload_n hx hb d_Hop_lowestFrom_26 rfl (lv_at hl 2 rfl) ?_
          refine lv_ifnull hx hb d_Hop_lowestFrom_27 ?_
          refine lv_aload hx hb d_Hop_lowestFrom_30 (lv_at hl 0 rfl) ?_
          refine hg_base X hK hP (by decide) d_Hop_lowestFrom_32 ?_
          refine lv_aload_n hx hb d_Hop_lowestFrom_35 rfl (lv_at hl 2 rfl) ?_
          refine hg_base X hK hP (by decide) d_Hop_lowestFrom_36 ?_
          refine lv_icmp_ge (tgt := 45) hx hb d_Hop_lowestFrom_39 (by decide) (fun v2 => ?_) (fun v2 => ?_)
          · have e2 := lowS_k (B := B) (f := f) (i := 2) (j := 1) e1 (fun z => absurd ((nI_leI (by omega) (by omega)).mp v2) (by omega))
            refine lv_iinc (k := 1) (v := 3) (lv' := [(3, .int 3), (4, .ref (q 2)), (2, .ref (q 1)), (0, .ref (a 0)), (1, .int (nI f))]) hx hb d_Hop_lowestFrom_45 hl rfl (by decide) (by decide) rfl (fun ls hl => ?_)
            refine lv_goto (tgt := 4) hx hb d_Hop_lowestFrom_48 (by decide) ?_
            refine lv_iload_n hx hb d_Hop_lowestFrom_4 rfl (lv_at hl 0 rfl) ?_
            refine lv_iconst (v := 3) hx hb d_Hop_lowestFrom_5 (by decide) ?_
            refine lvT_icmp_ge (tgt := 51) hx hb d_Hop_lowestFrom_6 (by decide) (by decide) ?_
            refine lv_aload_n hx hb d_Hop_lowestFrom_51 rfl (lv_at hl 2 rfl) ?_
            exact W.aret (v := .ref (q 1)) hx hb hr (Or.inl ⟨_, rfl⟩) (Or.inr ⟨_, rfl⟩) (fun t ht hW => ⟨by rw [show lowS B f 3 = _ from e2]; rfl, ht⟩) hq_nl d_Hop_lowestFrom_52
          · have e2 := lowS_s (B := B) (f := f) (i := 2) (j := 1) e1 u2 (Nat.not_le.mp (fun z => v2 ((nI_leI (by omega) (by omega)).mpr z)))
            refine lv_aload hx hb d_Hop_lowestFrom_42 (lv_at hl 0 rfl) ?_
            refine lv_astore_n (lv' := [(2, .ref (q 2)), (4, .ref (q 2)), (3, .int 2), (0, .ref (a 0)), (1, .int (nI f))]) hx hb d_Hop_lowestFrom_44 rfl hl (by decide) rfl (fun ls hl => ?_)
            refine lv_iinc (k := 2) (v := 3) (lv' := [(3, .int 3), (2, .ref (q 2)), (4, .ref (q 2)), (0, .ref (a 0)), (1, .int (nI f))]) hx hb d_Hop_lowestFrom_45 hl rfl (by decide) (by decide) rfl (fun ls hl => ?_)
            refine lv_goto (tgt := 4) hx hb d_Hop_lowestFrom_48 (by decide) ?_
            refine lv_iload_n hx hb d_Hop_lowestFrom_4 rfl (lv_at hl 0 rfl) ?_
            refine lv_iconst (v := 3) hx hb d_Hop_lowestFrom_5 (by decide) ?_
            refine lvT_icmp_ge (tgt := 51) hx hb d_Hop_lowestFrom_6 (by decide) (by decide) ?_
            refine lv_aload_n hx hb d_Hop_lowestFrom_51 rfl (lv_at hl 1 rfl) ?_
            exact W.aret (v := .ref (q 2)) hx hb hr (Or.inl ⟨_, rfl⟩) (Or.inr ⟨_, rfl⟩) (fun t ht hW => ⟨by rw [show lowS B f 3 = _ from e2]; rfl, ht⟩) hq_nl d_Hop_lowestFrom_52
set_option maxHeartbeats 4000000 in
set_option maxRecDepth 100000 in
/-- moveDown: a part comes to f -/
theorem c_Hop_moveDown (l : Launch) (D : va_G) (ca a q : Nat → Nat) (K V : IT) (T : BT) (C : IT) (B P : Nat → Nat) (S : IT) (j : Nat) (hj : j < 4) (f : Nat) (hbd : B j + P j ≤ 256) (hf : f ≤ B j) : Met l y_Hop_moveDown w_Hop_moveDown (rmD 1 0 0) (va_Pc [.ref (a 0), .ref (q j), .int (nI f)] (hb_W D hCl (wH ca a q K V T C B P S) (tyH ca))) (hq_W (none) D hCl (wH ca a q (cpyI K (B j) f (P j)) (cpyI V (B j) f (P j)) (cpyB T (B j) f (P j)) C (va_up B j f) P S) (hA (wH ca a q K V T C B P S))) 0 0 (hA (wH ca a q K V T C B P S)) := by
  refine Met.ofW (cc := b_Hop_moveDown) (maxL := 4) (ret := none) (by decide) rfl ?_
  intro p e s m args below meth c0 s₁ B0 hml hv
  obtain ⟨rfl, hP, hK, hD0⟩ := hv
  have hx := B0.exec
  have hb := B0.bytes
  have hr := B0.returns
  have hts := atoms_spec (ws := w_Hop_moveDown) B0.pre
  have hown : s.vm.findClass R_Hop = some m.cls := findClass_of_methodNamed B0.named
  have hlocks := B0.notSynchronized
  have hwA : ∀ w ∈ wsA, w.before ([.ref (a 0), .ref (q j), .int (nI f)] : List Value).toArray s = true := fun w h => hts w (List.mem_cons_of_mem _ h)
  have X : CallFix p m c0 b_Hop_moveDown 4 s ([.ref (a 0), .ref (q j), .int (nI f)] : List Value).toArray wsA R_Hop := ⟨hx, hb, hml, hown, hwA⟩
  have hD := hA_D hD0
  have hS : va_S (hA (wH ca a q K V T C B P S)) s.heap s.heap [] := va_S.rf
  have hl := lv_entry ([.ref (a 0), .ref (q j), .int (nI f)]) (n := 4) (Nat.le_of_ble_eq_true rfl)
  rw [lg_entry_eq]
  generalize (lg_sl ([.ref (a 0), .ref (q j), .int (nI f)]) ++ List.replicate (4 - (lg_sl ([.ref (a 0), .ref (q j), .int (nI f)])).length) Slot.unset).toArray = ls at hl ⊢
  have hl : lv_has ls 4 [(0, .ref (a 0)), (1, .ref (q j)), (2, .int (nI f))] := hl
  have loop : ∀ (n i : Nat) (ls : Array Slot) (H : Heap) (locs : List Loc), i + n = P j → va_P D hCl (wH ca a q (cpyI K (B j) f i) (cpyI V (B j) f i) (cpyB T (B j) f i) C B P S) H → va_D (hA (wH ca a q K V T C B P S)) (wH ca a q (cpyI K (B j) f i) (cpyI V (B j) f i) (cpyB T (B j) f i) C B P S) → va_S (hA (wH ca a q K V T C B P S)) s.heap H locs → lv_has ls 4 [(3, .int (nI i)), (0, .ref (a 0)), (1, .ref (q j)), (2, .int (nI f))] → W p l e (headSpec w_Hop_moveDown (rmD 1 0 0)).room s m ([.ref (a 0), .ref (q j), .int (nI f)] : List Value).toArray below meth c0 H locs 0 0 (MQ below (hq_W (none) D hCl (wH ca a q (cpyI K (B j) f (P j)) (cpyI V (B j) f (P j)) (cpyB T (B j) f (P j)) C (va_up B j f) P S) (hA (wH ca a q K V T C B P S))) ([.ref (a 0), .ref (q j), .int (nI f)] : List Value).toArray s 0 0 (hA (wH ca a q K V T C B P S))) (F0 m 2 ls []) := by
    intro n
    induction n with
    | zero =>
      intro i ls H locs hi hP hD hS hl
      have hiP : i = P j := by omega
      refine lv_iload_n hx hb d_Hop_moveDown_2 rfl (lv_at hl 0 rfl) ?_
      refine lv_aload_n hx hb d_Hop_moveDown_3 rfl (lv_at hl 2 rfl) ?_
      refine hg_capacity X hK hP hj d_Hop_moveDown_4 ?_
      refine lvT_icmp_ge (tgt := 29) hx hb d_Hop_moveDown_7 (by decide) (nI_le (a := P j) (b := i) (by omega) (by omega)) ?_
      rw [hiP] at hP hD
      refine lv_aload_n hx hb d_Hop_moveDown_29 rfl (lv_at hl 2 rfl) ?_
      refine lv_iload_n hx hb d_Hop_moveDown_30 rfl (lv_at hl 3 rfl) ?_
      refine hp_base X hK hP hD hS (x := f) hj d_Hop_moveDown_31 (fun H locs hP hD hS => ?_)
      exact W.vret hx hb hr (fun t ht hW => ⟨rfl, by rw [ht]; exact hP, hS.F ht⟩) hS.2.2 d_Hop_moveDown_34
    | succ n ih =>
      intro i ls H locs hi hP hD hS hl
      refine lv_iload_n hx hb d_Hop_moveDown_2 rfl (lv_at hl 0 rfl) ?_
      refine lv_aload_n hx hb d_Hop_moveDown_3 rfl (lv_at hl 2 rfl) ?_
      refine hg_capacity X hK hP hj d_Hop_moveDown_4 ?_
      refine lvF_icmp_ge (tgt := 29) hx hb d_Hop_moveDown_7 (by decide) (nI_ge (a := i) (b := P j) (by omega) (by omega)) ?_
      refine lv_aload_n hx hb d_Hop_moveDown_10 rfl (lv_at hl 1 rfl) ?_
      refine lv_aload_n hx hb d_Hop_moveDown_11 rfl (lv_at hl 2 rfl) ?_
      refine hg_base X hK hP hj d_Hop_moveDown_12 ?_
      refine lv_iload_n hx hb d_Hop_moveDown_15 rfl (lv_at hl 0 rfl) ?_
      refine lv_iadd hx hb d_Hop_moveDown_16 ?_
      refine lv_tope (y := nI (B j + i)) (nI_add _ _) ?_
      refine lv_iload_n hx hb d_Hop_moveDown_17 rfl (lv_at hl 3 rfl) ?_
      refine lv_iload_n hx hb d_Hop_moveDown_18 rfl (lv_at hl 0 rfl) ?_
      refine lv_iadd hx hb d_Hop_moveDown_19 ?_
      refine lv_tope (y := nI (f + i)) (nI_add _ _) ?_
      refine k_copySlot X hK hP hD hS hl.1 (g := B j + i) (f := f + i) (by omega) (by omega) (Nat.le_of_ble_eq_true rfl) ⟨Nat.zero_le _, Nat.zero_le _⟩ ⟨Nat.le_of_ble_eq_true rfl, Nat.le_of_ble_eq_true rfl⟩ d_Hop_moveDown_20 (fun H locs hP hD hS => ?_)
      refine lv_iinc (k := 0) (v := nI (i + 1)) (lv' := [(3, .int (nI (i + 1))), (0, .ref (a 0)), (1, .ref (q j)), (2, .int (nI f))]) hx hb d_Hop_moveDown_23 hl rfl (inc1 i) (by decide) rfl (fun ls hl => ?_)
      refine lv_goto (tgt := 2) hx hb d_Hop_moveDown_26 (by decide) ?_
      exact ih (i + 1) ls H locs (by omega) hP hD hS hl
  refine lv_iconst (v := 0) hx hb d_Hop_moveDown_0 (by decide) ?_
  refine lv_istore_n (lv' := [(3, .int 0), (0, .ref (a 0)), (1, .ref (q j)), (2, .int (nI f))]) hx hb d_Hop_moveDown_1 rfl hl (by decide) rfl (fun ls hl => ?_)
  exact loop (P j) 0 ls s.heap [] (by omega) hP hD hS hl
end
section
set_option maxHeartbeats 4000000 in
set_option maxRecDepth 100000 in
/-- hopNearer: the first key that can move comes to f -/
theorem c_Hop_hopNearer (l : Launch) (D : va_G) (ca a q : Nat → Nat) (K V : IT) (T : BT) (C : IT) (B P : Nat → Nat) (S : IT) (j : Nat) (hj : j < 4) (f : Nat) (hc : pw (P j)) (hbd : B j + P j ≤ 256) (hf8 : 8 ≤ f) (hf : f < 32768) : Met l y_Hop_hopNearer w_Hop_hopNearer (rmD 2 0 0) (va_Pc [.ref (a 0), .ref (q j), .int (nI f)] (hb_W D hCl (wH ca a q K V T C B P S) (tyH ca))) (hq_W (some (.int (hopV (hpD T K (B j) (P j) (S j) f 7)))) D hCl (wH ca a q (hopX (B j) (P j) f (hpD T K (B j) (P j) (S j) f 7) (K, V, T, C)).1 (hopX (B j) (P j) f (hpD T K (B j) (P j) (S j) f 7) (K, V, T, C)).2.1 (hopX (B j) (P j) f (hpD T K (B j) (P j) (S j) f 7) (K, V, T, C)).2.2.1 (hopX (B j) (P j) f (hpD T K (B j) (P j) (S j) f 7) (K, V, T, C)).2.2.2 B P S) (hA (wH ca a q K V T C B P S))) 0 0 (hA (wH ca a q K V T C B P S)) := by
  refine Met.ofW (cc := b_Hop_hopNearer) (maxL := 7) (ret := some .int) (by decide) rfl ?_
  intro p e s m args below meth c0 s₁ B0 hml hv
  obtain ⟨rfl, hP, hK, hD0⟩ := hv
  have hx := B0.exec
  have hb := B0.bytes
  have hr := B0.returns
  have hts := atoms_spec (ws := w_Hop_hopNearer) B0.pre
  have hown : s.vm.findClass R_Hop = some m.cls := findClass_of_methodNamed B0.named
  have hlocks := B0.notSynchronized
  have hwA : ∀ w ∈ wsA, w.before ([.ref (a 0), .ref (q j), .int (nI f)] : List Value).toArray s = true := fun w h => hts w (List.mem_cons_of_mem _ h)
  have X : CallFix p m c0 b_Hop_hopNearer 7 s ([.ref (a 0), .ref (q j), .int (nI f)] : List Value).toArray wsA R_Hop := ⟨hx, hb, hml, hown, hwA⟩
  have hD := hA_D hD0
  have hS : va_S (hA (wH ca a q K V T C B P S)) s.heap s.heap [] := va_S.rf
  have hl := lv_entry ([.ref (a 0), .ref (q j), .int (nI f)]) (n := 7) (Nat.le_of_ble_eq_true rfl)
  rw [lg_entry_eq]
  generalize (lg_sl ([.ref (a 0), .ref (q j), .int (nI f)]) ++ List.replicate (7 - (lg_sl ([.ref (a 0), .ref (q j), .int (nI f)])).length) Slot.unset).toArray = ls at hl ⊢
  have hl : lv_has ls 7 [(0, .ref (a 0)), (1, .ref (q j)), (2, .int (nI f))] := hl
  have hP8 := pw_le hc
  have hP0 := pw_pos hc
  have loop : ∀ (d : Nat) (ls : Array Slot), d ≤ 7 → hpD T K (B j) (P j) (S j) f d = hpD T K (B j) (P j) (S j) f 7 → lv_has ls 7 [(3, .int (nI d)), (0, .ref (a 0)), (1, .ref (q j)), (2, .int (nI f))] → W p l e (headSpec w_Hop_hopNearer (rmD 2 0 0)).room s m ([.ref (a 0), .ref (q j), .int (nI f)] : List Value).toArray below meth c0 s.heap [] 0 0 (MQ below (hq_W (some (.int (hopV (hpD T K (B j) (P j) (S j) f 7)))) D hCl (wH ca a q (hopX (B j) (P j) f (hpD T K (B j) (P j) (S j) f 7) (K, V, T, C)).1 (hopX (B j) (P j) f (hpD T K (B j) (P j) (S j) f 7) (K, V, T, C)).2.1 (hopX (B j) (P j) f (hpD T K (B j) (P j) (S j) f 7) (K, V, T, C)).2.2.1 (hopX (B j) (P j) f (hpD T K (B j) (P j) (S j) f 7) (K, V, T, C)).2.2.2 B P S) (hA (wH ca a q K V T C B P S))) ([.ref (a 0), .ref (q j), .int (nI f)] : List Value).toArray s 0 0 (hA (wH ca a q K V T C B P S))) (F0 m 3 ls []) := by
    intro d
    induction d with
    | zero =>
      intro ls hd hr0 hl
      have hr0 : hpD T K (B j) (P j) (S j) f 7 = none := hr0.symm
      refine lv_iload_n hx hb d_Hop_hopNearer_3 rfl (lv_at hl 0 rfl) ?_
      refine lv_iconst (v := 1) hx hb d_Hop_hopNearer_4 (by decide) ?_
      refine lvT_icmp_lt (tgt := 95) hx hb d_Hop_hopNearer_5 (by decide) (by show nI 0 < nI 1; exact nI_lt (by omega) (by omega)) ?_
      refine lv_iconst (v := 0) hx hb d_Hop_hopNearer_95 (by decide) ?_
      exact W.iret (v := 0) hx hb hr (fun t ht hW => ⟨by rw [hr0]; rfl, by rw [ht, hr0]; exact hP, hS.F ht⟩) hS.2.2 d_Hop_hopNearer_96
    | succ d ihd =>
      intro ls hd hr0 hl
      have hhlt : (f + P j - (d + 1)) % P j < P j := Nat.mod_lt _ hP0
      have inner : ∀ (n i : Nat) (ls : Array Slot), i + n = d + 1 → hpI T K (B j) (P j) (S j) ((f + P j - (d + 1)) % P j) i n = hpI T K (B j) (P j) (S j) ((f + P j - (d + 1)) % P j) 0 (d + 1) → lv_has ls 7 [(5, .int (nI i)), (4, .int (nI ((f + P j - (d + 1)) % P j))), (3, .int (nI (d + 1))), (0, .ref (a 0)), (1, .ref (q j)), (2, .int (nI f))] → W p l e (headSpec w_Hop_hopNearer (rmD 2 0 0)).room s m ([.ref (a 0), .ref (q j), .int (nI f)] : List Value).toArray below meth c0 s.heap [] 0 0 (MQ below (hq_W (some (.int (hopV (hpD T K (B j) (P j) (S j) f 7)))) D hCl (wH ca a q (hopX (B j) (P j) f (hpD T K (B j) (P j) (S j) f 7) (K, V, T, C)).1 (hopX (B j) (P j) f (hpD T K (B j) (P j) (S j) f 7) (K, V, T, C)).2.1 (hopX (B j) (P j) f (hpD T K (B j) (P j) (S j) f 7) (K, V, T, C)).2.2.1 (hopX (B j) (P j) f (hpD T K (B j) (P j) (S j) f 7) (K, V, T, C)).2.2.2 B P S) (hA (wH ca a q K V T C B P S))) ([.ref (a 0), .ref (q j), .int (nI f)] : List Value).toArray s 0 0 (hA (wH ca a q K V T C B P S))) (F0 m 20 ls []) := by
        intro n
        induction n with
        | zero =>
          intro i ls hi hq hl
          refine lv_iload hx hb d_Hop_hopNearer_20 (lv_at hl 0 rfl) ?_
          refine lv_iload_n hx hb d_Hop_hopNearer_22 rfl (lv_at hl 2 rfl) ?_
          refine lvT_icmp_ge (tgt := 89) hx hb d_Hop_hopNearer_23 (by decide) (nI_le (a := d + 1) (b := i) (by omega) (by omega)) ?_
          refine lv_iinc (k := 2) (v := nI d) (lv' := [(3, .int (nI d)), (5, .int (nI i)), (4, .int (nI ((f + P j - (d + 1)) % P j))), (0, .ref (a 0)), (1, .ref (q j)), (2, .int (nI f))]) hx hb d_Hop_hopNearer_89 hl rfl (dec1 d) (by decide) rfl (fun ls hl => ?_)
          refine lv_goto (tgt := 3) hx hb d_Hop_hopNearer_92 (by decide) ?_
          exact ihd ls (by omega) (by rw [← hr0]; exact (hpD_n hq.symm).symm) (lv_sub hl [0, 3, 4, 5] rfl)
        | succ n ih =>
          intro i ls hi hq hl
          refine lv_iload hx hb d_Hop_hopNearer_20 (lv_at hl 0 rfl) ?_
          refine lv_iload_n hx hb d_Hop_hopNearer_22 rfl (lv_at hl 2 rfl) ?_
          refine lvF_icmp_ge (tgt := 89) hx hb d_Hop_hopNearer_23 (by decide) (nI_ge (a := i) (b := d + 1) (by omega) (by omega)) ?_
          refine lv_aload_n hx hb d_Hop_hopNearer_26 rfl (lv_at hl 3 rfl) ?_
          refine lv_aload_n hx hb d_Hop_hopNearer_27 rfl (lv_at hl 4 rfl) ?_
          refine lv_iload hx hb d_Hop_hopNearer_28 (lv_at hl 1 rfl) ?_
          refine lv_iload hx hb d_Hop_hopNearer_30 (lv_at hl 0 rfl) ?_
          refine k_isBitSet X hK hP hl.1 (h := (f + P j - (d + 1)) % P j) (i := i) hj hc hbd (by omega) (by omega) (Nat.le_of_ble_eq_true rfl) ⟨Nat.zero_le _, Nat.zero_le _⟩ ⟨Nat.le_of_ble_eq_true rfl, Nat.le_of_ble_eq_true rfl⟩ d_Hop_hopNearer_32 ?_
          refine lv_if_eq (tgt := 83) hx hb d_Hop_hopNearer_35 (by decide) (fun h1 => ?_) (fun h1 => ?_)
          · refine lv_iinc (k := 0) (v := nI (i + 1)) (lv' := [(5, .int (nI (i + 1))), (4, .int (nI ((f + P j - (d + 1)) % P j))), (3, .int (nI (d + 1))), (0, .ref (a 0)), (1, .ref (q j)), (2, .int (nI f))]) hx hb d_Hop_hopNearer_83 hl rfl (inc1 i) (by decide) rfl (fun ls hl => ?_)
            refine lv_goto (tgt := 20) hx hb d_Hop_hopNearer_86 (by decide) ?_
            exact ih (i + 1) ls (by omega) (by rw [← hq]; exact (if_neg (by rw [bI_0.mp h1]; decide)).symm) hl
          · have hr1 : hpD T K (B j) (P j) (S j) f 7 = some (d + 1, i) := by rw [← hr0]; exact hpD_s (by rw [← hq]; exact if_pos (bI_n0.mp h1))
            refine lv_aload_n hx hb d_Hop_hopNearer_38 rfl (lv_at hl 4 rfl) ?_
            refine lv_iload hx hb d_Hop_hopNearer_39 (lv_at hl 1 rfl) ?_
            refine lv_iload hx hb d_Hop_hopNearer_41 (lv_at hl 0 rfl) ?_
            refine lv_iadd hx hb d_Hop_hopNearer_43 ?_
            refine lv_tope (y := nI ((f + P j - (d + 1)) % P j + i)) (nI_add _ _) ?_
            refine k_slotOf X hK hP hl.1 (x := (f + P j - (d + 1)) % P j + i) hc (by omega) hj (Nat.le_of_ble_eq_true rfl) ⟨Nat.zero_le _, Nat.zero_le _⟩ ⟨Nat.le_of_ble_eq_true rfl, Nat.le_of_ble_eq_true rfl⟩ d_Hop_hopNearer_44 ?_
            refine lv_istore (lv' := [(6, .int (nI (B j + ((f + P j - (d + 1)) % P j + i) % P j))), (5, .int (nI i)), (4, .int (nI ((f + P j - (d + 1)) % P j))), (3, .int (nI (d + 1))), (0, .ref (a 0)), (1, .ref (q j)), (2, .int (nI f))]) hx hb d_Hop_hopNearer_47 hl (by decide) rfl (fun ls hl => ?_)
            refine lv_aload_n hx hb d_Hop_hopNearer_49 rfl (lv_at hl 4 rfl) ?_
            refine lv_iload hx hb d_Hop_hopNearer_50 (lv_at hl 0 rfl) ?_
            refine lv_aload_n hx hb d_Hop_hopNearer_52 rfl (lv_at hl 5 rfl) ?_
            refine lv_iload_n hx hb d_Hop_hopNearer_53 rfl (lv_at hl 6 rfl) ?_
            refine k_slotOf X hK hP hl.1 (x := f) hc (by omega) hj (Nat.le_of_ble_eq_true rfl) ⟨Nat.zero_le _, Nat.zero_le _⟩ ⟨Nat.le_of_ble_eq_true rfl, Nat.le_of_ble_eq_true rfl⟩ d_Hop_hopNearer_54 ?_
            refine k_copySlot X hK hP hD hS hl.1 (g := B j + ((f + P j - (d + 1)) % P j + i) % P j) (f := B j + (f) % P j) (sl_lt hc hbd) (sl_lt hc hbd) (Nat.le_of_ble_eq_true rfl) ⟨Nat.zero_le _, Nat.zero_le _⟩ ⟨Nat.le_of_ble_eq_true rfl, Nat.le_of_ble_eq_true rfl⟩ d_Hop_hopNearer_57 (fun H locs hP hD hS => ?_)
            refine lv_aload_n hx hb d_Hop_hopNearer_60 rfl (lv_at hl 4 rfl) ?_
            refine hg_taken X hK hP d_Hop_hopNearer_61 ?_
            refine lv_iload hx hb d_Hop_hopNearer_64 (lv_at hl 0 rfl) ?_
            refine lv_iconst (v := 0) hx hb d_Hop_hopNearer_66 (by decide) ?_
            refine hs_T X hK hP hD hS (i := B j + ((f + P j - (d + 1)) % P j + i) % P j) (x := false) (sl_lt hc hbd) d_Hop_hopNearer_67 (fun H locs hP hD hS => ?_)
            refine lv_aload_n hx hb d_Hop_hopNearer_68 rfl (lv_at hl 4 rfl) ?_
            refine hg_counts X hK hP d_Hop_hopNearer_69 ?_
            refine lv_iconst (v := 0) hx hb d_Hop_hopNearer_72 (by decide) ?_
            refine lv_dup2_11 hx hb d_Hop_hopNearer_73 rfl rfl ?_
            refine hl_C X hK hP (i := 0) (by decide) d_Hop_hopNearer_74 ?_
            refine lv_iconst (v := 1) hx hb d_Hop_hopNearer_75 (by decide) ?_
            refine lv_iadd hx hb d_Hop_hopNearer_76 ?_
            refine hs_C X hK hP hD hS (i := 0) (x := (C (0)) + (1)) (by decide) d_Hop_hopNearer_77 (fun H locs hP hD hS => ?_)
            refine lv_iload_n hx hb d_Hop_hopNearer_78 rfl (lv_at hl 3 rfl) ?_
            refine lv_iload hx hb d_Hop_hopNearer_79 (lv_at hl 1 rfl) ?_
            refine lv_isub hx hb d_Hop_hopNearer_81 ?_
            refine lv_tope (y := nI (d + 1 - i)) (pk_sub (by omega)) ?_
            exact W.iret (v := nI (d + 1 - i)) hx hb hr (fun t ht hW => ⟨by rw [hr1]; rfl, by rw [ht, hr1]; exact hP, hS.F ht⟩) hS.2.2 d_Hop_hopNearer_82
      refine lv_iload_n hx hb d_Hop_hopNearer_3 rfl (lv_at hl 0 rfl) ?_
      refine lv_iconst (v := 1) hx hb d_Hop_hopNearer_4 (by decide) ?_
      refine lvF_icmp_lt (tgt := 95) hx hb d_Hop_hopNearer_5 (by decide) (by show ¬ nI (d + 1) < nI 1; exact nI_nlt (by omega) (by omega)) ?_
      refine lv_aload_n hx hb d_Hop_hopNearer_8 rfl (lv_at hl 2 rfl) ?_
      refine lv_iload_n hx hb d_Hop_hopNearer_9 rfl (lv_at hl 3 rfl) ?_
      refine lv_iload_n hx hb d_Hop_hopNearer_10 rfl (lv_at hl 0 rfl) ?_
      refine lv_isub hx hb d_Hop_hopNearer_11 ?_
      refine lv_tope (y := nI (f - (d + 1))) (pk_sub (by omega)) ?_
      refine k_around X hK hP hl.1 (x := f - (d + 1)) hc (by omega) hj (Nat.le_of_ble_eq_true rfl) ⟨Nat.zero_le _, Nat.zero_le _⟩ ⟨Nat.le_of_ble_eq_true rfl, Nat.le_of_ble_eq_true rfl⟩ d_Hop_hopNearer_12 ?_
      refine lv_tope (y := nI ((f + P j - (d + 1)) % P j)) (by rw [sub_md (by omega)]) ?_
      refine lv_istore (lv' := [(4, .int (nI ((f + P j - (d + 1)) % P j))), (3, .int (nI (d + 1))), (0, .ref (a 0)), (1, .ref (q j)), (2, .int (nI f))]) hx hb d_Hop_hopNearer_15 hl (by decide) rfl (fun ls hl => ?_)
      refine lv_iconst (v := 0) hx hb d_Hop_hopNearer_17 (by decide) ?_
      refine lv_istore (lv' := [(5, .int 0), (4, .int (nI ((f + P j - (d + 1)) % P j))), (3, .int (nI (d + 1))), (0, .ref (a 0)), (1, .ref (q j)), (2, .int (nI f))]) hx hb d_Hop_hopNearer_18 hl (by decide) rfl (fun ls hl => ?_)
      exact inner (d + 1) 0 ls (by omega) rfl hl
  refine lv_bipush (v := 7) hx hb d_Hop_hopNearer_0 (by decide) ?_
  refine lv_istore_n (lv' := [(3, .int 7), (0, .ref (a 0)), (1, .ref (q j)), (2, .int (nI f))]) hx hb d_Hop_hopNearer_2 rfl hl (by decide) rfl (fun ls hl => ?_)
  exact loop 7 ls (by omega) rfl hl
section HKB
variable {p : Program} {l : Launch} {e : Env} {R : Room} {s : State} {m : MethodId} {args : Array Value} {below : List Frame} {meth : Method} {c : Code} {H : Heap} {locs : List Loc} {cells slots : Nat} {Q : State → Prop}
variable {cc : ByteArray} {pc nL : Nat} {ls : Array Slot} {rest st0 : List Value} {D : va_G} {A : Nat → Prop} {H0 : Heap} {ca a q : Nat → Nat} {K V : IT} {T : BT} {C : IT} {B P : Nat → Nat} {S : IT}
theorem k_hopNearer (X : CallFix p m c cc nL s args wsA R_Hop) (hK : va_K D hCl (tyH ca) s) (hP : va_P D hCl (wH ca a q K V T C B P S) H) (hD : va_D A (wH ca a q K V T C B P S)) (hS : va_S A H0 H locs) (hsz : ls.size = nL) {j f : Nat} (hj : j < 4) (hc : pw (P j)) (hbd : B j + P j ≤ 256) (hf8 : 8 ≤ f) (hf9 : f < 32768) (hrm : (rest.map fun v => v.category).sum ≤ 8) (hf : cells ≤ R.cells ∧ slots ≤ R.slots) (hR : 3 ≤ R.frames ∧ 90 ≤ R.locals) (d : decode cc pc = .ok (.invokevirtual 129, 3)) (k : ∀ (H1 : Heap) (locs1 : List Loc), va_P D hCl (wH ca a q (hopX (B j) (P j) f (hpD T K (B j) (P j) (S j) f 7) (K, V, T, C)).1 (hopX (B j) (P j) f (hpD T K (B j) (P j) (S j) f 7) (K, V, T, C)).2.1 (hopX (B j) (P j) f (hpD T K (B j) (P j) (S j) f 7) (K, V, T, C)).2.2.1 (hopX (B j) (P j) f (hpD T K (B j) (P j) (S j) f 7) (K, V, T, C)).2.2.2 B P S) H1 → va_D A (wH ca a q (hopX (B j) (P j) f (hpD T K (B j) (P j) (S j) f 7) (K, V, T, C)).1 (hopX (B j) (P j) f (hpD T K (B j) (P j) (S j) f 7) (K, V, T, C)).2.1 (hopX (B j) (P j) f (hpD T K (B j) (P j) (S j) f 7) (K, V, T, C)).2.2.1 (hopX (B j) (P j) f (hpD T K (B j) (P j) (S j) f 7) (K, V, T, C)).2.2.2 B P S) → va_S A H0 H1 locs1 → W p l e R s m args below meth c H1 locs1 cells slots Q (F0 m (pc + 3) ls (.int (hopV (hpD T K (B j) (P j) (S j) f 7)) :: rest))) : W p l e R s m args below meth c H locs cells slots Q (F0 m pc ls (.int (nI f) :: .ref (q j) :: .ref (a 0) :: rest)) :=
  hw_V (As := [.ref (q j), .int (nI f)]) (v := some (.int (hopV (hpD T K (B j) (P j) (S j) f 7)))) (C := R_Hop) X (c_Hop_hopNearer l D ca a q K V T C B P S j hj f hc hbd hf8 hf9) (cwV 2 X.2.2.2.2 g_Hop_hopNearer rfl rfl rfl (by decide +kernel) ⟨by show 2 + 1 ≤ _; omega, by show 8 + (7 + 11) + 30 * 2 ≤ _; omega⟩) hP hK hD hS wH_a (va_recv (q0 := 0) (ci := 0) (q := (R_Hop, F_Hop, 6)) hK hP rfl rfl) rfl hsz rfl hrm hf d k
end HKB
end
section
set_option maxHeartbeats 4000000 in
set_option maxRecDepth 100000 in
/-- insert -/
theorem c_Hop_insert (l : Launch) (D : va_G) (ca a q : Nat → Nat) (K V : IT) (T : BT) (C : IT) (B P : Nat → Nat) (S : IT) (j : Nat) (hj : j < 4) (key val : Int32) (hc : pw (P j)) (hbd : B j + P j ≤ 256) : Met l y_Hop_insert w_Hop_insert (rmD 3 0 0) (va_Pc [.ref (a 0), .ref (q j), .int key, .int val] (hb_W D hCl (wH ca a q K V T C B P S) (tyH ca))) (hq_W (some (.int (bI (ins (B j) (P j) (S j) key val (K, V, T, C)).1))) D hCl (wH ca a q (ins (B j) (P j) (S j) key val (K, V, T, C)).2.1 (ins (B j) (P j) (S j) key val (K, V, T, C)).2.2.1 (ins (B j) (P j) (S j) key val (K, V, T, C)).2.2.2.1 (ins (B j) (P j) (S j) key val (K, V, T, C)).2.2.2.2 B P S) (hA (wH ca a q K V T C B P S))) 0 0 (hA (wH ca a q K V T C B P S)) := by
  refine Met.ofW (cc := b_Hop_insert) (maxL := 8) (ret := some .boolean) (by decide) rfl ?_
  intro p e s m args below meth c0 s₁ B0 hml hv
  obtain ⟨rfl, hP, hK, hD0⟩ := hv
  have hx := B0.exec
  have hb := B0.bytes
  have hr := B0.returns
  have hts := atoms_spec (ws := w_Hop_insert) B0.pre
  have hown : s.vm.findClass R_Hop = some m.cls := findClass_of_methodNamed B0.named
  have hlocks := B0.notSynchronized
  have hwA : ∀ w ∈ wsA, w.before ([.ref (a 0), .ref (q j), .int key, .int val] : List Value).toArray s = true := fun w h => hts w (List.mem_cons_of_mem _ h)
  have X : CallFix p m c0 b_Hop_insert 8 s ([.ref (a 0), .ref (q j), .int key, .int val] : List Value).toArray wsA R_Hop := ⟨hx, hb, hml, hown, hwA⟩
  have hD := hA_D hD0
  have hS : va_S (hA (wH ca a q K V T C B P S)) s.heap s.heap [] := va_S.rf
  have hl := lv_entry ([.ref (a 0), .ref (q j), .int key, .int val]) (n := 8) (Nat.le_of_ble_eq_true rfl)
  rw [lg_entry_eq]
  generalize (lg_sl ([.ref (a 0), .ref (q j), .int key, .int val]) ++ List.replicate (8 - (lg_sl ([.ref (a 0), .ref (q j), .int key, .int val])).length) Slot.unset).toArray = ls at hl ⊢
  have hl : lv_has ls 8 [(0, .ref (a 0)), (1, .ref (q j)), (2, .int key), (3, .int val)] := hl
  have hP8 := pw_le hc
  have hP0 := pw_pos hc
  have hh := hom_lt (key := key) (s := S j) hc
  have loop : ∀ (n i b : Nat) (ls : Array Slot) (H : Heap) (locs : List Loc) (K' V' : IT) (T' : BT) (C' : IT), i + n = P j → b < P j → inL (B j) (P j) (S j) (hom key (S j) (P j)) key val n b (K', V', T', C') = (ins (B j) (P j) (S j) key val (K, V, T, C)) → va_P D hCl (wH ca a q K' V' T' C' B P S) H → va_D (hA (wH ca a q K V T C B P S)) (wH ca a q K' V' T' C' B P S) → va_S (hA (wH ca a q K V T C B P S)) s.heap H locs → lv_has ls 8 [(6, .int (nI i)), (5, .int (nI b)), (4, .int (nI (hom key (S j) (P j)))), (0, .ref (a 0)), (1, .ref (q j)), (2, .int key), (3, .int val)] → W p l e (headSpec w_Hop_insert (rmD 3 0 0)).room s m ([.ref (a 0), .ref (q j), .int key, .int val] : List Value).toArray below meth c0 H locs 0 0 (MQ below (hq_W (some (.int (bI (ins (B j) (P j) (S j) key val (K, V, T, C)).1))) D hCl (wH ca a q (ins (B j) (P j) (S j) key val (K, V, T, C)).2.1 (ins (B j) (P j) (S j) key val (K, V, T, C)).2.2.1 (ins (B j) (P j) (S j) key val (K, V, T, C)).2.2.2.1 (ins (B j) (P j) (S j) key val (K, V, T, C)).2.2.2.2 B P S) (hA (wH ca a q K V T C B P S))) ([.ref (a 0), .ref (q j), .int key, .int val] : List Value).toArray s 0 0 (hA (wH ca a q K V T C B P S))) (F0 m 27 ls []) := by
    intro n
    induction n with
    | zero =>
      intro i b ls H locs K' V' T' C' hi hbl hR hP hD hS hl
      refine lv_iload hx hb d_Hop_insert_27 (lv_at hl 0 rfl) ?_
      refine lv_aload_n hx hb d_Hop_insert_29 rfl (lv_at hl 4 rfl) ?_
      refine hg_capacity X hK hP hj d_Hop_insert_30 ?_
      refine lvT_icmp_ge (tgt := 75) hx hb d_Hop_insert_33 (by decide) (nI_le (a := P j) (b := i) (by omega) (by omega)) ?_
      refine lv_aload_n hx hb d_Hop_insert_75 rfl (lv_at hl 4 rfl) ?_
      refine lv_iload hx hb d_Hop_insert_76 (lv_at hl 2 rfl) ?_
      refine lv_iload hx hb d_Hop_insert_78 (lv_at hl 1 rfl) ?_
      refine lv_iadd hx hb d_Hop_insert_80 ?_
      refine lv_tope (y := nI (hom key (S j) (P j) + b)) (nI_add _ _) ?_
      refine k_slotOf X hK hP hl.1 (x := hom key (S j) (P j) + b) hc (by omega) hj (Nat.le_of_ble_eq_true rfl) ⟨Nat.zero_le _, Nat.zero_le _⟩ ⟨Nat.le_of_ble_eq_true rfl, Nat.le_of_ble_eq_true rfl⟩ d_Hop_insert_81 ?_
      refine lv_istore (lv' := [(6, .int (nI (B j + (hom key (S j) (P j) + b) % P j))), (5, .int (nI b)), (4, .int (nI (hom key (S j) (P j)))), (0, .ref (a 0)), (1, .ref (q j)), (2, .int key), (3, .int val)]) hx hb d_Hop_insert_84 hl (by decide) rfl (fun ls hl => ?_)
      refine lv_aload_n hx hb d_Hop_insert_86 rfl (lv_at hl 3 rfl) ?_
      refine hg_keys X hK hP d_Hop_insert_87 ?_
      refine lv_iload hx hb d_Hop_insert_90 (lv_at hl 0 rfl) ?_
      refine lv_iload_n hx hb d_Hop_insert_92 rfl (lv_at hl 5 rfl) ?_
      refine hs_K X hK hP hD hS (i := B j + (hom key (S j) (P j) + b) % P j) (x := key) (sl_lt hc hbd) d_Hop_insert_93 (fun H locs hP hD hS => ?_)
      refine lv_aload_n hx hb d_Hop_insert_94 rfl (lv_at hl 3 rfl) ?_
      refine hg_values X hK hP d_Hop_insert_95 ?_
      refine lv_iload hx hb d_Hop_insert_98 (lv_at hl 0 rfl) ?_
      refine lv_iload_n hx hb d_Hop_insert_100 rfl (lv_at hl 6 rfl) ?_
      refine hs_V X hK hP hD hS (i := B j + (hom key (S j) (P j) + b) % P j) (x := val) (sl_lt hc hbd) d_Hop_insert_101 (fun H locs hP hD hS => ?_)
      refine lv_aload_n hx hb d_Hop_insert_102 rfl (lv_at hl 3 rfl) ?_
      refine hg_taken X hK hP d_Hop_insert_103 ?_
      refine lv_iload hx hb d_Hop_insert_106 (lv_at hl 0 rfl) ?_
      refine lv_iconst (v := 1) hx hb d_Hop_insert_108 (by decide) ?_
      refine hs_T X hK hP hD hS (i := B j + (hom key (S j) (P j) + b) % P j) (x := true) (sl_lt hc hbd) d_Hop_insert_109 (fun H locs hP hD hS => ?_)
      refine lv_iconst (v := 1) hx hb d_Hop_insert_110 (by decide) ?_
      have hR1 : (ins (B j) (P j) (S j) key val (K, V, T, C)) = (true, upd K' (B j + (hom key (S j) (P j) + b) % P j) key, upd V' (B j + (hom key (S j) (P j) + b) % P j) val, va_up T' (B j + (hom key (S j) (P j) + b) % P j) true, C') := hR.symm
      exact W.zret (v := 1) hx hb hr rfl (fun t ht hW => ⟨by rw [hR1]; rfl, by rw [ht, hR1]; exact hP, hS.F ht⟩) hS.2.2 d_Hop_insert_111
    | succ n ih =>
      intro i b ls H locs K' V' T' C' hi hbl hR hP hD hS hl
      refine lv_iload hx hb d_Hop_insert_27 (lv_at hl 0 rfl) ?_
      refine lv_aload_n hx hb d_Hop_insert_29 rfl (lv_at hl 4 rfl) ?_
      refine hg_capacity X hK hP hj d_Hop_insert_30 ?_
      refine lvF_icmp_ge (tgt := 75) hx hb d_Hop_insert_33 (by decide) (nI_ge (a := i) (b := P j) (by omega) (by omega)) ?_
      refine lv_iload hx hb d_Hop_insert_36 (lv_at hl 1 rfl) ?_
      refine lv_bipush (v := 8) hx hb d_Hop_insert_38 (by decide) ?_
      refine lv_icmp_lt (tgt := 75) hx hb d_Hop_insert_40 (by decide) (fun h1 => ?_) (fun h1 => ?_)
      · have hb8 : b < 8 := (nI_ltI (a := b) (b := 8) (by omega) (by omega)).mp h1
        refine lv_aload_n hx hb d_Hop_insert_75 rfl (lv_at hl 4 rfl) ?_
        refine lv_iload hx hb d_Hop_insert_76 (lv_at hl 2 rfl) ?_
        refine lv_iload hx hb d_Hop_insert_78 (lv_at hl 1 rfl) ?_
        refine lv_iadd hx hb d_Hop_insert_80 ?_
        refine lv_tope (y := nI (hom key (S j) (P j) + b)) (nI_add _ _) ?_
        refine k_slotOf X hK hP hl.1 (x := hom key (S j) (P j) + b) hc (by omega) hj (Nat.le_of_ble_eq_true rfl) ⟨Nat.zero_le _, Nat.zero_le _⟩ ⟨Nat.le_of_ble_eq_true rfl, Nat.le_of_ble_eq_true rfl⟩ d_Hop_insert_81 ?_
        refine lv_istore (lv' := [(6, .int (nI (B j + (hom key (S j) (P j) + b) % P j))), (5, .int (nI b)), (4, .int (nI (hom key (S j) (P j)))), (0, .ref (a 0)), (1, .ref (q j)), (2, .int key), (3, .int val)]) hx hb d_Hop_insert_84 hl (by decide) rfl (fun ls hl => ?_)
        refine lv_aload_n hx hb d_Hop_insert_86 rfl (lv_at hl 3 rfl) ?_
        refine hg_keys X hK hP d_Hop_insert_87 ?_
        refine lv_iload hx hb d_Hop_insert_90 (lv_at hl 0 rfl) ?_
        refine lv_iload_n hx hb d_Hop_insert_92 rfl (lv_at hl 5 rfl) ?_
        refine hs_K X hK hP hD hS (i := B j + (hom key (S j) (P j) + b) % P j) (x := key) (sl_lt hc hbd) d_Hop_insert_93 (fun H locs hP hD hS => ?_)
        refine lv_aload_n hx hb d_Hop_insert_94 rfl (lv_at hl 3 rfl) ?_
        refine hg_values X hK hP d_Hop_insert_95 ?_
        refine lv_iload hx hb d_Hop_insert_98 (lv_at hl 0 rfl) ?_
        refine lv_iload_n hx hb d_Hop_insert_100 rfl (lv_at hl 6 rfl) ?_
        refine hs_V X hK hP hD hS (i := B j + (hom key (S j) (P j) + b) % P j) (x := val) (sl_lt hc hbd) d_Hop_insert_101 (fun H locs hP hD hS => ?_)
        refine lv_aload_n hx hb d_Hop_insert_102 rfl (lv_at hl 3 rfl) ?_
        refine hg_taken X hK hP d_Hop_insert_103 ?_
        refine lv_iload hx hb d_Hop_insert_106 (lv_at hl 0 rfl) ?_
        refine lv_iconst (v := 1) hx hb d_Hop_insert_108 (by decide) ?_
        refine hs_T X hK hP hD hS (i := B j + (hom key (S j) (P j) + b) % P j) (x := true) (sl_lt hc hbd) d_Hop_insert_109 (fun H locs hP hD hS => ?_)
        refine lv_iconst (v := 1) hx hb d_Hop_insert_110 (by decide) ?_
        have hR1 : (ins (B j) (P j) (S j) key val (K, V, T, C)) = (true, upd K' (B j + (hom key (S j) (P j) + b) % P j) key, upd V' (B j + (hom key (S j) (P j) + b) % P j) val, va_up T' (B j + (hom key (S j) (P j) + b) % P j) true, C') := hR.symm.trans (inL_p hb8)
        exact W.zret (v := 1) hx hb hr rfl (fun t ht hW => ⟨by rw [hR1]; rfl, by rw [ht, hR1]; exact hP, hS.F ht⟩) hS.2.2 d_Hop_insert_111
      · have hb8 : ¬ b < 8 := fun z => h1 ((nI_ltI (a := b) (b := 8) (by omega) (by omega)).mpr z)
        refine lv_aload_n hx hb d_Hop_insert_43 rfl (lv_at hl 3 rfl) ?_
        refine lv_aload_n hx hb d_Hop_insert_44 rfl (lv_at hl 4 rfl) ?_
        refine lv_iload hx hb d_Hop_insert_45 (lv_at hl 2 rfl) ?_
        refine lv_iload hx hb d_Hop_insert_47 (lv_at hl 1 rfl) ?_
        refine lv_iadd hx hb d_Hop_insert_49 ?_
        refine lv_tope (y := nI (hom key (S j) (P j) + b)) (nI_add _ _) ?_
        refine k_hopNearer X hK hP hD hS hl.1 (f := hom key (S j) (P j) + b) hj hc hbd (by omega) (by omega) (Nat.le_of_ble_eq_true rfl) ⟨Nat.zero_le _, Nat.zero_le _⟩ ⟨Nat.le_of_ble_eq_true rfl, Nat.le_of_ble_eq_true rfl⟩ d_Hop_insert_50 (fun H locs hP hD hS => ?_)
        cases hq : hpD T' K' (B j) (P j) (S j) (hom key (S j) (P j) + b) 7 with
        | none =>
          rw [hq] at hP hD
          refine lv_tope (y := 0) rfl ?_
          refine lv_istore (lv' := [(7, .int 0), (6, .int (nI i)), (5, .int (nI b)), (4, .int (nI (hom key (S j) (P j)))), (0, .ref (a 0)), (1, .ref (q j)), (2, .int key), (3, .int val)]) hx hb d_Hop_insert_53 hl (by decide) rfl (fun ls hl => ?_)
          refine lv_iload hx hb d_Hop_insert_55 (lv_at hl 0 rfl) ?_
          refine lvF_if_ne (tgt := 62) hx hb d_Hop_insert_57 (by decide) (by decide) ?_
          refine lv_iconst (v := 0) hx hb d_Hop_insert_60 (by decide) ?_
          have hR1 : (ins (B j) (P j) (S j) key val (K, V, T, C)) = (false, K', V', T', C') := hR.symm.trans (inL_n (X := (K', V', T', C')) hb8 hq)
          exact W.zret (v := 0) hx hb hr rfl (fun t ht hW => ⟨by rw [hR1]; rfl, by rw [ht, hR1]; exact hP, hS.F ht⟩) hS.2.2 d_Hop_insert_61
        | some x =>
          obtain ⟨d, i1⟩ := x
          rw [hq] at hP hD
          have hdi := hpD_lt _ _ _ hq
          refine lv_tope (y := nI (d - i1)) rfl ?_
          refine lv_istore (lv' := [(7, .int (nI (d - i1))), (6, .int (nI i)), (5, .int (nI b)), (4, .int (nI (hom key (S j) (P j)))), (0, .ref (a 0)), (1, .ref (q j)), (2, .int key), (3, .int val)]) hx hb d_Hop_insert_53 hl (by decide) rfl (fun ls hl => ?_)
          refine lv_iload hx hb d_Hop_insert_55 (lv_at hl 0 rfl) ?_
          refine lvT_if_ne (tgt := 62) hx hb d_Hop_insert_57 (by decide) (nI_ne0 (by omega) (by omega)) ?_
          refine lv_iload hx hb d_Hop_insert_62 (lv_at hl 2 rfl) ?_
          refine lv_iload hx hb d_Hop_insert_64 (lv_at hl 0 rfl) ?_
          refine lv_isub hx hb d_Hop_insert_66 ?_
          refine lv_tope (y := nI (b - (d - i1))) (pk_sub (by omega)) ?_
          refine lv_istore (lv' := [(5, .int (nI (b - (d - i1)))), (7, .int (nI (d - i1))), (6, .int (nI i)), (4, .int (nI (hom key (S j) (P j)))), (0, .ref (a 0)), (1, .ref (q j)), (2, .int key), (3, .int val)]) hx hb d_Hop_insert_67 hl (by decide) rfl (fun ls hl => ?_)
          refine lv_iinc (k := 2) (v := nI (i + 1)) (lv' := [(6, .int (nI (i + 1))), (5, .int (nI (b - (d - i1)))), (7, .int (nI (d - i1))), (4, .int (nI (hom key (S j) (P j)))), (0, .ref (a 0)), (1, .ref (q j)), (2, .int key), (3, .int val)]) hx hb d_Hop_insert_69 hl rfl (inc1 i) (by decide) rfl (fun ls hl => ?_)
          refine lv_goto (tgt := 27) hx hb d_Hop_insert_72 (by decide) ?_
          exact ih (i + 1) (b - (d - i1)) ls H locs _ _ _ _ (by omega) (by omega) ((inL_s (X := (K', V', T', C')) hb8 hq).symm.trans hR) hP hD hS (lv_sub hl [0, 1, 3, 4, 5, 6, 7] rfl)
  refine lv_aload_n hx hb d_Hop_insert_0 rfl (lv_at hl 1 rfl) ?_
  refine lv_iload_n hx hb d_Hop_insert_1 rfl (lv_at hl 2 rfl) ?_
  refine k_homeOf X hK hP hl.1 hc hj (Nat.le_of_ble_eq_true rfl) ⟨Nat.zero_le _, Nat.zero_le _⟩ ⟨Nat.le_of_ble_eq_true rfl, Nat.le_of_ble_eq_true rfl⟩ d_Hop_insert_2 ?_
  refine lv_istore (lv' := [(4, .int (nI (hom (key) (S j) (P j)))), (0, .ref (a 0)), (1, .ref (q j)), (2, .int key), (3, .int val)]) hx hb d_Hop_insert_5 hl (by decide) rfl (fun ls hl => ?_)
  refine lv_aload_n hx hb d_Hop_insert_7 rfl (lv_at hl 1 rfl) ?_
  refine lv_aload_n hx hb d_Hop_insert_8 rfl (lv_at hl 2 rfl) ?_
  refine lv_iload hx hb d_Hop_insert_9 (lv_at hl 0 rfl) ?_
  refine k_stepsToFree X hK hP hl.1 (h := hom (key) (S j) (P j)) hj hc hbd (by omega) (Nat.le_of_ble_eq_true rfl) ⟨Nat.zero_le _, Nat.zero_le _⟩ ⟨Nat.le_of_ble_eq_true rfl, Nat.le_of_ble_eq_true rfl⟩ d_Hop_insert_11 ?_
  cases hst : stp T (B j) (P j) (hom key (S j) (P j)) 0 (P j) with
  | none =>
    refine lv_tope (y := -1) rfl ?_
    refine lv_istore (lv' := [(5, .int (-1)), (4, .int (nI (hom (key) (S j) (P j)))), (0, .ref (a 0)), (1, .ref (q j)), (2, .int key), (3, .int val)]) hx hb d_Hop_insert_14 hl (by decide) rfl (fun ls hl => ?_)
    refine lv_iload hx hb d_Hop_insert_16 (lv_at hl 0 rfl) ?_
    refine lv_iconst (v := -1) hx hb d_Hop_insert_18 (by decide) ?_
    refine lvF_icmp_ne (tgt := 24) hx hb d_Hop_insert_19 (by decide) (by decide) ?_
    refine lv_iconst (v := 0) hx hb d_Hop_insert_22 (by decide) ?_
    have hR1 : (ins (B j) (P j) (S j) key val (K, V, T, C)) = (false, K, V, T, C) := ins_n (X := (K, V, T, C)) hst
    exact W.zret (v := 0) hx hb hr rfl (fun t ht hW => ⟨by rw [hR1]; rfl, by rw [ht, hR1]; exact hP, hS.F ht⟩) hS.2.2 d_Hop_insert_23
  | some b1 =>
    have hb1 := stp_lt _ _ _ hst
    refine lv_tope (y := nI b1) rfl ?_
    refine lv_istore (lv' := [(5, .int (nI b1)), (4, .int (nI (hom (key) (S j) (P j)))), (0, .ref (a 0)), (1, .ref (q j)), (2, .int key), (3, .int val)]) hx hb d_Hop_insert_14 hl (by decide) rfl (fun ls hl => ?_)
    refine lv_iload hx hb d_Hop_insert_16 (lv_at hl 0 rfl) ?_
    refine lv_iconst (v := -1) hx hb d_Hop_insert_18 (by decide) ?_
    refine lvT_icmp_ne (tgt := 24) hx hb d_Hop_insert_19 (by decide) (nI_m1 (by omega)) ?_
    refine lv_iconst (v := 0) hx hb d_Hop_insert_24 (by decide) ?_
    refine lv_istore (lv' := [(6, .int 0), (5, .int (nI b1)), (4, .int (nI (hom (key) (S j) (P j)))), (0, .ref (a 0)), (1, .ref (q j)), (2, .int key), (3, .int val)]) hx hb d_Hop_insert_25 hl (by decide) rfl (fun ls hl => ?_)
    exact loop (P j) 0 b1 ls s.heap [] K V T C (by omega) (by omega) (ins_s (X := (K, V, T, C)) hst).symm hP hD hS hl
section HKB
variable {p : Program} {l : Launch} {e : Env} {R : Room} {s : State} {m : MethodId} {args : Array Value} {below : List Frame} {meth : Method} {c : Code} {H : Heap} {locs : List Loc} {cells slots : Nat} {Q : State → Prop}
variable {cc : ByteArray} {pc nL : Nat} {ls : Array Slot} {rest st0 : List Value} {D : va_G} {A : Nat → Prop} {H0 : Heap} {ca a q : Nat → Nat} {K V : IT} {T : BT} {C : IT} {B P : Nat → Nat} {S : IT}
theorem k_insert (X : CallFix p m c cc nL s args wsA R_Hop) (hK : va_K D hCl (tyH ca) s) (hP : va_P D hCl (wH ca a q K V T C B P S) H) (hD : va_D A (wH ca a q K V T C B P S)) (hS : va_S A H0 H locs) (hsz : ls.size = nL) {j : Nat} {key val : Int32} (hj : j < 4) (hc : pw (P j)) (hbd : B j + P j ≤ 256) (hrm : (rest.map fun v => v.category).sum ≤ 8) (hf : cells ≤ R.cells ∧ slots ≤ R.slots) (hR : 4 ≤ R.frames ∧ 120 ≤ R.locals) (d : decode cc pc = .ok (.invokevirtual 44, 3)) (k : ∀ (H1 : Heap) (locs1 : List Loc), va_P D hCl (wH ca a q (ins (B j) (P j) (S j) key val (K, V, T, C)).2.1 (ins (B j) (P j) (S j) key val (K, V, T, C)).2.2.1 (ins (B j) (P j) (S j) key val (K, V, T, C)).2.2.2.1 (ins (B j) (P j) (S j) key val (K, V, T, C)).2.2.2.2 B P S) H1 → va_D A (wH ca a q (ins (B j) (P j) (S j) key val (K, V, T, C)).2.1 (ins (B j) (P j) (S j) key val (K, V, T, C)).2.2.1 (ins (B j) (P j) (S j) key val (K, V, T, C)).2.2.2.1 (ins (B j) (P j) (S j) key val (K, V, T, C)).2.2.2.2 B P S) → va_S A H0 H1 locs1 → W p l e R s m args below meth c H1 locs1 cells slots Q (F0 m (pc + 3) ls (.int (bI (ins (B j) (P j) (S j) key val (K, V, T, C)).1) :: rest))) : W p l e R s m args below meth c H locs cells slots Q (F0 m pc ls (.int val :: .int key :: .ref (q j) :: .ref (a 0) :: rest)) :=
  hw_V (As := [.ref (q j), .int key, .int val]) (v := some (.int (bI (ins (B j) (P j) (S j) key val (K, V, T, C)).1))) (C := R_Hop) X (c_Hop_insert l D ca a q K V T C B P S j hj key val hc hbd) (cwV 3 X.2.2.2.2 g_Hop_insert rfl rfl rfl (by decide +kernel) ⟨by show 3 + 1 ≤ _; omega, by show 8 + (8 + 11) + 30 * 3 ≤ _; omega⟩) hP hK hD hS wH_a (va_recv (q0 := 0) (ci := 0) (q := (R_Hop, F_Hop, 6)) hK hP rfl rfl) rfl hsz rfl hrm hf d k
end HKB
end
section
set_option maxHeartbeats 4000000 in
set_option maxRecDepth 100000 in
/-- insertAnew -/
theorem c_Hop_insertAnew (l : Launch) (D : va_G) (ca a q : Nat → Nat) (K V : IT) (T : BT) (C : IT) (B P : Nat → Nat) (S : IT) (j k : Nat) (hj : j < 4) (hk : k < 4) (hbj : B j + P j ≤ 256) (hck : pw (P k)) (hbk : B k + P k ≤ 256) : Met l y_Hop_insertAnew w_Hop_insertAnew (rmD 4 0 0) (va_Pc [.ref (a 0), .ref (q j), .ref (q k)] (hb_W D hCl (wH ca a q K V T C B P S) (tyH ca))) (hq_W (some (.int (bI (anw (B k) (P k) (S k) (B j) (P j) (K, V, T, C)).1))) D hCl (wH ca a q (anw (B k) (P k) (S k) (B j) (P j) (K, V, T, C)).2.1 (anw (B k) (P k) (S k) (B j) (P j) (K, V, T, C)).2.2.1 (anw (B k) (P k) (S k) (B j) (P j) (K, V, T, C)).2.2.2.1 (anw (B k) (P k) (S k) (B j) (P j) (K, V, T, C)).2.2.2.2 B P S) (hA (wH ca a q K V T C B P S))) 0 0 (hA (wH ca a q K V T C B P S)) := by
  refine Met.ofW (cc := b_Hop_insertAnew) (maxL := 4) (ret := some .boolean) (by decide) rfl ?_
  intro p e s m args below meth c0 s₁ B0 hml hv
  obtain ⟨rfl, hP, hK, hD0⟩ := hv
  have hx := B0.exec
  have hb := B0.bytes
  have hr := B0.returns
  have hts := atoms_spec (ws := w_Hop_insertAnew) B0.pre
  have hown : s.vm.findClass R_Hop = some m.cls := findClass_of_methodNamed B0.named
  have hlocks := B0.notSynchronized
  have hwA : ∀ w ∈ wsA, w.before ([.ref (a 0), .ref (q j), .ref (q k)] : List Value).toArray s = true := fun w h => hts w (List.mem_cons_of_mem _ h)
  have X : CallFix p m c0 b_Hop_insertAnew 4 s ([.ref (a 0), .ref (q j), .ref (q k)] : List Value).toArray wsA R_Hop := ⟨hx, hb, hml, hown, hwA⟩
  have hD := hA_D hD0
  have hS : va_S (hA (wH ca a q K V T C B P S)) s.heap s.heap [] := va_S.rf
  have hl := lv_entry ([.ref (a 0), .ref (q j), .ref (q k)]) (n := 4) (Nat.le_of_ble_eq_true rfl)
  rw [lg_entry_eq]
  generalize (lg_sl ([.ref (a 0), .ref (q j), .ref (q k)]) ++ List.replicate (4 - (lg_sl ([.ref (a 0), .ref (q j), .ref (q k)])).length) Slot.unset).toArray = ls at hl ⊢
  have hl : lv_has ls 4 [(0, .ref (a 0)), (1, .ref (q j)), (2, .ref (q k))] := hl
  have loop : ∀ (n i : Nat) (ls : Array Slot) (H : Heap) (locs : List Loc) (K' V' : IT) (T' : BT) (C' : IT), i + n = P j → anw (B k) (P k) (S k) (B j + i) n (K', V', T', C') = (anw (B k) (P k) (S k) (B j) (P j) (K, V, T, C)) → va_P D hCl (wH ca a q K' V' T' C' B P S) H → va_D (hA (wH ca a q K V T C B P S)) (wH ca a q K' V' T' C' B P S) → va_S (hA (wH ca a q K V T C B P S)) s.heap H locs → lv_has ls 4 [(3, .int (nI (B j + i))), (0, .ref (a 0)), (1, .ref (q j)), (2, .ref (q k))] → W p l e (headSpec w_Hop_insertAnew (rmD 4 0 0)).room s m ([.ref (a 0), .ref (q j), .ref (q k)] : List Value).toArray below meth c0 H locs 0 0 (MQ below (hq_W (some (.int (bI (anw (B k) (P k) (S k) (B j) (P j) (K, V, T, C)).1))) D hCl (wH ca a q (anw (B k) (P k) (S k) (B j) (P j) (K, V, T, C)).2.1 (anw (B k) (P k) (S k) (B j) (P j) (K, V, T, C)).2.2.1 (anw (B k) (P k) (S k) (B j) (P j) (K, V, T, C)).2.2.2.1 (anw (B k) (P k) (S k) (B j) (P j) (K, V, T, C)).2.2.2.2 B P S) (hA (wH ca a q K V T C B P S))) ([.ref (a 0), .ref (q j), .ref (q k)] : List Value).toArray s 0 0 (hA (wH ca a q K V T C B P S))) (F0 m 5 ls []) := by
    intro n
    induction n with
    | zero =>
      intro i ls H locs K' V' T' C' hi hR hP hD hS hl
      refine lv_iload_n hx hb d_Hop_insertAnew_5 rfl (lv_at hl 0 rfl) ?_
      refine lv_aload_n hx hb d_Hop_insertAnew_6 rfl (lv_at hl 2 rfl) ?_
      refine k_end X hK hP hl.1 hj (Nat.le_of_ble_eq_true rfl) ⟨Nat.zero_le _, Nat.zero_le _⟩ ⟨Nat.le_of_ble_eq_true rfl, Nat.le_of_ble_eq_true rfl⟩ d_Hop_insertAnew_7 ?_
      refine lvT_icmp_ge (tgt := 50) hx hb d_Hop_insertAnew_10 (by decide) (nI_le (a := B j + P j) (b := B j + i) (by omega) (by omega)) ?_
      refine lv_iconst (v := 1) hx hb d_Hop_insertAnew_50 (by decide) ?_
      have hR1 : (anw (B k) (P k) (S k) (B j) (P j) (K, V, T, C)) = (true, K', V', T', C') := hR.symm
      exact W.zret (v := 1) hx hb hr rfl (fun t ht hW => ⟨by rw [hR1]; rfl, by rw [ht, hR1]; exact hP, hS.F ht⟩) hS.2.2 d_Hop_insertAnew_51
    | succ n ih =>
      intro i ls H locs K' V' T' C' hi hR hP hD hS hl
      refine lv_iload_n hx hb d_Hop_insertAnew_5 rfl (lv_at hl 0 rfl) ?_
      refine lv_aload_n hx hb d_Hop_insertAnew_6 rfl (lv_at hl 2 rfl) ?_
      refine k_end X hK hP hl.1 hj (Nat.le_of_ble_eq_true rfl) ⟨Nat.zero_le _, Nat.zero_le _⟩ ⟨Nat.le_of_ble_eq_true rfl, Nat.le_of_ble_eq_true rfl⟩ d_Hop_insertAnew_7 ?_
      refine lvF_icmp_ge (tgt := 50) hx hb d_Hop_insertAnew_10 (by decide) (nI_ge (a := B j + i) (b := B j + P j) (by omega) (by omega)) ?_
      refine lv_aload_n hx hb d_Hop_insertAnew_13 rfl (lv_at hl 1 rfl) ?_
      refine hg_taken X hK hP d_Hop_insertAnew_14 ?_
      refine lv_iload_n hx hb d_Hop_insertAnew_17 rfl (lv_at hl 0 rfl) ?_
      refine hl_T X hK hP (i := B j + i) (by omega) d_Hop_insertAnew_18 ?_
      refine lv_if_eq (tgt := 44) hx hb d_Hop_insertAnew_19 (by decide) (fun h1 => ?_) (fun h1 => ?_)
      · refine lv_iinc (k := 0) (v := nI (B j + i + 1)) (lv' := [(3, .int (nI (B j + i + 1))), (0, .ref (a 0)), (1, .ref (q j)), (2, .ref (q k))]) hx hb d_Hop_insertAnew_44 hl rfl (inc1 (B j + i)) (by decide) rfl (fun ls hl => ?_)
        refine lv_goto (tgt := 5) hx hb d_Hop_insertAnew_47 (by decide) ?_
        exact ih (i + 1) ls H locs _ _ _ _ (by omega) ((anw_f (X := (K', V', T', C')) (bI_0.mp h1)).symm.trans hR) hP hD hS hl
      · refine lv_aload_n hx hb d_Hop_insertAnew_22 rfl (lv_at hl 1 rfl) ?_
        refine lv_aload_n hx hb d_Hop_insertAnew_23 rfl (lv_at hl 3 rfl) ?_
        refine lv_aload_n hx hb d_Hop_insertAnew_24 rfl (lv_at hl 1 rfl) ?_
        refine hg_keys X hK hP d_Hop_insertAnew_25 ?_
        refine lv_iload_n hx hb d_Hop_insertAnew_28 rfl (lv_at hl 0 rfl) ?_
        refine hl_K X hK hP (i := B j + i) (by omega) d_Hop_insertAnew_29 ?_
        refine lv_aload_n hx hb d_Hop_insertAnew_30 rfl (lv_at hl 1 rfl) ?_
        refine hg_values X hK hP d_Hop_insertAnew_31 ?_
        refine lv_iload_n hx hb d_Hop_insertAnew_34 rfl (lv_at hl 0 rfl) ?_
        refine hl_V X hK hP (i := B j + i) (by omega) d_Hop_insertAnew_35 ?_
        refine k_insert X hK hP hD hS hl.1 (key := K' (B j + i)) (val := V' (B j + i)) hk hck hbk (Nat.le_of_ble_eq_true rfl) ⟨Nat.zero_le _, Nat.zero_le _⟩ ⟨Nat.le_of_ble_eq_true rfl, Nat.le_of_ble_eq_true rfl⟩ d_Hop_insertAnew_36 (fun H locs hP hD hS => ?_)
        refine lv_if_ne (tgt := 44) hx hb d_Hop_insertAnew_39 (by decide) (fun h2 => ?_) (fun h2 => ?_)
        · refine lv_iinc (k := 0) (v := nI (B j + i + 1)) (lv' := [(3, .int (nI (B j + i + 1))), (0, .ref (a 0)), (1, .ref (q j)), (2, .ref (q k))]) hx hb d_Hop_insertAnew_44 hl rfl (inc1 (B j + i)) (by decide) rfl (fun ls hl => ?_)
          refine lv_goto (tgt := 5) hx hb d_Hop_insertAnew_47 (by decide) ?_
          exact ih (i + 1) ls H locs _ _ _ _ (by omega) ((anw_t (X := (K', V', T', C')) (bI_n0.mp h1) (bI_n0.mp h2)).symm.trans hR) hP hD hS hl
        · refine lv_iconst (v := 0) hx hb d_Hop_insertAnew_42 (by decide) ?_
          have hR1 : (anw (B k) (P k) (S k) (B j) (P j) (K, V, T, C)) = (false, (ins (B k) (P k) (S k) (K' (B j + i)) (V' (B j + i)) (K', V', T', C')).2) := hR.symm.trans (anw_n (X := (K', V', T', C')) (bI_n0.mp h1) (bI_0.mp (h2)))
          exact W.zret (v := 0) hx hb hr rfl (fun t ht hW => ⟨by rw [hR1]; rfl, by rw [ht, hR1]; exact hP, hS.F ht⟩) hS.2.2 d_Hop_insertAnew_43
  refine lv_aload_n hx hb d_Hop_insertAnew_0 rfl (lv_at hl 1 rfl) ?_
  refine hg_base X hK hP hj d_Hop_insertAnew_1 ?_
  refine lv_istore_n (lv' := [(3, .int (nI (B j))), (0, .ref (a 0)), (1, .ref (q j)), (2, .ref (q k))]) hx hb d_Hop_insertAnew_4 rfl hl (by decide) rfl (fun ls hl => ?_)
  exact loop (P j) 0 ls s.heap [] K V T C (by omega) rfl hP hD hS hl
section HKB
variable {p : Program} {l : Launch} {e : Env} {R : Room} {s : State} {m : MethodId} {args : Array Value} {below : List Frame} {meth : Method} {c : Code} {H : Heap} {locs : List Loc} {cells slots : Nat} {Q : State → Prop}
variable {cc : ByteArray} {pc nL : Nat} {ls : Array Slot} {rest st0 : List Value} {D : va_G} {A : Nat → Prop} {H0 : Heap} {ca a q : Nat → Nat} {K V : IT} {T : BT} {C : IT} {B P : Nat → Nat} {S : IT}
theorem k_sumOfCapacities (X : CallFix p m c cc nL s args wsA R_Hop) (hK : va_K D hCl (tyH ca) s) (hP : va_P D hCl (wH ca a q K V T C B P S) H) (hsz : ls.size = nL)  (hrm : (rest.map fun v => v.category).sum ≤ 8) (hf : cells ≤ R.cells ∧ slots ≤ R.slots) (hR : 1 ≤ R.frames ∧ 30 ≤ R.locals) (d : decode cc pc = .ok (.invokevirtual 136, 3)) (k : W p l e R s m args below meth c H locs cells slots Q (F0 m (pc + 3) ls (.int (nI (P 0 + P 1 + P 2)) :: rest))) : W p l e R s m args below meth c H locs cells slots Q (F0 m pc ls (.ref (a 0) :: rest)) :=
  hr_V (As := []) (v := some (.int (nI (P 0 + P 1 + P 2)))) (C := R_Hop) X (c_Hop_sumOfCapacities l D ca a q K V T C B P S ) (cwV 0 X.2.2.2.2 g_Hop_sumOfCapacities rfl rfl rfl (by decide +kernel) ⟨by show 0 + 1 ≤ _; omega, by show 8 + (3 + 11) + 30 * 0 ≤ _; omega⟩) hP hK (va_recv (q0 := 0) (ci := 0) (q := (R_Hop, F_Hop, 6)) hK hP rfl rfl) rfl hsz rfl hrm hf d k
theorem k_lastEnd (X : CallFix p m c cc nL s args wsA R_Hop) (hK : va_K D hCl (tyH ca) s) (hP : va_P D hCl (wH ca a q K V T C B P S) H) (hsz : ls.size = nL) (hb0 : B 0 + P 0 ≤ 256) (hb1 : B 1 + P 1 ≤ 256) (hb2 : B 2 + P 2 ≤ 256) (hrm : (rest.map fun v => v.category).sum ≤ 8) (hf : cells ≤ R.cells ∧ slots ≤ R.slots) (hR : 2 ≤ R.frames ∧ 60 ≤ R.locals) (d : decode cc pc = .ok (.invokevirtual 149, 3)) (k : W p l e R s m args below meth c H locs cells slots Q (F0 m (pc + 3) ls (.int (nI (lastE B P)) :: rest))) : W p l e R s m args below meth c H locs cells slots Q (F0 m pc ls (.ref (a 0) :: rest)) :=
  hr_V (As := []) (v := some (.int (nI (lastE B P)))) (C := R_Hop) X (c_Hop_lastEnd l D ca a q K V T C B P S hb0 hb1 hb2) (cwV 0 X.2.2.2.2 g_Hop_lastEnd rfl rfl rfl (by decide +kernel) ⟨by show 1 + 1 ≤ _; omega, by show 8 + (3 + 11) + 30 * 1 ≤ _; omega⟩) hP hK (va_recv (q0 := 0) (ci := 0) (q := (R_Hop, F_Hop, 6)) hK hP rfl rfl) rfl hsz rfl hrm hf d k
theorem k_lowestFrom (X : CallFix p m c cc nL s args wsA R_Hop) (hK : va_K D hCl (tyH ca) s) (hP : va_P D hCl (wH ca a q K V T C B P S) H) (hsz : ls.size = nL) {f : Nat} (hf9 : f < 65536) (hb0 : B 0 + P 0 ≤ 256) (hb1 : B 1 + P 1 ≤ 256) (hb2 : B 2 + P 2 ≤ 256) (hrm : (rest.map fun v => v.category).sum ≤ 8) (hf : cells ≤ R.cells ∧ slots ≤ R.slots) (hR : 1 ≤ R.frames ∧ 30 ≤ R.locals) (d : decode cc pc = .ok (.invokevirtual 161, 3)) (k : W p l e R s m args below meth c H locs cells slots Q (F0 m (pc + 3) ls (rQ q (lowS B f 3) :: rest))) : W p l e R s m args below meth c H locs cells slots Q (F0 m pc ls (.int (nI f) :: .ref (a 0) :: rest)) :=
  hr_V (As := [.int (nI f)]) (v := some (rQ q (lowS B f 3))) (C := R_Hop) X (c_Hop_lowestFrom l D ca a q K V T C B P S f hf9 hb0 hb1 hb2) (cwV 1 X.2.2.2.2 g_Hop_lowestFrom rfl rfl rfl (by decide +kernel) ⟨by show 0 + 1 ≤ _; omega, by show 8 + (5 + 11) + 30 * 0 ≤ _; omega⟩) hP hK (va_recv (q0 := 0) (ci := 0) (q := (R_Hop, F_Hop, 6)) hK hP rfl rfl) rfl hsz rfl hrm hf d k
theorem k_moveDown (X : CallFix p m c cc nL s args wsA R_Hop) (hK : va_K D hCl (tyH ca) s) (hP : va_P D hCl (wH ca a q K V T C B P S) H) (hD : va_D A (wH ca a q K V T C B P S)) (hS : va_S A H0 H locs) (hsz : ls.size = nL) {j f : Nat} (hj : j < 4) (hbd : B j + P j ≤ 256) (hf9 : f ≤ B j) (hrm : (rest.map fun v => v.category).sum ≤ 8) (hf : cells ≤ R.cells ∧ slots ≤ R.slots) (hR : 2 ≤ R.frames ∧ 60 ≤ R.locals) (d : decode cc pc = .ok (.invokevirtual 164, 3)) (k : ∀ (H1 : Heap) (locs1 : List Loc), va_P D hCl (wH ca a q (cpyI K (B j) f (P j)) (cpyI V (B j) f (P j)) (cpyB T (B j) f (P j)) C (va_up B j f) P S) H1 → va_D A (wH ca a q (cpyI K (B j) f (P j)) (cpyI V (B j) f (P j)) (cpyB T (B j) f (P j)) C (va_up B j f) P S) → va_S A H0 H1 locs1 → W p l e R s m args below meth c H1 locs1 cells slots Q (F0 m (pc + 3) ls (rest))) : W p l e R s m args below meth c H locs cells slots Q (F0 m pc ls (.int (nI f) :: .ref (q j) :: .ref (a 0) :: rest)) :=
  hw_V (As := [.ref (q j), .int (nI f)]) (v := none) (C := R_Hop) X (c_Hop_moveDown l D ca a q K V T C B P S j hj f hbd hf9) (cwV 2 X.2.2.2.2 g_Hop_moveDown rfl rfl rfl (by decide +kernel) ⟨by show 1 + 1 ≤ _; omega, by show 8 + (4 + 11) + 30 * 1 ≤ _; omega⟩) hP hK hD hS wH_a (va_recv (q0 := 0) (ci := 0) (q := (R_Hop, F_Hop, 6)) hK hP rfl rfl) rfl hsz rfl hrm hf d k
theorem k_insertAnew (X : CallFix p m c cc nL s args wsA R_Hop) (hK : va_K D hCl (tyH ca) s) (hP : va_P D hCl (wH ca a q K V T C B P S) H) (hD : va_D A (wH ca a q K V T C B P S)) (hS : va_S A H0 H locs) (hsz : ls.size = nL) {j k0 : Nat} (hj : j < 4) (hk : k0 < 4) (hbj : B j + P j ≤ 256) (hck : pw (P k0)) (hbk : B k0 + P k0 ≤ 256) (hrm : (rest.map fun v => v.category).sum ≤ 8) (hf : cells ≤ R.cells ∧ slots ≤ R.slots) (hR : 5 ≤ R.frames ∧ 150 ≤ R.locals) (d : decode cc pc = .ok (.invokevirtual 145, 3)) (k : ∀ (H1 : Heap) (locs1 : List Loc), va_P D hCl (wH ca a q (anw (B k0) (P k0) (S k0) (B j) (P j) (K, V, T, C)).2.1 (anw (B k0) (P k0) (S k0) (B j) (P j) (K, V, T, C)).2.2.1 (anw (B k0) (P k0) (S k0) (B j) (P j) (K, V, T, C)).2.2.2.1 (anw (B k0) (P k0) (S k0) (B j) (P j) (K, V, T, C)).2.2.2.2 B P S) H1 → va_D A (wH ca a q (anw (B k0) (P k0) (S k0) (B j) (P j) (K, V, T, C)).2.1 (anw (B k0) (P k0) (S k0) (B j) (P j) (K, V, T, C)).2.2.1 (anw (B k0) (P k0) (S k0) (B j) (P j) (K, V, T, C)).2.2.2.1 (anw (B k0) (P k0) (S k0) (B j) (P j) (K, V, T, C)).2.2.2.2 B P S) → va_S A H0 H1 locs1 → W p l e R s m args below meth c H1 locs1 cells slots Q (F0 m (pc + 3) ls (.int (bI (anw (B k0) (P k0) (S k0) (B j) (P j) (K, V, T, C)).1) :: rest))) : W p l e R s m args below meth c H locs cells slots Q (F0 m pc ls (.ref (q k0) :: .ref (q j) :: .ref (a 0) :: rest)) :=
  hw_V (As := [.ref (q j), .ref (q k0)]) (v := some (.int (bI (anw (B k0) (P k0) (S k0) (B j) (P j) (K, V, T, C)).1))) (C := R_Hop) X (c_Hop_insertAnew l D ca a q K V T C B P S j k0 hj hk hbj hck hbk) (cwV 2 X.2.2.2.2 g_Hop_insertAnew rfl rfl rfl (by decide +kernel) ⟨by show 4 + 1 ≤ _; omega, by show 8 + (4 + 11) + 30 * 4 ≤ _; omega⟩) hP hK hD hS wH_a (va_recv (q0 := 0) (ci := 0) (q := (R_Hop, F_Hop, 6)) hK hP rfl rfl) rfl hsz rfl hrm hf d k
end HKB
end
section
set_option maxHeartbeats 4000000 in
set_option maxRecDepth 100000 in
/-- pushTogether -/
theorem c_Hop_pushTogether (l : Launch) (D : va_G) (ca a q : Nat → Nat) (K V : IT) (T : BT) (C : IT) (B P : Nat → Nat) (S : IT) (hb0 : B 0 + P 0 ≤ 256) (hb1 : B 1 + P 1 ≤ 256) (hb2 : B 2 + P 2 ≤ 256) : Met l y_Hop_pushTogether w_Hop_pushTogether (rmD 2 0 0) (va_Pc [.ref (a 0)] (hb_W D hCl (wH ca a q K V T C B P S) (tyH ca))) (hq_W (none) D hCl (wH ca a q (psh P 3 0 (K, V, T, B)).1 (psh P 3 0 (K, V, T, B)).2.1 (psh P 3 0 (K, V, T, B)).2.2.1 (upd C 2 (C 2 + 1)) (psh P 3 0 (K, V, T, B)).2.2.2 P S) (hA (wH ca a q K V T C B P S))) 0 0 (hA (wH ca a q K V T C B P S)) := by
  refine Met.ofW (cc := b_Hop_pushTogether) (maxL := 4) (ret := none) (by decide) rfl ?_
  intro p e s m args below meth c0 s₁ B0 hml hv
  obtain ⟨rfl, hP, hK, hD0⟩ := hv
  have hx := B0.exec
  have hb := B0.bytes
  have hr := B0.returns
  have hts := atoms_spec (ws := w_Hop_pushTogether) B0.pre
  have hown : s.vm.findClass R_Hop = some m.cls := findClass_of_methodNamed B0.named
  have hlocks := B0.notSynchronized
  have hwA : ∀ w ∈ wsA, w.before ([.ref (a 0)] : List Value).toArray s = true := fun w h => hts w (List.mem_cons_of_mem _ h)
  have X : CallFix p m c0 b_Hop_pushTogether 4 s ([.ref (a 0)] : List Value).toArray wsA R_Hop := ⟨hx, hb, hml, hown, hwA⟩
  have hD := hA_D hD0
  have hS : va_S (hA (wH ca a q K V T C B P S)) s.heap s.heap [] := va_S.rf
  have hl := lv_entry ([.ref (a 0)]) (n := 4) (Nat.le_of_ble_eq_true rfl)
  rw [lg_entry_eq]
  generalize (lg_sl ([.ref (a 0)]) ++ List.replicate (4 - (lg_sl ([.ref (a 0)])).length) Slot.unset).toArray = ls at hl ⊢
  have hl : lv_has ls 4 [(0, .ref (a 0))] := hl
  have loop : ∀ (n i f : Nat) (ls : Array Slot) (H : Heap) (locs : List Loc) (K' V' : IT) (T' : BT) (B' : Nat → Nat), i + n = 3 → f ≤ 256 → (∀ i, i < 3 → B' i + P i ≤ 256) → psh P n f (K', V', T', B') = (psh P 3 0 (K, V, T, B)) → va_P D hCl (wH ca a q K' V' T' C B' P S) H → va_D (hA (wH ca a q K V T C B P S)) (wH ca a q K' V' T' C B' P S) → va_S (hA (wH ca a q K V T C B P S)) s.heap H locs → lv_has ls 4 [(2, .int (nI i)), (1, .int (nI f)), (0, .ref (a 0))] → W p l e (headSpec w_Hop_pushTogether (rmD 2 0 0)).room s m ([.ref (a 0)] : List Value).toArray below meth c0 H locs 0 0 (MQ below (hq_W (none) D hCl (wH ca a q (psh P 3 0 (K, V, T, B)).1 (psh P 3 0 (K, V, T, B)).2.1 (psh P 3 0 (K, V, T, B)).2.2.1 (upd C 2 (C 2 + 1)) (psh P 3 0 (K, V, T, B)).2.2.2 P S) (hA (wH ca a q K V T C B P S))) ([.ref (a 0)] : List Value).toArray s 0 0 (hA (wH ca a q K V T C B P S))) (F0 m 4 ls []) := by
    intro n
    induction n with
    | zero =>
      intro i f ls H locs K' V' T' B' hi hf hb3 hR hP hD hS hl
      skip
      refine lv_iload_n hx hb d_Hop_pushTogether_4 rfl (lv_at hl 0 rfl) ?_
      refine lv_iconst (v := 3) hx hb d_Hop_pushTogether_5 (by decide) ?_
      refine lvT_icmp_ge (tgt := 36) hx hb d_Hop_pushTogether_6 (by decide) (nI_le (a := 3) (b := i) (by omega) (by omega)) ?_
      refine lv_aload_n hx hb d_Hop_pushTogether_36 rfl (lv_at hl 2 rfl) ?_
      refine hg_counts X hK hP d_Hop_pushTogether_37 ?_
      refine lv_iconst (v := 2) hx hb d_Hop_pushTogether_40 (by decide) ?_
      refine lv_dup2_11 hx hb d_Hop_pushTogether_41 rfl rfl ?_
      refine hl_C X hK hP (i := 2) (by decide) d_Hop_pushTogether_42 ?_
      refine lv_iconst (v := 1) hx hb d_Hop_pushTogether_43 (by decide) ?_
      refine lv_iadd hx hb d_Hop_pushTogether_44 ?_
      refine hs_C X hK hP hD hS (i := 2) (x := (C (2)) + (1)) (by decide) d_Hop_pushTogether_45 (fun H locs hP hD hS => ?_)
      have hR1 : (psh P 3 0 (K, V, T, B)) = (K', V', T', B') := hR.symm
      exact W.vret hx hb hr (fun t ht hW => ⟨rfl, by rw [ht, hR1]; exact hP, hS.F ht⟩) hS.2.2 d_Hop_pushTogether_46
    | succ n ih =>
      intro i f ls H locs K' V' T' B' hi hf hb3 hR hP hD hS hl
      skip
      refine lv_iload_n hx hb d_Hop_pushTogether_4 rfl (lv_at hl 0 rfl) ?_
      refine lv_iconst (v := 3) hx hb d_Hop_pushTogether_5 (by decide) ?_
      refine lvF_icmp_ge (tgt := 36) hx hb d_Hop_pushTogether_6 (by decide) (nI_ge (a := i) (b := 3) (by omega) (by omega)) ?_
      refine lv_aload_n hx hb d_Hop_pushTogether_9 rfl (lv_at hl 2 rfl) ?_
      refine lv_iload_n hx hb d_Hop_pushTogether_10 rfl (lv_at hl 1 rfl) ?_
      refine k_lowestFrom X hK hP hl.1 (f := f) (by omega) (hb3 0 (by decide)) (hb3 1 (by decide)) (hb3 2 (by decide)) (Nat.le_of_ble_eq_true rfl) ⟨Nat.zero_le _, Nat.zero_le _⟩ ⟨Nat.le_of_ble_eq_true rfl, Nat.le_of_ble_eq_true rfl⟩ d_Hop_pushTogether_11 ?_
      cases hq : lowS B' f 3 with
      | none =>
        refine lv_topv (v' := .null) rfl ?_
        refine lv_astore_nN (lv' := [(3, .null), (2, .int (nI i)), (1, .int (nI f)), (0, .ref (a 0))]) hx hb d_Hop_pushTogether_14 rfl hl (by decide) rfl (fun ls hl => ?_)
        refine lv_aload_nN hx hb d_Hop_pushTogether_15 rfl (lv_at hl 0 rfl) ?_
        refine lv_ifnullN (tgt := 30) hx hb d_Hop_pushTogether_16 (by decide) ?_
        refine lv_iinc (k := 1) (v := nI (i + 1)) (lv' := [(2, .int (nI (i + 1))), (3, .null), (1, .int (nI f)), (0, .ref (a 0))]) hx hb d_Hop_pushTogether_30 hl rfl (inc1 i) (by decide) rfl (fun ls hl => ?_)
        refine lv_goto (tgt := 4) hx hb d_Hop_pushTogether_33 (by decide) ?_
        exact ih (i + 1) f ls H locs _ _ _ _ (by omega) hf hb3 ((psh_n (Y := (K', V', T', B')) hq).symm.trans hR) hP hD hS (lv_sub hl [0, 2, 3] rfl)
      | some r =>
        have hr3 := lowS_lt _ _ hq
        have hbr := hb3 r hr3.1
        refine lv_topv (v' := .ref (q r)) rfl ?_
        refine lv_astore_n (lv' := [(3, .ref (q r)), (2, .int (nI i)), (1, .int (nI f)), (0, .ref (a 0))]) hx hb d_Hop_pushTogether_14 rfl hl (by decide) rfl (fun ls hl => ?_)
        refine lv_aload_n hx hb d_Hop_pushTogether_15 rfl (lv_at hl 0 rfl) ?_
        refine lv_ifnull hx hb d_Hop_pushTogether_16 ?_
        refine lv_aload_n hx hb d_Hop_pushTogether_19 rfl (lv_at hl 3 rfl) ?_
        refine lv_aload_n hx hb d_Hop_pushTogether_20 rfl (lv_at hl 0 rfl) ?_
        refine lv_iload_n hx hb d_Hop_pushTogether_21 rfl (lv_at hl 2 rfl) ?_
        refine k_moveDown X hK hP hD hS hl.1 (f := f) (by omega) (hbr) (hr3.2) (Nat.le_of_ble_eq_true rfl) ⟨Nat.zero_le _, Nat.zero_le _⟩ ⟨Nat.le_of_ble_eq_true rfl, Nat.le_of_ble_eq_true rfl⟩ d_Hop_pushTogether_22 (fun H locs hP hD hS => ?_)
        refine lv_aload_n hx hb d_Hop_pushTogether_25 rfl (lv_at hl 0 rfl) ?_
        refine k_end X hK hP hl.1 (by omega) (Nat.le_of_ble_eq_true rfl) ⟨Nat.zero_le _, Nat.zero_le _⟩ ⟨Nat.le_of_ble_eq_true rfl, Nat.le_of_ble_eq_true rfl⟩ d_Hop_pushTogether_26 ?_
        refine lv_tope (y := nI (f + P r)) (by rw [va_up_self]) ?_
        refine lv_istore_n (lv' := [(1, .int (nI (f + P r))), (3, .ref (q r)), (2, .int (nI i)), (0, .ref (a 0))]) hx hb d_Hop_pushTogether_29 rfl hl (by decide) rfl (fun ls hl => ?_)
        refine lv_iinc (k := 2) (v := nI (i + 1)) (lv' := [(2, .int (nI (i + 1))), (1, .int (nI (f + P r))), (3, .ref (q r)), (0, .ref (a 0))]) hx hb d_Hop_pushTogether_30 hl rfl (inc1 i) (by decide) rfl (fun ls hl => ?_)
        refine lv_goto (tgt := 4) hx hb d_Hop_pushTogether_33 (by decide) ?_
        exact ih (i + 1) (f + P r) ls H locs _ _ _ _ (by omega) (by omega) (up_bd hb3 hr3.2 hr3.1) ((psh_s (Y := (K', V', T', B')) hq).symm.trans hR) hP hD hS (lv_sub hl [0, 1, 3] rfl)
  refine lv_iconst (v := 0) hx hb d_Hop_pushTogether_0 (by decide) ?_
  refine lv_istore_n (lv' := [(1, .int 0), (0, .ref (a 0))]) hx hb d_Hop_pushTogether_1 rfl hl (by decide) rfl (fun ls hl => ?_)
  refine lv_iconst (v := 0) hx hb d_Hop_pushTogether_2 (by decide) ?_
  refine lv_istore_n (lv' := [(2, .int 0), (1, .int 0), (0, .ref (a 0))]) hx hb d_Hop_pushTogether_3 rfl hl (by decide) rfl (fun ls hl => ?_)
  exact loop 3 0 0 ls s.heap [] K V T B (by omega) (by omega) (fun i hi => by rcases (show i = 0 ∨ i = 1 ∨ i = 2 by omega) with rfl | rfl | rfl <;> assumption) rfl hP hD hS hl
section HKB
variable {p : Program} {l : Launch} {e : Env} {R : Room} {s : State} {m : MethodId} {args : Array Value} {below : List Frame} {meth : Method} {c : Code} {H : Heap} {locs : List Loc} {cells slots : Nat} {Q : State → Prop}
variable {cc : ByteArray} {pc nL : Nat} {ls : Array Slot} {rest st0 : List Value} {D : va_G} {A : Nat → Prop} {H0 : Heap} {ca a q : Nat → Nat} {K V : IT} {T : BT} {C : IT} {B P : Nat → Nat} {S : IT}
theorem k_pushTogether (X : CallFix p m c cc nL s args wsA R_Hop) (hK : va_K D hCl (tyH ca) s) (hP : va_P D hCl (wH ca a q K V T C B P S) H) (hD : va_D A (wH ca a q K V T C B P S)) (hS : va_S A H0 H locs) (hsz : ls.size = nL) (hb0 : B 0 + P 0 ≤ 256) (hb1 : B 1 + P 1 ≤ 256) (hb2 : B 2 + P 2 ≤ 256) (hrm : (rest.map fun v => v.category).sum ≤ 8) (hf : cells ≤ R.cells ∧ slots ≤ R.slots) (hR : 3 ≤ R.frames ∧ 90 ≤ R.locals) (d : decode cc pc = .ok (.invokevirtual 152, 3)) (k : ∀ (H1 : Heap) (locs1 : List Loc), va_P D hCl (wH ca a q (psh P 3 0 (K, V, T, B)).1 (psh P 3 0 (K, V, T, B)).2.1 (psh P 3 0 (K, V, T, B)).2.2.1 (upd C 2 (C 2 + 1)) (psh P 3 0 (K, V, T, B)).2.2.2 P S) H1 → va_D A (wH ca a q (psh P 3 0 (K, V, T, B)).1 (psh P 3 0 (K, V, T, B)).2.1 (psh P 3 0 (K, V, T, B)).2.2.1 (upd C 2 (C 2 + 1)) (psh P 3 0 (K, V, T, B)).2.2.2 P S) → va_S A H0 H1 locs1 → W p l e R s m args below meth c H1 locs1 cells slots Q (F0 m (pc + 3) ls (rest))) : W p l e R s m args below meth c H locs cells slots Q (F0 m pc ls (.ref (a 0) :: rest)) :=
  hw_V (As := []) (v := none) (C := R_Hop) X (c_Hop_pushTogether l D ca a q K V T C B P S hb0 hb1 hb2) (cwV 0 X.2.2.2.2 g_Hop_pushTogether rfl rfl rfl (by decide +kernel) ⟨by show 2 + 1 ≤ _; omega, by show 8 + (4 + 11) + 30 * 2 ≤ _; omega⟩) hP hK hD hS wH_a (va_recv (q0 := 0) (ci := 0) (q := (R_Hop, F_Hop, 6)) hK hP rfl rfl) rfl hsz rfl hrm hf d k
end HKB
end
section
theorem psh_bd {P : Nat → Nat} : ∀ (n f : Nat) (Y : YS), (∀ i, i < 3 → Y.2.2.2 i + P i ≤ 256) → ∀ i, i < 3 → (psh P n f Y).2.2.2 i + P i ≤ 256 := by
  intro n
  induction n with
  | zero =>
    intro f Y h
    exact h
  | succ n ih =>
    intro f Y h
    cases hq : lowS Y.2.2.2 f 3 with
    | none =>
      rw [psh_n hq]
      exact ih f Y h
    | some r =>
      rw [psh_s hq]
      have h3 := lowS_lt _ _ hq
      exact ih _ _ (up_bd h h3.2 h3.1)
abbrev HS : Type := IT × IT × BT × IT × (Nat → Nat) × (Nat → Nat) × IT
def layY (cp : Nat) (Z : HS) : YS × IT := if 256 < lastE Z.2.2.2.2.1 Z.2.2.2.2.2.1 + cp then (psh Z.2.2.2.2.2.1 3 0 (Z.1, Z.2.1, Z.2.2.1, Z.2.2.2.2.1), upd Z.2.2.2.1 2 (Z.2.2.2.1 2 + 1)) else ((Z.1, Z.2.1, Z.2.2.1, Z.2.2.2.2.1), Z.2.2.2.1)
def layE (cp : Nat) (sd : Int32) (P : Nat → Nat) (S : IT) (Y : YS × IT) : HS := (Y.1.1, Y.1.2.1, clr Y.1.2.2.1 (lastE Y.1.2.2.2 P) cp, upd Y.2 1 (Y.2 1 + 1), va_up Y.1.2.2.2 3 (lastE Y.1.2.2.2 P), va_up P 3 cp, upd S 3 sd)
def lay (cp : Nat) (sd : Int32) (Z : HS) : HS := layE cp sd Z.2.2.2.2.2.1 Z.2.2.2.2.2.2 (layY cp Z)
set_option maxHeartbeats 4000000 in
set_option maxRecDepth 100000 in
/-- layOut: the spare part becomes the next new one -/
theorem c_Hop_layOut (l : Launch) (D : va_G) (ca a q : Nat → Nat) (K V : IT) (T : BT) (C : IT) (B P : Nat → Nat) (S : IT) (cp : Nat) (sd : Int32) (hb0 : B 0 + P 0 ≤ 256) (hb1 : B 1 + P 1 ≤ 256) (hb2 : B 2 + P 2 ≤ 256) (hcp : cp ≤ 128) (hfit : lastE (layY cp (K, V, T, C, B, P, S)).1.2.2.2 P + cp ≤ 256) : Met l y_Hop_layOut w_Hop_layOut (rmD 3 0 0) (va_Pc [.ref (a 0), .ref (q 3), .int (nI cp), .int sd] (hb_W D hCl (wH ca a q K V T C B P S) (tyH ca))) (hq_W (none) D hCl (wH ca a q (lay cp sd (K, V, T, C, B, P, S)).1 (lay cp sd (K, V, T, C, B, P, S)).2.1 (lay cp sd (K, V, T, C, B, P, S)).2.2.1 (lay cp sd (K, V, T, C, B, P, S)).2.2.2.1 (lay cp sd (K, V, T, C, B, P, S)).2.2.2.2.1 (lay cp sd (K, V, T, C, B, P, S)).2.2.2.2.2.1 (lay cp sd (K, V, T, C, B, P, S)).2.2.2.2.2.2) (hA (wH ca a q K V T C B P S))) 0 0 (hA (wH ca a q K V T C B P S)) := by
  refine Met.ofW (cc := b_Hop_layOut) (maxL := 4) (ret := none) (by decide) rfl ?_
  intro p e s m args below meth c0 s₁ B0 hml hv
  obtain ⟨rfl, hP, hK, hD0⟩ := hv
  have hx := B0.exec
  have hb := B0.bytes
  have hr := B0.returns
  have hts := atoms_spec (ws := w_Hop_layOut) B0.pre
  have hown : s.vm.findClass R_Hop = some m.cls := findClass_of_methodNamed B0.named
  have hlocks := B0.notSynchronized
  have hwA : ∀ w ∈ wsA, w.before ([.ref (a 0), .ref (q 3), .int (nI cp), .int sd] : List Value).toArray s = true := fun w h => hts w (List.mem_cons_of_mem _ h)
  have X : CallFix p m c0 b_Hop_layOut 4 s ([.ref (a 0), .ref (q 3), .int (nI cp), .int sd] : List Value).toArray wsA R_Hop := ⟨hx, hb, hml, hown, hwA⟩
  have hD := hA_D hD0
  have hS : va_S (hA (wH ca a q K V T C B P S)) s.heap s.heap [] := va_S.rf
  have hl := lv_entry ([.ref (a 0), .ref (q 3), .int (nI cp), .int sd]) (n := 4) (Nat.le_of_ble_eq_true rfl)
  rw [lg_entry_eq]
  generalize (lg_sl ([.ref (a 0), .ref (q 3), .int (nI cp), .int sd]) ++ List.replicate (4 - (lg_sl ([.ref (a 0), .ref (q 3), .int (nI cp), .int sd])).length) Slot.unset).toArray = ls at hl ⊢
  have hl : lv_has ls 4 [(0, .ref (a 0)), (1, .ref (q 3)), (2, .int (nI cp)), (3, .int sd)] := hl
  have hb3 : ∀ i, i < 3 → B i + P i ≤ 256 := fun i hi => by rcases (show i = 0 ∨ i = 1 ∨ i = 2 by omega) with rfl | rfl | rfl <;> assumption
  have hl3 : lastE B P ≤ 256 := by unfold lastE; omega
  have tail : ∀ (H : Heap) (locs : List Loc) (K' V' : IT) (T' : BT) (C' : IT) (B' : Nat → Nat), (∀ i, i < 3 → B' i + P i ≤ 256) → layY cp (K, V, T, C, B, P, S) = ((K', V', T', B'), C') → va_P D hCl (wH ca a q K' V' T' C' B' P S) H → va_D (hA (wH ca a q K V T C B P S)) (wH ca a q K' V' T' C' B' P S) → va_S (hA (wH ca a q K V T C B P S)) s.heap H locs → W p l e (headSpec w_Hop_layOut (rmD 3 0 0)).room s m ([.ref (a 0), .ref (q 3), .int (nI cp), .int sd] : List Value).toArray below meth c0 H locs 0 0 (MQ below (hq_W (none) D hCl (wH ca a q (lay cp sd (K, V, T, C, B, P, S)).1 (lay cp sd (K, V, T, C, B, P, S)).2.1 (lay cp sd (K, V, T, C, B, P, S)).2.2.1 (lay cp sd (K, V, T, C, B, P, S)).2.2.2.1 (lay cp sd (K, V, T, C, B, P, S)).2.2.2.2.1 (lay cp sd (K, V, T, C, B, P, S)).2.2.2.2.2.1 (lay cp sd (K, V, T, C, B, P, S)).2.2.2.2.2.2) (hA (wH ca a q K V T C B P S))) ([.ref (a 0), .ref (q 3), .int (nI cp), .int sd] : List Value).toArray s 0 0 (hA (wH ca a q K V T C B P S))) (F0 m 16 ls []) := by
    intro H locs K' V' T' C' B' hb4 hE hP hD hS
    have hft : lastE B' P + cp ≤ 256 := by rw [hE] at hfit; exact hfit
    refine lv_aload_n hx hb d_Hop_layOut_16 rfl (lv_at hl 1 rfl) ?_
    refine lv_aload_n hx hb d_Hop_layOut_17 rfl (lv_at hl 0 rfl) ?_
    refine k_lastEnd X hK hP hl.1 (hb4 0 (by decide)) (hb4 1 (by decide)) (hb4 2 (by decide)) (Nat.le_of_ble_eq_true rfl) ⟨Nat.zero_le _, Nat.zero_le _⟩ ⟨Nat.le_of_ble_eq_true rfl, Nat.le_of_ble_eq_true rfl⟩ d_Hop_layOut_18 ?_
    refine hp_base X hK hP hD hS (x := lastE B' P) (by decide) d_Hop_layOut_21 (fun H locs hP hD hS => ?_)
    refine lv_aload_n hx hb d_Hop_layOut_24 rfl (lv_at hl 1 rfl) ?_
    refine lv_iload_n hx hb d_Hop_layOut_25 rfl (lv_at hl 2 rfl) ?_
    refine hp_capacity X hK hP hD hS (x := cp) (by decide) d_Hop_layOut_26 (fun H locs hP hD hS => ?_)
    refine lv_aload_n hx hb d_Hop_layOut_29 rfl (lv_at hl 1 rfl) ?_
    refine lv_iload_n hx hb d_Hop_layOut_30 rfl (lv_at hl 3 rfl) ?_
    refine hp_seed X hK hP hD hS (x := sd) (by decide) d_Hop_layOut_31 (fun H locs hP hD hS => ?_)
    refine lv_aload_n hx hb d_Hop_layOut_34 rfl (lv_at hl 0 rfl) ?_
    refine lv_aload_n hx hb d_Hop_layOut_35 rfl (lv_at hl 1 rfl) ?_
    refine k_freeAll X hK hP hD hS hl.1 (by decide) (by rw [va_up_self, va_up_self]; exact hft) (Nat.le_of_ble_eq_true rfl) ⟨Nat.zero_le _, Nat.zero_le _⟩ ⟨Nat.le_of_ble_eq_true rfl, Nat.le_of_ble_eq_true rfl⟩ d_Hop_layOut_36 (fun H locs hP hD hS => ?_)
    refine lv_aload_n hx hb d_Hop_layOut_39 rfl (lv_at hl 0 rfl) ?_
    refine hg_counts X hK hP d_Hop_layOut_40 ?_
    refine lv_iconst (v := 1) hx hb d_Hop_layOut_43 (by decide) ?_
    refine lv_dup2_11 hx hb d_Hop_layOut_44 rfl rfl ?_
    refine hl_C X hK hP (i := 1) (by decide) d_Hop_layOut_45 ?_
    refine lv_iconst (v := 1) hx hb d_Hop_layOut_46 (by decide) ?_
    refine lv_iadd hx hb d_Hop_layOut_47 ?_
    refine hs_C X hK hP hD hS (i := 1) (x := (C' (1)) + (1)) (by decide) d_Hop_layOut_48 (fun H locs hP hD hS => ?_)
    have hR1 : (lay cp sd (K, V, T, C, B, P, S)) = layE cp sd P S ((K', V', T', B'), C') := by show layE cp sd P S (layY cp (K, V, T, C, B, P, S)) = _; rw [hE]
    exact W.vret hx hb hr (fun t ht hW => ⟨rfl, by rw [ht, hR1]; exact hP, hS.F ht⟩) hS.2.2 d_Hop_layOut_49
  refine lv_aload_n hx hb d_Hop_layOut_0 rfl (lv_at hl 0 rfl) ?_
  refine k_lastEnd X hK hP hl.1 hb0 hb1 hb2 (Nat.le_of_ble_eq_true rfl) ⟨Nat.zero_le _, Nat.zero_le _⟩ ⟨Nat.le_of_ble_eq_true rfl, Nat.le_of_ble_eq_true rfl⟩ d_Hop_layOut_1 ?_
  refine lv_iload_n hx hb d_Hop_layOut_4 rfl (lv_at hl 2 rfl) ?_
  refine lv_iadd hx hb d_Hop_layOut_5 ?_
  refine lv_tope (y := nI (lastE B P + cp)) (nI_add _ _) ?_
  refine lv_sipush (v := 256) hx hb d_Hop_layOut_6 (by decide) ?_
  refine lv_icmp_le (tgt := 16) hx hb d_Hop_layOut_9 (by decide) (fun h1 => ?_) (fun h1 => ?_)
  · have h2 : ¬ 256 < lastE B P + cp := Nat.not_lt.mpr ((nI_leI (a := lastE B P + cp) (b := 256) (by omega) (by omega)).mp h1)
    exact tail s.heap [] K V T C B hb3 (if_neg h2) hP hD hS
  · have h2 : 256 < lastE B P + cp := Nat.not_le.mp (fun z => h1 ((nI_leI (a := lastE B P + cp) (b := 256) (by omega) (by omega)).mpr z))
    refine lv_aload_n hx hb d_Hop_layOut_12 rfl (lv_at hl 0 rfl) ?_
    refine k_pushTogether X hK hP hD hS hl.1 hb0 hb1 hb2 (Nat.le_of_ble_eq_true rfl) ⟨Nat.zero_le _, Nat.zero_le _⟩ ⟨Nat.le_of_ble_eq_true rfl, Nat.le_of_ble_eq_true rfl⟩ d_Hop_layOut_13 (fun H locs hP hD hS => ?_)
    exact tail H locs _ _ _ _ _ (psh_bd 3 0 (K, V, T, B) hb3) (if_pos h2) hP hD hS
section HKB
variable {p : Program} {l : Launch} {e : Env} {R : Room} {s : State} {m : MethodId} {args : Array Value} {below : List Frame} {meth : Method} {c : Code} {H : Heap} {locs : List Loc} {cells slots : Nat} {Q : State → Prop}
variable {cc : ByteArray} {pc nL : Nat} {ls : Array Slot} {rest st0 : List Value} {D : va_G} {A : Nat → Prop} {H0 : Heap} {ca a q : Nat → Nat} {K V : IT} {T : BT} {C : IT} {B P : Nat → Nat} {S : IT}
theorem k_layOut (X : CallFix p m c cc nL s args wsA R_Hop) (hK : va_K D hCl (tyH ca) s) (hP : va_P D hCl (wH ca a q K V T C B P S) H) (hD : va_D A (wH ca a q K V T C B P S)) (hS : va_S A H0 H locs) (hsz : ls.size = nL) {cp : Nat} {sd : Int32} (hb0 : B 0 + P 0 ≤ 256) (hb1 : B 1 + P 1 ≤ 256) (hb2 : B 2 + P 2 ≤ 256) (hcp : cp ≤ 128) (hfit : lastE (layY cp (K, V, T, C, B, P, S)).1.2.2.2 P + cp ≤ 256) (hrm : (rest.map fun v => v.category).sum ≤ 8) (hf : cells ≤ R.cells ∧ slots ≤ R.slots) (hR : 4 ≤ R.frames ∧ 120 ≤ R.locals) (d : decode cc pc = .ok (.invokevirtual 141, 3)) (k : ∀ (H1 : Heap) (locs1 : List Loc), va_P D hCl (wH ca a q (lay cp sd (K, V, T, C, B, P, S)).1 (lay cp sd (K, V, T, C, B, P, S)).2.1 (lay cp sd (K, V, T, C, B, P, S)).2.2.1 (lay cp sd (K, V, T, C, B, P, S)).2.2.2.1 (lay cp sd (K, V, T, C, B, P, S)).2.2.2.2.1 (lay cp sd (K, V, T, C, B, P, S)).2.2.2.2.2.1 (lay cp sd (K, V, T, C, B, P, S)).2.2.2.2.2.2) H1 → va_D A (wH ca a q (lay cp sd (K, V, T, C, B, P, S)).1 (lay cp sd (K, V, T, C, B, P, S)).2.1 (lay cp sd (K, V, T, C, B, P, S)).2.2.1 (lay cp sd (K, V, T, C, B, P, S)).2.2.2.1 (lay cp sd (K, V, T, C, B, P, S)).2.2.2.2.1 (lay cp sd (K, V, T, C, B, P, S)).2.2.2.2.2.1 (lay cp sd (K, V, T, C, B, P, S)).2.2.2.2.2.2) → va_S A H0 H1 locs1 → W p l e R s m args below meth c H1 locs1 cells slots Q (F0 m (pc + 3) ls (rest))) : W p l e R s m args below meth c H locs cells slots Q (F0 m pc ls (.int sd :: .int (nI cp) :: .ref (q 3) :: .ref (a 0) :: rest)) :=
  hw_V (As := [.ref (q 3), .int (nI cp), .int sd]) (v := none) (C := R_Hop) X (c_Hop_layOut l D ca a q K V T C B P S cp sd hb0 hb1 hb2 hcp hfit) (cwV 3 X.2.2.2.2 g_Hop_layOut rfl rfl rfl (by decide +kernel) ⟨by show 3 + 1 ≤ _; omega, by show 8 + (4 + 11) + 30 * 3 ≤ _; omega⟩) hP hK hD hS wH_a (va_recv (q0 := 0) (ci := 0) (q := (R_Hop, F_Hop, 6)) hK hP rfl rfl) rfl hsz rfl hrm hf d k
end HKB
end
section
def DJ (B P : Nat → Nat) : Prop := ∀ i j, i < 3 → j < 3 → i ≠ j → B i + P i ≤ B j ∨ B j + P j ≤ B i
theorem lowS_no {B : Nat → Nat} {f : Nat} : ∀ (n : Nat), lowS B f n = none → ∀ i, i < n → ¬ f ≤ B i := by
  intro n
  induction n with
  | zero =>
    intro _ i hi
    omega
  | succ n ih =>
    intro h i hi
    cases hq : lowS B f n with
    | none =>
      by_cases hf : f ≤ B n
      · rw [lowS_0 hq hf] at h
        cases h
      · by_cases e : i = n
        · rw [e]; exact hf
        · exact ih hq i (by omega)
    | some j =>
      by_cases hf : f ≤ B n
      · by_cases h2 : B n < B j
        · rw [lowS_s hq hf h2] at h
          cases h
        · rw [lowS_k hq h2] at h
          cases h
      · rw [lowS_n hq hf] at h
        cases h
theorem lowS_min {B : Nat → Nat} {f : Nat} : ∀ (n r : Nat), lowS B f n = some r → ∀ i, i < n → f ≤ B i → B r ≤ B i := by
  intro n
  induction n with
  | zero =>
    intro r h
    cases h
  | succ n ih =>
    intro r h i hi hfi
    cases hq : lowS B f n with
    | none =>
      have hno := lowS_no n hq
      by_cases hf : f ≤ B n
      · rw [lowS_0 hq hf] at h
        cases h
        by_cases e : i = n
        · rw [e]; exact Nat.le_refl _
        · exact absurd hfi (hno i (by omega))
      · rw [lowS_n hq hf] at h
        cases h
    | some j =>
      have hm := ih j hq
      by_cases hf : f ≤ B n
      · by_cases h2 : B n < B j
        · rw [lowS_s hq hf h2] at h
          cases h
          by_cases e : i = n
          · rw [e]; exact Nat.le_refl _
          · have := hm i (by omega) hfi
            omega
        · rw [lowS_k hq h2] at h
          cases h
          by_cases e : i = n
          · rw [e]; omega
          · exact hm i (by omega) hfi
      · rw [lowS_n hq hf] at h
        cases h
        by_cases e : i = n
        · rw [e] at hfi; exact absurd hfi hf
        · exact hm i (by omega) hfi
theorem lowS_is {B : Nat → Nat} {f r : Nat} (hr : r < 3) (h : f ≤ B r) (hm : ∀ i, i < 3 → i ≠ r → f ≤ B i → B r < B i) : lowS B f 3 = some r := by
  cases hq : lowS B f 3 with
  | none => exact absurd h (lowS_no 3 hq r hr)
  | some x =>
    have h1 := lowS_lt 3 x hq
    have h2 := lowS_min 3 x hq r hr h
    by_cases e : x = r
    · rw [e]
    · have := hm x h1.1 e h1.2
      omega
theorem psh_ord {P B : Nat → Nat} {K V : IT} {T : BT} (x y z : Nat) (hx : x < 3) (hy : y < 3) (hz : z < 3) (hxy : x ≠ y) (hxz : x ≠ z) (hyz : y ≠ z) (hp : ∀ i, i < 3 → 0 < P i) (h1 : B x + P x ≤ B y) (h2 : B y + P y ≤ B z) :
    (psh P 3 0 (K, V, T, B)).2.2.2 = va_up (va_up (va_up B x 0) y (0 + P x)) z (0 + P x + P y) := by
  have px := hp x hx
  have py := hp y hy
  have pz := hp z hz
  have e1 : lowS B 0 3 = some x := lowS_is hx (Nat.zero_le _) (fun i hi hne _ => by
    rcases (show i = y ∨ i = z by omega) with rfl | rfl <;> omega)
  have e2 : lowS (va_up B x 0) (0 + P x) 3 = some y := lowS_is hy (by rw [va_up_ne _ _ (Ne.symm hxy)]; omega) (fun i hi hne hf => by
    rw [va_up_ne _ _ (Ne.symm hxy)]
    rcases (show i = x ∨ i = z by omega) with rfl | rfl
    · rw [va_up_self] at hf; omega
    · rw [va_up_ne _ _ (Ne.symm hxz)]; omega)
  have e3 : lowS (va_up (va_up B x 0) y (0 + P x)) (0 + P x + P y) 3 = some z := lowS_is hz (by rw [va_up_ne _ _ (Ne.symm hyz), va_up_ne _ _ (Ne.symm hxz)]; omega) (fun i hi hne hf => by
    rcases (show i = x ∨ i = y by omega) with rfl | rfl
    · rw [va_up_ne _ _ hxy, va_up_self] at hf; omega
    · rw [va_up_self] at hf; omega)
  rw [psh_s (Y := (K, V, T, B)) e1, psh_s e2, psh_s e3]
  rfl
theorem psh_pack {P B : Nat → Nat} {K V : IT} {T : BT} (hp : ∀ i, i < 3 → 0 < P i) (hd : DJ B P) : lastE (psh P 3 0 (K, V, T, B)).2.2.2 P = P 0 + P 1 + P 2 ∧ DJ (psh P 3 0 (K, V, T, B)).2.2.2 P := by
  have p0 := hp 0 (by decide)
  have p1 := hp 1 (by decide)
  have p2 := hp 2 (by decide)
  have d01 := hd 0 1 (by decide) (by decide) (by decide)
  have d02 := hd 0 2 (by decide) (by decide) (by decide)
  have d12 := hd 1 2 (by decide) (by decide) (by decide)
  have fin : ∀ B' : Nat → Nat, (B' 0 + P 0 ≤ B' 1 ∨ B' 1 + P 1 ≤ B' 0) → (B' 0 + P 0 ≤ B' 2 ∨ B' 2 + P 2 ≤ B' 0) → (B' 1 + P 1 ≤ B' 2 ∨ B' 2 + P 2 ≤ B' 1) → DJ B' P := by
    intro B' a b c i j hi hj hne
    rcases (show i = 0 ∨ i = 1 ∨ i = 2 by omega) with rfl | rfl | rfl <;> rcases (show j = 0 ∨ j = 1 ∨ j = 2 by omega) with rfl | rfl | rfl <;> omega
  have go : ∀ B' : Nat → Nat, (psh P 3 0 (K, V, T, B)).2.2.2 = B' → (lastE B' P = P 0 + P 1 + P 2 ∧ DJ B' P) → lastE (psh P 3 0 (K, V, T, B)).2.2.2 P = P 0 + P 1 + P 2 ∧ DJ (psh P 3 0 (K, V, T, B)).2.2.2 P := fun B' e h => by rw [e]; exact h
  by_cases a : B 0 + P 0 ≤ B 1
  · by_cases b : B 1 + P 1 ≤ B 2
    · exact go _ (psh_ord 0 1 2 (by decide) (by decide) (by decide) (by decide) (by decide) (by decide) hp a b) ⟨by simp [lastE, va_up] <;> omega, fin _ (by simp [va_up]) (by simp [va_up]) (by simp [va_up])⟩
    · by_cases c : B 0 + P 0 ≤ B 2
      · exact go _ (psh_ord 0 2 1 (by decide) (by decide) (by decide) (by decide) (by decide) (by decide) hp c (by omega)) ⟨by simp [lastE, va_up] <;> omega, fin _ (by simp [va_up]) (by simp [va_up]) (by simp [va_up])⟩
      · exact go _ (psh_ord 2 0 1 (by decide) (by decide) (by decide) (by decide) (by decide) (by decide) hp (by omega) a) ⟨by simp [lastE, va_up] <;> omega, fin _ (by simp [va_up]) (by simp [va_up]) (by simp [va_up])⟩
  · by_cases b : B 0 + P 0 ≤ B 2
    · exact go _ (psh_ord 1 0 2 (by decide) (by decide) (by decide) (by decide) (by decide) (by decide) hp (by omega) b) ⟨by simp [lastE, va_up] <;> omega, fin _ (by simp [va_up]) (by simp [va_up]) (by simp [va_up])⟩
    · by_cases c : B 1 + P 1 ≤ B 2
      · exact go _ (psh_ord 1 2 0 (by decide) (by decide) (by decide) (by decide) (by decide) (by decide) hp c (by omega)) ⟨by simp [lastE, va_up] <;> omega, fin _ (by simp [va_up]) (by simp [va_up]) (by simp [va_up])⟩
      · exact go _ (psh_ord 2 1 0 (by decide) (by decide) (by decide) (by decide) (by decide) (by decide) hp (by omega) (by omega)) ⟨by simp [lastE, va_up] <;> omega, fin _ (by simp [va_up]) (by simp [va_up]) (by simp [va_up])⟩
def GI (sum c0 j : Nat) (B P : Nat → Nat) : Prop := (∀ i, i < 3 → B i + P i ≤ 256) ∧ DJ B P ∧ (∀ i, i < 3 → 0 < P i) ∧ P 0 + P 1 + P 2 = sum ∧ P j = c0
theorem GI_up {sum c0 j : Nat} {B P : Nat → Nat} {x y : Nat} (hj : j < 3) (h : GI sum c0 j B P) : GI sum c0 j (va_up B 3 x) (va_up P 3 y) := by
  obtain ⟨h1, h2, h3, h4, h5⟩ := h
  have ne : ∀ i, i < 3 → i ≠ 3 := fun i hi => by omega
  refine ⟨fun i hi => ?_, fun i k hi hk hne => ?_, fun i hi => ?_, ?_, ?_⟩
  · rw [va_up_ne _ _ (ne i hi), va_up_ne _ _ (ne i hi)]; exact h1 i hi
  · rw [va_up_ne _ _ (ne i hi), va_up_ne _ _ (ne i hi), va_up_ne _ _ (ne k hk), va_up_ne _ _ (ne k hk)]; exact h2 i k hi hk hne
  · rw [va_up_ne _ _ (ne i hi)]; exact h3 i hi
  · rw [va_up_ne _ _ (by decide : (0 : Nat) ≠ 3), va_up_ne _ _ (by decide : (1 : Nat) ≠ 3), va_up_ne _ _ (by decide : (2 : Nat) ≠ 3)]; exact h4
  · rw [va_up_ne _ _ (ne j hj)]; exact h5
theorem lay_inv {sum c0 j cp : Nat} {sd : Int32} {K V : IT} {T : BT} {C : IT} {B P : Nat → Nat} {S : IT} (hj : j < 3) (h : GI sum c0 j B P) (hs : sum + cp ≤ 256) :
    lastE (layY cp (K, V, T, C, B, P, S)).1.2.2.2 P + cp ≤ 256 ∧ GI sum c0 j (lay cp sd (K, V, T, C, B, P, S)).2.2.2.2.1 (lay cp sd (K, V, T, C, B, P, S)).2.2.2.2.2.1 := by
  have key : lastE (layY cp (K, V, T, C, B, P, S)).1.2.2.2 P + cp ≤ 256 ∧ GI sum c0 j (layY cp (K, V, T, C, B, P, S)).1.2.2.2 P := by
    by_cases hq : 256 < lastE B P + cp
    · have e : layY cp (K, V, T, C, B, P, S) = (psh P 3 0 (K, V, T, B), upd C 2 (C 2 + 1)) := if_pos hq
      rw [e]
      obtain ⟨h1, h2, h3, h4, h5⟩ := h
      obtain ⟨k1, k2⟩ := psh_pack (K := K) (V := V) (T := T) h3 h2
      exact ⟨by rw [k1]; omega, psh_bd 3 0 (K, V, T, B) h1, k2, h3, h4, h5⟩
    · have e : layY cp (K, V, T, C, B, P, S) = ((K, V, T, B), C) := if_neg hq
      rw [e]
      exact ⟨Nat.not_lt.mp hq, h⟩
  exact ⟨key.1, GI_up hj key.2⟩
theorem lay_B3 (cp : Nat) (sd : Int32) (Z : HS) : (lay cp sd Z).2.2.2.2.1 3 = lastE (layY cp Z).1.2.2.2 Z.2.2.2.2.2.1 := by
  exact va_up_self (layY cp Z).1.2.2.2 3 _
theorem lay_P3 (cp : Nat) (sd : Int32) (Z : HS) : (lay cp sd Z).2.2.2.2.2.1 3 = cp := by
  exact va_up_self Z.2.2.2.2.2.1 3 cp
def wX (Z : HS) (X : XS) : HS := (X.1, X.2.1, X.2.2.1, X.2.2.2, Z.2.2.2.2)
def grE (k : HS → Bool × HS) (Z : HS) (r : Bool × XS) : Bool × HS := if r.1 = true then (true, wX Z r.2) else k (wX Z r.2)
def grD (k : HS → Bool × HS) (key val : Int32) (Z : HS) (r : Bool × XS) : Bool × HS := if r.1 = true then grE k Z (ins (Z.2.2.2.2.1 3) (Z.2.2.2.2.2.1 3) (Z.2.2.2.2.2.2 3) key val r.2) else k (wX Z r.2)
def grC (k : HS → Bool × HS) (j : Nat) (key val : Int32) (Z : HS) : Bool × HS := grD k key val Z (anw (Z.2.2.2.2.1 3) (Z.2.2.2.2.2.1 3) (Z.2.2.2.2.2.2 3) (Z.2.2.2.2.1 j) (Z.2.2.2.2.2.1 j) (Z.1, Z.2.1, Z.2.2.1, Z.2.2.2.1))
def grw (j c0 sum : Nat) (key val : Int32) : Nat → Nat → Int32 → HS → Bool × HS
  | 0, _, _, Z => (false, Z)
  | n + 1, d, sd, Z => if 128 < c0 * 2 ^ d ∨ 256 < sum + c0 * 2 ^ d then (false, Z) else grC (fun Z => grw j c0 sum key val n (d + 1) (sd * 1664525 + 1013904223) Z) j key val (lay (c0 * 2 ^ d) (sd * 1664525 + 1013904223) Z)
theorem shD : ∀ d, d ≤ 4 → ((nI d &&& 31).toBitVec.smod 32).toNat = d := by decide
theorem sh_bd {c d : Nat} (hc : c ≤ 128) (hd : d ≤ 4) : c * 2 ^ d ≤ 2048 := by
  rcases (show d = 0 ∨ d = 1 ∨ d = 2 ∨ d = 3 ∨ d = 4 by omega) with rfl | rfl | rfl | rfl | rfl <;> simp <;> omega
theorem pw_sh {c d : Nat} (hc : pw c) (hd : d ≤ 4) (h : c * 2 ^ d ≤ 128) : pw (c * 2 ^ d) := by
  unfold pw at hc ⊢
  rcases (show d = 0 ∨ d = 1 ∨ d = 2 ∨ d = 3 ∨ d = 4 by omega) with rfl | rfl | rfl | rfl | rfl <;> simp at h ⊢ <;> omega
def swp {α : Type} (f : Nat → α) (j : Nat) : Nat → α := fun i => if i = j then f 3 else if i = 3 then f j else f i
theorem pA_swp {q : Nat → Nat} {j : Nat} (hj : j < 3) : va_up (pA q) j (some (q 3)) = pA (swp q j) := by
  funext i
  unfold va_up pA swp
  by_cases h : i = j
  · rw [if_pos h, if_pos (by omega), if_pos h]
  · rw [if_neg h]
    by_cases h3 : i < 3
    · rw [if_pos h3, if_pos h3, if_neg h, if_neg (by omega)]
    · rw [if_neg h3, if_neg h3]
def gW (ca a q : Nat → Nat) (j : Nat) (r : Bool × HS) : va_W := if r.1 = true then wH ca a (swp q j) r.2.1 r.2.2.1 r.2.2.2.1 r.2.2.2.2.1 (swp r.2.2.2.2.2.1 j) (swp r.2.2.2.2.2.2.1 j) (swp r.2.2.2.2.2.2.2 j) else wH ca a q r.2.1 r.2.2.1 r.2.2.2.1 r.2.2.2.2.1 r.2.2.2.2.2.1 r.2.2.2.2.2.2.1 r.2.2.2.2.2.2.2
/-- the two stores that make the spare part a map's -/
def wHs (ca a q : Nat → Nat) (j : Nat) (K V : IT) (T : BT) (C : IT) (B P : Nat → Nat) (S : IT) : va_W :=
  ((wH ca a q K V T C B P S).set 4 (a 4, .inl (ca 4, 3, .inr (.inr (.inr (.inr (va_up (pA q) j (some (q 3))))))))).set 0 (a 0, .inr (0, [.ref (a 1), .ref (a 2), .ref (a 3), .ref (a 4), .ref (a 5), .ref (q j)]))
theorem wHs_P {D : va_G} {ca a q : Nat → Nat} {j : Nat} {K V : IT} {T : BT} {C : IT} {B P : Nat → Nat} {S : IT} {H : Heap} (hj : j < 3) (h : va_P D hCl (wHs ca a q j K V T C B P S) H) : va_P D hCl (wH ca a (swp q j) K V T C (swp B j) (swp P j) (swp S j)) H := by
  unfold wHs at h
  rw [pA_swp hj] at h
  rcases (show j = 0 ∨ j = 1 ∨ j = 2 by omega) with rfl | rfl | rfl
  · exact h.sub [0, 1, 2, 3, 4, 5, 9, 7, 8, 6] rfl
  · exact h.sub [0, 1, 2, 3, 4, 5, 6, 9, 8, 7] rfl
  · exact h.sub [0, 1, 2, 3, 4, 5, 6, 7, 9, 8] rfl
theorem wHs_D {A : Nat → Prop} {ca a q : Nat → Nat} {j : Nat} {K V : IT} {T : BT} {C : IT} {B P : Nat → Nat} {S : IT} {K' V' : IT} {T' : BT} {C' : IT} {B' P' : Nat → Nat} {S' : IT} (hj : j < 3) (h : va_D A (wH ca a q K V T C B P S)) : va_D A (wH ca a (swp q j) K' V' T' C' B' P' S') := by
  rcases (show j = 0 ∨ j = 1 ∨ j = 2 by omega) with rfl | rfl | rfl
  · exact va_Das (h.sub (ws' := [0, 1, 2, 3, 4, 5, 9, 7, 8, 6].filterMap (fun i => (wH ca a q K V T C B P S)[i]?)) [0, 1, 2, 3, 4, 5, 9, 7, 8, 6] (by decide) rfl) rfl
  · exact va_Das (h.sub (ws' := [0, 1, 2, 3, 4, 5, 6, 9, 8, 7].filterMap (fun i => (wH ca a q K V T C B P S)[i]?)) [0, 1, 2, 3, 4, 5, 6, 9, 8, 7] (by decide) rfl) rfl
  · exact va_Das (h.sub (ws' := [0, 1, 2, 3, 4, 5, 6, 7, 9, 8].filterMap (fun i => (wH ca a q K V T C B P S)[i]?)) [0, 1, 2, 3, 4, 5, 6, 7, 9, 8] (by decide) rfl) rfl
theorem gW_D {A : Nat → Prop} {ca a q : Nat → Nat} {j : Nat} {r : Bool × HS} {K V : IT} {T : BT} {C : IT} {B P : Nat → Nat} {S : IT} (hj : j < 3) (h : va_D A (wH ca a q K V T C B P S)) : va_D A (gW ca a q j r) := by
  unfold gW
  by_cases e : r.1 = true
  · rw [if_pos e]; exact wHs_D hj h
  · rw [if_neg e]; exact va_Das h wH_a
end
section
set_option maxHeartbeats 4000000 in
set_option maxRecDepth 100000 in
/-- growWith -/
theorem c_Hop_growWith (l : Launch) (D : va_G) (ca a q : Nat → Nat) (K V : IT) (T : BT) (C : IT) (B P : Nat → Nat) (S : IT) (j : Nat) (key val : Int32) (hj : j < 3) (hc : pw (P j)) (hG : GI (P 0 + P 1 + P 2) (P j) j B P) : Met l y_Hop_growWith w_Hop_growWith (rmD 5 0 0) (va_Pc [.ref (a 0), .int (nI j), .int key, .int val] (hb_W D hCl (wH ca a q K V T C B P S) (tyH ca))) (hq_W (some (.int (bI (grw j (P j) (P 0 + P 1 + P 2) key val 4 1 (S j) (K, V, T, C, B, P, S)).1))) D hCl (gW ca a q j (grw j (P j) (P 0 + P 1 + P 2) key val 4 1 (S j) (K, V, T, C, B, P, S))) (hA (wH ca a q K V T C B P S))) 0 0 (hA (wH ca a q K V T C B P S)) := by
  refine Met.ofW (cc := b_Hop_growWith) (maxL := 10) (ret := some .boolean) (by decide) rfl ?_
  intro p e s m args below meth c0 s₁ B0 hml hv
  obtain ⟨rfl, hP, hK, hD0⟩ := hv
  have hx := B0.exec
  have hb := B0.bytes
  have hr := B0.returns
  have hts := atoms_spec (ws := w_Hop_growWith) B0.pre
  have hown : s.vm.findClass R_Hop = some m.cls := findClass_of_methodNamed B0.named
  have hlocks := B0.notSynchronized
  have hwA : ∀ w ∈ wsA, w.before ([.ref (a 0), .int (nI j), .int key, .int val] : List Value).toArray s = true := fun w h => hts w (List.mem_cons_of_mem _ h)
  have X : CallFix p m c0 b_Hop_growWith 10 s ([.ref (a 0), .int (nI j), .int key, .int val] : List Value).toArray wsA R_Hop := ⟨hx, hb, hml, hown, hwA⟩
  have hD := hA_D hD0
  have hS : va_S (hA (wH ca a q K V T C B P S)) s.heap s.heap [] := va_S.rf
  have hl := lv_entry ([.ref (a 0), .int (nI j), .int key, .int val]) (n := 10) (Nat.le_of_ble_eq_true rfl)
  rw [lg_entry_eq]
  generalize (lg_sl ([.ref (a 0), .int (nI j), .int key, .int val]) ++ List.replicate (10 - (lg_sl ([.ref (a 0), .int (nI j), .int key, .int val])).length) Slot.unset).toArray = ls at hl ⊢
  have hl : lv_has ls 10 [(0, .ref (a 0)), (1, .int (nI j)), (2, .int key), (3, .int val)] := hl
  have hj4 : j < 4 := by omega
  have hP8 := pw_le hc
  have loop : ∀ (n d : Nat) (sd : Int32) (ls : Array Slot) (H : Heap) (locs : List Loc) (K' V' : IT) (T' : BT) (C' : IT) (B' P' : Nat → Nat) (S' : IT), d + n = 5 → 1 ≤ d → GI (P 0 + P 1 + P 2) (P j) j B' P' → grw j (P j) (P 0 + P 1 + P 2) key val n d sd (K', V', T', C', B', P', S') = (grw j (P j) (P 0 + P 1 + P 2) key val 4 1 (S j) (K, V, T, C, B, P, S)) → va_P D hCl (wH ca a q K' V' T' C' B' P' S') H → va_D (hA (wH ca a q K V T C B P S)) (wH ca a q K' V' T' C' B' P' S') → va_S (hA (wH ca a q K V T C B P S)) s.heap H locs → lv_has ls 10 [(8, .int (nI d)), (7, .int sd), (6, .int (nI (P 0 + P 1 + P 2))), (5, .ref (q 3)), (4, .ref (q j)), (0, .ref (a 0)), (1, .int (nI j)), (2, .int key), (3, .int val)] → W p l e (headSpec w_Hop_growWith (rmD 5 0 0)).room s m ([.ref (a 0), .int (nI j), .int key, .int val] : List Value).toArray below meth c0 H locs 0 0 (MQ below (hq_W (some (.int (bI (grw j (P j) (P 0 + P 1 + P 2) key val 4 1 (S j) (K, V, T, C, B, P, S)).1))) D hCl (gW ca a q j (grw j (P j) (P 0 + P 1 + P 2) key val 4 1 (S j) (K, V, T, C, B, P, S))) (hA (wH ca a q K V T C B P S))) ([.ref (a 0), .int (nI j), .int key, .int val] : List Value).toArray s 0 0 (hA (wH ca a q K V T C B P S))) (F0 m 30 ls []) := by
    intro n
    induction n with
    | zero =>
      intro d sd ls H locs K' V' T' C' B' P' S' hd hd1 hG' hR hP hD hS hl
      refine lv_iload hx hb d_Hop_growWith_30 (lv_at hl 0 rfl) ?_
      refine lv_iconst (v := 4) hx hb d_Hop_growWith_32 (by decide) ?_
      refine lvT_icmp_gt (tgt := 131) hx hb d_Hop_growWith_33 (by decide) (nI_lt (a := 4) (b := d) (by omega) (by omega)) ?_
      refine lv_iconst (v := 0) hx hb d_Hop_growWith_131 (by decide) ?_
      have hR1 : (grw j (P j) (P 0 + P 1 + P 2) key val 4 1 (S j) (K, V, T, C, B, P, S)) = (false, (K', V', T', C', B', P', S')) := hR.symm
      exact W.zret (v := 0) hx hb hr rfl (fun t ht hW => ⟨by rw [hR1]; rfl, by rw [ht, hR1]; exact hP, hS.F ht⟩) hS.2.2 d_Hop_growWith_132
    | succ n ih =>
      intro d sd ls H locs K' V' T' C' B' P' S' hd hd1 hG' hR hP hD hS hl
      have hsb := sh_bd hP8 (show d ≤ 4 by omega)
      obtain ⟨cp, hcp⟩ : ∃ z, z = P j * 2 ^ d := ⟨_, rfl⟩
      rw [← hcp] at hsb
      have hb3 := hG'.1
      have hs256 : P 0 + P 1 + P 2 ≤ 768 := by have e0 := hb3 0 (by decide); have e1 := hb3 1 (by decide); have e2 := hb3 2 (by decide); have e3 := hG'.2.2.2.1; omega
      refine lv_iload hx hb d_Hop_growWith_30 (lv_at hl 0 rfl) ?_
      refine lv_iconst (v := 4) hx hb d_Hop_growWith_32 (by decide) ?_
      refine lvF_icmp_gt (tgt := 131) hx hb d_Hop_growWith_33 (by decide) (nI_nlt (a := 4) (b := d) (by omega) (by omega)) ?_
      refine lv_aload hx hb d_Hop_growWith_36 (lv_at hl 4 rfl) ?_
      refine hg_capacity X hK hP hj4 d_Hop_growWith_38 ?_
      refine lv_iload hx hb d_Hop_growWith_41 (lv_at hl 0 rfl) ?_
      refine lv_ishl hx hb d_Hop_growWith_43 ?_
      refine lv_tope (y := nI cp) (by rw [hG'.2.2.2.2, hcp]; exact pk_shlN _ d (shD d (by omega)) (by rw [← hcp]; omega)) ?_
      refine lv_istore (lv' := [(9, .int (nI cp)), (8, .int (nI d)), (7, .int sd), (6, .int (nI (P 0 + P 1 + P 2))), (5, .ref (q 3)), (4, .ref (q j)), (0, .ref (a 0)), (1, .int (nI j)), (2, .int key), (3, .int val)]) hx hb d_Hop_growWith_44 hl (by decide) rfl (fun ls hl => ?_)
      refine lv_iload hx hb d_Hop_growWith_46 (lv_at hl 0 rfl) ?_
      refine lv_sipush (v := 128) hx hb d_Hop_growWith_48 (by decide) ?_
      refine lv_icmp_gt (tgt := 65) hx hb d_Hop_growWith_51 (by decide) (fun h1 => ?_) (fun h1 => ?_)
      · refine lv_iconst (v := 0) hx hb d_Hop_growWith_65 (by decide) ?_
        have h1n : 128 < P j * 2 ^ d := by rw [← hcp]; exact (nI_ltI (a := 128) (b := cp) (by omega) (by omega)).mp h1
        have hR1 : (grw j (P j) (P 0 + P 1 + P 2) key val 4 1 (S j) (K, V, T, C, B, P, S)) = (false, (K', V', T', C', B', P', S')) := hR.symm.trans (if_pos (Or.inl h1n))
        exact W.zret (v := 0) hx hb hr rfl (fun t ht hW => ⟨by rw [hR1]; rfl, by rw [ht, hR1]; exact hP, hS.F ht⟩) hS.2.2 d_Hop_growWith_66
      · have h1n : ¬ 128 < cp := fun z => h1 ((nI_ltI (a := 128) (b := cp) (by omega) (by omega)).mpr z)
        refine lv_iload hx hb d_Hop_growWith_54 (lv_at hl 3 rfl) ?_
        refine lv_iload hx hb d_Hop_growWith_56 (lv_at hl 0 rfl) ?_
        refine lv_iadd hx hb d_Hop_growWith_58 ?_
        refine lv_tope (y := nI (P 0 + P 1 + P 2 + cp)) (nI_add _ _) ?_
        refine lv_sipush (v := 256) hx hb d_Hop_growWith_59 (by decide) ?_
        refine lv_icmp_le (tgt := 67) hx hb d_Hop_growWith_62 (by decide) (fun h2 => ?_) (fun h2 => ?_)
        · have h2n : P 0 + P 1 + P 2 + cp ≤ 256 := (nI_leI (a := P 0 + P 1 + P 2 + cp) (b := 256) (by omega) (by omega)).mp h2
          obtain ⟨hft, hG1⟩ := lay_inv (sd := sd * 1664525 + 1013904223) (K := K') (V := V') (T := T') (C := C') (S := S') hj hG' h2n
          refine lv_iload hx hb d_Hop_growWith_67 (lv_at hl 2 rfl) ?_
          refine lv_ldc (v := 1664525) hx hb hown (hwA (.constant R_Hop 139 (1664525)) m_227) d_Hop_growWith_69 ?_
          refine lv_imul hx hb d_Hop_growWith_71 ?_
          refine lv_ldc (v := 1013904223) hx hb hown (hwA (.constant R_Hop 140 (1013904223)) m_228) d_Hop_growWith_72 ?_
          refine lv_iadd hx hb d_Hop_growWith_74 ?_
          refine lv_tope (y := sd * 1664525 + 1013904223) (rfl) ?_
          refine lv_istore (lv' := [(7, .int (sd * 1664525 + 1013904223)), (9, .int (nI cp)), (8, .int (nI d)), (6, .int (nI (P 0 + P 1 + P 2))), (5, .ref (q 3)), (4, .ref (q j)), (0, .ref (a 0)), (1, .int (nI j)), (2, .int key), (3, .int val)]) hx hb d_Hop_growWith_75 hl (by decide) rfl (fun ls hl => ?_)
          refine lv_aload_n hx hb d_Hop_growWith_77 rfl (lv_at hl 6 rfl) ?_
          refine lv_aload hx hb d_Hop_growWith_78 (lv_at hl 4 rfl) ?_
          refine lv_iload hx hb d_Hop_growWith_80 (lv_at hl 1 rfl) ?_
          refine lv_iload hx hb d_Hop_growWith_82 (lv_at hl 0 rfl) ?_
          refine k_layOut X hK hP hD hS hl.1 (cp := cp) (sd := sd * 1664525 + 1013904223) (hb3 0 (by decide)) (hb3 1 (by decide)) (hb3 2 (by decide)) (by omega) (hft) (Nat.le_of_ble_eq_true rfl) ⟨Nat.zero_le _, Nat.zero_le _⟩ ⟨Nat.le_of_ble_eq_true rfl, Nat.le_of_ble_eq_true rfl⟩ d_Hop_growWith_84 (fun H locs hP hD hS => ?_)
          have hR : grC (fun Z => grw j (P j) (P 0 + P 1 + P 2) key val n (d + 1) (sd * 1664525 + 1013904223) Z) j key val (lay cp (sd * 1664525 + 1013904223) (K', V', T', C', B', P', S')) = (grw j (P j) (P 0 + P 1 + P 2) key val 4 1 (S j) (K, V, T, C, B, P, S)) := by rw [← hR, hcp]; exact (if_neg (by rw [← hcp]; omega)).symm
          have h3B : (lay cp (sd * 1664525 + 1013904223) (K', V', T', C', B', P', S')).2.2.2.2.1 3 + (lay cp (sd * 1664525 + 1013904223) (K', V', T', C', B', P', S')).2.2.2.2.2.1 3 ≤ 256 := by rw [lay_B3, lay_P3]; exact hft
          have h3P : (lay cp (sd * 1664525 + 1013904223) (K', V', T', C', B', P', S')).2.2.2.2.2.1 3 = cp := lay_P3 _ _ _
          generalize lay cp (sd * 1664525 + 1013904223) (K', V', T', C', B', P', S') = Z1 at hP hD hR hG1 h3B h3P
          obtain ⟨K1, V1, T1, C1, B1, P1, S1⟩ := Z1
          have hP : va_P D hCl (wH ca a q K1 V1 T1 C1 B1 P1 S1) H := hP
          have hD : va_D (hA (wH ca a q K V T C B P S)) (wH ca a q K1 V1 T1 C1 B1 P1 S1) := hD
          have hG1 : GI (P 0 + P 1 + P 2) (P j) j B1 P1 := hG1
          have hb33 : B1 3 + P1 3 ≤ 256 := h3B
          have h3P : P1 3 = cp := h3P
          have hpc : pw (P1 3) := by rw [h3P, hcp]; exact pw_sh hc (by omega) (by rw [← hcp]; omega)
          refine lv_aload_n hx hb d_Hop_growWith_87 rfl (lv_at hl 6 rfl) ?_
          refine lv_aload hx hb d_Hop_growWith_88 (lv_at hl 5 rfl) ?_
          refine lv_aload hx hb d_Hop_growWith_90 (lv_at hl 4 rfl) ?_
          refine k_insertAnew X hK hP hD hS hl.1 (j := j) (k0 := 3) hj4 (by decide) (hG1.1 j hj) hpc hb33 (Nat.le_of_ble_eq_true rfl) ⟨Nat.zero_le _, Nat.zero_le _⟩ ⟨Nat.le_of_ble_eq_true rfl, Nat.le_of_ble_eq_true rfl⟩ d_Hop_growWith_92 (fun H locs hP hD hS => ?_)
          have hR : grD (fun Z => grw j (P j) (P 0 + P 1 + P 2) key val n (d + 1) (sd * 1664525 + 1013904223) Z) key val (K1, V1, T1, C1, B1, P1, S1) (anw (B1 3) (P1 3) (S1 3) (B1 j) (P1 j) (K1, V1, T1, C1)) = (grw j (P j) (P 0 + P 1 + P 2) key val 4 1 (S j) (K, V, T, C, B, P, S)) := hR
          generalize anw (B1 3) (P1 3) (S1 3) (B1 j) (P1 j) (K1, V1, T1, C1) = r1 at hP hD hR ⊢
          obtain ⟨b1, K2, V2, T2, C2⟩ := r1
          have hP : va_P D hCl (wH ca a q K2 V2 T2 C2 B1 P1 S1) H := hP
          have hD : va_D (hA (wH ca a q K V T C B P S)) (wH ca a q K2 V2 T2 C2 B1 P1 S1) := hD
          refine lv_if_eq (tgt := 125) hx hb d_Hop_growWith_95 (by decide) (fun h3 => ?_) (fun h3 => ?_)
          · refine lv_iinc (k := 2) (v := nI (d + 1)) (lv' := [(8, .int (nI (d + 1))), (7, .int (sd * 1664525 + 1013904223)), (9, .int (nI cp)), (6, .int (nI (P 0 + P 1 + P 2))), (5, .ref (q 3)), (4, .ref (q j)), (0, .ref (a 0)), (1, .int (nI j)), (2, .int key), (3, .int val)]) hx hb d_Hop_growWith_125 hl rfl (inc1 d) (by decide) rfl (fun ls hl => ?_)
            refine lv_goto (tgt := 30) hx hb d_Hop_growWith_128 (by decide) ?_
            exact ih (d + 1) (sd * 1664525 + 1013904223) ls H locs _ _ _ _ _ _ _ (by omega) (by omega) hG1 (by rw [← hR]; exact (if_neg (by rw [show (b1, K2, V2, T2, C2).1 = false from bI_0.mp h3]; decide)).symm) hP hD hS (lv_sub hl [0, 1, 3, 4, 5, 6, 7, 8, 9] rfl)
          · refine lv_aload_n hx hb d_Hop_growWith_98 rfl (lv_at hl 6 rfl) ?_
            refine lv_aload hx hb d_Hop_growWith_99 (lv_at hl 4 rfl) ?_
            refine lv_iload_n hx hb d_Hop_growWith_101 rfl (lv_at hl 8 rfl) ?_
            refine lv_iload_n hx hb d_Hop_growWith_102 rfl (lv_at hl 9 rfl) ?_
            refine k_insert X hK hP hD hS hl.1 (key := key) (val := val) (by decide) hpc hb33 (Nat.le_of_ble_eq_true rfl) ⟨Nat.zero_le _, Nat.zero_le _⟩ ⟨Nat.le_of_ble_eq_true rfl, Nat.le_of_ble_eq_true rfl⟩ d_Hop_growWith_103 (fun H locs hP hD hS => ?_)
            have hR : grE (fun Z => grw j (P j) (P 0 + P 1 + P 2) key val n (d + 1) (sd * 1664525 + 1013904223) Z) (K1, V1, T1, C1, B1, P1, S1) (ins (B1 3) (P1 3) (S1 3) key val (K2, V2, T2, C2)) = (grw j (P j) (P 0 + P 1 + P 2) key val 4 1 (S j) (K, V, T, C, B, P, S)) := by rw [← hR]; exact (if_pos (bI_n0.mp h3)).symm
            generalize ins (B1 3) (P1 3) (S1 3) key val (K2, V2, T2, C2) = r2 at hP hD hR ⊢
            obtain ⟨b2, K3, V3, T3, C3⟩ := r2
            have hP : va_P D hCl (wH ca a q K3 V3 T3 C3 B1 P1 S1) H := hP
            have hD : va_D (hA (wH ca a q K V T C B P S)) (wH ca a q K3 V3 T3 C3 B1 P1 S1) := hD
            refine lv_if_eq (tgt := 125) hx hb d_Hop_growWith_106 (by decide) (fun h4 => ?_) (fun h4 => ?_)
            · refine lv_iinc (k := 2) (v := nI (d + 1)) (lv' := [(8, .int (nI (d + 1))), (7, .int (sd * 1664525 + 1013904223)), (9, .int (nI cp)), (6, .int (nI (P 0 + P 1 + P 2))), (5, .ref (q 3)), (4, .ref (q j)), (0, .ref (a 0)), (1, .int (nI j)), (2, .int key), (3, .int val)]) hx hb d_Hop_growWith_125 hl rfl (inc1 d) (by decide) rfl (fun ls hl => ?_)
              refine lv_goto (tgt := 30) hx hb d_Hop_growWith_128 (by decide) ?_
              exact ih (d + 1) (sd * 1664525 + 1013904223) ls H locs _ _ _ _ _ _ _ (by omega) (by omega) hG1 (by rw [← hR]; exact (if_neg (by rw [show (b2, K3, V3, T3, C3).1 = false from bI_0.mp h4]; decide)).symm) hP hD hS (lv_sub hl [0, 1, 3, 4, 5, 6, 7, 8, 9] rfl)
            · refine lv_aload_n hx hb d_Hop_growWith_109 rfl (lv_at hl 6 rfl) ?_
              refine hg_parts X hK hP d_Hop_growWith_110 ?_
              refine lv_iload_n hx hb d_Hop_growWith_113 rfl (lv_at hl 7 rfl) ?_
              refine lv_aload hx hb d_Hop_growWith_114 (lv_at hl 4 rfl) ?_
              refine va_astq (r := (R_Part, F_Part, 3)) hx hb hK hP hD hS 4 3 9 1 rfl rfl rfl rfl (vp_in_nI hj (by decide)) d_Hop_growWith_116 (fun H locs hP hD hS => ?_)
              rw [nI_clamp (by omega)] at hP hD
              refine lv_aload_n hx hb d_Hop_growWith_117 rfl (lv_at hl 6 rfl) ?_
              refine lv_aload hx hb d_Hop_growWith_118 (lv_at hl 5 rfl) ?_
              refine va_put (D := D) (ci := 0) (v := .ref (q j)) (ty := .object "HopArena$Part") (C := R_Hop) (T := F_Hop) (N := 6) hx hb hwA hin_Hop t_Hop t_Hop_ok n_Hop hown hK hP hD hS 0 rfl rfl 5 (by decide) (hwA (.fieldLink R_Hop 32 "HopArena" "spare" "LHopArena$Part;") m_86) (fun _ h9 => h9) rfl (by decide +kernel) rfl rfl (Nat.le_of_ble_eq_true rfl) d_Hop_growWith_120 (fun H locs hP hD hS => ?_)
              have hP := wHs_P hj (show va_P D hCl (wHs ca a q j K3 V3 T3 C3 B1 P1 S1) H from hP)
              refine lv_iconst (v := 1) hx hb d_Hop_growWith_123 (by decide) ?_
              have hR1 : (grw j (P j) (P 0 + P 1 + P 2) key val 4 1 (S j) (K, V, T, C, B, P, S)) = (true, K3, V3, T3, C3, B1, P1, S1) := by rw [← hR]; exact if_pos (bI_n0.mp h4)
              exact W.zret (v := 1) hx hb hr rfl (fun t ht hW => ⟨by rw [hR1]; rfl, by rw [ht, hR1]; exact hP, hS.F ht⟩) hS.2.2 d_Hop_growWith_124
        · refine lv_iconst (v := 0) hx hb d_Hop_growWith_65 (by decide) ?_
          have h2n : 256 < P 0 + P 1 + P 2 + P j * 2 ^ d := by rw [← hcp]; exact Nat.not_le.mp (fun z => h2 ((nI_leI (a := P 0 + P 1 + P 2 + cp) (b := 256) (by omega) (by omega)).mpr z))
          have hR1 : (grw j (P j) (P 0 + P 1 + P 2) key val 4 1 (S j) (K, V, T, C, B, P, S)) = (false, (K', V', T', C', B', P', S')) := hR.symm.trans (if_pos (Or.inr h2n))
          exact W.zret (v := 0) hx hb hr rfl (fun t ht hW => ⟨by rw [hR1]; rfl, by rw [ht, hR1]; exact hP, hS.F ht⟩) hS.2.2 d_Hop_growWith_66
  refine lv_aload_n hx hb d_Hop_growWith_0 rfl (lv_at hl 0 rfl) ?_
  refine hg_parts X hK hP d_Hop_growWith_1 ?_
  refine lv_iload_n hx hb d_Hop_growWith_4 rfl (lv_at hl 1 rfl) ?_
  refine hl_P X hK hP (i := j) (hj) d_Hop_growWith_5 ?_
  refine lv_astore (lv' := [(4, .ref (q j)), (0, .ref (a 0)), (1, .int (nI j)), (2, .int key), (3, .int val)]) hx hb d_Hop_growWith_6 hl (by decide) rfl (fun ls hl => ?_)
  refine lv_aload_n hx hb d_Hop_growWith_8 rfl (lv_at hl 1 rfl) ?_
  refine hg_spare X hK hP d_Hop_growWith_9 ?_
  refine lv_astore (lv' := [(5, .ref (q 3)), (4, .ref (q j)), (0, .ref (a 0)), (1, .int (nI j)), (2, .int key), (3, .int val)]) hx hb d_Hop_growWith_12 hl (by decide) rfl (fun ls hl => ?_)
  refine lv_aload_n hx hb d_Hop_growWith_14 rfl (lv_at hl 2 rfl) ?_
  refine k_sumOfCapacities X hK hP hl.1 (Nat.le_of_ble_eq_true rfl) ⟨Nat.zero_le _, Nat.zero_le _⟩ ⟨Nat.le_of_ble_eq_true rfl, Nat.le_of_ble_eq_true rfl⟩ d_Hop_growWith_15 ?_
  refine lv_istore (lv' := [(6, .int (nI (P 0 + P 1 + P 2))), (5, .ref (q 3)), (4, .ref (q j)), (0, .ref (a 0)), (1, .int (nI j)), (2, .int key), (3, .int val)]) hx hb d_Hop_growWith_18 hl (by decide) rfl (fun ls hl => ?_)
  refine lv_aload hx hb d_Hop_growWith_20 (lv_at hl 2 rfl) ?_
  refine hg_seed X hK hP hj4 d_Hop_growWith_22 ?_
  refine lv_istore (lv' := [(7, .int (S j)), (6, .int (nI (P 0 + P 1 + P 2))), (5, .ref (q 3)), (4, .ref (q j)), (0, .ref (a 0)), (1, .int (nI j)), (2, .int key), (3, .int val)]) hx hb d_Hop_growWith_25 hl (by decide) rfl (fun ls hl => ?_)
  refine lv_iconst (v := 1) hx hb d_Hop_growWith_27 (by decide) ?_
  refine lv_istore (lv' := [(8, .int 1), (7, .int (S j)), (6, .int (nI (P 0 + P 1 + P 2))), (5, .ref (q 3)), (4, .ref (q j)), (0, .ref (a 0)), (1, .int (nI j)), (2, .int key), (3, .int val)]) hx hb d_Hop_growWith_28 hl (by decide) rfl (fun ls hl => ?_)
  exact loop 4 1 (S j) ls s.heap [] K V T C B P S (by omega) (by omega) hG rfl hP hD hS hl
section HKB
variable {p : Program} {l : Launch} {e : Env} {R : Room} {s : State} {m : MethodId} {args : Array Value} {below : List Frame} {meth : Method} {c : Code} {H : Heap} {locs : List Loc} {cells slots : Nat} {Q : State → Prop}
variable {cc : ByteArray} {pc nL : Nat} {ls : Array Slot} {rest st0 : List Value} {D : va_G} {A : Nat → Prop} {H0 : Heap} {ca a q : Nat → Nat} {K V : IT} {T : BT} {C : IT} {B P : Nat → Nat} {S : IT}
theorem k_growWith (X : CallFix p m c cc nL s args wsA R_Hop) (hK : va_K D hCl (tyH ca) s) (hP : va_P D hCl (wH ca a q K V T C B P S) H) (hD : va_D A (wH ca a q K V T C B P S)) (hS : va_S A H0 H locs) (hsz : ls.size = nL) {j : Nat} {key val : Int32} (hj : j < 3) (hc : pw (P j)) (hG : GI (P 0 + P 1 + P 2) (P j) j B P) (hrm : (rest.map fun v => v.category).sum ≤ 8) (hf : cells ≤ R.cells ∧ slots ≤ R.slots) (hR : 6 ≤ R.frames ∧ 180 ≤ R.locals) (d : decode cc pc = .ok (.invokevirtual 48, 3)) (k : ∀ (H1 : Heap) (locs1 : List Loc), va_P D hCl (gW ca a q j (grw j (P j) (P 0 + P 1 + P 2) key val 4 1 (S j) (K, V, T, C, B, P, S))) H1 → va_D A (gW ca a q j (grw j (P j) (P 0 + P 1 + P 2) key val 4 1 (S j) (K, V, T, C, B, P, S))) → va_S A H0 H1 locs1 → W p l e R s m args below meth c H1 locs1 cells slots Q (F0 m (pc + 3) ls (.int (bI (grw j (P j) (P 0 + P 1 + P 2) key val 4 1 (S j) (K, V, T, C, B, P, S)).1) :: rest))) : W p l e R s m args below meth c H locs cells slots Q (F0 m pc ls (.int val :: .int key :: .int (nI j) :: .ref (a 0) :: rest)) :=
  hw_call (va_runV (As := [.int (nI j), .int key, .int val]) (C := R_Hop) (rest := rest) X (c_Hop_growWith l D ca a q K V T C B P S j key val hj hc hG) (cwV 3 X.2.2.2.2 g_Hop_growWith rfl rfl rfl (by decide +kernel) ⟨by show 5 + 1 ≤ _; omega, by show 8 + (10 + 11) + 30 * 5 ≤ _; omega⟩) (hb_preW hP hK hD (va_recv (q0 := 0) (ci := 0) (q := (R_Hop, F_Hop, 6)) hK hP rfl rfl)) rfl rfl hsz rfl (lv_room hrm) d hf) hS (hA_sub hD) (fun H1 locs1 h1 _ h2 => k H1 locs1 h1 (gW_D hj hD) h2)
end HKB
end
section
/-! ===== BEGIN exceptions that leave a method, and their catching by the caller (launches without stack traces) ===== -/
section VXA
/-! The laws vx_back, vx_callV, vx_callS, vx_callSW, vx_throw0, vx_throwS follow proofs of the library, with one case more: JvmDerived/Free/Laws.lean (Back.of_free), Shelf42/LK1.lean (callV, callS), Shelf/KitTraced.lean (throwNew0V, throwNewS). -/
/-- where a method has thrown q: the class by its name, the cell, what was written, the world -/
def vx_T (XC : String → State → State → Prop) (st : State) (q : Addr) (t : State) (mc ms : Nat) (free : Addr → Prop) : Prop :=
  ∃ (E : String) (ce : Cell) (L : List Loc), XC E st t ∧ t.heap[q]? = some ce ∧ ce.vm = .none ∧ st.vm.findClass E = some ce.cls ∧ st.WarmedH t.vm ∧ st.sameButNew ({ t with vm := st.vm } : State) L mc ms ∧ ∀ z ∈ L, free z.base
def vx_Q (Qc : Array Value → State → Outcome → State → Prop) (XC : String → State → State → Prop) (mc ms : Nat) (free : Addr → Prop) : Array Value → State → Outcome → State → Prop := fun a st o t =>
  (Qc a st o t ∧ ∃ L, FrameEnd st o t L mc ms ∧ ∀ q ∈ L, free q.base) ∨ ∃ q, o = .threw q ∧ vx_T XC st q t mc ms free
/-- a callee that returns or throws -/
def vx_Met (l : Launch) (y : MethodName) (ws : List Cond) (rm : Room) (Pc : Array Value → State → Prop) (Qc : Array Value → State → Outcome → State → Prop) (XC : String → State → State → Prop) (mc ms : Nat) (free : Addr → Prop) : Prop :=
  MetFree l y (headSpec ws rm) Pc (fun _ _ _ _ _ => True) (vx_Q Qc XC mc ms free)
def vx_Post (XC : String → State → State → Prop) (mc ms : Nat) (free : Addr → Prop) : Pt → Array Value → Addr → Pt → Prop := fun A a q B =>
  ∃ (g : JFrame) (mk : MethodId) (t : State) (L : List Loc) (E : String) (ce : Cell), B.U.heap = t.heap ∧ B.U.vm = t.vm ∧ XC E (A.U.calling g mk a) t ∧ t.heap[q]? = some ce ∧ ce.vm = .none ∧ A.U.vm.findClass E = some ce.cls ∧ B.locs = A.locs ++ L ∧ (∀ z ∈ L, free z.base) ∧ B.cells = A.cells + mc ∧ B.slots = A.slots + ms
def vx_Back (l : Launch) (R : Room) (p : Program) (e : Env) (below : List Frame) (s : State) (sargs : Array Value) (y : MethodName) (len W9 : Nat)
    (Pre : Pt → Array Value → Prop) (Post : Pt → Array Value → Option Value → Pt → Prop) (PostX : Pt → Array Value → Addr → Pt → Prop) : Prop :=
  ∀ (m : MethodId) (meth : Method) (c : Code) (A : Pt) (g : JFrame) (ig : Instr) (mk : MethodId) (a : Array Value),
    Stand p l e R s m sargs below meth c A.U A.locs A.cells A.slots → g.method = m → g.locals.size = c.maxLocals → decode c.code g.pc = .ok (ig, len) →
    2 * g.monitorRoom + (g.stack.map fun v => v.category).sum ≤ W9 → A.U.methodNamed? y = some mk → Pre A a →
    (∃ (v : Option Value) (B : Pt), Stand p l e R s m sargs below meth c B.U B.locs B.cells B.slots ∧ Post A a v B ∧
      Steps p.tables e below (doInvoke e (A.U.setTop g) [] mk a).1 (B.U.setTop { g with pc := g.pc + len, stack := v.toList ++ g.stack })) ∨
    (∃ (q : Addr) (B : Pt), Stand p l e R s m sargs below meth c B.U B.locs B.cells B.slots ∧ PostX A a q B ∧
      Steps p.tables e below (doInvoke e (A.U.setTop g) [] mk a).1 ((B.U.setTop g).pushFrame (.throwing q)))
section Payer
variable {l : Launch} {R : Room} {p : Program} {e : Env} {below : List Frame} {s : State} {sargs : Array Value} {y : MethodName} {len W9 : Nat}
theorem vx_back {ws : List Cond} {rm : Room} {Pc : Array Value → State → Prop} {Qc : Array Value → State → Outcome → State → Prop} {XC : String → State → State → Prop} {mc ms : Nat} {free : Addr → Prop} {bytes : ByteArray} {maxL : Nat} {ret : Option FieldType}
    (hM : vx_Met l y ws rm Pc Qc XC mc ms free) (hblind : FrameBlind Pc) (hrc : rm.cells = mc) (hrs : rm.slots = ms)
    (hframes : rm.frames + 1 ≤ R.frames) (hlocals : W9 + (maxL + 11) + rm.locals ≤ R.locals)
    (hws : ∀ w ∈ ws, ∀ a' U, s.WarmedH U.vm → w.before a' U = true) (hcode : Cond.code y bytes maxL ret ∈ ws) (hinit : ∀ a' U, s.WarmedH U.vm → (Cond.initialized y.cls).before a' U = true) :
    vx_Back l R p e below s sargs y len W9 (PreOf R mc ms Pc) (PostOf Qc mc ms free) (vx_Post XC mc ms free) := by
  intro m meth c A g ig mk a X hg hsize hdg hW hn hp
  have h1 : (headSpec ws rm).pre.before a A.U = true := atoms_intro fun w hw => hws w hw _ _ X.warmed
  have h2 : (Cond.code y bytes maxL ret).before a A.U = true := hws _ hcode _ _ X.warmed
  have h3 : (Cond.initialized y.cls).before a A.U = true := hinit _ _ X.warmed
  have h4 : A.cells + (headSpec ws rm).room.cells ≤ R.cells := by rw [show (headSpec ws rm).room.cells = mc from hrc]; exact hp.1
  have h5 : A.slots + (headSpec ws rm).room.slots ≤ R.slots := by rw [show (headSpec ws rm).room.slots = ms from hrs]; exact hp.2.1
  have hPc : Pc a (A.U.calling g mk a) := hblind _ _ _ _ hp.2.2
  obtain ⟨U, Ls, c0, s0⟩ := A
  dsimp only [Pt.U, Pt.locs, Pt.cells, Pt.slots] at h1 h2 h3 h4 h5 X hn hPc ⊢
  obtain ⟨methY, cY, hmY, hcY, -, hlY, -, -, -, -⟩ := Cond.code_spec hn h2
  obtain ⟨kY, hkY, -⟩ := className_of_methodNamed hn
  have hinitY : kY.init = .initialized := Cond.initialized_spec (findClass_of_methodNamed hn) hkY h3
  have h : At U g.method c below := by rw [hg]; exact X.here
  have hlocals9 : W9 + (maxL + 11) + (headSpec ws rm).room.locals ≤ R.locals := hlocals
  have happ : (headSpec ws rm).appliesLoose y e.platform (U.calling g mk a) = true :=
    Spec.appliesLoose_calling (g := g) h hdg hn hkY hinitY
      (X.room_calling (g := g) (R' := (headSpec ws rm).room) hsize hmY hcY hframes (by rw [hlY]; omega) h4 h5) h1
  obtain ⟨mid, hmid⟩ := h.above
  have hfr : (U.setTop g).frames = (.java g :: mid) ++ below := by rw [State.frames_setTop' g h.top, hmid]; rfl
  obtain ⟨o, s₂, hsteps, -, hend, hq⟩ := Steps.callFree hM p X.admits X.cas X.clock (acts := []) hfr happ hPc trivial
  have hq' : vx_Q Qc XC mc ms free a (U.calling g mk a) o s₂ := hq
  rw [State.frames_setTop' g h.top] at hend
  obtain ⟨g₀, hg0⟩ := Option.isSome_iff_exists.mp h.top
  obtain ⟨r, hr⟩ := State.topJava?_eq_some.mp hg0
  have hr' : (({ U with heap := s₂.heap, slotsUsed := s₂.slotsUsed } : State).setVm s₂.vm).frames = .java g₀ :: r := hr
  rcases hq' with ⟨hqc, L, hfe, hL⟩ | ⟨q, rfl, E, ce, L, hx, hce, hcv, hcl, hW₂, hsm, hL⟩
  · obtain ⟨⟨v, rfl⟩, hW₂, e2, q2, q3, q4, q5, q6⟩ := id hfe
    have e3 : s₂ = ({ (U.calling g mk a).setFrames s₂.frames with heap := s₂.heap, slotsUsed := s₂.slotsUsed } : State).setVm s₂.vm := by
      have : s₂ = ({ s₂ with vm := (U.calling g mk a).vm } : State).setVm s₂.vm := rfl
      rw [e2] at this
      exact this
    obtain ⟨c₂, i₂, len₂, hc₂, hd₂, hf₂⟩ := hend
    have hW' : U.WarmedH s₂.vm := hW₂
    have hcc : c₂ = c := by
      have h1 : s₂.code? g.method = U.code? g.method := by
        rw [State.code?_eq, State.code?_eq, hW'.alike.method?]
      exact Option.some.inj (hc₂.symm.trans (h1.trans h.code))
    subst hcc
    have hlen : len₂ = len := by rw [hdg] at hd₂; cases hd₂; rfl
    subst hlen
    have hs₂ : s₂ = (({ U with heap := s₂.heap, slotsUsed := s₂.slotsUsed } : State).setVm s₂.vm).setTop { g with pc := g.pc + len₂, stack := v.toList ++ g.stack } := by
      refine e3.trans ?_
      rw [hf₂, State.calling_eq h.top, State.setFrames_setFrames, State.setTop_of_frames _ hr', hr]
      rfl
    have hsame : U.sameButNew ({ U with heap := s₂.heap, slotsUsed := s₂.slotsUsed } : State) L mc ms := by
      refine ⟨?_, q2, q3, q4, q5, q6⟩
      obtain ⟨t, ht, -⟩ := State.frames_cons hr
      show ({ U with heap := s₂.heap, slotsUsed := s₂.slotsUsed } : State) = { U.setFrames U.frames with heap := s₂.heap, slotsUsed := s₂.slotsUsed }
      rw [State.setFrames_self ht]
    subst hg
    refine Or.inl ⟨v, ⟨(({ U with heap := s₂.heap, slotsUsed := s₂.slotsUsed } : State).setVm s₂.vm), Ls ++ L, c0 + mc, s0 + ms⟩,
      ⟨X.admits, X.cas, X.clock, X.frames, X.room, X.hears, X.method, X.code, (X.here.setHeapUsed s₂.heap s₂.slotsUsed).setVm hW'.alike, X.tail, State.WarmedH.trans X.warmed hW', X.limits, X.bytes, X.same.trans (hsame.setVm s.vm)⟩,
      ⟨g, mk, s₂, L, rfl, rfl, hqc, rfl, hL, rfl, rfl⟩, ?_⟩
    show Steps p.tables e below _ ((({ U with heap := s₂.heap, slotsUsed := s₂.slotsUsed } : State).setVm s₂.vm).setTop { g with pc := g.pc + len₂, stack := v.toList ++ g.stack })
    rw [← hs₂]
    exact hsteps
  · obtain ⟨e2, q2, q3, q4, q5, q6⟩ := id hsm
    have e3 : s₂ = ({ (U.calling g mk a).setFrames s₂.frames with heap := s₂.heap, slotsUsed := s₂.slotsUsed } : State).setVm s₂.vm := by
      have : s₂ = ({ s₂ with vm := (U.calling g mk a).vm } : State).setVm s₂.vm := rfl
      rw [e2] at this
      exact this
    have hf₂ : s₂.frames = .throwing q :: .java g :: U.frames.tail := hend
    have hW' : U.WarmedH s₂.vm := hW₂
    have hs₂ : s₂ = ((({ U with heap := s₂.heap, slotsUsed := s₂.slotsUsed } : State).setVm s₂.vm).setTop g).pushFrame (.throwing q) := by
      refine e3.trans ?_
      rw [hf₂, State.calling_eq h.top, State.setFrames_setFrames, State.pushFrame, State.frames_setTop _ hr', State.setTop_of_frames _ hr', State.setFrames_setFrames, hr]
      rfl
    have hsame : U.sameButNew ({ U with heap := s₂.heap, slotsUsed := s₂.slotsUsed } : State) L mc ms := by
      refine ⟨?_, q2, q3, q4, q5, q6⟩
      obtain ⟨t, ht, -⟩ := State.frames_cons hr
      show ({ U with heap := s₂.heap, slotsUsed := s₂.slotsUsed } : State) = { U.setFrames U.frames with heap := s₂.heap, slotsUsed := s₂.slotsUsed }
      rw [State.setFrames_self ht]
    subst hg
    refine Or.inr ⟨q, ⟨(({ U with heap := s₂.heap, slotsUsed := s₂.slotsUsed } : State).setVm s₂.vm), Ls ++ L, c0 + mc, s0 + ms⟩,
      ⟨X.admits, X.cas, X.clock, X.frames, X.room, X.hears, X.method, X.code, (X.here.setHeapUsed s₂.heap s₂.slotsUsed).setVm hW'.alike, X.tail, State.WarmedH.trans X.warmed hW', X.limits, X.bytes, X.same.trans (hsame.setVm s.vm)⟩,
      ⟨g, mk, s₂, L, E, ce, rfl, rfl, hx, hce, hcv, hcl, rfl, hL, rfl, rfl⟩, ?_⟩
    show Steps p.tables e below _ (((({ U with heap := s₂.heap, slotsUsed := s₂.slotsUsed } : State).setVm s₂.vm).setTop g).pushFrame (.throwing q))
    rw [← hs₂]
    exact hsteps
end Payer
section Calls
variable {p : Program} {l : Launch} {e : Env} {R : Room} {s : State} {m : MethodId} {args : Array Value} {below : List Frame} {meth : Method} {c : Code} {T : State} {locs : List Loc} {cells slots : Nat}
theorem vx_callV (X : Stand p l e R s m args below meth c T locs cells slots) (hexec : p.tables.exec = Jvm.exec) {own C : String} {index : Nat} {y : MethodName} {bytes : ByteArray} {maxL : Nat} {ret : Option FieldType}
    (hown : s.vm.findClass own = some m.cls) (hlink : (Cond.methodLink own index y).before args s = true) (hinst : (Cond.instanceMethod y).before args s = true) (hsel : (Cond.selects C y y).before args s = true)
    (hcode : (Cond.code y bytes maxL ret).before args s = true) (hy : y.cls ≠ "java/lang/invoke/MethodHandle" ∧ y.cls ≠ "java/lang/invoke/VarHandle")
    {W9 : Nat} {Pre : Pt → Array Value → Prop} {Post : Pt → Array Value → Option Value → Pt → Prop} {PostX : Pt → Array Value → Addr → Pt → Prop} (hK : vx_Back l R p e below s args y 3 W9 Pre Post PostX)
    {b : Addr} {cellB : Cell} (hcell : T.heap[b]? = some cellB) (hobj : cellB.vm.isStatics = false) (hcls : s.vm.findClass C = some cellB.cls)
    {g : JFrame} (hg : g.method = m) (hsize : g.locals.size = c.maxLocals) {argsL rest : List Value} (hlen : ∀ sig, parseMethodDescriptor y.desc = some sig → argsL.length = sig.parameters.length)
    (hstack : g.stack = argsL.reverse ++ .ref b :: rest) (hW : 2 * g.monitorRoom + (rest.map fun v => v.category).sum ≤ W9) (hdg : decode c.code g.pc = .ok (.invokevirtual index, 3))
    (hpre : ∀ vm₁, s.WarmedH vm₁ → Pre ⟨T.setVm vm₁, locs, cells, slots⟩ (Value.ref b :: argsL).toArray) :
    (∃ (v : Option Value) (vm₁ : Vm) (B : Pt), s.WarmedH vm₁ ∧ Stand p l e R s m args below meth c B.U B.locs B.cells B.slots ∧ Post ⟨T.setVm vm₁, locs, cells, slots⟩ (Value.ref b :: argsL).toArray v B ∧
      ∀ target, Steps p.tables e below (B.U.setTop { g with pc := g.pc + 3, stack := v.toList ++ rest }) target → Steps p.tables e below (T.setTop g) target) ∨
    (∃ (q : Addr) (vm₁ : Vm) (B : Pt), s.WarmedH vm₁ ∧ Stand p l e R s m args below meth c B.U B.locs B.cells B.slots ∧ PostX ⟨T.setVm vm₁, locs, cells, slots⟩ (Value.ref b :: argsL).toArray q B ∧
      Steps p.tables e below (T.setTop g) ((B.U.setTop { g with stack := rest }).pushFrame (.throwing q))) := by
  obtain ⟨mk, methM, hnamed, hmethM, hstM, habM⟩ := Cond.instanceMethod_spec hinst
  obtain ⟨methM', cM, hmethM', -, -, -, -, -, -, hsigM⟩ := Cond.code_spec hnamed hcode
  cases hmethM.symm.trans hmethM'
  obtain ⟨c2, r2, m2, q1, q2, q3, q4, kP, hkP, hkPi⟩ := Cond.selects_spec hsel
  cases hcls.symm.trans q1
  cases (State.methodFound?_of_named hnamed hy).symm.trans q2
  cases hnamed.symm.trans q3
  have hselP : selectMethod e.platform s.vm cellB.cls mk = .method mk := by rw [Launch.admits_selectMethod X.admits]; exact q4
  obtain ⟨vm₁, X₁, hstep₁⟩ := X.invokevirtual hexec hown hlink hnamed hmethM hstM hkP hkPi hy (a := b) (cell := cellB) hcell
    (fun z h => by rw [h] at hobj; cases hobj) hselP hmethM habM hkP hkPi (g := g) hg (argsL := argsL) (rest := rest) (hlen _ hsigM) hstack hdg
  rcases hK m meth c ⟨T.setVm vm₁, locs, cells, slots⟩ { g with stack := rest } (.invokevirtual index) mk (Value.ref b :: argsL).toArray X₁ hg hsize hdg hW (X₁.named hnamed) (hpre vm₁ X₁.warmed) with ⟨v, B, X', hpost, hsteps⟩ | ⟨q, B, X', hpost, hsteps⟩
  · exact Or.inl ⟨v, vm₁, B, X₁.warmed, X', hpost, fun target h => hstep₁ _ fun acts => by rw [doInvoke_state]; exact hsteps.trans h⟩
  · exact Or.inr ⟨q, vm₁, B, X₁.warmed, X', hpost, hstep₁ _ fun acts => by rw [doInvoke_state]; exact hsteps⟩
theorem vx_callS (X : Stand p l e R s m args below meth c T locs cells slots) (hexec : p.tables.exec = Jvm.exec) {own : String} {index : Nat} {y : MethodName} {bytes : ByteArray} {maxL : Nat} {ret : Option FieldType}
    (hown : s.vm.findClass own = some m.cls) (hlink : (Cond.methodLink own index y).before args s = true) (hstat : (Cond.static y).before args s = true) (hinit : (Cond.initialized y.cls).before args s = true)
    (hcode : (Cond.code y bytes maxL ret).before args s = true) (hy : y.cls ≠ "java/lang/invoke/MethodHandle" ∧ y.cls ≠ "java/lang/invoke/VarHandle")
    {W9 : Nat} {Pre : Pt → Array Value → Prop} {Post : Pt → Array Value → Option Value → Pt → Prop} {PostX : Pt → Array Value → Addr → Pt → Prop} (hK : vx_Back l R p e below s args y 3 W9 Pre Post PostX)
    {g : JFrame} (hg : g.method = m) (hsize : g.locals.size = c.maxLocals) {argsL rest : List Value} (hlen : ∀ sig, parseMethodDescriptor y.desc = some sig → argsL.length = sig.parameters.length)
    (hstack : g.stack = argsL.reverse ++ rest) (hW : 2 * g.monitorRoom + (rest.map fun v => v.category).sum ≤ W9) (hdg : decode c.code g.pc = .ok (.invokestatic index, 3))
    (hpre : ∀ vm₁, s.WarmedH vm₁ → Pre ⟨T.setVm vm₁, locs, cells, slots⟩ argsL.toArray) :
    (∃ (v : Option Value) (vm₁ : Vm) (B : Pt), s.WarmedH vm₁ ∧ Stand p l e R s m args below meth c B.U B.locs B.cells B.slots ∧ Post ⟨T.setVm vm₁, locs, cells, slots⟩ argsL.toArray v B ∧
      ∀ target, Steps p.tables e below (B.U.setTop { g with pc := g.pc + 3, stack := v.toList ++ rest }) target → Steps p.tables e below (T.setTop g) target) ∨
    (∃ (q : Addr) (vm₁ : Vm) (B : Pt), s.WarmedH vm₁ ∧ Stand p l e R s m args below meth c B.U B.locs B.cells B.slots ∧ PostX ⟨T.setVm vm₁, locs, cells, slots⟩ argsL.toArray q B ∧
      Steps p.tables e below (T.setTop g) ((B.U.setTop { g with stack := rest }).pushFrame (.throwing q))) := by
  obtain ⟨mk, hnamed⟩ := Cond.code_named hcode
  obtain ⟨methM, cM, hmethM, -, -, -, -, -, -, hsigM⟩ := Cond.code_spec hnamed hcode
  have hstatic : methM.isStatic = true := Cond.static_spec hnamed hmethM hstat
  obtain ⟨kP, hkP, -⟩ := className_of_methodNamed hnamed
  have hinitP : kP.init = .initialized := Cond.initialized_spec (findClass_of_methodNamed hnamed) hkP hinit
  obtain ⟨vm₁, X₁, hstep₁⟩ := X.invokestatic hexec hown hlink hnamed hmethM hstatic hkP hinitP hy (g := g) hg (argsL := argsL) (rest := rest) (hlen _ hsigM) hstack hdg
  rcases hK m meth c ⟨T.setVm vm₁, locs, cells, slots⟩ { g with stack := rest } (.invokestatic index) mk argsL.toArray X₁ hg hsize hdg hW (X₁.named hnamed) (hpre vm₁ X₁.warmed) with ⟨v, B, X', hpost, hsteps⟩ | ⟨q, B, X', hpost, hsteps⟩
  · exact Or.inl ⟨v, vm₁, B, X₁.warmed, X', hpost, fun target h => hstep₁ _ fun acts => by rw [doInvoke_state]; exact hsteps.trans h⟩
  · exact Or.inr ⟨q, vm₁, B, X₁.warmed, X', hpost, hstep₁ _ fun acts => by rw [doInvoke_state]; exact hsteps⟩
end Calls
theorem vx_cls {s : State} {T : State} {vm₁ : Vm} {E : String} {k : ClassId} (hW : s.WarmedH vm₁) (h : (T.setVm vm₁).vm.findClass E = some k) : s.vm.findClass E = some k := by
  have h1 : vm₁.findClass E = some k := h
  rw [hW.alike.findClass] at h1
  exact h1
/-- the method's frame g, with q thrown over it -/
def vx_W (p : Program) (l : Launch) (e : Env) (R : Room) (s : State) (m : MethodId) (args : Array Value) (below : List Frame) (meth : Method) (c : Code) (H : Heap) (locs : List Loc) (cells slots : Nat) (Q : State → Prop) (g : JFrame) (q : Addr) : Prop :=
  ∀ T : State, T.heap = H → Stand p l e R s m args below meth c T locs cells slots → ∃ t, Steps p.tables e below ((T.setTop g).pushFrame (.throwing q)) t ∧ Q t
def vx_Run (p : Program) (l : Launch) (e : Env) (R : Room) (s : State) (m : MethodId) (args : Array Value) (below : List Frame) (meth : Method) (c : Code) (H : Heap) (locs : List Loc) (cells slots mc ms : Nat) (g : JFrame) (rest : List Value) (Qa : State → Outcome → State → Prop) (XC : String → State → State → Prop) (free : Addr → Prop) : Prop :=
  ∀ T : State, T.heap = H → Stand p l e R s m args below meth c T locs cells slots →
    (∃ (v : Option Value) (st₀ t T' : State) (L : List Loc), st₀.heap = H ∧ Stand p l e R s m args below meth c T' (locs ++ L) (cells + mc) (slots + ms) ∧ (∀ q ∈ L, free q.base) ∧ T'.heap = t.heap ∧ T'.vm = t.vm ∧ Qa st₀ (.returned v) t ∧
      Goes p e below T g T' { g with pc := g.pc + 3, stack := v.toList ++ rest }) ∨
    (∃ (q : Addr) (st₀ t T' : State) (L : List Loc) (E : String) (ce : Cell), st₀.heap = H ∧ Stand p l e R s m args below meth c T' (locs ++ L) (cells + mc) (slots + ms) ∧ (∀ z ∈ L, free z.base) ∧ T'.heap = t.heap ∧ T'.vm = t.vm ∧ XC E st₀ t ∧ t.heap[q]? = some ce ∧ ce.vm = .none ∧ s.vm.findClass E = some ce.cls ∧
      Steps p.tables e below (T.setTop g) ((T'.setTop { g with stack := rest }).pushFrame (.throwing q)))
def vx_X {S : Type} (px : S → Prop) (B : String → S → State → Prop) (A : Nat → Prop) : String → State → State → Prop := fun E st t => ∃ u : S, px u ∧ B E u t ∧ va_F A st t
section Runs
variable {p : Program} {l : Launch} {e : Env} {R : Room} {s : State} {m : MethodId} {args : Array Value} {below : List Frame} {meth : Method} {c : Code} {H : Heap} {locs : List Loc} {cells slots : Nat}
variable {y : MethodName} {bytes cc : ByteArray} {maxL nL mc ms n index : Nat} {ret : Option FieldType} {ws : List Cond} {rm : Room} {Pc : Array Value → State → Prop} {Qc : Array Value → State → Outcome → State → Prop} {XC : String → State → State → Prop} {free : Addr → Prop} {Ts : List Cond} {own C : String} {b : Addr} {As rest : List Value} {g : JFrame}
theorem vx_callBack (cb : CallB R s args own index y bytes maxL ret ws rm mc ms n) (hM : vx_Met l y ws rm Pc Qc XC mc ms free) (hbl : FrameBlind Pc) : vx_Back l R p e below s args y 3 8 (PreOf R mc ms Pc) (PostOf Qc mc ms free) (vx_Post XC mc ms free) := by
  obtain ⟨hrc, hrs, hfr, hlo, hws, hcw, -, hini, -⟩ := cb
  exact vx_back (bytes := bytes) (maxL := maxL) (ret := ret) hM hbl hrc hrs hfr hlo hws hcw (fun a' U hW => word_at hW (Or.inl (by first | rfl | simp [Cond.onTables, Cond.keeps, Cond.steady])) hini)
theorem vx_runV (S : CallFix p m c cc nL s args Ts own) (hM : vx_Met l y ws rm Pc Qc XC mc ms free) (cw : CallW R s args own C index y bytes maxL ret ws rm mc ms n) (hp : PreV s H C b Pc As)
    (hg : g.method = m) (hn : As.length = n) (hsize : g.locals.size = nL) (hstack : g.stack = As.reverse ++ .ref b :: rest) (hW : 2 * g.monitorRoom + (rest.map fun v => v.category).sum ≤ 8) (hdg : decode cc g.pc = .ok (.invokevirtual index, 3)) (hf : cells + mc ≤ R.cells ∧ slots + ms ≤ R.slots) :
    vx_Run p l e R s m args below meth c H locs cells slots mc ms g rest (Qc (Value.ref b :: As).toArray) XC free := by
  have hK : vx_Back l R p e below s args y 3 8 (PreOf R mc ms Pc) (PostOf Qc mc ms free) (vx_Post XC mc ms free) := vx_callBack cw.1 hM hp.1
  obtain ⟨⟨-, -, -, -, -, -, hcode, -, hy, hlen, hl⟩, hin, hse⟩ := cw
  obtain ⟨hx, hb, hml, ho, -⟩ := S
  obtain ⟨-, ⟨cellB, hcB, hoB, hclB⟩, hPc⟩ := hp
  intro T hT X
  rcases vx_callV X hx (C := C) (bytes := bytes) (maxL := maxL) (ret := ret) ho hl hin hse hcode hy hK (by rw [hT]; exact hcB) hoB hclB hg (hsize.trans hml.symm) (argsL := As) (rest := rest) (fun sig h => hn.trans (hlen sig h)) hstack hW (by rw [hb]; exact hdg)
    (fun vm₁ hW₁ => ⟨hf.1, hf.2, hPc (T.setVm vm₁) hT hW₁⟩) with ⟨v, vm₁, ⟨U', l2, c2, s2⟩, hW₁, X', ⟨g', mk, t, L, e1, e2, hq, h1, hL, h2, h3⟩, st⟩ | ⟨q, vm₁, ⟨U', l2, c2, s2⟩, hW₁, X', ⟨g', mk, t, L, E, ce, e1, e2, hq, hce, hcv, hcl, h1, hL, h2, h3⟩, st⟩
  · dsimp only [Pt.U, Pt.locs, Pt.cells, Pt.slots] at X' e1 e2 h1 h2 h3 st
    subst h1; subst h2; subst h3
    exact Or.inl ⟨v, (T.setVm vm₁).calling g' mk (Value.ref b :: As).toArray, t, U', L, hT, X', hL, e1, e2, hq, st⟩
  · dsimp only [Pt.U, Pt.locs, Pt.cells, Pt.slots] at X' e1 e2 h1 h2 h3 st hcl
    subst h1; subst h2; subst h3
    exact Or.inr ⟨q, (T.setVm vm₁).calling g' mk (Value.ref b :: As).toArray, t, U', L, E, ce, hT, X', hL, e1, e2, hq, hce, hcv, vx_cls hW₁ hcl, st⟩
theorem vx_runS (S : CallFix p m c cc nL s args Ts own) (hM : vx_Met l y ws rm Pc Qc XC mc ms free) (cw : CallB R s args own index y bytes maxL ret ws rm mc ms n ∧ (Cond.static y).before args s = true) (hp : PreS s H Pc As)
    (hg : g.method = m) (hn : As.length = n) (hsize : g.locals.size = nL) (hstack : g.stack = As.reverse ++ rest) (hW : 2 * g.monitorRoom + (rest.map fun v => v.category).sum ≤ 8) (hdg : decode cc g.pc = .ok (.invokestatic index, 3)) (hf : cells + mc ≤ R.cells ∧ slots + ms ≤ R.slots) :
    vx_Run p l e R s m args below meth c H locs cells slots mc ms g rest (Qc As.toArray) XC free := by
  have hK : vx_Back l R p e below s args y 3 8 (PreOf R mc ms Pc) (PostOf Qc mc ms free) (vx_Post XC mc ms free) := vx_callBack cw.1 hM hp.1
  obtain ⟨⟨-, -, -, -, -, -, hcode, hini, hy, hlen, hl⟩, hstt⟩ := cw
  obtain ⟨hx, hb, hml, ho, -⟩ := S
  intro T hT X
  rcases vx_callS X hx (bytes := bytes) (maxL := maxL) (ret := ret) ho hl hstt hini hcode hy hK hg (hsize.trans hml.symm) (argsL := As) (rest := rest) (fun sig h => hn.trans (hlen sig h)) hstack hW (by rw [hb]; exact hdg)
    (fun vm₁ hW₁ => ⟨hf.1, hf.2, hp.2 (T.setVm vm₁) hT hW₁⟩) with ⟨v, vm₁, ⟨U', l2, c2, s2⟩, hW₁, X', ⟨g', mk, t, L, e1, e2, hq, h1, hL, h2, h3⟩, st⟩ | ⟨q, vm₁, ⟨U', l2, c2, s2⟩, hW₁, X', ⟨g', mk, t, L, E, ce, e1, e2, hq, hce, hcv, hcl, h1, hL, h2, h3⟩, st⟩
  · dsimp only [Pt.U, Pt.locs, Pt.cells, Pt.slots] at X' e1 e2 h1 h2 h3 st
    subst h1; subst h2; subst h3
    exact Or.inl ⟨v, (T.setVm vm₁).calling g' mk As.toArray, t, U', L, hT, X', hL, e1, e2, hq, st⟩
  · dsimp only [Pt.U, Pt.locs, Pt.cells, Pt.slots] at X' e1 e2 h1 h2 h3 st hcl
    subst h1; subst h2; subst h3
    exact Or.inr ⟨q, (T.setVm vm₁).calling g' mk As.toArray, t, U', L, E, ce, hT, X', hL, e1, e2, hq, hce, hcv, vx_cls hW₁ hcl, st⟩
end Runs
section Rows
variable {p : Program} {l : Launch} {e : Env} {R : Room} {s : State} {m : MethodId} {args : Array Value} {below : List Frame} {meth : Method} {c : Code} {H : Heap} {locs : List Loc} {cells slots : Nat} {Q : State → Prop}
variable {mc ms : Nat} {free : Addr → Prop} {A0 A1 : Nat → Prop} {H0 : Heap} {a : Array Value} {pc : Nat} {ls : Array Slot} {st0 rest : List Value}
theorem vx_keep {st₀ t T' : State} {L : List Loc} (h0 : st₀.heap = H) (e1 : T'.heap = t.heap) (hS : va_S A0 H0 H locs) (hA : ∀ q, q < H.size → A1 q → A0 q) (hf : ∀ q, free q → A0 q) (hL : ∀ q ∈ L, free q.base) (hF : va_F A1 st₀ t) :
    H.size ≤ T'.heap.size ∧ (∀ q : Nat, q < H.size → ¬ A1 q → T'.heap[q]? = H[q]?) ∧ va_S A0 H0 T'.heap (locs ++ L) := by
  obtain ⟨hz, hk⟩ := hF
  rw [h0] at hz hk
  exact ⟨by rw [e1]; exact hz, fun q h1 h2 => by rw [e1]; exact hk q h1 h2,
    ⟨Nat.le_trans hS.1 (by rw [e1]; exact hz), fun q h1 h2 => by rw [e1, hk q (Nat.lt_of_lt_of_le h1 hS.1) (fun z => h2 (hA q (Nat.lt_of_lt_of_le h1 hS.1) z))]; exact hS.2.1 q h1 h2, fun q hq => by
      rcases List.mem_append.mp hq with h | h
      · exact hS.2.2 q h
      · exact hf _ (hL q h)⟩⟩
/-- caught by the row x of this method's table; the rows ahead don't take it -/
theorem vx_catch {own name : String} {E : String} {ce : Cell} {q : Addr} (hown : s.vm.findClass own = some m.cls) (pre : List ExceptionTableEntry) (x : ExceptionTableEntry) (suf : List ExceptionTableEntry) (hsplit : c.exceptionTable.toList = pre ++ x :: suf)
    (hpass : ∀ z ∈ pre, covers z pc = false ∨ (z.catchType ≠ 0 ∧ ∃ nm : String, (Cond.classLink own z.catchType nm).before args s = true ∧ va_Nc E nm s)) (hx : covers x pc = true) (h0 : x.catchType ≠ 0)
    (hlink : (Cond.classLink own x.catchType name).before args s = true) (hcast : (Cond.castable E name).before args s = true) (hcell : H[q]? = some ce) (hv : ce.vm = .none) (hcl : s.vm.findClass E = some ce.cls)
    (kk : W p l e R s m args below meth c H locs cells slots Q (F0 m x.handlerPc ls [.ref q])) : vx_W p l e R s m args below meth c H locs cells slots Q (F0 m pc ls rest) q := by
  intro T hT X
  have hpl : e.platform.magicAccessors = ({} : Platform).magicAccessors := by rw [X.admits.platform]
  obtain ⟨c3, c4, hc3, hc4, hasg⟩ := Cond.castable_spec hcast
  cases Option.some.inj (hc3.symm.trans hcl)
  obtain ⟨c5, hc5, hcl5⟩ := Cond.classLink_spec hown hlink e.platform hpl
  cases Option.some.inj (hc4.symm.trans hc5)
  obtain ⟨vm', X', st⟩ := X.thenCaughtThrough q (g := F0 m pc ls rest) rfl (Steps.refl _) (by rw [hT]; exact hcell) (by rw [hv]; rfl) (by obtain ⟨k9, h9, -⟩ := Vm.findClass_spec hcl; exact ⟨k9, h9⟩) pre x suf hsplit
    (fun z hz => by
      rcases hpass z hz with h | ⟨hz0, nm, hl1, hn1⟩
      · exact Or.inl h
      · obtain ⟨c6, hc6, hcl6⟩ := Cond.classLink_spec hown hl1 e.platform hpl
        obtain ⟨a8, b8, h1, h2, h3⟩ := hn1
        cases Option.some.inj (h1.symm.trans hcl)
        cases Option.some.inj (h2.symm.trans hc6)
        exact Or.inr ⟨hz0, _, hcl6, h3⟩) hx (Or.inr ⟨h0, c4, hcl5, hasg⟩)
  obtain ⟨t, a1, b1⟩ := kk (T.setVm vm') hT X'
  exact ⟨t, st.trans a1, b1⟩
end Rows
section Ends
variable {p : Program} {l : Launch} {e : Env} {R : Room} {s : State} {m : MethodId} {args : Array Value} {below : List Frame} {meth : Method} {c : Code} {H : Heap} {locs : List Loc} {cells slots : Nat} {Q : State → Prop}
variable {mc ms : Nat} {free : Addr → Prop} {A0 A1 : Nat → Prop} {H0 : Heap} {a : Array Value} {ls : Array Slot} {st0 rest : List Value}
variable {Qc : Array Value → State → Outcome → State → Prop} {XC : String → State → State → Prop}
/-- what a body that may throw owes at its end -/
def vx_MQ (below : List Frame) (Qc : Array Value → State → Outcome → State → Prop) (XC : String → State → State → Prop) (a : Array Value) (s : State) (mc ms : Nat) (free : Addr → Prop) : State → Prop := fun t =>
  ∃ o, t.status = .running ∧ Ended t below o ∧ vx_Q Qc XC mc ms free a s o t
theorem vx_ret {g : JFrame} {mc ms : Nat} (k : W p l e R s m args below meth c H locs cells slots (MQ below Qc args s mc ms free) g) : W p l e R s m args below meth c H locs cells slots (vx_MQ below Qc XC args s mc ms free) g := by
  intro T hT X
  obtain ⟨t, a1, o, b1, b2, b3, b4⟩ := k T hT X
  exact ⟨t, a1, o, b1, b2, Or.inl ⟨b3, b4⟩⟩
/-- not caught here: it goes on to the caller -/
theorem vx_widen {g : JFrame} {q : Addr} {k n : Nat} (h1 : cells ≤ k) (h2 : slots ≤ n) (kk : vx_W p l e R s m args below meth c H locs k n Q g q) : vx_W p l e R s m args below meth c H locs cells slots Q g q := fun T hT X => kk T hT (stand_widen X h1 h2)
theorem vx_out {pc : Nat} {E : String} {ce : Cell} {q : Addr} {mc ms : Nat} (hout : ∀ x ∈ c.exceptionTable.toList, covers x pc = false) (hlocks : meth.locks = false) (hcell : H[q]? = some ce) (hv : ce.vm = .none) (hcl : s.vm.findClass E = some ce.cls)
    (hx : ∀ t : State, t.heap = H → s.vm.Alike t.vm → XC E s t) (hf : ∀ z ∈ locs, free z.base) (hc : cells ≤ mc) (hs : slots ≤ ms) :
    vx_W p l e R s m args below meth c H locs cells slots (vx_MQ below Qc XC args s mc ms free) (F0 m pc ls rest) q := by
  intro T hT X
  obtain ⟨st1, hrun, hend, hW, hsm⟩ := X.leaveThrown q (g := F0 m pc ls rest) rfl rfl rfl hout hlocks
  have hcell9 : (T.setFrames (.throwing q :: below)).heap[q]? = some ce := by
    show T.heap[q]? = some ce
    rw [hT]; exact hcell
  exact ⟨_, st1, .threw q, hrun, hend, Or.inr ⟨q, rfl, E, ce, locs, hx _ hT hW.alike, hcell9, hv, hcl, hW, hsm.mono hc hs, hf⟩⟩
theorem vx_frame {U : State} {k n : Nat} (h : s.sameButNew ({ U with vm := s.vm } : State) locs k n) : s.heap.size ≤ U.heap.size ∧ ∀ q : Nat, q < s.heap.size → (∀ z ∈ locs, z.base ≠ q) → U.heap[q]? = s.heap[q]? := by
  obtain ⟨-, h2, -, -, -, h6⟩ := h
  refine ⟨h2, fun q hq hz => ?_⟩
  obtain ⟨c9, e1, e2, e3, e4⟩ := h6 q _ (Array.getElem?_eq_getElem hq)
  have hs : c9.slots = (s.heap[q]).slots := Array.ext_getElem? fun i => e4 i fun hm => hz _ hm rfl
  have h9 : c9 = s.heap[q] := by
    rw [hs] at e2
    exact e2
  have e5 : U.heap[q]? = some c9 := e1
  rw [e5, h9, Array.getElem?_eq_getElem hq]
/-- the words of a throw but the four that speak of the heap -/
def vx_no (w : Cond) : Bool := decide (w ≠ .isRef (.static Bundle.tN "UNASSIGNED_STACK" Bundle.steD)) && decide (w ≠ .isRef (.static Bundle.tN "SUPPRESSED_SENTINEL" Bundle.listD)) && decide (w ≠ .laysStatic Bundle.tN "UNASSIGNED_STACK" Bundle.steD) && decide (w ≠ .laysStatic Bundle.tN "SUPPRESSED_SENTINEL" Bundle.listD)
def vx_atS (own : String) (ic : Nat) (X : String) (names : List String) : List Cond := (Bundle.ownAtoms own ic X names).filter vx_no
/-- a word that the tables alone decide, or a good one -/
def vx_ot (w : Cond) : Bool := w.onTables || goodWord w
theorem vx_ot_at {args a' : Array Value} {s U : State} {w : Cond} (hW : s.WarmedH U.vm) (hvm : s.vm = U.vm) (hg : vx_ot w = true) (h : w.before args s = true) : w.before a' U = true := by
  simp only [vx_ot, Bool.or_eq_true] at hg
  rcases hg with hg | hg
  · exact va_tabs hg hvm h
  · exact word_at hW (good_of_word hg) h
/-- a list's words: the good ones out of the method's own list, the others by premises of their own -/
theorem vx_hat {args : Array Value} {s : State} {L B : List Cond} (h1 : ∀ w ∈ L.filter goodWord, w.before args s = true) (h2 : ∀ w ∈ L.filter (fun w => !goodWord w), w ∈ B) (h3 : ∀ w ∈ B, w.before args s = true) : ∀ w ∈ L, w.before args s = true := by
  intro w hw
  by_cases g : goodWord w = true
  · exact h1 w (List.mem_filter.mpr ⟨hw, g⟩)
  · refine h3 w (h2 w (List.mem_filter.mpr ⟨hw, ?_⟩))
    show (!goodWord w) = true
    cases hgw : goodWord w
    · rfl
    · exact absurd hgw g
theorem vx_c {args : Array Value} {s : State} {w : Cond} {B : List Cond} (h : w.before args s = true) (t : ∀ w ∈ B, w.before args s = true) : ∀ w' ∈ w :: B, w'.before args s = true := fun w' h' => (List.mem_cons.mp h').elim (fun e => by rw [e]; exact h) (t w')
theorem vx_n {args : Array Value} {s : State} : ∀ w ∈ ([] : List Cond), w.before args s = true := fun _ h => nomatch h
theorem vx_own {args : Array Value} {s : State} {L : List Cond} (h1 : ∀ w ∈ L.filter vx_no, w.before args s = true)
    (hU : (Cond.isRef (.static Bundle.tN "UNASSIGNED_STACK" Bundle.steD)).before args s = true) (hN : (Cond.isRef (.static Bundle.tN "SUPPRESSED_SENTINEL" Bundle.listD)).before args s = true)
    (lU : (Cond.laysStatic Bundle.tN "UNASSIGNED_STACK" Bundle.steD).before args s = true) (lN : (Cond.laysStatic Bundle.tN "SUPPRESSED_SENTINEL" Bundle.listD).before args s = true) : ∀ w ∈ L, w.before args s = true := by
  intro w hw
  by_cases e1 : w = .isRef (.static Bundle.tN "UNASSIGNED_STACK" Bundle.steD)
  · rw [e1]; exact hU
  · by_cases e2 : w = .isRef (.static Bundle.tN "SUPPRESSED_SENTINEL" Bundle.listD)
    · rw [e2]; exact hN
    · by_cases e3 : w = .laysStatic Bundle.tN "UNASSIGNED_STACK" Bundle.steD
      · rw [e3]; exact lU
      · by_cases e4 : w = .laysStatic Bundle.tN "SUPPRESSED_SENTINEL" Bundle.listD
        · rw [e4]; exact lN
        · exact h1 w (List.mem_filter.mpr ⟨hw, by unfold vx_no; rw [decide_eq_true e1, decide_eq_true e2, decide_eq_true e3, decide_eq_true e4]; rfl⟩)
/-- where a static field lies, its class's statics cell in H -/
def vx_L (C n d : String) (A : Nat → Prop) (U : State) (H : Heap) : Prop := ∃ (c : ClassId) (k : Class) (i : Nat) (f : Field) (a : Nat) (cell : Cell), U.vm.findClass C = some c ∧ U.fieldFound? C n d = some (c, k, i, f) ∧ f.isStatic = true ∧ k.statics = some a ∧ H[a]? = some cell ∧ cell.vm.isStatics = true ∧ cell.cls = c ∧ f.slot < cell.slots.size ∧ k.staticTypes[f.slot]? = some f.type ∧ ¬ A a
theorem vx_L.moved {C n d : String} {A : Nat → Prop} {u U : State} {H : Heap} (hvm : u.vm.Alike U.vm) (h : vx_L C n d A u H) : vx_L C n d A U H := by
  obtain ⟨c, k, i, f, a, cell, h1, h2, h3, h4, h5, h6, h7, h8, h9, h10⟩ := h
  obtain ⟨k', hi', he⟩ := State.fieldFound?_setVm hvm h2
  exact ⟨c, k', i, f, a, cell, by rw [hvm.findClass]; exact h1, hi', h3, by rw [he]; exact h4, h5, h6, h7, h8, by rw [he]; exact h9, h10⟩
theorem vx_L.kept {C n d : String} {A : Nat → Prop} {U : State} {H H1 : Heap} (h : vx_L C n d A U H) (hq : ∀ a : Nat, a < H.size → ¬ A a → H1[a]? = H[a]?) : vx_L C n d A U H1 := by
  obtain ⟨c, k, i, f, a, cell, h1, h2, h3, h4, h5, h6, h7, h8, h9, h10⟩ := h
  exact ⟨c, k, i, f, a, cell, h1, h2, h3, h4, by rw [hq a (Array.getElem?_eq_some_iff.mp h5).1 h10]; exact h5, h6, h7, h8, h9, h10⟩
theorem vx_L.narrow {C n d : String} {A B : Nat → Prop} {U : State} {H : Heap} (h : vx_L C n d A U H) (hAB : ∀ q, B q → A q) : vx_L C n d B U H := by
  obtain ⟨c, k, i, f, a, cell, h1, h2, h3, h4, h5, h6, h7, h8, h9, h10⟩ := h
  exact ⟨c, k, i, f, a, cell, h1, h2, h3, h4, h5, h6, h7, h8, h9, fun z => h10 (hAB _ z)⟩
theorem vx_L.word {C n d : String} {A : Nat → Prop} {s : State} {args : Array Value} (h : vx_L C n d A s s.heap) : (Cond.laysStatic C n d).before args s = true := by
  obtain ⟨c, k, i, f, a, cell, h1, h2, h3, h4, h5, h6, h7, h8, h9, -⟩ := h
  show (Cond.laysStatic C n d).holds args s none s [] = true
  exact Cond.laysStatic_of h1 h2 h3 h4 h5 h6 h7 h8 h9
/-- .. and what it holds: null or some reference -/
def vx_Zq (C n d : String) (A : Nat → Prop) (U : State) (H : Heap) : Prop := va_Zq C n d A U H ∧ vx_L C n d A U H
theorem vx_Zq.moved {C n d : String} {A : Nat → Prop} {u U : State} {H : Heap} (hvm : u.vm.Alike U.vm) (h : vx_Zq C n d A u H) : vx_Zq C n d A U H := ⟨va_Zq.moved hvm h.1, vx_L.moved hvm h.2⟩
theorem vx_Zq.kept {C n d : String} {A : Nat → Prop} {U : State} {H H1 : Heap} (h : vx_Zq C n d A U H) (hq : ∀ a : Nat, a < H.size → ¬ A a → H1[a]? = H[a]?) : vx_Zq C n d A U H1 := ⟨va_Zq.kept h.1 hq, vx_L.kept h.2 hq⟩
theorem vx_Zq.narrow {C n d : String} {A B : Nat → Prop} {U : State} {H : Heap} (h : vx_Zq C n d A U H) (hAB : ∀ q, B q → A q) : vx_Zq C n d B U H := ⟨va_Zq.narrow h.1 hAB, vx_L.narrow h.2 hAB⟩
theorem vx_Zqof {args : Array Value} {s : State} {C n d : String} {A : Nat → Prop} (hl : (Cond.laysStatic C n d).before args s = true) (hini : (Cond.initialized C).before args s = true) (h : (Cond.isRef (.static C n d)).before args s = true) (hA : ∀ a : Nat, a < s.heap.size → ¬ A a) : vx_Zq C n d A s s.heap := by
  refine ⟨va_Zqof hl hini h hA, ?_⟩
  obtain ⟨c, k, i, f, a, cell, h1, h2, h3, h4, h5, h6, h7, h8, h9⟩ := Cond.laysStatic_spec hl
  exact ⟨c, k, i, f, a, cell, h1, h2, h3, h4, h5, h6, h7, h8, h9, hA a (Array.getElem?_eq_some_iff.mp h5).1⟩
theorem vx_isRef {C n d : String} {v : Value} {A : Nat → Prop} {s : State} {args : Array Value} (h : va_Z C n d v A s s.heap) (hv : v.isRef = true) : (Cond.isRef (.static C n d)).before args s = true := by
  obtain ⟨cf, kf, fi, f, a, cell, h1, h2, h3, h4, h5, h6, h7, -⟩ := h
  have he : (Term.static C n d).eval args s none [] s = some v := by
    simp [Term.eval, State.fieldNamed?, h1, h2, h4, h5, h6, h7]
  simp only [Cond.before, Cond.holds, Cond.value, he]
  cases v <;> simp_all [Value.isRef]
theorem vx_isRefq {C n d : String} {A : Nat → Prop} {s : State} {args : Array Value} (h : va_Zq C n d A s s.heap) : (Cond.isRef (.static C n d)).before args s = true := by
  rcases h with h | ⟨t, h⟩
  · exact vx_isRef h rfl
  · exact vx_isRef h rfl
/-- the same frame, seen from here: as if the method were called anew in this heap -/
theorem vx_rebase {T : State} (X : Stand p l e R s m args below meth c T locs cells slots) {R' : Room} (hf : R'.frames ≤ R.frames) (hl : R'.locals ≤ R.locals) (hc : cells + R'.cells ≤ R.cells) (hs : slots + R'.slots ≤ R.slots) :
    Stand p l e R' ((T.setVm s.vm).setFrames (.invoking m args :: below)) m args below meth c T [] 0 0 := by
  have htop : (T.setVm s.vm).topJava?.isSome := X.here.top
  have hF : ((T.setVm s.vm).setFrames (.invoking m args :: below)).frames = .invoking m args :: below := State.frames_setFrames _ (State.cur_lt_of_top htop)
  obtain ⟨g₀, hg0⟩ := Option.isSome_iff_exists.mp htop
  obtain ⟨r, hr⟩ := State.topJava?_eq_some.mp hg0
  have hl9 : e.platform.stackLimits (T.setVm s.vm).me = e.platform.stackLimits s.me := X.limits
  have hb9 : (T.setVm s.vm).me.stackBytes = s.me.stackBytes := X.bytes
  refine ⟨X.admits, X.cas, X.clock, hF, ?_, X.hears, X.method, X.code, X.here, X.tail, X.warmed, ?_, ?_, ?_⟩
  · have h := X.room
    have hU : ((T.setVm s.vm).setFrames (.invoking m args :: below)).localsInUse = s.localsInUse := by
      rw [State.localsInUse_invoking hF (meth := meth) (c := c) X.method X.code, State.localsInUse_invoking X.frames X.method X.code]
    simp only [State.hasRoom, Bool.and_eq_true, decide_eq_true_eq] at h ⊢
    obtain ⟨⟨⟨⟨h1, h2, h3, h4, h5, h6⟩, h7⟩, h8⟩, h9⟩ := h
    rw [X.frames, List.length_cons] at h2 h3
    have q1 := X.heapSize
    have q2 := X.used
    simp only [hF, hU, List.length_cons, State.stackLimits_setFrames, State.stackBytes_setFrames, hl9, hb9]
    refine ⟨⟨⟨⟨by omega, by omega, by omega, by omega, by omega, h6⟩, ?_⟩, ?_⟩, X.book⟩
    · show T.heap.size + R'.cells ≤ e.platform.maxCells
      omega
    · show T.slotsUsed + R'.slots ≤ e.platform.maxSlots
      omega
  · rw [State.stackLimits_setFrames]; rfl
  · rw [State.stackBytes_setFrames]; rfl
  · refine ⟨?_, Nat.le_refl _, Nat.le_refl _, ?_, ?_, fun a c9 h9 => ⟨c9, h9, rfl, rfl, fun _ _ => rfl⟩⟩
    · obtain ⟨t, ht, -⟩ := State.frames_cons hr
      show T.setVm s.vm = { ((T.setVm s.vm).setFrames (.invoking m args :: below)).setFrames (T.setVm s.vm).frames with heap := T.heap, slotsUsed := T.slotsUsed }
      rw [State.setFrames_setFrames, State.setFrames_self ht]
      rfl
    · show T.slotsUsed = T.slotsUsed + ((T.heap.toList.drop T.heap.size).map (·.slots.size)).sum
      rw [List.drop_eq_nil_of_le (Nat.le_of_eq Array.length_toList)]
      rfl
    · show ((T.heap.toList.drop T.heap.size).map (·.slots.size)).sum ≤ 0
      rw [List.drop_eq_nil_of_le (Nat.le_of_eq Array.length_toList)]
      exact Nat.le_refl _
/-- 'throw new E("text")': new; dup; ldc; invokespecial; athrow -/
theorem vx_throwS {cc : ByteArray} {pc : Nat} (hexec : p.tables.exec = Jvm.exec) (hb : c.code = cc) (hl : l.stackTraces = false) {own cls text : String} {names : List String} {ik is ic mc ms sa : Nat} {A : Nat → Prop}
    (hown : s.vm.findClass own = some m.cls) (hcls : Bundle.fit cls = true) (hnames : ∀ n ∈ names, Bundle.fit n = true)
    (hk : (Cond.classLink own ik cls).before args s = true) (hini : (Cond.initialized cls).before args s = true) (hstr : vk_R own is text sa s) (hat : ∀ w ∈ vx_atS own ic cls names, w.before args s = true)
    (hgood : ∀ w ∈ Cond.classLink own ik cls :: Cond.initialized cls :: vx_atS own ic cls names, vx_ot w = true)
    (hU : vx_Zq Bundle.tN "UNASSIGNED_STACK" Bundle.steD A s s.heap) (hN : vx_Zq Bundle.tN "SUPPRESSED_SENTINEL" Bundle.listD A s s.heap) (hS : va_S A s.heap H locs) (hsize : ls.size = c.maxLocals)
    (d0 : decode cc pc = .ok (.new ik, 3)) (d3 : decode cc (pc + 3) = .ok (.dup, 1)) (d4 : decode cc (pc + 4) = .ok (.ldc is, 2)) (d6 : decode cc (pc + 6) = .ok (.invokespecial ic, 3)) (d9 : decode cc (pc + 9) = .ok (.athrow, 1))
    (hout : ∀ x ∈ c.exceptionTable.toList, covers x (pc + 9) = false)
    (hRframes : names.length + 3 < R.frames) (hRlocals : (rest.map fun v => v.category).sum + (13 * (names.length + 1) + 43) ≤ R.locals) (hRcells : cells + 1 ≤ R.cells) (hRslots : slots + 6 ≤ R.slots) (hlocks : meth.locks = false)
    (hx : ∀ t : State, s.vm.Alike t.vm → H.size ≤ t.heap.size → (∀ q : Nat, q < H.size → t.heap[q]? = H[q]?) → XC cls s t)
    (hf : ∀ z ∈ locs, free z.base) (hc : cells + 1 ≤ mc) (hs : slots + 6 ≤ ms) :
    W p l e R s m args below meth c H locs cells slots (vx_MQ below Qc XC args s mc ms free) (F0 m pc ls rest) := by
  intro T hT X
  have htr : e.platform.stackTraces = false := (show e.platform.stackTraces = l.stackTraces by rw [X.admits.platform]).trans hl
  have Y := vx_rebase X (R' := { frames := R.frames, locals := R.locals, cells := 1, slots := 6 }) (Nat.le_refl _) (Nat.le_refl _) hRcells hRslots
  obtain ⟨s', hA⟩ : ∃ z, z = (T.setVm s.vm).setFrames (.invoking m args :: below) := ⟨_, rfl⟩
  rw [← hA] at Y
  have hvm : s'.vm = s.vm := by rw [hA]; rfl
  have hhp : s'.heap = H := by rw [hA]; exact hT
  have hW0 : s.WarmedH s'.vm := by rw [hvm]; exact State.WarmedH.refl s
  have hat' : ∀ w ∈ vx_atS own ic cls names, w.before args s' = true := fun w hw => vx_ot_at hW0 hvm.symm (hgood w (List.mem_cons_of_mem _ (List.mem_cons_of_mem _ hw))) (hat w hw)
  have hk' : (Cond.classLink own ik cls).before args s' = true := vx_ot_at hW0 hvm.symm (hgood _ List.mem_cons_self) hk
  have hini' : (Cond.initialized cls).before args s' = true := vx_ot_at hW0 hvm.symm (hgood _ (List.mem_cons_of_mem _ List.mem_cons_self)) hini
  have hU' : vx_Zq Bundle.tN "UNASSIGNED_STACK" Bundle.steD A s' s'.heap := by rw [hhp]; exact vx_Zq.moved hW0.alike (hU.kept hS.2.1)
  have hN' : vx_Zq Bundle.tN "SUPPRESSED_SENTINEL" Bundle.listD A s' s'.heap := by rw [hhp]; exact vx_Zq.moved hW0.alike (hN.kept hS.2.1)
  have h : ∀ w ∈ Bundle.ownAtoms own ic cls names, w.before args s' = true := vx_own hat' (vx_isRefq hU'.1) (vx_isRefq hN'.1) hU'.2.word hN'.2.word
  have hown' : s'.vm.findClass own = some m.cls := by rw [hvm]; exact hown
  have hins : (Cond.instantiable cls 6).before args s' = true := h _ (by simp [Bundle.ownAtoms])
  obtain ⟨vm₁, cX, kX, hfX, hkX, -, -, X₁, st1⟩ := Y.newCold hexec (own := own) (C := cls) (index := ik) (n := 6) hown' hk' hins hini'
    (g := F0 m pc ls rest) rfl (by rw [hb]; exact d0) (Nat.le_refl _) (Nat.le_refl _)
  generalize hT1 : (T.setVm vm₁).pushCell { cls := cX, slots := kX.instanceTypes.map defaultValue, vm := .none } = T1 at X₁ st1
  have hcat : (Value.ref T.heap.size).category = 1 := rfl
  have hcellA : T1.heap[T.heap.size]? = some (freshCell cX kX) := by rw [← hT1]; exact State.heap_pushCell_size _ _
  have d3' : decode c.code (pc + 3) = .ok (.dup, 1) := by rw [hb]; exact d3
  have d4' : decode c.code (pc + 4) = .ok (.ldc is, 2) := by rw [hb]; exact d4
  have hstr' : vk_R own is text sa s' := vk_R.warm hW0 hstr
  obtain ⟨U, hsteps, hrun, hend, hW, hsame, ce, hce, hO⟩ := X₁.ctorThrowS hexec htr (own := own) (cls := cls) (names := names) (ic := ic) hown' hcls hnames h (fun x hx => nomatch hx) hfX hkX hcellA (by rw [hhp, hT]; exact Nat.le_refl _) (msg := .ref sa) rfl
    (g := { method := m, pc := pc + 6, locals := ls, stack := .ref sa :: .ref T.heap.size :: .ref T.heap.size :: rest, locked := none }) rfl hsize rfl rfl (rest := rest) rfl
    (by rw [hb]; exact d6) (by rw [hb]; exact d9) hout hRframes (by simp only [List.map_cons, List.sum_cons, hcat]; omega) hlocks
  obtain ⟨f1, f2⟩ := vx_frame hsame
  rw [hhp] at f1 f2
  have hWs : s.WarmedH U.vm := State.WarmedH.trans hW0 hW
  have hcl : s.vm.findClass cls = some ce.cls := by
    have h9 := hO.cls
    rw [hvm] at h9
    exact h9
  have hall : s.sameButNew ({ U with vm := s.vm } : State) locs mc ms := by
    subst hA
    obtain ⟨e1, e2⟩ := hsame
    rw [State.setFrames_setFrames] at e1
    have h2 : (T.setVm s.vm).sameButNew ({ U with vm := s.vm } : State) [] (0 + 1) (0 + 6) := ⟨e1, e2⟩
    have h3 := X.same.trans h2
    rw [List.append_nil] at h3
    exact h3.mono hc hs
  refine ⟨U, ?_, .threw T.heap.size, hrun, hend, Or.inr ⟨T.heap.size, rfl, cls, ce, locs, hx U hWs.alike f1 (fun q hq => f2 q hq (fun z hz => nomatch hz)), hce, hO.vm, hcl, hWs, hall, hf⟩⟩
  refine st1 _ ?_
  show Steps p.tables e below (T1.setTop { method := m, pc := pc + 3, locals := ls, stack := .ref T.heap.size :: rest, locked := none }) _
  jvm_step X₁.here [X₁.here.top, hexec, d3', Value.category]
  exact X₁.ldcString hexec (own := own) (text := text) (index := is) (a := sa) hown' hstr'.1 hstr'.2
    (g := { method := m, pc := pc + 4, locals := ls, stack := .ref T.heap.size :: .ref T.heap.size :: rest, locked := none }) rfl d4' _ hsteps
end Ends
section Bodies
variable {l : Launch}
theorem vx_ofW {y : MethodName} {ws ws' : List Cond} {rm : Room} {Pc : Array Value → State → Prop} {Qc : Array Value → State → Outcome → State → Prop} {XC : String → State → State → Prop} {mc ms : Nat} {free : Addr → Prop} {cc : ByteArray} {maxL : Nat} {ret : Option FieldType}
    (hy : plainName y.cls = true) (hw : ws = Cond.code y cc maxL ret :: ws')
    (body : ∀ p e s m args below meth c s₁, BodyLoose p l y (headSpec ws rm) cc maxL ret e s m args below meth c s₁ → c.maxLocals = maxL → (∀ x ∈ c.exceptionTable.toList, False) → Pc args s →
      W p l e (headSpec ws rm).room s m args below meth c s.heap [] 0 0 (vx_MQ below Qc XC args s mc ms free) (entryFrame m args maxL)) : vx_Met l y ws rm Pc Qc XC mc ms free := by
  refine MetFree.of_bodyS (code := cc) (maxLocals := maxL) (ret := ret) hy ?_ ?_
  · intro args s m h hn
    obtain ⟨meth, c, h1, h2, h3, h4, h5, h6, -, -⟩ := Cond.code_spec hn (atoms_spec (ws := ws) h _ (by rw [hw]; exact List.mem_cons_self))
    exact ⟨meth, c, h1, h2, h3, h4, h5, h6⟩
  · intro p e s m args below meth c s₁ B hml hP _
    have hh0 : s₁.heap = s.heap := by rw [B.state]; rfl
    have ht : ∀ x ∈ c.exceptionTable.toList, False := by
      obtain ⟨meth9, c9, h1, h2, -, -, -, -, h7, -⟩ := Cond.code_spec B.named (atoms_spec (ws := ws) B.pre _ (by rw [hw]; exact List.mem_cons_self))
      cases Option.some.inj (h1.symm.trans B.method)
      cases Option.some.inj (h2.symm.trans (Stand.of_body B).code)
      intro x hx
      rw [Array.isEmpty_iff.mp h7] at hx
      cases hx
    obtain ⟨t, a1, o, b1, b2, b3⟩ := body p e s m args below meth c s₁ B hml ht hP s₁ hh0 (Stand.of_body B)
    exact ⟨t, o, a1, b1, b2, b3⟩
/-- the table of a body with handlers -/
theorem vx_table {p : Program} {x y : MethodName} {S : Spec} {cc bytes : ByteArray} {maxL maxL' : Nat} {ret ret' : Option FieldType} {e : Env} {s s₁ : State} {m : MethodId} {args : Array Value} {below : List Frame} {meth : Method} {c : Code} {hh : List (Nat × Nat × Nat × Nat)}
    (B : BodyLoose p l y S cc maxL ret e s m args below meth c s₁) (h : (Cond.codeWith y bytes maxL' ret' hh).before args s = true) : c.exceptionTable.toList = tableOf hh := by
  obtain ⟨m9, meth9, c9, hn9, h1, h2, -, -, h6, -⟩ := Cond.codeWith_spec h
  cases Option.some.inj (hn9.symm.trans B.named)
  cases Option.some.inj (h1.symm.trans B.method)
  cases Option.some.inj (h2.symm.trans (Stand.of_body B).code)
  rw [← h6, table_eq]
end Bodies
end VXA
/-! ===== END ===== -/
/-! ===== BEGIN a static call of a method with an exception table ===== -/
section VXS
variable {p : Program} {l : Launch} {e : Env} {R : Room} {s : State} {m : MethodId} {args : Array Value} {below : List Frame} {meth : Method} {c : Code} {T : State} {H : Heap} {locs : List Loc} {cells slots : Nat}
abbrev vx_CSW (R : Room) (s : State) (args : Array Value) (own : String) (index : Nat) (y : MethodName) (bytes : ByteArray) (maxL : Nat) (ret : Option FieldType) (hh : List (Nat × Nat × Nat × Nat)) (ws : List Cond) (rm : Room) (mc ms n : Nat) : Prop :=
  (rm.cells = mc ∧ rm.slots = ms ∧ rm.frames + 1 ≤ R.frames ∧ 8 + (maxL + 11) + rm.locals ≤ R.locals ∧ (∀ w ∈ ws, ∀ (a' : Array Value) (U : State), s.WarmedH U.vm → w.before a' U = true) ∧ Cond.codeWith y bytes maxL ret hh ∈ ws) ∧
  (Cond.codeWith y bytes maxL ret hh).before args s = true ∧ (Cond.initialized y.cls).before args s = true ∧ (y.cls ≠ "java/lang/invoke/MethodHandle" ∧ y.cls ≠ "java/lang/invoke/VarHandle") ∧
  (∀ sig, parseMethodDescriptor y.desc = some sig → n = sig.parameters.length) ∧ (Cond.methodLink own index y).before args s = true ∧ (Cond.static y).before args s = true
theorem vx_cwSW {own : String} {index maxL mc ms : Nat} {y : MethodName} {bytes : ByteArray} {ret : Option FieldType} {hh : List (Nat × Nat × Nat × Nat)} {Ts ws ws' : List Cond} {rm : Room} (n : Nat) (ht : ∀ w ∈ Ts, w.before args s = true) (hT : GoodIn Ts (va_wsS own index y ws)) (hw : ws = Cond.codeWith y bytes maxL ret hh :: ws') (hrc : rm.cells = mc) (hrs : rm.slots = ms)
    (hd : y.cls ≠ "java/lang/invoke/MethodHandle" ∧ y.cls ≠ "java/lang/invoke/VarHandle" ∧ (parseMethodDescriptor y.desc).map (fun d => d.parameters.length) = some n) (hR : rm.frames + 1 ≤ R.frames ∧ 8 + (maxL + 11) + rm.locals ≤ R.locals) :
    vx_CSW R s args own index y bytes maxL ret hh ws rm mc ms n := by
  have ok : ∀ w ∈ va_wsS own index y ws, w.before args s = true := fun w h => ht w (hT w h).1
  have hG : GoodIn Ts ws := fun w h => hT w (by unfold va_wsS; exact List.mem_append_right _ h)
  have hc : Cond.codeWith y bytes maxL ret hh ∈ ws := by rw [hw]; exact List.mem_cons_self
  refine ⟨⟨hrc, hrs, hR.1, hR.2, pay_in ht hG, hc⟩, ht _ (hG _ hc).1, ok _ (by simp [va_wsS]), ⟨hd.1, hd.2.1⟩, fun sig h => ?_, ok _ (by simp [va_wsS]), ok _ (by simp [va_wsS])⟩
  have h2 := hd.2.2
  rw [h] at h2
  exact (Option.some.inj h2).symm
theorem vx_callSW (X : Stand p l e R s m args below meth c T locs cells slots) (hexec : p.tables.exec = Jvm.exec) {own : String} {index : Nat} {y : MethodName} {bytes : ByteArray} {maxL : Nat} {ret : Option FieldType} {hh : List (Nat × Nat × Nat × Nat)}
    (hown : s.vm.findClass own = some m.cls) (hlink : (Cond.methodLink own index y).before args s = true) (hstat : (Cond.static y).before args s = true) (hinit : (Cond.initialized y.cls).before args s = true)
    (hcode : (Cond.codeWith y bytes maxL ret hh).before args s = true) (hy : y.cls ≠ "java/lang/invoke/MethodHandle" ∧ y.cls ≠ "java/lang/invoke/VarHandle")
    {W9 : Nat} {Pre : Pt → Array Value → Prop} {Post : Pt → Array Value → Option Value → Pt → Prop} (hK : Back l R p e below s args y 3 W9 Pre Post)
    {g : JFrame} (hg : g.method = m) (hsize : g.locals.size = c.maxLocals) {argsL rest : List Value} (hlen : ∀ sig, parseMethodDescriptor y.desc = some sig → argsL.length = sig.parameters.length)
    (hstack : g.stack = argsL.reverse ++ rest) (hW : 2 * g.monitorRoom + (rest.map fun v => v.category).sum ≤ W9) (hdg : decode c.code g.pc = .ok (.invokestatic index, 3))
    (hpre : ∀ vm₁, s.WarmedH vm₁ → Pre ⟨T.setVm vm₁, locs, cells, slots⟩ argsL.toArray) :
    ∃ (v : Option Value) (vm₁ : Vm) (B : Pt), s.WarmedH vm₁ ∧ Stand p l e R s m args below meth c B.U B.locs B.cells B.slots ∧ Post ⟨T.setVm vm₁, locs, cells, slots⟩ argsL.toArray v B ∧
      ∀ target, Steps p.tables e below (B.U.setTop { g with pc := g.pc + 3, stack := v.toList ++ rest }) target → Steps p.tables e below (T.setTop g) target := by
  obtain ⟨mk, methM, cM, hnamed, hmethM, -, -, -, -, -, -, hsigM⟩ := Cond.codeWith_spec hcode
  have hstatic : methM.isStatic = true := Cond.static_spec hnamed hmethM hstat
  obtain ⟨kP, hkP, -⟩ := className_of_methodNamed hnamed
  have hinitP : kP.init = .initialized := Cond.initialized_spec (findClass_of_methodNamed hnamed) hkP hinit
  obtain ⟨vm₁, X₁, hstep₁⟩ := X.invokestatic hexec hown hlink hnamed hmethM hstatic hkP hinitP hy (g := g) hg (argsL := argsL) (rest := rest) (hlen _ hsigM) hstack hdg
  obtain ⟨v, B, X', hpost, hsteps⟩ := hK m meth c ⟨T.setVm vm₁, locs, cells, slots⟩ { g with stack := rest } (.invokestatic index) mk argsL.toArray X₁ hg hsize hdg hW (X₁.named hnamed) (hpre vm₁ X₁.warmed)
  exact ⟨v, vm₁, B, X₁.warmed, X', hpost, fun target h => hstep₁ _ fun acts => by rw [doInvoke_state]; exact hsteps.trans h⟩
theorem vx_runSW {y : MethodName} {bytes cc : ByteArray} {maxL nL mc ms n index : Nat} {ret : Option FieldType} {hh : List (Nat × Nat × Nat × Nat)} {ws : List Cond} {rm : Room} {Pc : Array Value → State → Prop} {Qc : Array Value → State → Outcome → State → Prop} {free : Addr → Prop} {Ts : List Cond} {own : String} {As rest : List Value} {g : JFrame}
    (S : CallFix p m c cc nL s args Ts own) (hM : Met l y ws rm Pc Qc mc ms free) (cw : vx_CSW R s args own index y bytes maxL ret hh ws rm mc ms n) (hp : PreS s H Pc As)
    (hg : g.method = m) (hn : As.length = n) (hsize : g.locals.size = nL) (hstack : g.stack = As.reverse ++ rest) (hW : 2 * g.monitorRoom + (rest.map fun v => v.category).sum ≤ 8) (hdg : decode cc g.pc = .ok (.invokestatic index, 3)) (hf : cells + mc ≤ R.cells ∧ slots + ms ≤ R.slots) :
    va_Run p l e R s m args below meth c H locs cells slots mc ms g rest (Qc As.toArray) (free) := by
  obtain ⟨⟨hrc, hrs, hfr, hlo, hws, hcw⟩, hcode, hini, hy, hlen, hl, hstt⟩ := cw
  have hK : Back l R p e below s args y 3 8 (PreOf R mc ms Pc) (PostOf Qc mc ms free) := va_backW (hh := hh) (bytes := bytes) (maxL := maxL) (ret := ret) hM hp.1 hrc hrs hfr hlo hws hcw (fun a' U hW => word_at hW (Or.inl (by first | rfl | simp [Cond.onTables, Cond.keeps, Cond.steady])) hini)
  obtain ⟨hx, hb, hml, ho, -⟩ := S
  intro T hT X
  obtain ⟨v, vm₁, ⟨U', l2, c2, s2⟩, hW₁, X', ⟨g', mk, t, L, e1, e2, hq, h1, hL, h2, h3⟩, st⟩ := vx_callSW X hx (hh := hh) (bytes := bytes) (maxL := maxL) (ret := ret) ho hl hstt hini hcode hy hK hg (hsize.trans hml.symm) (argsL := As) (rest := rest) (fun sig h => hn.trans (hlen sig h)) hstack hW (by rw [hb]; exact hdg)
    (fun vm₁ hW₁ => ⟨hf.1, hf.2, hp.2 (T.setVm vm₁) hT hW₁⟩)
  dsimp only [Pt.U, Pt.locs, Pt.cells, Pt.slots] at X' e1 e2 h1 h2 h3 st
  subst h1; subst h2; subst h3
  exact ⟨v, (T.setVm vm₁).calling g' mk As.toArray, t, U', L, hT, X', hL, e1, e2, hq, st⟩
/-- a thing of a world lies in the heap -/
theorem vx_lt {D : va_G} {cl : List vw_C} {ws : va_W} {H1 : Heap} (h : va_P D cl ws H1) {k : Nat} {q : Nat × va_E} (hk : ws[k]? = some q) : q.1 < H1.size := (h k q hk).lt
end VXS
/-! ===== END ===== -/
end
section
/-! E(String) with its own place of the pool for super(..): follows JvmDerived/BundleOwnThrow.lean (ctorThrowS) and vx_throwS -/
section GCT
def gxTail (own : String) (ic : Nat) (X : String) : List Cond := [.methodLink own ic (Bundle.initS X), .instantiable X 6, .castable X X, .selects X Bundle.tFill0 Bundle.tFill0, .selects X Bundle.tFill Bundle.tFill,
   .lays X Bundle.tN "cause" "Ljava/lang/Throwable;", .lays X Bundle.tN "stackTrace" Bundle.steD, .lays X Bundle.tN "suppressedExceptions" Bundle.listD, .lays X Bundle.tN "detailMessage" "Ljava/lang/String;",
   .isRef (.static Bundle.tN "UNASSIGNED_STACK" Bundle.steD), .isRef (.static Bundle.tN "SUPPRESSED_SENTINEL" Bundle.listD),
   .fieldLink Bundle.tN 198 Bundle.tN "backtrace" "Ljava/lang/Object;", .lays Bundle.tN Bundle.tN "backtrace" "Ljava/lang/Object;", .lays X Bundle.tN "backtrace" "Ljava/lang/Object;"]
def gxAtoms (own : String) (ic : Nat) (X Y : String) (names : List String) (ix : Nat) (bys : ByteArray) : List Cond :=
  Bundle.throwableAtoms ++ (Bundle.throwableSAtoms ++ (Bundle.passSAtoms X Y ix bys ++ (Bundle.chainSAtoms Y names ++ gxTail own ic X)))
variable {p : Program} {l : Launch} {e : Env} {R : Room} {s : State} {m₀ : MethodId} {args : Array Value} {below : List Frame} {meth : Method} {c : Code} {W : State} {locs : List Loc} {cells slots : Nat}
set_option maxHeartbeats 1000000 in
theorem gx_ctor (X : Stand p l e R s m₀ args below meth c W locs cells slots) (hexec : p.tables.exec = Jvm.exec) (htr : e.platform.stackTraces = false) {own cls Y0 : String} {names : List String} {ic ix : Nat} {bys : ByteArray}
    (q0 : decode bys 0 = .ok (.aload_n 0, 1)) (q1 : decode bys 1 = .ok (.aload_n 1, 1)) (q2 : decode bys 2 = .ok (.invokespecial ix, 3)) (q5 : decode bys 5 = .ok (.return_, 1))
    (hown : s.vm.findClass own = some m₀.cls) (hcls : Bundle.fit cls = true) (hY0 : Bundle.fit Y0 = true) (hnames : ∀ n ∈ names, Bundle.fit n = true)
    (h : ∀ a ∈ gxAtoms own ic cls Y0 names ix bys, a.before args s = true)
    (hlocs : ∀ x ∈ locs, ∀ cell, s.heap[x.base]? = some cell → cell.vm.isStatics = false)
    {a : Addr} {cX : ClassId} {kX : Class} (hfoundX : s.vm.findClass cls = some cX) (hkX : s.vm.classes[cX]? = some kX) (hcell : W.heap[a]? = some (freshCell cX kX)) (hnew : s.heap.size ≤ a)
    {msg : Value} (hmsg : msg.isRef = true)
    {g : JFrame} (hg : g.method = m₀) (hsize : g.locals.size = c.maxLocals) (hlocked : g.locked = none) (hentered : g.entered = []) {rest : List Value} (hstack : g.stack = msg :: .ref a :: .ref a :: rest)
    (hd6 : decode c.code g.pc = .ok (.invokespecial ic, 3)) (hd9 : decode c.code (g.pc + 3) = .ok (.athrow, 1)) (hout : ∀ x ∈ c.exceptionTable.toList, covers x (g.pc + 3) = false)
    (hRframes : names.length + 4 < R.frames) (hRlocals : 2 * g.monitorRoom + ((Value.ref a :: rest).map fun v => v.category).sum + (13 * (names.length + 2) + 42) ≤ R.locals) (hlocks : meth.locks = false) :
    ∃ U : State, Steps p.tables e below (W.setTop g) U ∧ U.status = .running ∧ Ended U below (.threw a) ∧ s.WarmedH U.vm ∧ s.sameButNew ({ U with vm := s.vm } : State) locs cells slots ∧
      ∃ ce, U.heap[a]? = some ce ∧ ce.vm = .none ∧ s.vm.findClass cls = some ce.cls := by
  have howns : e.platform.frameOwnsMonitors = true := by rw [X.admits.platform]
  have hfin : e.platform.finalization = false := by rw [X.admits.platform]
  have hpl : e.platform.magicAccessors = ({} : Platform).magicAccessors := by rw [X.admits.platform]
  have hT9 : ∀ x ∈ gxTail own ic cls, x.before args s = true := fun x hx => h x (by
    unfold gxAtoms
    exact List.mem_append_right _ (List.mem_append_right _ (List.mem_append_right _ (List.mem_append_right _ hx))))
  have a' : ∀ x, x ∈ gxTail own ic cls → x.holds args s none s [] = true := fun x hx => hT9 x hx
  obtain ⟨T, Z0, L, -, Y⟩ := ThrowableC.of_atoms (args := args) howns hfin hpl (fun x hx => h x (List.mem_append_left _ hx))
  obtain ⟨Z, M, LZ, LM, hnZ⟩ := Init0T.ofS_atoms (args := args) hpl L Y (fun x hx => h x (List.mem_append_right _ (List.mem_append_left _ hx)))
  obtain ⟨P0, L0, hP1m, hs0⟩ := PassC.ofS_atoms (args := args) (s := s) hpl (X := cls) (Y := Y0) (Bundle.fit_spec hcls).1 (Bundle.fit_spec hY0).2 q0 q1 q2 q5 (fun x hx => h x (List.mem_append_right _ (List.mem_append_right _ (List.mem_append_left _ hx))))
  obtain ⟨P1, Ps, hlen, L1, hL, hP2m, hlink1, hlink⟩ := Bundle.chainS (args := args) hpl hnZ names Y0 hY0 hnames (fun x hx => h x (List.mem_append_right _ (List.mem_append_right _ (List.mem_append_right _ (List.mem_append_left _ hx)))))
  have hlink0 : P0.sup = P1.m := Option.some.inj (hs0.symm.trans hP2m)
  have hfound : s.vm.findClass cls = some P0.m.cls := findClass_of_methodNamed hP1m
  cases Option.some.inj (hfoundX.symm.trans hfound)
  obtain ⟨c1, kX', hc1, hk, hord, -, -, hn6⟩ := Cond.instantiable_spec (a' (.instantiable cls 6) (by simp [gxTail]))
  cases Option.some.inj (hc1.symm.trans hfound)
  cases Option.some.inj (hkX.symm.trans hk)
  have hsel0 : selectMethod e.platform s.vm P0.m.cls T.fill0 = .method T.fill0 := by
    obtain ⟨c2, r2, m2, q1, q2, q3, q4, -⟩ := Cond.selects_spec (a' (.selects cls Bundle.tFill0 Bundle.tFill0) (by simp [gxTail]))
    cases Option.some.inj (q1.symm.trans hfound)
    cases Option.some.inj (q2.symm.trans (State.methodFound?_of_named Y.fill0 (by decide)))
    cases Option.some.inj (q3.symm.trans Y.fill0)
    rw [Launch.admits_selectMethod X.admits]; exact q4
  have hselF : selectMethod e.platform s.vm P0.m.cls T.fill = .method T.fill := by
    obtain ⟨c2, r2, m2, q1, q2, q3, q4, -⟩ := Cond.selects_spec (a' (.selects cls Bundle.tFill Bundle.tFill) (by simp [gxTail]))
    cases Option.some.inj (q1.symm.trans hfound)
    cases Option.some.inj (q2.symm.trans (State.methodFound?_of_named Y.fill (by decide)))
    cases Option.some.inj (q3.symm.trans Y.fill)
    rw [Launch.admits_selectMethod X.admits]; exact q4
  obtain ⟨cellS0, hcS0, hiss⟩ := Y.statics
  obtain ⟨u0, hu0⟩ := Cond.staticRefV Y.unassigned L.unassignedStatic L.statics hcS0 hiss (a' (.isRef (.static Bundle.tN "UNASSIGNED_STACK" Bundle.steD)) (by simp [gxTail]))
  obtain ⟨sen, hsen⟩ := Cond.staticRefV Y.sentinel L.sentinelStatic L.statics hcS0 hiss (a' (.isRef (.static Bundle.tN "SUPPRESSED_SENTINEL" Bundle.listD)) (by simp [gxTail]))
  obtain ⟨ci198, i198, fB, hk198, hg198, ha198, hsB, -, hnB, htB, hffB⟩ := Cond.ownField (t := .object "java/lang/Object") Y.found L.cls (by decide +kernel) (a' (.fieldLink Bundle.tN 198 Bundle.tN "backtrace" "Ljava/lang/Object;") (by simp [gxTail])) (a' (.lays Bundle.tN Bundle.tN "backtrace" "Ljava/lang/Object;") (by simp [gxTail])) e.platform hpl
  obtain ⟨cellS, hcS', heS, -, hkeep⟩ := X.same.2.2.2.2.2 T.aS cellS0 hcS0
  have hcellS : W.heap[T.aS]? = some cellS := hcS'
  have hout' : ∀ i, (⟨T.aS, i⟩ : Loc) ∉ locs := fun i hmem => by
    have := hlocs _ hmem cellS0 hcS0
    rw [hiss] at this; cases this
  have hknownS : cellS.vm ≠ .unknown := by
    rw [heS]; intro hu
    rw [show cellS0.vm = .unknown from hu] at hiss
    cases hiss
  have hneS : T.aS ≠ a := Nat.ne_of_lt (Nat.lt_of_lt_of_le (Array.getElem?_eq_some_iff.mp hcS0).1 hnew)
  obtain ⟨iM, hffM⟩ := Y.msg
  obtain ⟨tyC, dC, hdC, hdnC⟩ := Cond.laysAt hfound hk Y.cause (a' (.lays cls Bundle.tN "cause" "Ljava/lang/Throwable;") (by simp [gxTail]))
  obtain ⟨tyS, dS, hdS, hdnS⟩ := Cond.laysAt hfound hk Y.stack (a' (.lays cls Bundle.tN "stackTrace" Bundle.steD) (by simp [gxTail]))
  obtain ⟨tyP, dP, hdP, hdnP⟩ := Cond.laysAt hfound hk Y.supp (a' (.lays cls Bundle.tN "suppressedExceptions" Bundle.listD) (by simp [gxTail]))
  obtain ⟨tyM, dM, hdM, hdnM⟩ := Cond.laysAt hfound hk hffM (a' (.lays cls Bundle.tN "detailMessage" "Ljava/lang/String;") (by simp [gxTail]))
  obtain ⟨tyB, dB, hdB, hdnB⟩ := Cond.laysAt hfound hk hffB (a' (.lays cls Bundle.tN "backtrace" "Ljava/lang/Object;") (by simp [gxTail]))
  have bC := Cond.laysApart hdB hdC hdnB hdnC (by rw [hnB, Y.causeName]; decide)
  have bS := Cond.laysApart hdB hdS hdnB hdnS (by rw [hnB, Y.stackName]; decide)
  have bP := Cond.laysApart hdB hdP hdnB hdnP (by rw [hnB, Y.suppName]; decide)
  have hskip : SkipFacts T e.platform s (fun u => u) u0 ((preparedCellV T.toThrowableT (freshCell P0.m.cls kX) a u0 sen).withEntry W.cur) :=
    ⟨{ ci198 := ci198, i198 := i198, fBack := fB }, ⟨hk198, hg198, ha198, hsB⟩, by
      have := fresh_default (c := P0.m.cls) tyB
      rw [htB] at this
      simpa [preparedCellV, Cell.setSlot, Cell.withEntry, Array.getElem?_setIfInBounds, bC, bS, bP, bC.symm, bS.symm, bP.symm, defaultValue] using this, fun _ _ => rfl⟩
  have hin0 : ∀ x ∈ Bundle.passSAtoms cls Y0 ix bys, x.before args s = true := fun x hx => h x (List.mem_append_right _ (List.mem_append_right _ (List.mem_append_left _ hx)))
  obtain ⟨tm, methC, cdC, kC, vm₁, hnC, -, -, -, -, -, -, -, hW₁, st1⟩ := Steps.initColdS (tb := p.tables) (e := e) (below := below) (s := s) (U := W) X.here hexec X.warmed hpl hown (t := Bundle.initS cls) rfl rfl (Bundle.fit_spec hcls).2
    (a' (.methodLink own ic (Bundle.initS cls)) (by simp [gxTail])) (hin0 (.instanceMethod (Bundle.initS cls)) (by simp [Bundle.passSAtoms])) (bytes := bys) (maxL := 2) (hin0 (.code (Bundle.initS cls) bys 2 none) (by simp [Bundle.passSAtoms]))
    (f := g) hg (a := a) (msg := msg) (rest := .ref a :: rest) hstack hd6
  cases Option.some.inj (hnC.symm.trans hP1m)
  have X₁ := X.noted hW₁
  obtain ⟨vm₂, X₂, st2⟩ := X₁.ctorMessageOffV hexec (g := { g with stack := .ref a :: rest }) hg hsize T L Z LZ M LM (P0 :: P1 :: Ps)
    (fun P hP => by
      rcases List.mem_cons.mp hP with rfl | hP
      · exact L0
      · rcases List.mem_cons.mp hP with rfl | hP
        · exact L1
        · exact hL P hP) ⟨hlink0, hlink1, hlink⟩ (u0 := u0) (sen := sen) (self := a) hmsg (cell := freshCell P0.m.cls kX) (cellS := cellS)
    hcell (fun _ => by simp) (by simp) rfl rfl hsel0 hselF hcellS hneS hknownS (by rw [hkeep _ (hout' _)]; exact hu0) (by rw [hkeep _ (hout' _)]; exact hsen)
    (Takes.of_laid hk hord tyC (by rw [Y.causeType]; rfl)) (Takes.of_laid hk hord tyS (by rw [Y.stackType]; exact fits_refV_array _ u0)) (Takes.of_laid hk hord tyP (by rw [Y.suppType]; exact fits_refV_object _ sen))
    (Takes.of_laid hk hord tyM (by rw [Y.msgType]; exact fits_refV_object _ ⟨msg, hmsg⟩)) Y.objLocals hskip htr [] hd6
    (by simp only [List.length_cons, hlen]; omega) (by simp only [List.length_cons, hlen]; exact hRlocals)
  obtain ⟨hwalk, hrun, hended, hWU, hsame⟩ := X₂.athrowLeaves hexec (g := { g with stack := .ref a :: rest, pc := g.pc + 3 }) hg hlocked hentered hout (a := a) (rest := rest) rfl hd9 hlocks
  have hlt : a < ((W.setVm vm₁).setVm vm₂).heap.size := (Array.getElem?_eq_some_iff.mp hcell).1
  have hU := heapAt_setCell_self (s := (W.setVm vm₁).setVm vm₂) (plainBareV T.toThrowableT (freshCell P0.m.cls kX) a u0 sen msg) hlt
  refine ⟨_, st1 _ (fun acts => ?_), hrun, hended, hWU, hsame.weaken (fun y hy hlt' => ?_) (Nat.le_refl _) (Nat.le_refl _), _, hU, rfl, hfound⟩
  · rw [doInvoke_state]
    exact st2 _ hwalk
  · rcases List.mem_append.mp hy with h1 | h1
    · exact h1
    · exfalso
      have hb : y.base = a := by
        simp only [List.mem_cons, List.not_mem_nil, or_false] at h1
        rcases h1 with rfl | rfl | rfl | rfl | rfl <;> rfl
      rw [hb] at hlt'
      exact Nat.not_lt.mpr hnew hlt'
end GCT
section GCW
variable {p : Program} {l : Launch} {e : Env} {R : Room} {s : State} {m : MethodId} {args : Array Value} {below : List Frame} {meth : Method} {c : Code} {H : Heap} {locs : List Loc} {cells slots : Nat} {free : Addr → Prop} {ls : Array Slot} {rest : List Value}
variable {Qc : Array Value → State → Outcome → State → Prop} {XC : String → State → State → Prop}
def gx_at (own : String) (ic : Nat) (X Y : String) (names : List String) (ix : Nat) (bys : ByteArray) : List Cond := (gxAtoms own ic X Y names ix bys).filter vx_no
theorem gx_throw {cc : ByteArray} {pc : Nat} (hexec : p.tables.exec = Jvm.exec) (hb : c.code = cc) (hl : l.stackTraces = false) {own cls text Y0 : String} {names : List String} {ik is ic mc ms sa ix : Nat} {bys : ByteArray} {A : Nat → Prop}
    (q0 : decode bys 0 = .ok (.aload_n 0, 1)) (q1 : decode bys 1 = .ok (.aload_n 1, 1)) (q2 : decode bys 2 = .ok (.invokespecial ix, 3)) (q5 : decode bys 5 = .ok (.return_, 1))
    (hown : s.vm.findClass own = some m.cls) (hcls : Bundle.fit cls = true) (hY0 : Bundle.fit Y0 = true) (hnames : ∀ n ∈ names, Bundle.fit n = true)
    (hk : (Cond.classLink own ik cls).before args s = true) (hini : (Cond.initialized cls).before args s = true) (hstr : vk_R own is text sa s) (hat : ∀ w ∈ gx_at own ic cls Y0 names ix bys, w.before args s = true)
    (hgood : ∀ w ∈ Cond.classLink own ik cls :: Cond.initialized cls :: gx_at own ic cls Y0 names ix bys, vx_ot w = true)
    (hU : vx_Zq Bundle.tN "UNASSIGNED_STACK" Bundle.steD A s s.heap) (hN : vx_Zq Bundle.tN "SUPPRESSED_SENTINEL" Bundle.listD A s s.heap) (hS : va_S A s.heap H locs) (hsize : ls.size = c.maxLocals)
    (d0 : decode cc pc = .ok (.new ik, 3)) (d3 : decode cc (pc + 3) = .ok (.dup, 1)) (d4 : decode cc (pc + 4) = .ok (.ldc is, 2)) (d6 : decode cc (pc + 6) = .ok (.invokespecial ic, 3)) (d9 : decode cc (pc + 9) = .ok (.athrow, 1))
    (hout : ∀ x ∈ c.exceptionTable.toList, covers x (pc + 9) = false)
    (hRframes : names.length + 4 < R.frames) (hRlocals : (rest.map fun v => v.category).sum + (13 * (names.length + 2) + 43) ≤ R.locals) (hRcells : cells + 1 ≤ R.cells) (hRslots : slots + 6 ≤ R.slots) (hlocks : meth.locks = false)
    (hx : ∀ t : State, s.vm.Alike t.vm → H.size ≤ t.heap.size → (∀ q : Nat, q < H.size → t.heap[q]? = H[q]?) → XC cls s t)
    (hf : ∀ z ∈ locs, free z.base) (hc : cells + 1 ≤ mc) (hs : slots + 6 ≤ ms) :
    W p l e R s m args below meth c H locs cells slots (vx_MQ below Qc XC args s mc ms free) (F0 m pc ls rest) := by
  intro T hT X
  have htr : e.platform.stackTraces = false := (show e.platform.stackTraces = l.stackTraces by rw [X.admits.platform]).trans hl
  have Y := vx_rebase X (R' := { frames := R.frames, locals := R.locals, cells := 1, slots := 6 }) (Nat.le_refl _) (Nat.le_refl _) hRcells hRslots
  obtain ⟨s', hA9⟩ : ∃ z, z = (T.setVm s.vm).setFrames (.invoking m args :: below) := ⟨_, rfl⟩
  rw [← hA9] at Y
  have hvm : s'.vm = s.vm := by rw [hA9]; rfl
  have hhp : s'.heap = H := by rw [hA9]; exact hT
  have hW0 : s.WarmedH s'.vm := by rw [hvm]; exact State.WarmedH.refl s
  have hat' : ∀ w ∈ gx_at own ic cls Y0 names ix bys, w.before args s' = true := fun w hw => vx_ot_at hW0 hvm.symm (hgood w (List.mem_cons_of_mem _ (List.mem_cons_of_mem _ hw))) (hat w hw)
  have hk' : (Cond.classLink own ik cls).before args s' = true := vx_ot_at hW0 hvm.symm (hgood _ List.mem_cons_self) hk
  have hini' : (Cond.initialized cls).before args s' = true := vx_ot_at hW0 hvm.symm (hgood _ (List.mem_cons_of_mem _ List.mem_cons_self)) hini
  have hU' : vx_Zq Bundle.tN "UNASSIGNED_STACK" Bundle.steD A s' s'.heap := by rw [hhp]; exact vx_Zq.moved hW0.alike (hU.kept hS.2.1)
  have hN' : vx_Zq Bundle.tN "SUPPRESSED_SENTINEL" Bundle.listD A s' s'.heap := by rw [hhp]; exact vx_Zq.moved hW0.alike (hN.kept hS.2.1)
  have h : ∀ w ∈ gxAtoms own ic cls Y0 names ix bys, w.before args s' = true := vx_own hat' (vx_isRefq hU'.1) (vx_isRefq hN'.1) hU'.2.word hN'.2.word
  have hown' : s'.vm.findClass own = some m.cls := by rw [hvm]; exact hown
  have hins : (Cond.instantiable cls 6).before args s' = true := h _ (List.mem_append_right _ (List.mem_append_right _ (List.mem_append_right _ (List.mem_append_right _ (by simp [gxTail])))))
  obtain ⟨vm₁, cX, kX, hfX, hkX, -, -, X₁, st1⟩ := Y.newCold hexec (own := own) (C := cls) (index := ik) (n := 6) hown' hk' hins hini'
    (g := F0 m pc ls rest) rfl (by rw [hb]; exact d0) (Nat.le_refl _) (Nat.le_refl _)
  generalize hT1 : (T.setVm vm₁).pushCell { cls := cX, slots := kX.instanceTypes.map defaultValue, vm := .none } = T1 at X₁ st1
  have hcat : (Value.ref T.heap.size).category = 1 := rfl
  have hcellA : T1.heap[T.heap.size]? = some (freshCell cX kX) := by rw [← hT1]; exact State.heap_pushCell_size _ _
  have d3' : decode c.code (pc + 3) = .ok (.dup, 1) := by rw [hb]; exact d3
  have d4' : decode c.code (pc + 4) = .ok (.ldc is, 2) := by rw [hb]; exact d4
  have hstr' : vk_R own is text sa s' := vk_R.warm hW0 hstr
  obtain ⟨U, hsteps, hrun, hend, hW, hsame, ce, hce, hcv, hcl⟩ := gx_ctor X₁ hexec htr q0 q1 q2 q5 (own := own) (cls := cls) (names := names) (ic := ic) hown' hcls hY0 hnames h (fun x hx => nomatch hx) hfX hkX hcellA (by rw [hhp, hT]; exact Nat.le_refl _) (msg := .ref sa) rfl
    (g := { method := m, pc := pc + 6, locals := ls, stack := .ref sa :: .ref T.heap.size :: .ref T.heap.size :: rest, locked := none }) rfl hsize rfl rfl (rest := rest) rfl
    (by rw [hb]; exact d6) (by rw [hb]; exact d9) hout hRframes (by simp only [List.map_cons, List.sum_cons, hcat]; omega) hlocks
  obtain ⟨f1, f2⟩ := vx_frame hsame
  rw [hhp] at f1 f2
  have hWs : s.WarmedH U.vm := State.WarmedH.trans hW0 hW
  rw [hvm] at hcl
  have hall : s.sameButNew ({ U with vm := s.vm } : State) locs mc ms := by
    subst hA9
    obtain ⟨e1, e2⟩ := hsame
    rw [State.setFrames_setFrames] at e1
    have h2 : (T.setVm s.vm).sameButNew ({ U with vm := s.vm } : State) [] (0 + 1) (0 + 6) := ⟨e1, e2⟩
    have h3 := X.same.trans h2
    rw [List.append_nil] at h3
    exact h3.mono hc hs
  refine ⟨U, ?_, .threw T.heap.size, hrun, hend, Or.inr ⟨T.heap.size, rfl, cls, ce, locs, hx U hWs.alike f1 (fun q hq => f2 q hq (fun z hz => nomatch hz)), hce, hcv, hcl, hWs, hall, hf⟩⟩
  refine st1 _ ?_
  show Steps p.tables e below (T1.setTop { method := m, pc := pc + 3, locals := ls, stack := .ref T.heap.size :: rest, locked := none }) _
  jvm_step X₁.here [X₁.here.top, hexec, d3', Value.category]
  exact X₁.ldcString hexec (own := own) (text := text) (index := is) (a := sa) hown' hstr'.1 hstr'.2
    (g := { method := m, pc := pc + 4, locals := ls, stack := .ref T.heap.size :: .ref T.heap.size :: rest, locked := none }) rfl d4' _ hsteps
end GCW
/-! methods that may throw: what they rest on beside their world, and how they are called -/
def wsF : List Cond := lw_tbl.filter (fun w => w.onTables && w.keepsFace)
theorem wF_at {w : Cond} {s U : State} {A A' : Array Value} (hw : w ∈ wsF) (hW : s.WarmedH U.vm) (h : w.before A s = true) : w.before A' U = true := by
  have hq := (List.mem_filter.mp hw).2
  simp only [Bool.and_eq_true] at hq
  have h1 : w.before A (s.setVm U.vm) = true := Cond.before_shiftedFace (State.Shifted.of_warmed hW) _ hq.2 h
  exact va_tabs hq.1 (rfl : (s.setVm U.vm).vm = U.vm) h1
theorem wF_sm {w : Cond} {u U : State} {A A' : Array Value} (hw : w ∈ wsF) (hv : U.vm = u.vm) (h : w.before A u = true) : w.before A' U = true := by
  have hq := (List.mem_filter.mp hw).2
  simp only [Bool.and_eq_true] at hq
  exact va_tabs hq.1 hv.symm h
def xStr : List (Nat × String × Nat) := [(111, "no such map", 0), (54, "growing was refused", 1), (120, "the key is not there", 2), (82, "no such thing about a map", 3), (118, "no such place", 4), (104, "the place is free", 5), (107, "no such count", 6)]
def xNm : List String := ["java/lang/Exception"]
def xF (sa : Nat → Nat) (U : State) : Prop := (∀ w ∈ wsF, w.before #[] U = true) ∧ ∀ x ∈ xStr, vk_R R_Hop x.1 x.2.1 (sa x.2.2) U
theorem xF.warm {sa : Nat → Nat} {s U : State} (hW : s.WarmedH U.vm) (h : xF sa s) : xF sa U := ⟨fun w hw => wF_at hw hW (h.1 w hw), fun x hx => vk_R.warm hW (h.2 x hx)⟩
theorem xF.same {sa : Nat → Nat} {u U : State} (hv : U.vm = u.vm) (h : xF sa u) : xF sa U := ⟨fun w hw => wF_sm hw hv (h.1 w hw), fun x hx => vk_R.same hv (h.2 x hx)⟩
def xZ (A : Nat → Prop) (U : State) (H : Heap) : Prop := vx_Zq Bundle.tN "UNASSIGNED_STACK" Bundle.steD A U H ∧ vx_Zq Bundle.tN "SUPPRESSED_SENTINEL" Bundle.listD A U H
theorem xZ.moved {A : Nat → Prop} {u U : State} {H : Heap} (hvm : u.vm.Alike U.vm) (h : xZ A u H) : xZ A U H := ⟨vx_Zq.moved hvm h.1, vx_Zq.moved hvm h.2⟩
theorem xZ.kept {A : Nat → Prop} {U : State} {H H1 : Heap} (h : xZ A U H) (hq : ∀ a : Nat, a < H.size → ¬ A a → H1[a]? = H[a]?) : xZ A U H1 := ⟨vx_Zq.kept h.1 hq, vx_Zq.kept h.2 hq⟩
theorem xZ.narrow {A B : Nat → Prop} {U : State} {H : Heap} (h : xZ A U H) (hAB : ∀ q, B q → A q) : xZ B U H := ⟨vx_Zq.narrow h.1 hAB, vx_Zq.narrow h.2 hAB⟩
def hb_X (D : va_G) (cl : List vw_C) (ws : va_W) (tys : List (ClassId × FieldType)) (sa : Nat → Nat) (U : State) : Prop := va_P D cl ws U.heap ∧ va_K D cl tys U ∧ va_D (fun _ => True) ws ∧ xF sa U ∧ xZ (hA ws) U U.heap
def hX_Q (r : Option Value ⊕ String) (D : va_G) (cl : List vw_C) (w1 : va_W) (A : Nat → Prop) : Array Value → State → Outcome → State → Prop := fun _ st o t => ∃ v, r = .inl v ∧ o = .returned v ∧ va_P D cl w1 t.heap ∧ va_F A st t
def hX_X (r : Option Value ⊕ String) (D : va_G) (cl : List vw_C) (w1 : va_W) (A : Nat → Prop) : String → State → State → Prop := fun E st t => r = .inr E ∧ va_P D cl w1 t.heap ∧ va_F A st t
section HXA
variable {p : Program} {l : Launch} {e : Env} {R : Room} {s : State} {m : MethodId} {args : Array Value} {below : List Frame} {meth : Method} {c : Code} {H : Heap} {locs : List Loc} {cells slots : Nat} {Q : State → Prop}
variable {cc : ByteArray} {pc nL : Nat} {ls : Array Slot} {rest st0 : List Value} {D : va_G} {cl : List vw_C} {A : Nat → Prop} {H0 : Heap} {tys : List (ClassId × FieldType)} {ws w1 : va_W} {sa : Nat → Nat}
theorem hb_blindX {av : List Value} : FrameBlind (va_Pc av (hb_X D cl ws tys sa)) := fun a U g mk q => ⟨q.1, q.2.1, va_K.moved (u := U) (U := U.calling g mk a) (Vm.Alike.refl U.vm) q.2.2.1, q.2.2.2.1, xF.same (u := U) (U := U.calling g mk a) rfl q.2.2.2.2.1, xZ.moved (u := U) (U := U.calling g mk a) (Vm.Alike.refl U.vm) q.2.2.2.2.2⟩
theorem hb_preX {As : List Value} (hP : va_P D cl ws H) (hK : va_K D cl tys s) (hD : va_D A ws) (hS : va_S A s.heap H locs) (hF : xF sa s) (hZ : xZ A s s.heap) : ∀ U : State, U.heap = H → s.WarmedH U.vm → va_Pc As (hb_X D cl ws tys sa) As.toArray U :=
  fun U hU hW => ⟨rfl, by rw [hU]; exact hP, va_K.moved hW.alike hK, hD.weaken (fun _ _ _ _ => trivial), hF.warm hW, by rw [hU]; exact ((hZ.kept hS.2.1).moved hW.alike).narrow (hA_sub hD)⟩
theorem hX_call {a : Array Value} {r : Option Value ⊕ String} {mc ms : Nat} (hr : vx_Run p l e R s m args below meth c H locs cells slots mc ms (F0 m pc ls st0) rest (hX_Q r D cl w1 (hA ws) a) (hX_X r D cl w1 (hA ws)) (hA ws)) (hD : va_D A ws) (hD1 : va_D A w1) (hS : va_S A s.heap H locs) (kx : ∀ (E : String) (ce : Cell) (q9 : Addr) (H1 : Heap) (locs1 : List Loc), r = .inr E → va_P D cl w1 H1 → va_D A w1 → va_S A s.heap H1 locs1 → H1[q9]? = some ce → ce.vm = .none → s.vm.findClass E = some ce.cls → vx_W p l e R s m args below meth c H1 locs1 (cells + mc) (slots + ms) Q (F0 m pc ls rest) q9) (kk : ∀ (v : Option Value) (H1 : Heap) (locs1 : List Loc), r = .inl v → va_P D cl w1 H1 → va_D A w1 → va_S A s.heap H1 locs1 → W p l e R s m args below meth c H1 locs1 (cells + mc) (slots + ms) Q (F0 m (pc + 3) ls (v.toList ++ rest))) : W p l e R s m args below meth c H locs cells slots Q (F0 m pc ls st0) := by
  intro T hT X
  rcases hr T hT X with ⟨v, st₀, t, T', L, h0, X', hL, e1, e2, ⟨v', hv, ho, hp, hF⟩, st⟩ | ⟨q, st₀, t, T', L, E, ce, h0, X', hL, e1, e2, ⟨hv, hp, hF⟩, hce, hcv, hcl, st⟩
  · cases ho
    obtain ⟨k1, k2, k3⟩ := vx_keep h0 e1 hS (fun q _ z => hA_sub hD q z) (hA_sub hD) hL hF
    obtain ⟨t2, a1, b1⟩ := kk v T'.heap (locs ++ L) hv (by rw [e1]; exact hp) hD1 k3 T' rfl X'
    exact ⟨t2, st t2 a1, b1⟩
  · obtain ⟨k1, k2, k3⟩ := vx_keep h0 e1 hS (fun q _ z => hA_sub hD q z) (hA_sub hD) hL hF
    obtain ⟨t2, a1, b1⟩ := kx E ce q T'.heap (locs ++ L) hv (by rw [e1]; exact hp) hD1 k3 (by rw [e1]; exact hce) hcv hcl T' rfl X'
    exact ⟨t2, st.trans a1, b1⟩
variable {y : MethodName} {bytes : ByteArray} {maxL mc ms n index : Nat} {ret : Option FieldType} {wy : List Cond} {rm : Room} {Ts : List Cond} {own C : String} {b : Addr} {As : List Value}
theorem hX_V {r : Option Value ⊕ String} (S : CallFix p m c cc nL s args Ts own) (hM : vx_Met l y wy rm (va_Pc (.ref b :: As) (hb_X D cl ws tys sa)) (hX_Q r D cl w1 (hA ws)) (hX_X r D cl w1 (hA ws)) mc ms (hA ws)) (cw : CallW R s args own C index y bytes maxL ret wy rm mc ms n) (hP : va_P D cl ws H) (hK : va_K D cl tys s) (hD : va_D A ws) (hD1 : va_D A w1) (hS : va_S A s.heap H locs) (hF : xF sa s) (hZ : xZ A s s.heap) (hrec : ∃ cellB : Cell, H[b]? = some cellB ∧ cellB.vm.isStatics = false ∧ s.vm.findClass C = some cellB.cls)
    (hn : As.length = n) (hsz : ls.size = nL) (hst : st0 = As.reverse ++ .ref b :: rest) (hrm : (rest.map fun v => v.category).sum ≤ 8) (hf : cells + mc ≤ R.cells ∧ slots + ms ≤ R.slots) (d : decode cc pc = .ok (.invokevirtual index, 3)) (kx : ∀ (E : String) (ce : Cell) (q9 : Addr) (H1 : Heap) (locs1 : List Loc), r = .inr E → va_P D cl w1 H1 → va_D A w1 → va_S A s.heap H1 locs1 → H1[q9]? = some ce → ce.vm = .none → s.vm.findClass E = some ce.cls → vx_W p l e R s m args below meth c H1 locs1 (cells + mc) (slots + ms) Q (F0 m pc ls rest) q9) (kk : ∀ (v : Option Value) (H1 : Heap) (locs1 : List Loc), r = .inl v → va_P D cl w1 H1 → va_D A w1 → va_S A s.heap H1 locs1 → W p l e R s m args below meth c H1 locs1 (cells + mc) (slots + ms) Q (F0 m (pc + 3) ls (v.toList ++ rest))) : W p l e R s m args below meth c H locs cells slots Q (F0 m pc ls st0) :=
  hX_call (vx_runV (As := As) (rest := rest) S hM cw ⟨hb_blindX, hrec, hb_preX hP hK hD hS hF hZ⟩ rfl hn hsz hst (lv_room hrm) d hf) hD hD1 hS kx kk
theorem hX_S {r : Option Value ⊕ String} (S : CallFix p m c cc nL s args Ts own) (hM : vx_Met l y wy rm (va_Pc As (hb_X D cl ws tys sa)) (hX_Q r D cl w1 (hA ws)) (hX_X r D cl w1 (hA ws)) mc ms (hA ws)) (cw : CallB R s args own index y bytes maxL ret wy rm mc ms n ∧ (Cond.static y).before args s = true) (hP : va_P D cl ws H) (hK : va_K D cl tys s) (hD : va_D A ws) (hD1 : va_D A w1) (hS : va_S A s.heap H locs) (hF : xF sa s) (hZ : xZ A s s.heap)
    (hn : As.length = n) (hsz : ls.size = nL) (hst : st0 = As.reverse ++ rest) (hrm : (rest.map fun v => v.category).sum ≤ 8) (hf : cells + mc ≤ R.cells ∧ slots + ms ≤ R.slots) (d : decode cc pc = .ok (.invokestatic index, 3)) (kx : ∀ (E : String) (ce : Cell) (q9 : Addr) (H1 : Heap) (locs1 : List Loc), r = .inr E → va_P D cl w1 H1 → va_D A w1 → va_S A s.heap H1 locs1 → H1[q9]? = some ce → ce.vm = .none → s.vm.findClass E = some ce.cls → vx_W p l e R s m args below meth c H1 locs1 (cells + mc) (slots + ms) Q (F0 m pc ls rest) q9) (kk : ∀ (v : Option Value) (H1 : Heap) (locs1 : List Loc), r = .inl v → va_P D cl w1 H1 → va_D A w1 → va_S A s.heap H1 locs1 → W p l e R s m args below meth c H1 locs1 (cells + mc) (slots + ms) Q (F0 m (pc + 3) ls (v.toList ++ rest))) : W p l e R s m args below meth c H locs cells slots Q (F0 m pc ls st0) :=
  hX_call (vx_runS (As := As) (rest := rest) S hM cw ⟨hb_blindX, hb_preX hP hK hD hS hF hZ⟩ rfl hn hsz hst (lv_room hrm) d hf) hD hD1 hS kx kk
theorem hX_out {r : Option Value ⊕ String} {E : String} {ce : Cell} {q9 : Addr} (hnt : ∀ x ∈ c.exceptionTable.toList, False) (hlocks : meth.locks = false) (hr : r = .inr E) (hP : va_P D cl w1 H) (hS : va_S (hA ws) s.heap H locs) (hce : H[q9]? = some ce) (hcv : ce.vm = .none) (hcl : s.vm.findClass E = some ce.cls) (hc : cells ≤ mc) (hs : slots ≤ ms) :
    vx_W p l e R s m args below meth c H locs cells slots (vx_MQ below (hX_Q r D cl w1 (hA ws)) (hX_X r D cl w1 (hA ws)) args s mc ms (hA ws)) (F0 m pc ls rest) q9 :=
  vx_out (fun x hx => (hnt x hx).elim) hlocks hce hcv hcl (fun t ht _ => ⟨hr, by rw [ht]; exact hP, hS.F ht⟩) hS.2.2 hc hs
theorem hX_throw {r : Option Value ⊕ String} (X : CallFix p m c cc nL s args wsA R_Hop) (hlt : l.stackTraces = false) (hF : xF sa s) (hZ : xZ (hA ws) s s.heap) (hP : va_P D cl w1 H) (hS : va_S (hA ws) s.heap H locs) (hsz : ls.size = nL) {cls text : String} {ik is ic k ix : Nat} {bys : ByteArray} (q0 : decode bys 0 = .ok (.aload_n 0, 1)) (q1 : decode bys 1 = .ok (.aload_n 1, 1)) (q2 : decode bys 2 = .ok (.invokespecial ix, 3)) (q5 : decode bys 5 = .ok (.return_, 1)) (hx1 : (is, text, k) ∈ xStr) (hk : Cond.classLink R_Hop ik cls ∈ wsA) (hi : Cond.initialized cls ∈ wsA) (hcls : Bundle.fit cls = true) (hat : ∀ w ∈ gx_at R_Hop ic cls "java/lang/RuntimeException" xNm ix bys, w ∈ wsF) (hgd : ∀ w ∈ Cond.classLink R_Hop ik cls :: Cond.initialized cls :: gx_at R_Hop ic cls "java/lang/RuntimeException" xNm ix bys, vx_ot w = true)
    (d0 : decode cc pc = .ok (.new ik, 3)) (d3 : decode cc (pc + 3) = .ok (.dup, 1)) (d4 : decode cc (pc + 4) = .ok (.ldc is, 2)) (d6 : decode cc (pc + 6) = .ok (.invokespecial ic, 3)) (d9 : decode cc (pc + 9) = .ok (.athrow, 1)) (hnt : ∀ x ∈ c.exceptionTable.toList, False) (hR : 6 ≤ R.frames ∧ 120 ≤ R.locals) (hrm : (rest.map fun v => v.category).sum ≤ 8) (hRc : cells + 1 ≤ R.cells) (hRs : slots + 6 ≤ R.slots) (hlocks : meth.locks = false) (hr : r = .inr cls) (hc : cells + 1 ≤ mc) (hs : slots + 6 ≤ ms) :
    W p l e R s m args below meth c H locs cells slots (vx_MQ below (hX_Q r D cl w1 (hA ws)) (hX_X r D cl w1 (hA ws)) args s mc ms (hA ws)) (F0 m pc ls rest) :=
  gx_throw (sa := sa k) X.1 X.2.1 hlt q0 q1 q2 q5 X.2.2.2.1 hcls (by decide +kernel) (by decide +kernel) (X.2.2.2.2 _ hk) (X.2.2.2.2 _ hi) (hF.2 _ hx1) (fun w hw => wF_sm (hat w hw) rfl (hF.1 w (hat w hw))) hgd hZ.1 hZ.2 hS (hsz.trans X.2.2.1.symm) d0 d3 d4 d6 d9 (fun x hx => (hnt x hx).elim) (by show 1 + 4 < _; omega) (by show _ + (13 * (1 + 2) + 43) ≤ _; omega) hRc hRs hlocks
    (fun t _ h1 h2 => ⟨hr, hP.kept (fun k q hq => h2 q.1 (hP k q hq).lt), Nat.le_trans hS.1 h1, fun q hq hn => (h2 q (Nat.lt_of_lt_of_le hq hS.1)).trans (hS.2.1 q hq hn)⟩) hS.2.2 hc hs
end HXA
def bys7 : ByteArray := ⟨#[0x2a, 0x2b, 0xb7, 0x00, 0x07, 0xb1]⟩
def bys13 : ByteArray := ⟨#[0x2a, 0x2b, 0xb7, 0x00, 0x0d, 0xb1]⟩
theorem by7_0 : decode bys7 0 = .ok (.aload_n 0, 1) := by decide +kernel
theorem by7_1 : decode bys7 1 = .ok (.aload_n 1, 1) := by decide +kernel
theorem by7_2 : decode bys7 2 = .ok (.invokespecial 7, 3) := by decide +kernel
theorem by7_5 : decode bys7 5 = .ok (.return_, 1) := by decide +kernel
theorem by13_0 : decode bys13 0 = .ok (.aload_n 0, 1) := by decide +kernel
theorem by13_1 : decode bys13 1 = .ok (.aload_n 1, 1) := by decide +kernel
theorem by13_2 : decode bys13 2 = .ok (.invokespecial 13, 3) := by decide +kernel
theorem by13_5 : decode bys13 5 = .ok (.return_, 1) := by decide +kernel
theorem at_IOOBE : ∀ w ∈ gx_at R_Hop 113 "java/lang/IndexOutOfBoundsException" "java/lang/RuntimeException" xNm 7 bys7, w ∈ wsF := by decide +kernel
theorem ot_IOOBE : ∀ w ∈ Cond.classLink R_Hop 109 "java/lang/IndexOutOfBoundsException" :: Cond.initialized "java/lang/IndexOutOfBoundsException" :: gx_at R_Hop 113 "java/lang/IndexOutOfBoundsException" "java/lang/RuntimeException" xNm 7 bys7, vx_ot w = true := by decide +kernel
theorem at_AE : ∀ w ∈ gx_at R_Hop 56 "java/lang/ArithmeticException" "java/lang/RuntimeException" xNm 7 bys7, w ∈ wsF := by decide +kernel
theorem ot_AE : ∀ w ∈ Cond.classLink R_Hop 52 "java/lang/ArithmeticException" :: Cond.initialized "java/lang/ArithmeticException" :: gx_at R_Hop 56 "java/lang/ArithmeticException" "java/lang/RuntimeException" xNm 7 bys7, vx_ot w = true := by decide +kernel
theorem at_NSE : ∀ w ∈ gx_at R_Hop 106 "java/util/NoSuchElementException" "java/lang/RuntimeException" xNm 13 bys13, w ∈ wsF := by decide +kernel
theorem ot_NSE : ∀ w ∈ Cond.classLink R_Hop 102 "java/util/NoSuchElementException" :: Cond.initialized "java/util/NoSuchElementException" :: gx_at R_Hop 106 "java/util/NoSuchElementException" "java/lang/RuntimeException" xNm 13 bys13, vx_ot w = true := by decide +kernel
theorem at_IAE : ∀ w ∈ gx_at R_Hop 84 "java/lang/IllegalArgumentException" "java/lang/RuntimeException" xNm 7 bys7, w ∈ wsF := by decide +kernel
theorem ot_IAE : ∀ w ∈ Cond.classLink R_Hop 80 "java/lang/IllegalArgumentException" :: Cond.initialized "java/lang/IllegalArgumentException" :: gx_at R_Hop 84 "java/lang/IllegalArgumentException" "java/lang/RuntimeException" xNm 7 bys7, vx_ot w = true := by decide +kernel
end
section
theorem g_Hop_partOf : GoodIn wsA (wsV R_Hop 36 R_Hop y_Hop_partOf w_Hop_partOf) := gV m_109 m_111 m_0 m_40 m_112
theorem g_Hop_slotHolding : GoodIn wsA (wsV R_Hop 59 R_Hop y_Hop_slotHolding w_Hop_slotHolding) := gV m_288 m_290 m_17 m_40 m_291
theorem g_Hop_requirePlace : GoodIn wsA (wsS R_Hop 92 y_Hop_requirePlace w_Hop_requirePlace) := gS m_385 m_386 m_40 m_387
set_option maxHeartbeats 4000000 in
set_option maxRecDepth 100000 in
/-- partOf: the part of a map -/
theorem c_Hop_partOf (l : Launch) (hlt : l.stackTraces = false) (D : va_G) (ca a q : Nat → Nat) (K V : IT) (T : BT) (C : IT) (B P : Nat → Nat) (S : IT) (sa : Nat → Nat) (j : Nat) (hj : j < 3) : vx_Met l y_Hop_partOf w_Hop_partOf (rmD 6 1 6) (va_Pc [.ref (a 0), .int (nI j)] (hb_X D hCl (wH ca a q K V T C B P S) (tyH ca) sa)) (hX_Q (.inl (some (.ref (q j)))) D hCl (wH ca a q K V T C B P S) (hA (wH ca a q K V T C B P S))) (hX_X (.inl (some (.ref (q j)))) D hCl (wH ca a q K V T C B P S) (hA (wH ca a q K V T C B P S))) 1 6 (hA (wH ca a q K V T C B P S)) := by
  refine vx_ofW (cc := b_Hop_partOf) (maxL := 2) (ret := some (.object "HopArena$Part")) (by decide) rfl ?_
  intro p e s m args below meth c0 s₁ B0 hml hnt hv
  obtain ⟨rfl, hP, hK, hD0, hF, hZ⟩ := hv
  have hx := B0.exec
  have hb := B0.bytes
  have hr := B0.returns
  have hts := atoms_spec (ws := w_Hop_partOf) B0.pre
  have hown : s.vm.findClass R_Hop = some m.cls := findClass_of_methodNamed B0.named
  have hlocks := B0.notSynchronized
  have hwA : ∀ w ∈ wsA, w.before ([.ref (a 0), .int (nI j)] : List Value).toArray s = true := fun w h => hts w (List.mem_cons_of_mem _ h)
  have X : CallFix p m c0 b_Hop_partOf 2 s ([.ref (a 0), .int (nI j)] : List Value).toArray wsA R_Hop := ⟨hx, hb, hml, hown, hwA⟩
  have hD := hA_D hD0
  have hS : va_S (hA (wH ca a q K V T C B P S)) s.heap s.heap [] := va_S.rf
  have hl := lv_entry ([.ref (a 0), .int (nI j)]) (n := 2) (Nat.le_of_ble_eq_true rfl)
  rw [lg_entry_eq]
  generalize (lg_sl ([.ref (a 0), .int (nI j)]) ++ List.replicate (2 - (lg_sl ([.ref (a 0), .int (nI j)])).length) Slot.unset).toArray = ls at hl ⊢
  have hl : lv_has ls 2 [(0, .ref (a 0)), (1, .int (nI j))] := hl
  refine lv_iload_n hx hb d_Hop_partOf_0 rfl (lv_at hl 1 rfl) ?_
  refine lvF_if_lt (tgt := 9) hx hb d_Hop_partOf_1 (by decide) (nI_pos (by omega)) ?_
  refine lv_iload_n hx hb d_Hop_partOf_4 rfl (lv_at hl 1 rfl) ?_
  refine lv_iconst (v := 3) hx hb d_Hop_partOf_5 (by decide) ?_
  refine lvT_icmp_lt (tgt := 19) hx hb d_Hop_partOf_6 (by decide) (nI_lt (a := j) (b := 3) (by omega) (by omega)) ?_
  refine lv_aload_n hx hb d_Hop_partOf_19 rfl (lv_at hl 0 rfl) ?_
  refine hg_parts X hK hP d_Hop_partOf_20 ?_
  refine lv_iload_n hx hb d_Hop_partOf_23 rfl (lv_at hl 1 rfl) ?_
  refine hl_P X hK hP (i := j) (hj) d_Hop_partOf_24 ?_
  refine W.widen (k := 1) (n := 6) (Nat.le_of_ble_eq_true rfl) (Nat.le_of_ble_eq_true rfl) ?_
  exact vx_ret (W.aret (v := .ref (q j)) hx hb hr (Or.inl ⟨_, rfl⟩) (Or.inr ⟨_, rfl⟩) (fun t ht hW => ⟨_, rfl, rfl, by rw [ht]; exact hP, hS.F ht⟩) hS.2.2 d_Hop_partOf_25)
set_option maxHeartbeats 4000000 in
set_option maxRecDepth 100000 in
/-- partOf: there is no such map -/
theorem c_Hop_partOf_bad (l : Launch) (hlt : l.stackTraces = false) (D : va_G) (ca a q : Nat → Nat) (K V : IT) (T : BT) (C : IT) (B P : Nat → Nat) (S : IT) (sa : Nat → Nat) (mm : Int32) (hm : mm < 0 ∨ nI 3 ≤ mm) : vx_Met l y_Hop_partOf w_Hop_partOf (rmD 6 1 6) (va_Pc [.ref (a 0), .int mm] (hb_X D hCl (wH ca a q K V T C B P S) (tyH ca) sa)) (hX_Q (.inr "java/lang/IndexOutOfBoundsException") D hCl (wH ca a q K V T C B P S) (hA (wH ca a q K V T C B P S))) (hX_X (.inr "java/lang/IndexOutOfBoundsException") D hCl (wH ca a q K V T C B P S) (hA (wH ca a q K V T C B P S))) 1 6 (hA (wH ca a q K V T C B P S)) := by
  refine vx_ofW (cc := b_Hop_partOf) (maxL := 2) (ret := some (.object "HopArena$Part")) (by decide) rfl ?_
  intro p e s m args below meth c0 s₁ B0 hml hnt hv
  obtain ⟨rfl, hP, hK, hD0, hF, hZ⟩ := hv
  have hx := B0.exec
  have hb := B0.bytes
  have hr := B0.returns
  have hts := atoms_spec (ws := w_Hop_partOf) B0.pre
  have hown : s.vm.findClass R_Hop = some m.cls := findClass_of_methodNamed B0.named
  have hlocks := B0.notSynchronized
  have hwA : ∀ w ∈ wsA, w.before ([.ref (a 0), .int mm] : List Value).toArray s = true := fun w h => hts w (List.mem_cons_of_mem _ h)
  have X : CallFix p m c0 b_Hop_partOf 2 s ([.ref (a 0), .int mm] : List Value).toArray wsA R_Hop := ⟨hx, hb, hml, hown, hwA⟩
  have hD := hA_D hD0
  have hS : va_S (hA (wH ca a q K V T C B P S)) s.heap s.heap [] := va_S.rf
  have hl := lv_entry ([.ref (a 0), .int mm]) (n := 2) (Nat.le_of_ble_eq_true rfl)
  rw [lg_entry_eq]
  generalize (lg_sl ([.ref (a 0), .int mm]) ++ List.replicate (2 - (lg_sl ([.ref (a 0), .int mm])).length) Slot.unset).toArray = ls at hl ⊢
  have hl : lv_has ls 2 [(0, .ref (a 0)), (1, .int mm)] := hl
  refine lv_iload_n hx hb d_Hop_partOf_0 rfl (lv_at hl 1 rfl) ?_
  refine lv_if_lt (tgt := 9) hx hb d_Hop_partOf_1 (by decide) (fun h1 => ?_) (fun h1 => ?_)
  · exact hX_throw (k := 0) (text := "no such map") X hlt hF hZ hP hS hl.1 by7_0 by7_1 by7_2 by7_5 (by decide) m_113 m_46 (by decide +kernel) at_IOOBE ot_IOOBE d_Hop_partOf_9 d_Hop_partOf_12 d_Hop_partOf_13 d_Hop_partOf_15 d_Hop_partOf_18 hnt ⟨Nat.le_of_ble_eq_true rfl, Nat.le_of_ble_eq_true rfl⟩ (Nat.le_of_ble_eq_true rfl) (Nat.le_of_ble_eq_true rfl) (Nat.le_of_ble_eq_true rfl) hlocks rfl (Nat.le_of_ble_eq_true rfl) (Nat.le_of_ble_eq_true rfl)
  · refine lv_iload_n hx hb d_Hop_partOf_4 rfl (lv_at hl 1 rfl) ?_
    refine lv_iconst (v := 3) hx hb d_Hop_partOf_5 (by decide) ?_
    refine lvF_icmp_lt (tgt := 19) hx hb d_Hop_partOf_6 (by decide) (Int32.not_lt.mpr (hm.resolve_left h1)) ?_
    exact hX_throw (k := 0) (text := "no such map") X hlt hF hZ hP hS hl.1 by7_0 by7_1 by7_2 by7_5 (by decide) m_113 m_46 (by decide +kernel) at_IOOBE ot_IOOBE d_Hop_partOf_9 d_Hop_partOf_12 d_Hop_partOf_13 d_Hop_partOf_15 d_Hop_partOf_18 hnt ⟨Nat.le_of_ble_eq_true rfl, Nat.le_of_ble_eq_true rfl⟩ (Nat.le_of_ble_eq_true rfl) (Nat.le_of_ble_eq_true rfl) (Nat.le_of_ble_eq_true rfl) hlocks rfl (Nat.le_of_ble_eq_true rfl) (Nat.le_of_ble_eq_true rfl)
set_option maxHeartbeats 4000000 in
set_option maxRecDepth 100000 in
/-- slotHolding: the slot of a key -/
theorem c_Hop_slotHolding (l : Launch) (hlt : l.stackTraces = false) (D : va_G) (ca a q : Nat → Nat) (K V : IT) (T : BT) (C : IT) (B P : Nat → Nat) (S : IT) (sa : Nat → Nat) (j : Nat) (key : Int32) (hj : j < 4) (hc : pw (P j)) (hbd : B j + P j ≤ 256) (k : Nat) (hk : k < 256) (hfd : fnd T K (B j) (P j) (hom key (S j) (P j)) key 0 8 = some k) : vx_Met l y_Hop_slotHolding w_Hop_slotHolding (rmD 6 1 6) (va_Pc [.ref (a 0), .ref (q j), .int key] (hb_X D hCl (wH ca a q K V T C B P S) (tyH ca) sa)) (hX_Q (.inl (some (.int (nI k)))) D hCl (wH ca a q K V T C B P S) (hA (wH ca a q K V T C B P S))) (hX_X (.inl (some (.int (nI k)))) D hCl (wH ca a q K V T C B P S) (hA (wH ca a q K V T C B P S))) 1 6 (hA (wH ca a q K V T C B P S)) := by
  refine vx_ofW (cc := b_Hop_slotHolding) (maxL := 4) (ret := some .int) (by decide) rfl ?_
  intro p e s m args below meth c0 s₁ B0 hml hnt hv
  obtain ⟨rfl, hP, hK, hD0, hF, hZ⟩ := hv
  have hx := B0.exec
  have hb := B0.bytes
  have hr := B0.returns
  have hts := atoms_spec (ws := w_Hop_slotHolding) B0.pre
  have hown : s.vm.findClass R_Hop = some m.cls := findClass_of_methodNamed B0.named
  have hlocks := B0.notSynchronized
  have hwA : ∀ w ∈ wsA, w.before ([.ref (a 0), .ref (q j), .int key] : List Value).toArray s = true := fun w h => hts w (List.mem_cons_of_mem _ h)
  have X : CallFix p m c0 b_Hop_slotHolding 4 s ([.ref (a 0), .ref (q j), .int key] : List Value).toArray wsA R_Hop := ⟨hx, hb, hml, hown, hwA⟩
  have hD := hA_D hD0
  have hS : va_S (hA (wH ca a q K V T C B P S)) s.heap s.heap [] := va_S.rf
  have hl := lv_entry ([.ref (a 0), .ref (q j), .int key]) (n := 4) (Nat.le_of_ble_eq_true rfl)
  rw [lg_entry_eq]
  generalize (lg_sl ([.ref (a 0), .ref (q j), .int key]) ++ List.replicate (4 - (lg_sl ([.ref (a 0), .ref (q j), .int key])).length) Slot.unset).toArray = ls at hl ⊢
  have hl : lv_has ls 4 [(0, .ref (a 0)), (1, .ref (q j)), (2, .int key)] := hl
  refine lv_aload_n hx hb d_Hop_slotHolding_0 rfl (lv_at hl 0 rfl) ?_
  refine lv_aload_n hx hb d_Hop_slotHolding_1 rfl (lv_at hl 1 rfl) ?_
  refine lv_iload_n hx hb d_Hop_slotHolding_2 rfl (lv_at hl 2 rfl) ?_
  refine k_slotOrNone X hK hP hl.1 hj hc hbd (Nat.le_of_ble_eq_true rfl) ⟨Nat.le_of_ble_eq_true rfl, Nat.le_of_ble_eq_true rfl⟩ ⟨Nat.le_of_ble_eq_true rfl, Nat.le_of_ble_eq_true rfl⟩ d_Hop_slotHolding_3 ?_
  rw [hfd]
  refine lv_tope (y := nI k) rfl ?_
  refine lv_istore_n (lv' := [(3, .int (nI k)), (0, .ref (a 0)), (1, .ref (q j)), (2, .int key)]) hx hb d_Hop_slotHolding_6 rfl hl (by decide) rfl (fun ls hl => ?_)
  refine lv_iload_n hx hb d_Hop_slotHolding_7 rfl (lv_at hl 0 rfl) ?_
  refine lv_iconst (v := -1) hx hb d_Hop_slotHolding_8 (by decide) ?_
  refine lvT_icmp_ne (tgt := 22) hx hb d_Hop_slotHolding_9 (by decide) (nI_m1 (by omega)) ?_
  refine lv_iload_n hx hb d_Hop_slotHolding_22 rfl (lv_at hl 0 rfl) ?_
  refine W.widen (k := 1) (n := 6) (Nat.le_of_ble_eq_true rfl) (Nat.le_of_ble_eq_true rfl) ?_
  exact vx_ret (W.iret (v := nI k) hx hb hr (fun t ht hW => ⟨_, rfl, rfl, by rw [ht]; exact hP, hS.F ht⟩) hS.2.2 d_Hop_slotHolding_23)
set_option maxHeartbeats 4000000 in
set_option maxRecDepth 100000 in
/-- slotHolding: the key is not there -/
theorem c_Hop_slotHolding_bad (l : Launch) (hlt : l.stackTraces = false) (D : va_G) (ca a q : Nat → Nat) (K V : IT) (T : BT) (C : IT) (B P : Nat → Nat) (S : IT) (sa : Nat → Nat) (j : Nat) (key : Int32) (hj : j < 4) (hc : pw (P j)) (hbd : B j + P j ≤ 256) (hfd : fnd T K (B j) (P j) (hom key (S j) (P j)) key 0 8 = none) : vx_Met l y_Hop_slotHolding w_Hop_slotHolding (rmD 6 1 6) (va_Pc [.ref (a 0), .ref (q j), .int key] (hb_X D hCl (wH ca a q K V T C B P S) (tyH ca) sa)) (hX_Q (.inr "java/util/NoSuchElementException") D hCl (wH ca a q K V T C B P S) (hA (wH ca a q K V T C B P S))) (hX_X (.inr "java/util/NoSuchElementException") D hCl (wH ca a q K V T C B P S) (hA (wH ca a q K V T C B P S))) 1 6 (hA (wH ca a q K V T C B P S)) := by
  refine vx_ofW (cc := b_Hop_slotHolding) (maxL := 4) (ret := some .int) (by decide) rfl ?_
  intro p e s m args below meth c0 s₁ B0 hml hnt hv
  obtain ⟨rfl, hP, hK, hD0, hF, hZ⟩ := hv
  have hx := B0.exec
  have hb := B0.bytes
  have hr := B0.returns
  have hts := atoms_spec (ws := w_Hop_slotHolding) B0.pre
  have hown : s.vm.findClass R_Hop = some m.cls := findClass_of_methodNamed B0.named
  have hlocks := B0.notSynchronized
  have hwA : ∀ w ∈ wsA, w.before ([.ref (a 0), .ref (q j), .int key] : List Value).toArray s = true := fun w h => hts w (List.mem_cons_of_mem _ h)
  have X : CallFix p m c0 b_Hop_slotHolding 4 s ([.ref (a 0), .ref (q j), .int key] : List Value).toArray wsA R_Hop := ⟨hx, hb, hml, hown, hwA⟩
  have hD := hA_D hD0
  have hS : va_S (hA (wH ca a q K V T C B P S)) s.heap s.heap [] := va_S.rf
  have hl := lv_entry ([.ref (a 0), .ref (q j), .int key]) (n := 4) (Nat.le_of_ble_eq_true rfl)
  rw [lg_entry_eq]
  generalize (lg_sl ([.ref (a 0), .ref (q j), .int key]) ++ List.replicate (4 - (lg_sl ([.ref (a 0), .ref (q j), .int key])).length) Slot.unset).toArray = ls at hl ⊢
  have hl : lv_has ls 4 [(0, .ref (a 0)), (1, .ref (q j)), (2, .int key)] := hl
  refine lv_aload_n hx hb d_Hop_slotHolding_0 rfl (lv_at hl 0 rfl) ?_
  refine lv_aload_n hx hb d_Hop_slotHolding_1 rfl (lv_at hl 1 rfl) ?_
  refine lv_iload_n hx hb d_Hop_slotHolding_2 rfl (lv_at hl 2 rfl) ?_
  refine k_slotOrNone X hK hP hl.1 hj hc hbd (Nat.le_of_ble_eq_true rfl) ⟨Nat.le_of_ble_eq_true rfl, Nat.le_of_ble_eq_true rfl⟩ ⟨Nat.le_of_ble_eq_true rfl, Nat.le_of_ble_eq_true rfl⟩ d_Hop_slotHolding_3 ?_
  rw [hfd]
  refine lv_tope (y := -1) rfl ?_
  refine lv_istore_n (lv' := [(3, .int (-1)), (0, .ref (a 0)), (1, .ref (q j)), (2, .int key)]) hx hb d_Hop_slotHolding_6 rfl hl (by decide) rfl (fun ls hl => ?_)
  refine lv_iload_n hx hb d_Hop_slotHolding_7 rfl (lv_at hl 0 rfl) ?_
  refine lv_iconst (v := -1) hx hb d_Hop_slotHolding_8 (by decide) ?_
  refine lvF_icmp_ne (tgt := 22) hx hb d_Hop_slotHolding_9 (by decide) (rfl) ?_
  exact hX_throw (k := 2) (text := "the key is not there") X hlt hF hZ hP hS hl.1 by13_0 by13_1 by13_2 by13_5 (by decide) m_292 m_49 (by decide +kernel) at_NSE ot_NSE d_Hop_slotHolding_12 d_Hop_slotHolding_15 d_Hop_slotHolding_16 d_Hop_slotHolding_18 d_Hop_slotHolding_21 hnt ⟨Nat.le_of_ble_eq_true rfl, Nat.le_of_ble_eq_true rfl⟩ (Nat.le_of_ble_eq_true rfl) (Nat.le_of_ble_eq_true rfl) (Nat.le_of_ble_eq_true rfl) hlocks rfl (Nat.le_of_ble_eq_true rfl) (Nat.le_of_ble_eq_true rfl)
set_option maxHeartbeats 4000000 in
set_option maxRecDepth 100000 in
/-- requirePlace -/
theorem c_Hop_requirePlace (l : Launch) (hlt : l.stackTraces = false) (D : va_G) (ca a q : Nat → Nat) (K V : IT) (T : BT) (C : IT) (B P : Nat → Nat) (S : IT) (sa : Nat → Nat) (j : Nat) (x : Int32) (hj : j < 4) (hcp : P j < 2 ^ 31) (hx0 : 0 ≤ x ∧ x < nI (P j)) : vx_Met l y_Hop_requirePlace w_Hop_requirePlace (rmD 6 1 6) (va_Pc [.ref (q j), .int x] (hb_X D hCl (wH ca a q K V T C B P S) (tyH ca) sa)) (hX_Q (.inl none) D hCl (wH ca a q K V T C B P S) (hA (wH ca a q K V T C B P S))) (hX_X (.inl none) D hCl (wH ca a q K V T C B P S) (hA (wH ca a q K V T C B P S))) 1 6 (hA (wH ca a q K V T C B P S)) := by
  refine vx_ofW (cc := b_Hop_requirePlace) (maxL := 2) (ret := none) (by decide) rfl ?_
  intro p e s m args below meth c0 s₁ B0 hml hnt hv
  obtain ⟨rfl, hP, hK, hD0, hF, hZ⟩ := hv
  have hx := B0.exec
  have hb := B0.bytes
  have hr := B0.returns
  have hts := atoms_spec (ws := w_Hop_requirePlace) B0.pre
  have hown : s.vm.findClass R_Hop = some m.cls := findClass_of_methodNamed B0.named
  have hlocks := B0.notSynchronized
  have hwA : ∀ w ∈ wsA, w.before ([.ref (q j), .int x] : List Value).toArray s = true := fun w h => hts w (List.mem_cons_of_mem _ h)
  have X : CallFix p m c0 b_Hop_requirePlace 2 s ([.ref (q j), .int x] : List Value).toArray wsA R_Hop := ⟨hx, hb, hml, hown, hwA⟩
  have hD := hA_D hD0
  have hS : va_S (hA (wH ca a q K V T C B P S)) s.heap s.heap [] := va_S.rf
  have hl := lv_entry ([.ref (q j), .int x]) (n := 2) (Nat.le_of_ble_eq_true rfl)
  rw [lg_entry_eq]
  generalize (lg_sl ([.ref (q j), .int x]) ++ List.replicate (2 - (lg_sl ([.ref (q j), .int x])).length) Slot.unset).toArray = ls at hl ⊢
  have hl : lv_has ls 2 [(0, .ref (q j)), (1, .int x)] := hl
  refine lv_aload_n hx hb d_Hop_requirePlace_0 rfl (lv_at hl 0 rfl) ?_
  refine lv_iload_n hx hb d_Hop_requirePlace_1 rfl (lv_at hl 1 rfl) ?_
  refine k_isPlace X hK hP hl.1 hcp hj (Nat.le_of_ble_eq_true rfl) ⟨Nat.le_of_ble_eq_true rfl, Nat.le_of_ble_eq_true rfl⟩ ⟨Nat.le_of_ble_eq_true rfl, Nat.le_of_ble_eq_true rfl⟩ d_Hop_requirePlace_2 ?_
  refine lvT_if_ne (tgt := 18) hx hb d_Hop_requirePlace_5 (by decide) (bI_n0.mpr (decide_eq_true hx0)) ?_
  refine W.widen (k := 1) (n := 6) (Nat.le_of_ble_eq_true rfl) (Nat.le_of_ble_eq_true rfl) ?_
  exact vx_ret (W.vret hx hb hr (fun t ht hW => ⟨_, rfl, rfl, by rw [ht]; exact hP, hS.F ht⟩) hS.2.2 d_Hop_requirePlace_18)
set_option maxHeartbeats 4000000 in
set_option maxRecDepth 100000 in
/-- requirePlace: there is no such place -/
theorem c_Hop_requirePlace_bad (l : Launch) (hlt : l.stackTraces = false) (D : va_G) (ca a q : Nat → Nat) (K V : IT) (T : BT) (C : IT) (B P : Nat → Nat) (S : IT) (sa : Nat → Nat) (j : Nat) (x : Int32) (hj : j < 4) (hcp : P j < 2 ^ 31) (hx0 : ¬ (0 ≤ x ∧ x < nI (P j))) : vx_Met l y_Hop_requirePlace w_Hop_requirePlace (rmD 6 1 6) (va_Pc [.ref (q j), .int x] (hb_X D hCl (wH ca a q K V T C B P S) (tyH ca) sa)) (hX_Q (.inr "java/lang/IllegalArgumentException") D hCl (wH ca a q K V T C B P S) (hA (wH ca a q K V T C B P S))) (hX_X (.inr "java/lang/IllegalArgumentException") D hCl (wH ca a q K V T C B P S) (hA (wH ca a q K V T C B P S))) 1 6 (hA (wH ca a q K V T C B P S)) := by
  refine vx_ofW (cc := b_Hop_requirePlace) (maxL := 2) (ret := none) (by decide) rfl ?_
  intro p e s m args below meth c0 s₁ B0 hml hnt hv
  obtain ⟨rfl, hP, hK, hD0, hF, hZ⟩ := hv
  have hx := B0.exec
  have hb := B0.bytes
  have hr := B0.returns
  have hts := atoms_spec (ws := w_Hop_requirePlace) B0.pre
  have hown : s.vm.findClass R_Hop = some m.cls := findClass_of_methodNamed B0.named
  have hlocks := B0.notSynchronized
  have hwA : ∀ w ∈ wsA, w.before ([.ref (q j), .int x] : List Value).toArray s = true := fun w h => hts w (List.mem_cons_of_mem _ h)
  have X : CallFix p m c0 b_Hop_requirePlace 2 s ([.ref (q j), .int x] : List Value).toArray wsA R_Hop := ⟨hx, hb, hml, hown, hwA⟩
  have hD := hA_D hD0
  have hS : va_S (hA (wH ca a q K V T C B P S)) s.heap s.heap [] := va_S.rf
  have hl := lv_entry ([.ref (q j), .int x]) (n := 2) (Nat.le_of_ble_eq_true rfl)
  rw [lg_entry_eq]
  generalize (lg_sl ([.ref (q j), .int x]) ++ List.replicate (2 - (lg_sl ([.ref (q j), .int x])).length) Slot.unset).toArray = ls at hl ⊢
  have hl : lv_has ls 2 [(0, .ref (q j)), (1, .int x)] := hl
  refine lv_aload_n hx hb d_Hop_requirePlace_0 rfl (lv_at hl 0 rfl) ?_
  refine lv_iload_n hx hb d_Hop_requirePlace_1 rfl (lv_at hl 1 rfl) ?_
  refine k_isPlace X hK hP hl.1 hcp hj (Nat.le_of_ble_eq_true rfl) ⟨Nat.le_of_ble_eq_true rfl, Nat.le_of_ble_eq_true rfl⟩ ⟨Nat.le_of_ble_eq_true rfl, Nat.le_of_ble_eq_true rfl⟩ d_Hop_requirePlace_2 ?_
  refine lvF_if_ne (tgt := 18) hx hb d_Hop_requirePlace_5 (by decide) (bI_0.mpr (decide_eq_false hx0)) ?_
  exact hX_throw (k := 4) (text := "no such place") X hlt hF hZ hP hS hl.1 by7_0 by7_1 by7_2 by7_5 (by decide) m_348 m_50 (by decide +kernel) at_IAE ot_IAE d_Hop_requirePlace_8 d_Hop_requirePlace_11 d_Hop_requirePlace_12 d_Hop_requirePlace_14 d_Hop_requirePlace_17 hnt ⟨Nat.le_of_ble_eq_true rfl, Nat.le_of_ble_eq_true rfl⟩ (Nat.le_of_ble_eq_true rfl) (Nat.le_of_ble_eq_true rfl) (Nat.le_of_ble_eq_true rfl) hlocks rfl (Nat.le_of_ble_eq_true rfl) (Nat.le_of_ble_eq_true rfl)
section HKT
variable {p : Program} {l : Launch} {e : Env} {R : Room} {s : State} {m : MethodId} {args : Array Value} {below : List Frame} {meth : Method} {c : Code} {H : Heap} {locs : List Loc} {cells slots : Nat} {Q : State → Prop}
variable {cc : ByteArray} {pc nL : Nat} {ls : Array Slot} {rest st0 : List Value} {D : va_G} {A : Nat → Prop} {H0 : Heap} {ca a q : Nat → Nat} {K V : IT} {T : BT} {C : IT} {B P : Nat → Nat} {S : IT} {sa : Nat → Nat}
theorem k_partOf (X : CallFix p m c cc nL s args wsA R_Hop) (hlt : l.stackTraces = false) (hK : va_K D hCl (tyH ca) s) (hP : va_P D hCl (wH ca a q K V T C B P S) H) (hD : va_D A (wH ca a q K V T C B P S)) (hS : va_S A s.heap H locs) (hF : xF sa s) (hZ : xZ A s s.heap) (hsz : ls.size = nL) {j : Nat} (hj : j < 3) (hrm : (rest.map fun v => v.category).sum ≤ 8) (hf : cells + 1 ≤ R.cells ∧ slots + 6 ≤ R.slots) (hR : 7 ≤ R.frames ∧ 210 ≤ R.locals) (d : decode cc pc = .ok (.invokevirtual 36, 3)) (k : ∀ (H1 : Heap) (locs1 : List Loc), va_P D hCl (wH ca a q K V T C B P S) H1 → va_D A (wH ca a q K V T C B P S) → va_S A s.heap H1 locs1 → W p l e R s m args below meth c H1 locs1 (cells + 1) (slots + 6) Q (F0 m (pc + 3) ls (.ref (q j) :: rest))) : W p l e R s m args below meth c H locs cells slots Q (F0 m pc ls (.int (nI j) :: .ref (a 0) :: rest)) :=
  hX_V (As := [.int (nI j)]) (C := R_Hop) X (c_Hop_partOf l hlt D ca a q K V T C B P S sa j hj) (cwV 1 X.2.2.2.2 g_Hop_partOf rfl rfl rfl (by decide +kernel) ⟨by show 6 + 1 ≤ _; omega, by show 8 + (2 + 11) + 30 * 6 ≤ _; omega⟩) hP hK hD (va_Das hD wH_a) hS hF hZ (va_recv (q0 := 0) (ci := 0) (q := (R_Hop, F_Hop, 6)) hK hP rfl rfl) rfl hsz rfl hrm hf d (fun E ce q9 H1 locs1 h _ _ _ _ _ _ => nomatch h) (fun v H1 locs1 h h1 h2 h3 => by cases h; exact k H1 locs1 h1 h2 h3)
theorem k_partOf_bad (X : CallFix p m c cc nL s args wsA R_Hop) (hlt : l.stackTraces = false) (hK : va_K D hCl (tyH ca) s) (hP : va_P D hCl (wH ca a q K V T C B P S) H) (hD : va_D (hA (wH ca a q K V T C B P S)) (wH ca a q K V T C B P S)) (hS : va_S (hA (wH ca a q K V T C B P S)) s.heap H locs) (hF : xF sa s) (hZ : xZ (hA (wH ca a q K V T C B P S)) s s.heap) (hsz : ls.size = nL) {mm : Int32} (hm : mm < 0 ∨ nI 3 ≤ mm) (hrm : (rest.map fun v => v.category).sum ≤ 8) (hf : cells + 1 ≤ R.cells ∧ slots + 6 ≤ R.slots) (hR : 7 ≤ R.frames ∧ 210 ≤ R.locals) (d : decode cc pc = .ok (.invokevirtual 36, 3)) (hnt : ∀ x ∈ c.exceptionTable.toList, False) (hlocks : meth.locks = false) {mc ms : Nat} (hc : cells + 1 ≤ mc) (hs : slots + 6 ≤ ms) : W p l e R s m args below meth c H locs cells slots (vx_MQ below (hX_Q (.inr "java/lang/IndexOutOfBoundsException") D hCl (wH ca a q K V T C B P S) (hA (wH ca a q K V T C B P S))) (hX_X (.inr "java/lang/IndexOutOfBoundsException") D hCl (wH ca a q K V T C B P S) (hA (wH ca a q K V T C B P S))) args s mc ms (hA (wH ca a q K V T C B P S))) (F0 m pc ls (.int mm :: .ref (a 0) :: rest)) :=
  hX_V (As := [.int mm]) (C := R_Hop) X (c_Hop_partOf_bad l hlt D ca a q K V T C B P S sa mm hm) (cwV 1 X.2.2.2.2 g_Hop_partOf rfl rfl rfl (by decide +kernel) ⟨by show 6 + 1 ≤ _; omega, by show 8 + (2 + 11) + 30 * 6 ≤ _; omega⟩) hP hK hD (va_Das hD wH_a) hS hF hZ (va_recv (q0 := 0) (ci := 0) (q := (R_Hop, F_Hop, 6)) hK hP rfl rfl) rfl hsz rfl hrm hf d (fun E ce q9 H1 locs1 h h1 h2 h3 h4 h5 h6 => hX_out hnt hlocks h h1 h3 h4 h5 h6 hc hs) (fun v H1 locs1 h _ _ _ => nomatch h)
theorem k_slotHolding (X : CallFix p m c cc nL s args wsA R_Hop) (hlt : l.stackTraces = false) (hK : va_K D hCl (tyH ca) s) (hP : va_P D hCl (wH ca a q K V T C B P S) H) (hD : va_D A (wH ca a q K V T C B P S)) (hS : va_S A s.heap H locs) (hF : xF sa s) (hZ : xZ A s s.heap) (hsz : ls.size = nL) {j : Nat} {key : Int32} (hj : j < 4) (hc9 : pw (P j)) (hbd : B j + P j ≤ 256) {k0 : Nat} (hk0 : k0 < 256) (hfd : fnd T K (B j) (P j) (hom key (S j) (P j)) key 0 8 = some k0) (hrm : (rest.map fun v => v.category).sum ≤ 8) (hf : cells + 1 ≤ R.cells ∧ slots + 6 ≤ R.slots) (hR : 7 ≤ R.frames ∧ 210 ≤ R.locals) (d : decode cc pc = .ok (.invokevirtual 59, 3)) (k : ∀ (H1 : Heap) (locs1 : List Loc), va_P D hCl (wH ca a q K V T C B P S) H1 → va_D A (wH ca a q K V T C B P S) → va_S A s.heap H1 locs1 → W p l e R s m args below meth c H1 locs1 (cells + 1) (slots + 6) Q (F0 m (pc + 3) ls (.int (nI k0) :: rest))) : W p l e R s m args below meth c H locs cells slots Q (F0 m pc ls (.int key :: .ref (q j) :: .ref (a 0) :: rest)) :=
  hX_V (As := [.ref (q j), .int key]) (C := R_Hop) X (c_Hop_slotHolding l hlt D ca a q K V T C B P S sa j key hj hc9 hbd k0 hk0 hfd) (cwV 2 X.2.2.2.2 g_Hop_slotHolding rfl rfl rfl (by decide +kernel) ⟨by show 6 + 1 ≤ _; omega, by show 8 + (4 + 11) + 30 * 6 ≤ _; omega⟩) hP hK hD (va_Das hD wH_a) hS hF hZ (va_recv (q0 := 0) (ci := 0) (q := (R_Hop, F_Hop, 6)) hK hP rfl rfl) rfl hsz rfl hrm hf d (fun E ce q9 H1 locs1 h _ _ _ _ _ _ => nomatch h) (fun v H1 locs1 h h1 h2 h3 => by cases h; exact k H1 locs1 h1 h2 h3)
theorem k_slotHolding_bad (X : CallFix p m c cc nL s args wsA R_Hop) (hlt : l.stackTraces = false) (hK : va_K D hCl (tyH ca) s) (hP : va_P D hCl (wH ca a q K V T C B P S) H) (hD : va_D (hA (wH ca a q K V T C B P S)) (wH ca a q K V T C B P S)) (hS : va_S (hA (wH ca a q K V T C B P S)) s.heap H locs) (hF : xF sa s) (hZ : xZ (hA (wH ca a q K V T C B P S)) s s.heap) (hsz : ls.size = nL) {j : Nat} {key : Int32} (hj : j < 4) (hc9 : pw (P j)) (hbd : B j + P j ≤ 256) (hfd : fnd T K (B j) (P j) (hom key (S j) (P j)) key 0 8 = none) (hrm : (rest.map fun v => v.category).sum ≤ 8) (hf : cells + 1 ≤ R.cells ∧ slots + 6 ≤ R.slots) (hR : 7 ≤ R.frames ∧ 210 ≤ R.locals) (d : decode cc pc = .ok (.invokevirtual 59, 3)) (hnt : ∀ x ∈ c.exceptionTable.toList, False) (hlocks : meth.locks = false) {mc ms : Nat} (hc : cells + 1 ≤ mc) (hs : slots + 6 ≤ ms) : W p l e R s m args below meth c H locs cells slots (vx_MQ below (hX_Q (.inr "java/util/NoSuchElementException") D hCl (wH ca a q K V T C B P S) (hA (wH ca a q K V T C B P S))) (hX_X (.inr "java/util/NoSuchElementException") D hCl (wH ca a q K V T C B P S) (hA (wH ca a q K V T C B P S))) args s mc ms (hA (wH ca a q K V T C B P S))) (F0 m pc ls (.int key :: .ref (q j) :: .ref (a 0) :: rest)) :=
  hX_V (As := [.ref (q j), .int key]) (C := R_Hop) X (c_Hop_slotHolding_bad l hlt D ca a q K V T C B P S sa j key hj hc9 hbd hfd) (cwV 2 X.2.2.2.2 g_Hop_slotHolding rfl rfl rfl (by decide +kernel) ⟨by show 6 + 1 ≤ _; omega, by show 8 + (4 + 11) + 30 * 6 ≤ _; omega⟩) hP hK hD (va_Das hD wH_a) hS hF hZ (va_recv (q0 := 0) (ci := 0) (q := (R_Hop, F_Hop, 6)) hK hP rfl rfl) rfl hsz rfl hrm hf d (fun E ce q9 H1 locs1 h h1 h2 h3 h4 h5 h6 => hX_out hnt hlocks h h1 h3 h4 h5 h6 hc hs) (fun v H1 locs1 h _ _ _ => nomatch h)
theorem k_requirePlace (X : CallFix p m c cc nL s args wsA R_Hop) (hlt : l.stackTraces = false) (hK : va_K D hCl (tyH ca) s) (hP : va_P D hCl (wH ca a q K V T C B P S) H) (hD : va_D A (wH ca a q K V T C B P S)) (hS : va_S A s.heap H locs) (hF : xF sa s) (hZ : xZ A s s.heap) (hsz : ls.size = nL) {j : Nat} {x : Int32} (hj : j < 4) (hcp : P j < 2 ^ 31) (hx0 : 0 ≤ x ∧ x < nI (P j)) (hrm : (rest.map fun v => v.category).sum ≤ 8) (hf : cells + 1 ≤ R.cells ∧ slots + 6 ≤ R.slots) (hR : 7 ≤ R.frames ∧ 210 ≤ R.locals) (d : decode cc pc = .ok (.invokestatic 92, 3)) (k : ∀ (H1 : Heap) (locs1 : List Loc), va_P D hCl (wH ca a q K V T C B P S) H1 → va_D A (wH ca a q K V T C B P S) → va_S A s.heap H1 locs1 → W p l e R s m args below meth c H1 locs1 (cells + 1) (slots + 6) Q (F0 m (pc + 3) ls (rest))) : W p l e R s m args below meth c H locs cells slots Q (F0 m pc ls (.int x :: .ref (q j) :: rest)) :=
  hX_S (As := [.ref (q j), .int x]) X (c_Hop_requirePlace l hlt D ca a q K V T C B P S sa j x hj hcp hx0) (cwS 2 X.2.2.2.2 g_Hop_requirePlace rfl rfl rfl (by decide +kernel) ⟨by show 6 + 1 ≤ _; omega, by show 8 + (2 + 11) + 30 * 6 ≤ _; omega⟩) hP hK hD (va_Das hD wH_a) hS hF hZ rfl hsz rfl hrm hf d (fun E ce q9 H1 locs1 h _ _ _ _ _ _ => nomatch h) (fun v H1 locs1 h h1 h2 h3 => by cases h; exact k H1 locs1 h1 h2 h3)
theorem k_requirePlace_bad (X : CallFix p m c cc nL s args wsA R_Hop) (hlt : l.stackTraces = false) (hK : va_K D hCl (tyH ca) s) (hP : va_P D hCl (wH ca a q K V T C B P S) H) (hD : va_D (hA (wH ca a q K V T C B P S)) (wH ca a q K V T C B P S)) (hS : va_S (hA (wH ca a q K V T C B P S)) s.heap H locs) (hF : xF sa s) (hZ : xZ (hA (wH ca a q K V T C B P S)) s s.heap) (hsz : ls.size = nL) {j : Nat} {x : Int32} (hj : j < 4) (hcp : P j < 2 ^ 31) (hx0 : ¬ (0 ≤ x ∧ x < nI (P j))) (hrm : (rest.map fun v => v.category).sum ≤ 8) (hf : cells + 1 ≤ R.cells ∧ slots + 6 ≤ R.slots) (hR : 7 ≤ R.frames ∧ 210 ≤ R.locals) (d : decode cc pc = .ok (.invokestatic 92, 3)) (hnt : ∀ x ∈ c.exceptionTable.toList, False) (hlocks : meth.locks = false) {mc ms : Nat} (hc : cells + 1 ≤ mc) (hs : slots + 6 ≤ ms) : W p l e R s m args below meth c H locs cells slots (vx_MQ below (hX_Q (.inr "java/lang/IllegalArgumentException") D hCl (wH ca a q K V T C B P S) (hA (wH ca a q K V T C B P S))) (hX_X (.inr "java/lang/IllegalArgumentException") D hCl (wH ca a q K V T C B P S) (hA (wH ca a q K V T C B P S))) args s mc ms (hA (wH ca a q K V T C B P S))) (F0 m pc ls (.int x :: .ref (q j) :: rest)) :=
  hX_S (As := [.ref (q j), .int x]) X (c_Hop_requirePlace_bad l hlt D ca a q K V T C B P S sa j x hj hcp hx0) (cwS 2 X.2.2.2.2 g_Hop_requirePlace rfl rfl rfl (by decide +kernel) ⟨by show 6 + 1 ≤ _; omega, by show 8 + (2 + 11) + 30 * 6 ≤ _; omega⟩) hP hK hD (va_Das hD wH_a) hS hF hZ rfl hsz rfl hrm hf d (fun E ce q9 H1 locs1 h h1 h2 h3 h4 h5 h6 => hX_out hnt hlocks h h1 h3 h4 h5 h6 hc hs) (fun v H1 locs1 h _ _ _ => nomatch h)
end HKT
end
section
def rowB (f : Nat → Bool) : Nat → Int32
  | 0 => 0
  | n + 1 => if f n = true then rowB f n ||| ((1 : Int32) <<< (nI n &&& 31)) else rowB f n
def nxF (T : BT) (o c : Nat) : Nat → Nat → Option Nat
  | _, 0 => none
  | i, n + 1 => if T (o + i % c) = true then some i else nxF T o c (i + 1) n
theorem oI_b {r : Option Nat} (h : ∀ k, r = some k → k < 2 ^ 31) : oI r = -1 ↔ r = none := by
  cases r with
  | none => exact ⟨fun _ => rfl, fun _ => rfl⟩
  | some k => exact ⟨fun z => absurd z (nI_m1 (h k rfl)), fun z => nomatch z⟩
theorem fnd_lt {T : BT} {K : IT} {o c h : Nat} {key : Int32} (hc : pw c) (hb : o + c ≤ 256) : ∀ (n i k : Nat), fnd T K o c h key i n = some k → k < 256 := by
  intro n
  induction n with
  | zero =>
    intro i k hq
    cases hq
  | succ n ih =>
    intro i k hq
    have hq : (if T (o + (h + i) % c) = true ∧ K (o + (h + i) % c) = key then some (o + (h + i) % c) else fnd T K o c h key (i + 1) n) = some k := hq
    by_cases hz : T (o + (h + i) % c) = true ∧ K (o + (h + i) % c) = key
    · rw [if_pos hz] at hq
      cases hq
      exact sl_lt hc hb
    · rw [if_neg hz] at hq
      exact ih (i + 1) k hq
set_option maxHeartbeats 4000000 in
set_option maxRecDepth 100000 in
/-- put: there is no such map -/
theorem c_Hop_put_bad (l : Launch) (hlt : l.stackTraces = false) (D : va_G) (ca a q : Nat → Nat) (K V : IT) (T : BT) (C : IT) (B P : Nat → Nat) (S : IT) (sa : Nat → Nat) (mm : Int32) (key val : Int32) (hm : mm < 0 ∨ nI 3 ≤ mm) : vx_Met l y_Hop_put w_Hop_put (rmD 7 2 12) (va_Pc [.ref (a 0), .int mm, .int key, .int val] (hb_X D hCl (wH ca a q K V T C B P S) (tyH ca) sa)) (hX_Q (.inr "java/lang/IndexOutOfBoundsException") D hCl (wH ca a q K V T C B P S) (hA (wH ca a q K V T C B P S))) (hX_X (.inr "java/lang/IndexOutOfBoundsException") D hCl (wH ca a q K V T C B P S) (hA (wH ca a q K V T C B P S))) 2 12 (hA (wH ca a q K V T C B P S)) := by
  refine vx_ofW (cc := b_Hop_put) (maxL := 6) (ret := some .boolean) (by decide) rfl ?_
  intro p e s m args below meth c0 s₁ B0 hml hnt hv
  obtain ⟨rfl, hP, hK, hD0, hF, hZ⟩ := hv
  have hx := B0.exec
  have hb := B0.bytes
  have hr := B0.returns
  have hts := atoms_spec (ws := w_Hop_put) B0.pre
  have hown : s.vm.findClass R_Hop = some m.cls := findClass_of_methodNamed B0.named
  have hlocks := B0.notSynchronized
  have hwA : ∀ w ∈ wsA, w.before ([.ref (a 0), .int mm, .int key, .int val] : List Value).toArray s = true := fun w h => hts w (List.mem_cons_of_mem _ h)
  have X : CallFix p m c0 b_Hop_put 6 s ([.ref (a 0), .int mm, .int key, .int val] : List Value).toArray wsA R_Hop := ⟨hx, hb, hml, hown, hwA⟩
  have hD := hA_D hD0
  have hS : va_S (hA (wH ca a q K V T C B P S)) s.heap s.heap [] := va_S.rf
  have hl := lv_entry ([.ref (a 0), .int mm, .int key, .int val]) (n := 6) (Nat.le_of_ble_eq_true rfl)
  rw [lg_entry_eq]
  generalize (lg_sl ([.ref (a 0), .int mm, .int key, .int val]) ++ List.replicate (6 - (lg_sl ([.ref (a 0), .int mm, .int key, .int val])).length) Slot.unset).toArray = ls at hl ⊢
  have hl : lv_has ls 6 [(0, .ref (a 0)), (1, .int mm), (2, .int key), (3, .int val)] := hl
  refine lv_aload_n hx hb d_Hop_put_0 rfl (lv_at hl 0 rfl) ?_
  refine lv_iload_n hx hb d_Hop_put_1 rfl (lv_at hl 1 rfl) ?_
  exact k_partOf_bad X hlt hK hP hD hS hF hZ hl.1 hm (Nat.le_of_ble_eq_true rfl) ⟨Nat.le_of_ble_eq_true rfl, Nat.le_of_ble_eq_true rfl⟩ ⟨Nat.le_of_ble_eq_true rfl, Nat.le_of_ble_eq_true rfl⟩ d_Hop_put_2 hnt hlocks (Nat.le_of_ble_eq_true rfl) (Nat.le_of_ble_eq_true rfl)
set_option maxHeartbeats 4000000 in
set_option maxRecDepth 100000 in
/-- get: there is no such map -/
theorem c_Hop_get_bad (l : Launch) (hlt : l.stackTraces = false) (D : va_G) (ca a q : Nat → Nat) (K V : IT) (T : BT) (C : IT) (B P : Nat → Nat) (S : IT) (sa : Nat → Nat) (mm : Int32) (key : Int32) (hm : mm < 0 ∨ nI 3 ≤ mm) : vx_Met l y_Hop_get w_Hop_get (rmD 7 2 12) (va_Pc [.ref (a 0), .int mm, .int key] (hb_X D hCl (wH ca a q K V T C B P S) (tyH ca) sa)) (hX_Q (.inr "java/lang/IndexOutOfBoundsException") D hCl (wH ca a q K V T C B P S) (hA (wH ca a q K V T C B P S))) (hX_X (.inr "java/lang/IndexOutOfBoundsException") D hCl (wH ca a q K V T C B P S) (hA (wH ca a q K V T C B P S))) 2 12 (hA (wH ca a q K V T C B P S)) := by
  refine vx_ofW (cc := b_Hop_get) (maxL := 3) (ret := some .int) (by decide) rfl ?_
  intro p e s m args below meth c0 s₁ B0 hml hnt hv
  obtain ⟨rfl, hP, hK, hD0, hF, hZ⟩ := hv
  have hx := B0.exec
  have hb := B0.bytes
  have hr := B0.returns
  have hts := atoms_spec (ws := w_Hop_get) B0.pre
  have hown : s.vm.findClass R_Hop = some m.cls := findClass_of_methodNamed B0.named
  have hlocks := B0.notSynchronized
  have hwA : ∀ w ∈ wsA, w.before ([.ref (a 0), .int mm, .int key] : List Value).toArray s = true := fun w h => hts w (List.mem_cons_of_mem _ h)
  have X : CallFix p m c0 b_Hop_get 3 s ([.ref (a 0), .int mm, .int key] : List Value).toArray wsA R_Hop := ⟨hx, hb, hml, hown, hwA⟩
  have hD := hA_D hD0
  have hS : va_S (hA (wH ca a q K V T C B P S)) s.heap s.heap [] := va_S.rf
  have hl := lv_entry ([.ref (a 0), .int mm, .int key]) (n := 3) (Nat.le_of_ble_eq_true rfl)
  rw [lg_entry_eq]
  generalize (lg_sl ([.ref (a 0), .int mm, .int key]) ++ List.replicate (3 - (lg_sl ([.ref (a 0), .int mm, .int key])).length) Slot.unset).toArray = ls at hl ⊢
  have hl : lv_has ls 3 [(0, .ref (a 0)), (1, .int mm), (2, .int key)] := hl
  refine lv_aload_n hx hb d_Hop_get_0 rfl (lv_at hl 0 rfl) ?_
  refine hg_values X hK hP d_Hop_get_1 ?_
  refine lv_aload_n hx hb d_Hop_get_4 rfl (lv_at hl 0 rfl) ?_
  refine lv_aload_n hx hb d_Hop_get_5 rfl (lv_at hl 0 rfl) ?_
  refine lv_iload_n hx hb d_Hop_get_6 rfl (lv_at hl 1 rfl) ?_
  exact k_partOf_bad X hlt hK hP hD hS hF hZ hl.1 hm (Nat.le_of_ble_eq_true rfl) ⟨Nat.le_of_ble_eq_true rfl, Nat.le_of_ble_eq_true rfl⟩ ⟨Nat.le_of_ble_eq_true rfl, Nat.le_of_ble_eq_true rfl⟩ d_Hop_get_7 hnt hlocks (Nat.le_of_ble_eq_true rfl) (Nat.le_of_ble_eq_true rfl)
set_option maxHeartbeats 4000000 in
set_option maxRecDepth 100000 in
/-- remove: there is no such map -/
theorem c_Hop_remove_bad (l : Launch) (hlt : l.stackTraces = false) (D : va_G) (ca a q : Nat → Nat) (K V : IT) (T : BT) (C : IT) (B P : Nat → Nat) (S : IT) (sa : Nat → Nat) (mm : Int32) (key : Int32) (hm : mm < 0 ∨ nI 3 ≤ mm) : vx_Met l y_Hop_remove w_Hop_remove (rmD 7 2 12) (va_Pc [.ref (a 0), .int mm, .int key] (hb_X D hCl (wH ca a q K V T C B P S) (tyH ca) sa)) (hX_Q (.inr "java/lang/IndexOutOfBoundsException") D hCl (wH ca a q K V T C B P S) (hA (wH ca a q K V T C B P S))) (hX_X (.inr "java/lang/IndexOutOfBoundsException") D hCl (wH ca a q K V T C B P S) (hA (wH ca a q K V T C B P S))) 2 12 (hA (wH ca a q K V T C B P S)) := by
  refine vx_ofW (cc := b_Hop_remove) (maxL := 4) (ret := some .int) (by decide) rfl ?_
  intro p e s m args below meth c0 s₁ B0 hml hnt hv
  obtain ⟨rfl, hP, hK, hD0, hF, hZ⟩ := hv
  have hx := B0.exec
  have hb := B0.bytes
  have hr := B0.returns
  have hts := atoms_spec (ws := w_Hop_remove) B0.pre
  have hown : s.vm.findClass R_Hop = some m.cls := findClass_of_methodNamed B0.named
  have hlocks := B0.notSynchronized
  have hwA : ∀ w ∈ wsA, w.before ([.ref (a 0), .int mm, .int key] : List Value).toArray s = true := fun w h => hts w (List.mem_cons_of_mem _ h)
  have X : CallFix p m c0 b_Hop_remove 4 s ([.ref (a 0), .int mm, .int key] : List Value).toArray wsA R_Hop := ⟨hx, hb, hml, hown, hwA⟩
  have hD := hA_D hD0
  have hS : va_S (hA (wH ca a q K V T C B P S)) s.heap s.heap [] := va_S.rf
  have hl := lv_entry ([.ref (a 0), .int mm, .int key]) (n := 4) (Nat.le_of_ble_eq_true rfl)
  rw [lg_entry_eq]
  generalize (lg_sl ([.ref (a 0), .int mm, .int key]) ++ List.replicate (4 - (lg_sl ([.ref (a 0), .int mm, .int key])).length) Slot.unset).toArray = ls at hl ⊢
  have hl : lv_has ls 4 [(0, .ref (a 0)), (1, .int mm), (2, .int key)] := hl
  refine lv_aload_n hx hb d_Hop_remove_0 rfl (lv_at hl 0 rfl) ?_
  refine lv_aload_n hx hb d_Hop_remove_1 rfl (lv_at hl 0 rfl) ?_
  refine lv_iload_n hx hb d_Hop_remove_2 rfl (lv_at hl 1 rfl) ?_
  exact k_partOf_bad X hlt hK hP hD hS hF hZ hl.1 hm (Nat.le_of_ble_eq_true rfl) ⟨Nat.le_of_ble_eq_true rfl, Nat.le_of_ble_eq_true rfl⟩ ⟨Nat.le_of_ble_eq_true rfl, Nat.le_of_ble_eq_true rfl⟩ d_Hop_remove_3 hnt hlocks (Nat.le_of_ble_eq_true rfl) (Nat.le_of_ble_eq_true rfl)
set_option maxHeartbeats 4000000 in
set_option maxRecDepth 100000 in
/-- has: there is no such map -/
theorem c_Hop_has_bad (l : Launch) (hlt : l.stackTraces = false) (D : va_G) (ca a q : Nat → Nat) (K V : IT) (T : BT) (C : IT) (B P : Nat → Nat) (S : IT) (sa : Nat → Nat) (mm : Int32) (key : Int32) (hm : mm < 0 ∨ nI 3 ≤ mm) : vx_Met l y_Hop_has w_Hop_has (rmD 7 1 6) (va_Pc [.ref (a 0), .int mm, .int key] (hb_X D hCl (wH ca a q K V T C B P S) (tyH ca) sa)) (hX_Q (.inr "java/lang/IndexOutOfBoundsException") D hCl (wH ca a q K V T C B P S) (hA (wH ca a q K V T C B P S))) (hX_X (.inr "java/lang/IndexOutOfBoundsException") D hCl (wH ca a q K V T C B P S) (hA (wH ca a q K V T C B P S))) 1 6 (hA (wH ca a q K V T C B P S)) := by
  refine vx_ofW (cc := b_Hop_has) (maxL := 3) (ret := some .boolean) (by decide) rfl ?_
  intro p e s m args below meth c0 s₁ B0 hml hnt hv
  obtain ⟨rfl, hP, hK, hD0, hF, hZ⟩ := hv
  have hx := B0.exec
  have hb := B0.bytes
  have hr := B0.returns
  have hts := atoms_spec (ws := w_Hop_has) B0.pre
  have hown : s.vm.findClass R_Hop = some m.cls := findClass_of_methodNamed B0.named
  have hlocks := B0.notSynchronized
  have hwA : ∀ w ∈ wsA, w.before ([.ref (a 0), .int mm, .int key] : List Value).toArray s = true := fun w h => hts w (List.mem_cons_of_mem _ h)
  have X : CallFix p m c0 b_Hop_has 3 s ([.ref (a 0), .int mm, .int key] : List Value).toArray wsA R_Hop := ⟨hx, hb, hml, hown, hwA⟩
  have hD := hA_D hD0
  have hS : va_S (hA (wH ca a q K V T C B P S)) s.heap s.heap [] := va_S.rf
  have hl := lv_entry ([.ref (a 0), .int mm, .int key]) (n := 3) (Nat.le_of_ble_eq_true rfl)
  rw [lg_entry_eq]
  generalize (lg_sl ([.ref (a 0), .int mm, .int key]) ++ List.replicate (3 - (lg_sl ([.ref (a 0), .int mm, .int key])).length) Slot.unset).toArray = ls at hl ⊢
  have hl : lv_has ls 3 [(0, .ref (a 0)), (1, .int mm), (2, .int key)] := hl
  refine lv_aload_n hx hb d_Hop_has_0 rfl (lv_at hl 0 rfl) ?_
  refine lv_aload_n hx hb d_Hop_has_1 rfl (lv_at hl 0 rfl) ?_
  refine lv_iload_n hx hb d_Hop_has_2 rfl (lv_at hl 1 rfl) ?_
  exact k_partOf_bad X hlt hK hP hD hS hF hZ hl.1 hm (Nat.le_of_ble_eq_true rfl) ⟨Nat.le_of_ble_eq_true rfl, Nat.le_of_ble_eq_true rfl⟩ ⟨Nat.le_of_ble_eq_true rfl, Nat.le_of_ble_eq_true rfl⟩ d_Hop_has_3 hnt hlocks (Nat.le_of_ble_eq_true rfl) (Nat.le_of_ble_eq_true rfl)
set_option maxHeartbeats 4000000 in
set_option maxRecDepth 100000 in
/-- size: there is no such map -/
theorem c_Hop_size_bad (l : Launch) (hlt : l.stackTraces = false) (D : va_G) (ca a q : Nat → Nat) (K V : IT) (T : BT) (C : IT) (B P : Nat → Nat) (S : IT) (sa : Nat → Nat) (mm : Int32) (hm : mm < 0 ∨ nI 3 ≤ mm) : vx_Met l y_Hop_size w_Hop_size (rmD 7 1 6) (va_Pc [.ref (a 0), .int mm] (hb_X D hCl (wH ca a q K V T C B P S) (tyH ca) sa)) (hX_Q (.inr "java/lang/IndexOutOfBoundsException") D hCl (wH ca a q K V T C B P S) (hA (wH ca a q K V T C B P S))) (hX_X (.inr "java/lang/IndexOutOfBoundsException") D hCl (wH ca a q K V T C B P S) (hA (wH ca a q K V T C B P S))) 1 6 (hA (wH ca a q K V T C B P S)) := by
  refine vx_ofW (cc := b_Hop_size) (maxL := 2) (ret := some .int) (by decide) rfl ?_
  intro p e s m args below meth c0 s₁ B0 hml hnt hv
  obtain ⟨rfl, hP, hK, hD0, hF, hZ⟩ := hv
  have hx := B0.exec
  have hb := B0.bytes
  have hr := B0.returns
  have hts := atoms_spec (ws := w_Hop_size) B0.pre
  have hown : s.vm.findClass R_Hop = some m.cls := findClass_of_methodNamed B0.named
  have hlocks := B0.notSynchronized
  have hwA : ∀ w ∈ wsA, w.before ([.ref (a 0), .int mm] : List Value).toArray s = true := fun w h => hts w (List.mem_cons_of_mem _ h)
  have X : CallFix p m c0 b_Hop_size 2 s ([.ref (a 0), .int mm] : List Value).toArray wsA R_Hop := ⟨hx, hb, hml, hown, hwA⟩
  have hD := hA_D hD0
  have hS : va_S (hA (wH ca a q K V T C B P S)) s.heap s.heap [] := va_S.rf
  have hl := lv_entry ([.ref (a 0), .int mm]) (n := 2) (Nat.le_of_ble_eq_true rfl)
  rw [lg_entry_eq]
  generalize (lg_sl ([.ref (a 0), .int mm]) ++ List.replicate (2 - (lg_sl ([.ref (a 0), .int mm])).length) Slot.unset).toArray = ls at hl ⊢
  have hl : lv_has ls 2 [(0, .ref (a 0)), (1, .int mm)] := hl
  refine lv_aload_n hx hb d_Hop_size_0 rfl (lv_at hl 0 rfl) ?_
  refine lv_aload_n hx hb d_Hop_size_1 rfl (lv_at hl 0 rfl) ?_
  refine lv_iload_n hx hb d_Hop_size_2 rfl (lv_at hl 1 rfl) ?_
  exact k_partOf_bad X hlt hK hP hD hS hF hZ hl.1 hm (Nat.le_of_ble_eq_true rfl) ⟨Nat.le_of_ble_eq_true rfl, Nat.le_of_ble_eq_true rfl⟩ ⟨Nat.le_of_ble_eq_true rfl, Nat.le_of_ble_eq_true rfl⟩ d_Hop_size_3 hnt hlocks (Nat.le_of_ble_eq_true rfl) (Nat.le_of_ble_eq_true rfl)
set_option maxHeartbeats 4000000 in
set_option maxRecDepth 100000 in
/-- clear: there is no such map -/
theorem c_Hop_clear_bad (l : Launch) (hlt : l.stackTraces = false) (D : va_G) (ca a q : Nat → Nat) (K V : IT) (T : BT) (C : IT) (B P : Nat → Nat) (S : IT) (sa : Nat → Nat) (mm : Int32) (hm : mm < 0 ∨ nI 3 ≤ mm) : vx_Met l y_Hop_clear w_Hop_clear (rmD 7 1 6) (va_Pc [.ref (a 0), .int mm] (hb_X D hCl (wH ca a q K V T C B P S) (tyH ca) sa)) (hX_Q (.inr "java/lang/IndexOutOfBoundsException") D hCl (wH ca a q K V T C B P S) (hA (wH ca a q K V T C B P S))) (hX_X (.inr "java/lang/IndexOutOfBoundsException") D hCl (wH ca a q K V T C B P S) (hA (wH ca a q K V T C B P S))) 1 6 (hA (wH ca a q K V T C B P S)) := by
  refine vx_ofW (cc := b_Hop_clear) (maxL := 4) (ret := some .int) (by decide) rfl ?_
  intro p e s m args below meth c0 s₁ B0 hml hnt hv
  obtain ⟨rfl, hP, hK, hD0, hF, hZ⟩ := hv
  have hx := B0.exec
  have hb := B0.bytes
  have hr := B0.returns
  have hts := atoms_spec (ws := w_Hop_clear) B0.pre
  have hown : s.vm.findClass R_Hop = some m.cls := findClass_of_methodNamed B0.named
  have hlocks := B0.notSynchronized
  have hwA : ∀ w ∈ wsA, w.before ([.ref (a 0), .int mm] : List Value).toArray s = true := fun w h => hts w (List.mem_cons_of_mem _ h)
  have X : CallFix p m c0 b_Hop_clear 4 s ([.ref (a 0), .int mm] : List Value).toArray wsA R_Hop := ⟨hx, hb, hml, hown, hwA⟩
  have hD := hA_D hD0
  have hS : va_S (hA (wH ca a q K V T C B P S)) s.heap s.heap [] := va_S.rf
  have hl := lv_entry ([.ref (a 0), .int mm]) (n := 4) (Nat.le_of_ble_eq_true rfl)
  rw [lg_entry_eq]
  generalize (lg_sl ([.ref (a 0), .int mm]) ++ List.replicate (4 - (lg_sl ([.ref (a 0), .int mm])).length) Slot.unset).toArray = ls at hl ⊢
  have hl : lv_has ls 4 [(0, .ref (a 0)), (1, .int mm)] := hl
  refine lv_aload_n hx hb d_Hop_clear_0 rfl (lv_at hl 0 rfl) ?_
  refine lv_iload_n hx hb d_Hop_clear_1 rfl (lv_at hl 1 rfl) ?_
  exact k_partOf_bad X hlt hK hP hD hS hF hZ hl.1 hm (Nat.le_of_ble_eq_true rfl) ⟨Nat.le_of_ble_eq_true rfl, Nat.le_of_ble_eq_true rfl⟩ ⟨Nat.le_of_ble_eq_true rfl, Nat.le_of_ble_eq_true rfl⟩ d_Hop_clear_2 hnt hlocks (Nat.le_of_ble_eq_true rfl) (Nat.le_of_ble_eq_true rfl)
set_option maxHeartbeats 4000000 in
set_option maxRecDepth 100000 in
/-- about: there is no such map -/
theorem c_Hop_about_bad (l : Launch) (hlt : l.stackTraces = false) (D : va_G) (ca a q : Nat → Nat) (K V : IT) (T : BT) (C : IT) (B P : Nat → Nat) (S : IT) (sa : Nat → Nat) (mm : Int32) (wh : Int32) (hm : mm < 0 ∨ nI 3 ≤ mm) : vx_Met l y_Hop_about w_Hop_about (rmD 7 2 12) (va_Pc [.ref (a 0), .int mm, .int wh] (hb_X D hCl (wH ca a q K V T C B P S) (tyH ca) sa)) (hX_Q (.inr "java/lang/IndexOutOfBoundsException") D hCl (wH ca a q K V T C B P S) (hA (wH ca a q K V T C B P S))) (hX_X (.inr "java/lang/IndexOutOfBoundsException") D hCl (wH ca a q K V T C B P S) (hA (wH ca a q K V T C B P S))) 2 12 (hA (wH ca a q K V T C B P S)) := by
  refine vx_ofW (cc := b_Hop_about) (maxL := 4) (ret := some .int) (by decide) rfl ?_
  intro p e s m args below meth c0 s₁ B0 hml hnt hv
  obtain ⟨rfl, hP, hK, hD0, hF, hZ⟩ := hv
  have hx := B0.exec
  have hb := B0.bytes
  have hr := B0.returns
  have hts := atoms_spec (ws := w_Hop_about) B0.pre
  have hown : s.vm.findClass R_Hop = some m.cls := findClass_of_methodNamed B0.named
  have hlocks := B0.notSynchronized
  have hwA : ∀ w ∈ wsA, w.before ([.ref (a 0), .int mm, .int wh] : List Value).toArray s = true := fun w h => hts w (List.mem_cons_of_mem _ h)
  have X : CallFix p m c0 b_Hop_about 4 s ([.ref (a 0), .int mm, .int wh] : List Value).toArray wsA R_Hop := ⟨hx, hb, hml, hown, hwA⟩
  have hD := hA_D hD0
  have hS : va_S (hA (wH ca a q K V T C B P S)) s.heap s.heap [] := va_S.rf
  have hl := lv_entry ([.ref (a 0), .int mm, .int wh]) (n := 4) (Nat.le_of_ble_eq_true rfl)
  rw [lg_entry_eq]
  generalize (lg_sl ([.ref (a 0), .int mm, .int wh]) ++ List.replicate (4 - (lg_sl ([.ref (a 0), .int mm, .int wh])).length) Slot.unset).toArray = ls at hl ⊢
  have hl : lv_has ls 4 [(0, .ref (a 0)), (1, .int mm), (2, .int wh)] := hl
  refine lv_aload_n hx hb d_Hop_about_0 rfl (lv_at hl 0 rfl) ?_
  refine lv_iload_n hx hb d_Hop_about_1 rfl (lv_at hl 1 rfl) ?_
  exact k_partOf_bad X hlt hK hP hD hS hF hZ hl.1 hm (Nat.le_of_ble_eq_true rfl) ⟨Nat.le_of_ble_eq_true rfl, Nat.le_of_ble_eq_true rfl⟩ ⟨Nat.le_of_ble_eq_true rfl, Nat.le_of_ble_eq_true rfl⟩ d_Hop_about_2 hnt hlocks (Nat.le_of_ble_eq_true rfl) (Nat.le_of_ble_eq_true rfl)
set_option maxHeartbeats 4000000 in
set_option maxRecDepth 100000 in
/-- home: there is no such map -/
theorem c_Hop_home_bad (l : Launch) (hlt : l.stackTraces = false) (D : va_G) (ca a q : Nat → Nat) (K V : IT) (T : BT) (C : IT) (B P : Nat → Nat) (S : IT) (sa : Nat → Nat) (mm : Int32) (key : Int32) (hm : mm < 0 ∨ nI 3 ≤ mm) : vx_Met l y_Hop_home w_Hop_home (rmD 7 1 6) (va_Pc [.ref (a 0), .int mm, .int key] (hb_X D hCl (wH ca a q K V T C B P S) (tyH ca) sa)) (hX_Q (.inr "java/lang/IndexOutOfBoundsException") D hCl (wH ca a q K V T C B P S) (hA (wH ca a q K V T C B P S))) (hX_X (.inr "java/lang/IndexOutOfBoundsException") D hCl (wH ca a q K V T C B P S) (hA (wH ca a q K V T C B P S))) 1 6 (hA (wH ca a q K V T C B P S)) := by
  refine vx_ofW (cc := b_Hop_home) (maxL := 3) (ret := some .int) (by decide) rfl ?_
  intro p e s m args below meth c0 s₁ B0 hml hnt hv
  obtain ⟨rfl, hP, hK, hD0, hF, hZ⟩ := hv
  have hx := B0.exec
  have hb := B0.bytes
  have hr := B0.returns
  have hts := atoms_spec (ws := w_Hop_home) B0.pre
  have hown : s.vm.findClass R_Hop = some m.cls := findClass_of_methodNamed B0.named
  have hlocks := B0.notSynchronized
  have hwA : ∀ w ∈ wsA, w.before ([.ref (a 0), .int mm, .int key] : List Value).toArray s = true := fun w h => hts w (List.mem_cons_of_mem _ h)
  have X : CallFix p m c0 b_Hop_home 3 s ([.ref (a 0), .int mm, .int key] : List Value).toArray wsA R_Hop := ⟨hx, hb, hml, hown, hwA⟩
  have hD := hA_D hD0
  have hS : va_S (hA (wH ca a q K V T C B P S)) s.heap s.heap [] := va_S.rf
  have hl := lv_entry ([.ref (a 0), .int mm, .int key]) (n := 3) (Nat.le_of_ble_eq_true rfl)
  rw [lg_entry_eq]
  generalize (lg_sl ([.ref (a 0), .int mm, .int key]) ++ List.replicate (3 - (lg_sl ([.ref (a 0), .int mm, .int key])).length) Slot.unset).toArray = ls at hl ⊢
  have hl : lv_has ls 3 [(0, .ref (a 0)), (1, .int mm), (2, .int key)] := hl
  refine lv_aload_n hx hb d_Hop_home_0 rfl (lv_at hl 0 rfl) ?_
  refine lv_iload_n hx hb d_Hop_home_1 rfl (lv_at hl 1 rfl) ?_
  exact k_partOf_bad X hlt hK hP hD hS hF hZ hl.1 hm (Nat.le_of_ble_eq_true rfl) ⟨Nat.le_of_ble_eq_true rfl, Nat.le_of_ble_eq_true rfl⟩ ⟨Nat.le_of_ble_eq_true rfl, Nat.le_of_ble_eq_true rfl⟩ d_Hop_home_2 hnt hlocks (Nat.le_of_ble_eq_true rfl) (Nat.le_of_ble_eq_true rfl)
set_option maxHeartbeats 4000000 in
set_option maxRecDepth 100000 in
/-- distance: there is no such map -/
theorem c_Hop_distance_bad (l : Launch) (hlt : l.stackTraces = false) (D : va_G) (ca a q : Nat → Nat) (K V : IT) (T : BT) (C : IT) (B P : Nat → Nat) (S : IT) (sa : Nat → Nat) (mm : Int32) (key : Int32) (hm : mm < 0 ∨ nI 3 ≤ mm) : vx_Met l y_Hop_distance w_Hop_distance (rmD 7 2 12) (va_Pc [.ref (a 0), .int mm, .int key] (hb_X D hCl (wH ca a q K V T C B P S) (tyH ca) sa)) (hX_Q (.inr "java/lang/IndexOutOfBoundsException") D hCl (wH ca a q K V T C B P S) (hA (wH ca a q K V T C B P S))) (hX_X (.inr "java/lang/IndexOutOfBoundsException") D hCl (wH ca a q K V T C B P S) (hA (wH ca a q K V T C B P S))) 2 12 (hA (wH ca a q K V T C B P S)) := by
  refine vx_ofW (cc := b_Hop_distance) (maxL := 5) (ret := some .int) (by decide) rfl ?_
  intro p e s m args below meth c0 s₁ B0 hml hnt hv
  obtain ⟨rfl, hP, hK, hD0, hF, hZ⟩ := hv
  have hx := B0.exec
  have hb := B0.bytes
  have hr := B0.returns
  have hts := atoms_spec (ws := w_Hop_distance) B0.pre
  have hown : s.vm.findClass R_Hop = some m.cls := findClass_of_methodNamed B0.named
  have hlocks := B0.notSynchronized
  have hwA : ∀ w ∈ wsA, w.before ([.ref (a 0), .int mm, .int key] : List Value).toArray s = true := fun w h => hts w (List.mem_cons_of_mem _ h)
  have X : CallFix p m c0 b_Hop_distance 5 s ([.ref (a 0), .int mm, .int key] : List Value).toArray wsA R_Hop := ⟨hx, hb, hml, hown, hwA⟩
  have hD := hA_D hD0
  have hS : va_S (hA (wH ca a q K V T C B P S)) s.heap s.heap [] := va_S.rf
  have hl := lv_entry ([.ref (a 0), .int mm, .int key]) (n := 5) (Nat.le_of_ble_eq_true rfl)
  rw [lg_entry_eq]
  generalize (lg_sl ([.ref (a 0), .int mm, .int key]) ++ List.replicate (5 - (lg_sl ([.ref (a 0), .int mm, .int key])).length) Slot.unset).toArray = ls at hl ⊢
  have hl : lv_has ls 5 [(0, .ref (a 0)), (1, .int mm), (2, .int key)] := hl
  refine lv_aload_n hx hb d_Hop_distance_0 rfl (lv_at hl 0 rfl) ?_
  refine lv_iload_n hx hb d_Hop_distance_1 rfl (lv_at hl 1 rfl) ?_
  exact k_partOf_bad X hlt hK hP hD hS hF hZ hl.1 hm (Nat.le_of_ble_eq_true rfl) ⟨Nat.le_of_ble_eq_true rfl, Nat.le_of_ble_eq_true rfl⟩ ⟨Nat.le_of_ble_eq_true rfl, Nat.le_of_ble_eq_true rfl⟩ d_Hop_distance_2 hnt hlocks (Nat.le_of_ble_eq_true rfl) (Nat.le_of_ble_eq_true rfl)
set_option maxHeartbeats 4000000 in
set_option maxRecDepth 100000 in
/-- bits: there is no such map -/
theorem c_Hop_bits_bad (l : Launch) (hlt : l.stackTraces = false) (D : va_G) (ca a q : Nat → Nat) (K V : IT) (T : BT) (C : IT) (B P : Nat → Nat) (S : IT) (sa : Nat → Nat) (mm : Int32) (x : Int32) (hm : mm < 0 ∨ nI 3 ≤ mm) : vx_Met l y_Hop_bits w_Hop_bits (rmD 7 2 12) (va_Pc [.ref (a 0), .int mm, .int x] (hb_X D hCl (wH ca a q K V T C B P S) (tyH ca) sa)) (hX_Q (.inr "java/lang/IndexOutOfBoundsException") D hCl (wH ca a q K V T C B P S) (hA (wH ca a q K V T C B P S))) (hX_X (.inr "java/lang/IndexOutOfBoundsException") D hCl (wH ca a q K V T C B P S) (hA (wH ca a q K V T C B P S))) 2 12 (hA (wH ca a q K V T C B P S)) := by
  refine vx_ofW (cc := b_Hop_bits) (maxL := 6) (ret := some .int) (by decide) rfl ?_
  intro p e s m args below meth c0 s₁ B0 hml hnt hv
  obtain ⟨rfl, hP, hK, hD0, hF, hZ⟩ := hv
  have hx := B0.exec
  have hb := B0.bytes
  have hr := B0.returns
  have hts := atoms_spec (ws := w_Hop_bits) B0.pre
  have hown : s.vm.findClass R_Hop = some m.cls := findClass_of_methodNamed B0.named
  have hlocks := B0.notSynchronized
  have hwA : ∀ w ∈ wsA, w.before ([.ref (a 0), .int mm, .int x] : List Value).toArray s = true := fun w h => hts w (List.mem_cons_of_mem _ h)
  have X : CallFix p m c0 b_Hop_bits 6 s ([.ref (a 0), .int mm, .int x] : List Value).toArray wsA R_Hop := ⟨hx, hb, hml, hown, hwA⟩
  have hD := hA_D hD0
  have hS : va_S (hA (wH ca a q K V T C B P S)) s.heap s.heap [] := va_S.rf
  have hl := lv_entry ([.ref (a 0), .int mm, .int x]) (n := 6) (Nat.le_of_ble_eq_true rfl)
  rw [lg_entry_eq]
  generalize (lg_sl ([.ref (a 0), .int mm, .int x]) ++ List.replicate (6 - (lg_sl ([.ref (a 0), .int mm, .int x])).length) Slot.unset).toArray = ls at hl ⊢
  have hl : lv_has ls 6 [(0, .ref (a 0)), (1, .int mm), (2, .int x)] := hl
  refine lv_aload_n hx hb d_Hop_bits_0 rfl (lv_at hl 0 rfl) ?_
  refine lv_iload_n hx hb d_Hop_bits_1 rfl (lv_at hl 1 rfl) ?_
  exact k_partOf_bad X hlt hK hP hD hS hF hZ hl.1 hm (Nat.le_of_ble_eq_true rfl) ⟨Nat.le_of_ble_eq_true rfl, Nat.le_of_ble_eq_true rfl⟩ ⟨Nat.le_of_ble_eq_true rfl, Nat.le_of_ble_eq_true rfl⟩ d_Hop_bits_2 hnt hlocks (Nat.le_of_ble_eq_true rfl) (Nat.le_of_ble_eq_true rfl)
set_option maxHeartbeats 4000000 in
set_option maxRecDepth 100000 in
/-- next: there is no such map -/
theorem c_Hop_next_bad (l : Launch) (hlt : l.stackTraces = false) (D : va_G) (ca a q : Nat → Nat) (K V : IT) (T : BT) (C : IT) (B P : Nat → Nat) (S : IT) (sa : Nat → Nat) (mm : Int32) (x : Int32) (hm : mm < 0 ∨ nI 3 ≤ mm) : vx_Met l y_Hop_next w_Hop_next (rmD 7 2 12) (va_Pc [.ref (a 0), .int mm, .int x] (hb_X D hCl (wH ca a q K V T C B P S) (tyH ca) sa)) (hX_Q (.inr "java/lang/IndexOutOfBoundsException") D hCl (wH ca a q K V T C B P S) (hA (wH ca a q K V T C B P S))) (hX_X (.inr "java/lang/IndexOutOfBoundsException") D hCl (wH ca a q K V T C B P S) (hA (wH ca a q K V T C B P S))) 2 12 (hA (wH ca a q K V T C B P S)) := by
  refine vx_ofW (cc := b_Hop_next) (maxL := 5) (ret := some .int) (by decide) rfl ?_
  intro p e s m args below meth c0 s₁ B0 hml hnt hv
  obtain ⟨rfl, hP, hK, hD0, hF, hZ⟩ := hv
  have hx := B0.exec
  have hb := B0.bytes
  have hr := B0.returns
  have hts := atoms_spec (ws := w_Hop_next) B0.pre
  have hown : s.vm.findClass R_Hop = some m.cls := findClass_of_methodNamed B0.named
  have hlocks := B0.notSynchronized
  have hwA : ∀ w ∈ wsA, w.before ([.ref (a 0), .int mm, .int x] : List Value).toArray s = true := fun w h => hts w (List.mem_cons_of_mem _ h)
  have X : CallFix p m c0 b_Hop_next 5 s ([.ref (a 0), .int mm, .int x] : List Value).toArray wsA R_Hop := ⟨hx, hb, hml, hown, hwA⟩
  have hD := hA_D hD0
  have hS : va_S (hA (wH ca a q K V T C B P S)) s.heap s.heap [] := va_S.rf
  have hl := lv_entry ([.ref (a 0), .int mm, .int x]) (n := 5) (Nat.le_of_ble_eq_true rfl)
  rw [lg_entry_eq]
  generalize (lg_sl ([.ref (a 0), .int mm, .int x]) ++ List.replicate (5 - (lg_sl ([.ref (a 0), .int mm, .int x])).length) Slot.unset).toArray = ls at hl ⊢
  have hl : lv_has ls 5 [(0, .ref (a 0)), (1, .int mm), (2, .int x)] := hl
  refine lv_aload_n hx hb d_Hop_next_0 rfl (lv_at hl 0 rfl) ?_
  refine lv_iload_n hx hb d_Hop_next_1 rfl (lv_at hl 1 rfl) ?_
  exact k_partOf_bad X hlt hK hP hD hS hF hZ hl.1 hm (Nat.le_of_ble_eq_true rfl) ⟨Nat.le_of_ble_eq_true rfl, Nat.le_of_ble_eq_true rfl⟩ ⟨Nat.le_of_ble_eq_true rfl, Nat.le_of_ble_eq_true rfl⟩ d_Hop_next_2 hnt hlocks (Nat.le_of_ble_eq_true rfl) (Nat.le_of_ble_eq_true rfl)
set_option maxHeartbeats 4000000 in
set_option maxRecDepth 100000 in
/-- key: there is no such map -/
theorem c_Hop_key_bad (l : Launch) (hlt : l.stackTraces = false) (D : va_G) (ca a q : Nat → Nat) (K V : IT) (T : BT) (C : IT) (B P : Nat → Nat) (S : IT) (sa : Nat → Nat) (mm : Int32) (x : Int32) (hm : mm < 0 ∨ nI 3 ≤ mm) : vx_Met l y_Hop_key w_Hop_key (rmD 7 3 18) (va_Pc [.ref (a 0), .int mm, .int x] (hb_X D hCl (wH ca a q K V T C B P S) (tyH ca) sa)) (hX_Q (.inr "java/lang/IndexOutOfBoundsException") D hCl (wH ca a q K V T C B P S) (hA (wH ca a q K V T C B P S))) (hX_X (.inr "java/lang/IndexOutOfBoundsException") D hCl (wH ca a q K V T C B P S) (hA (wH ca a q K V T C B P S))) 3 18 (hA (wH ca a q K V T C B P S)) := by
  refine vx_ofW (cc := b_Hop_key) (maxL := 5) (ret := some .int) (by decide) rfl ?_
  intro p e s m args below meth c0 s₁ B0 hml hnt hv
  obtain ⟨rfl, hP, hK, hD0, hF, hZ⟩ := hv
  have hx := B0.exec
  have hb := B0.bytes
  have hr := B0.returns
  have hts := atoms_spec (ws := w_Hop_key) B0.pre
  have hown : s.vm.findClass R_Hop = some m.cls := findClass_of_methodNamed B0.named
  have hlocks := B0.notSynchronized
  have hwA : ∀ w ∈ wsA, w.before ([.ref (a 0), .int mm, .int x] : List Value).toArray s = true := fun w h => hts w (List.mem_cons_of_mem _ h)
  have X : CallFix p m c0 b_Hop_key 5 s ([.ref (a 0), .int mm, .int x] : List Value).toArray wsA R_Hop := ⟨hx, hb, hml, hown, hwA⟩
  have hD := hA_D hD0
  have hS : va_S (hA (wH ca a q K V T C B P S)) s.heap s.heap [] := va_S.rf
  have hl := lv_entry ([.ref (a 0), .int mm, .int x]) (n := 5) (Nat.le_of_ble_eq_true rfl)
  rw [lg_entry_eq]
  generalize (lg_sl ([.ref (a 0), .int mm, .int x]) ++ List.replicate (5 - (lg_sl ([.ref (a 0), .int mm, .int x])).length) Slot.unset).toArray = ls at hl ⊢
  have hl : lv_has ls 5 [(0, .ref (a 0)), (1, .int mm), (2, .int x)] := hl
  refine lv_aload_n hx hb d_Hop_key_0 rfl (lv_at hl 0 rfl) ?_
  refine lv_iload_n hx hb d_Hop_key_1 rfl (lv_at hl 1 rfl) ?_
  exact k_partOf_bad X hlt hK hP hD hS hF hZ hl.1 hm (Nat.le_of_ble_eq_true rfl) ⟨Nat.le_of_ble_eq_true rfl, Nat.le_of_ble_eq_true rfl⟩ ⟨Nat.le_of_ble_eq_true rfl, Nat.le_of_ble_eq_true rfl⟩ d_Hop_key_2 hnt hlocks (Nat.le_of_ble_eq_true rfl) (Nat.le_of_ble_eq_true rfl)
set_option maxHeartbeats 4000000 in
set_option maxRecDepth 100000 in
/-- get -/
theorem c_Hop_get (l : Launch) (hlt : l.stackTraces = false) (D : va_G) (ca a q : Nat → Nat) (K V : IT) (T : BT) (C : IT) (B P : Nat → Nat) (S : IT) (sa : Nat → Nat) (j : Nat) (hj : j < 3) (hc : pw (P j)) (hbd : B j + P j ≤ 256) (key : Int32) (k : Nat) (hk : k < 256) (hfd : fnd T K (B j) (P j) (hom key (S j) (P j)) key 0 8 = some k) : vx_Met l y_Hop_get w_Hop_get (rmD 7 2 12) (va_Pc [.ref (a 0), .int (nI j), .int key] (hb_X D hCl (wH ca a q K V T C B P S) (tyH ca) sa)) (hX_Q (.inl (some (.int (V k)))) D hCl (wH ca a q K V T C B P S) (hA (wH ca a q K V T C B P S))) (hX_X (.inl (some (.int (V k)))) D hCl (wH ca a q K V T C B P S) (hA (wH ca a q K V T C B P S))) 2 12 (hA (wH ca a q K V T C B P S)) := by
  refine vx_ofW (cc := b_Hop_get) (maxL := 3) (ret := some .int) (by decide) rfl ?_
  intro p e s m args below meth c0 s₁ B0 hml hnt hv
  obtain ⟨rfl, hP, hK, hD0, hF, hZ⟩ := hv
  have hx := B0.exec
  have hb := B0.bytes
  have hr := B0.returns
  have hts := atoms_spec (ws := w_Hop_get) B0.pre
  have hown : s.vm.findClass R_Hop = some m.cls := findClass_of_methodNamed B0.named
  have hlocks := B0.notSynchronized
  have hwA : ∀ w ∈ wsA, w.before ([.ref (a 0), .int (nI j), .int key] : List Value).toArray s = true := fun w h => hts w (List.mem_cons_of_mem _ h)
  have X : CallFix p m c0 b_Hop_get 3 s ([.ref (a 0), .int (nI j), .int key] : List Value).toArray wsA R_Hop := ⟨hx, hb, hml, hown, hwA⟩
  have hD := hA_D hD0
  have hS : va_S (hA (wH ca a q K V T C B P S)) s.heap s.heap [] := va_S.rf
  have hl := lv_entry ([.ref (a 0), .int (nI j), .int key]) (n := 3) (Nat.le_of_ble_eq_true rfl)
  rw [lg_entry_eq]
  generalize (lg_sl ([.ref (a 0), .int (nI j), .int key]) ++ List.replicate (3 - (lg_sl ([.ref (a 0), .int (nI j), .int key])).length) Slot.unset).toArray = ls at hl ⊢
  have hl : lv_has ls 3 [(0, .ref (a 0)), (1, .int (nI j)), (2, .int key)] := hl
  have hj4 : j < 4 := by omega
  refine lv_aload_n hx hb d_Hop_get_0 rfl (lv_at hl 0 rfl) ?_
  refine hg_values X hK hP d_Hop_get_1 ?_
  refine lv_aload_n hx hb d_Hop_get_4 rfl (lv_at hl 0 rfl) ?_
  refine lv_aload_n hx hb d_Hop_get_5 rfl (lv_at hl 0 rfl) ?_
  refine lv_iload_n hx hb d_Hop_get_6 rfl (lv_at hl 1 rfl) ?_
  refine k_partOf X hlt hK hP hD hS hF hZ hl.1 hj (Nat.le_of_ble_eq_true rfl) ⟨Nat.le_of_ble_eq_true rfl, Nat.le_of_ble_eq_true rfl⟩ ⟨Nat.le_of_ble_eq_true rfl, Nat.le_of_ble_eq_true rfl⟩ d_Hop_get_7 (fun H locs hP hD hS => ?_)
  refine lv_iload_n hx hb d_Hop_get_10 rfl (lv_at hl 2 rfl) ?_
  refine k_slotHolding X hlt hK hP hD hS hF hZ hl.1 hj4 hc hbd hk hfd (Nat.le_of_ble_eq_true rfl) ⟨Nat.le_of_ble_eq_true rfl, Nat.le_of_ble_eq_true rfl⟩ ⟨Nat.le_of_ble_eq_true rfl, Nat.le_of_ble_eq_true rfl⟩ d_Hop_get_11 (fun H locs hP hD hS => ?_)
  refine hl_V X hK hP (i := k) (hk) d_Hop_get_14 ?_
  refine W.widen (k := 2) (n := 12) (Nat.le_of_ble_eq_true rfl) (Nat.le_of_ble_eq_true rfl) ?_
  exact vx_ret (W.iret (v := V k) hx hb hr (fun t ht hW => ⟨_, rfl, rfl, by rw [ht]; exact hP, hS.F ht⟩) hS.2.2 d_Hop_get_15)
set_option maxHeartbeats 4000000 in
set_option maxRecDepth 100000 in
/-- get -/
theorem c_Hop_get_no (l : Launch) (hlt : l.stackTraces = false) (D : va_G) (ca a q : Nat → Nat) (K V : IT) (T : BT) (C : IT) (B P : Nat → Nat) (S : IT) (sa : Nat → Nat) (j : Nat) (hj : j < 3) (hc : pw (P j)) (hbd : B j + P j ≤ 256) (key : Int32) (hfd : fnd T K (B j) (P j) (hom key (S j) (P j)) key 0 8 = none) : vx_Met l y_Hop_get w_Hop_get (rmD 7 2 12) (va_Pc [.ref (a 0), .int (nI j), .int key] (hb_X D hCl (wH ca a q K V T C B P S) (tyH ca) sa)) (hX_Q (.inr "java/util/NoSuchElementException") D hCl (wH ca a q K V T C B P S) (hA (wH ca a q K V T C B P S))) (hX_X (.inr "java/util/NoSuchElementException") D hCl (wH ca a q K V T C B P S) (hA (wH ca a q K V T C B P S))) 2 12 (hA (wH ca a q K V T C B P S)) := by
  refine vx_ofW (cc := b_Hop_get) (maxL := 3) (ret := some .int) (by decide) rfl ?_
  intro p e s m args below meth c0 s₁ B0 hml hnt hv
  obtain ⟨rfl, hP, hK, hD0, hF, hZ⟩ := hv
  have hx := B0.exec
  have hb := B0.bytes
  have hr := B0.returns
  have hts := atoms_spec (ws := w_Hop_get) B0.pre
  have hown : s.vm.findClass R_Hop = some m.cls := findClass_of_methodNamed B0.named
  have hlocks := B0.notSynchronized
  have hwA : ∀ w ∈ wsA, w.before ([.ref (a 0), .int (nI j), .int key] : List Value).toArray s = true := fun w h => hts w (List.mem_cons_of_mem _ h)
  have X : CallFix p m c0 b_Hop_get 3 s ([.ref (a 0), .int (nI j), .int key] : List Value).toArray wsA R_Hop := ⟨hx, hb, hml, hown, hwA⟩
  have hD := hA_D hD0
  have hS : va_S (hA (wH ca a q K V T C B P S)) s.heap s.heap [] := va_S.rf
  have hl := lv_entry ([.ref (a 0), .int (nI j), .int key]) (n := 3) (Nat.le_of_ble_eq_true rfl)
  rw [lg_entry_eq]
  generalize (lg_sl ([.ref (a 0), .int (nI j), .int key]) ++ List.replicate (3 - (lg_sl ([.ref (a 0), .int (nI j), .int key])).length) Slot.unset).toArray = ls at hl ⊢
  have hl : lv_has ls 3 [(0, .ref (a 0)), (1, .int (nI j)), (2, .int key)] := hl
  have hj4 : j < 4 := by omega
  refine lv_aload_n hx hb d_Hop_get_0 rfl (lv_at hl 0 rfl) ?_
  refine hg_values X hK hP d_Hop_get_1 ?_
  refine lv_aload_n hx hb d_Hop_get_4 rfl (lv_at hl 0 rfl) ?_
  refine lv_aload_n hx hb d_Hop_get_5 rfl (lv_at hl 0 rfl) ?_
  refine lv_iload_n hx hb d_Hop_get_6 rfl (lv_at hl 1 rfl) ?_
  refine k_partOf X hlt hK hP hD hS hF hZ hl.1 hj (Nat.le_of_ble_eq_true rfl) ⟨Nat.le_of_ble_eq_true rfl, Nat.le_of_ble_eq_true rfl⟩ ⟨Nat.le_of_ble_eq_true rfl, Nat.le_of_ble_eq_true rfl⟩ d_Hop_get_7 (fun H locs hP hD hS => ?_)
  refine lv_iload_n hx hb d_Hop_get_10 rfl (lv_at hl 2 rfl) ?_
  exact k_slotHolding_bad X hlt hK hP hD hS hF hZ hl.1 hj4 hc hbd hfd (Nat.le_of_ble_eq_true rfl) ⟨Nat.le_of_ble_eq_true rfl, Nat.le_of_ble_eq_true rfl⟩ ⟨Nat.le_of_ble_eq_true rfl, Nat.le_of_ble_eq_true rfl⟩ d_Hop_get_11 hnt hlocks (Nat.le_of_ble_eq_true rfl) (Nat.le_of_ble_eq_true rfl)
set_option maxHeartbeats 4000000 in
set_option maxRecDepth 100000 in
/-- remove -/
theorem c_Hop_remove (l : Launch) (hlt : l.stackTraces = false) (D : va_G) (ca a q : Nat → Nat) (K V : IT) (T : BT) (C : IT) (B P : Nat → Nat) (S : IT) (sa : Nat → Nat) (j : Nat) (hj : j < 3) (hc : pw (P j)) (hbd : B j + P j ≤ 256) (key : Int32) (k : Nat) (hk : k < 256) (hfd : fnd T K (B j) (P j) (hom key (S j) (P j)) key 0 8 = some k) : vx_Met l y_Hop_remove w_Hop_remove (rmD 7 2 12) (va_Pc [.ref (a 0), .int (nI j), .int key] (hb_X D hCl (wH ca a q K V T C B P S) (tyH ca) sa)) (hX_Q (.inl (some (.int (V k)))) D hCl (wH ca a q K V (va_up T k false) C B P S) (hA (wH ca a q K V T C B P S))) (hX_X (.inl (some (.int (V k)))) D hCl (wH ca a q K V (va_up T k false) C B P S) (hA (wH ca a q K V T C B P S))) 2 12 (hA (wH ca a q K V T C B P S)) := by
  refine vx_ofW (cc := b_Hop_remove) (maxL := 4) (ret := some .int) (by decide) rfl ?_
  intro p e s m args below meth c0 s₁ B0 hml hnt hv
  obtain ⟨rfl, hP, hK, hD0, hF, hZ⟩ := hv
  have hx := B0.exec
  have hb := B0.bytes
  have hr := B0.returns
  have hts := atoms_spec (ws := w_Hop_remove) B0.pre
  have hown : s.vm.findClass R_Hop = some m.cls := findClass_of_methodNamed B0.named
  have hlocks := B0.notSynchronized
  have hwA : ∀ w ∈ wsA, w.before ([.ref (a 0), .int (nI j), .int key] : List Value).toArray s = true := fun w h => hts w (List.mem_cons_of_mem _ h)
  have X : CallFix p m c0 b_Hop_remove 4 s ([.ref (a 0), .int (nI j), .int key] : List Value).toArray wsA R_Hop := ⟨hx, hb, hml, hown, hwA⟩
  have hD := hA_D hD0
  have hS : va_S (hA (wH ca a q K V T C B P S)) s.heap s.heap [] := va_S.rf
  have hl := lv_entry ([.ref (a 0), .int (nI j), .int key]) (n := 4) (Nat.le_of_ble_eq_true rfl)
  rw [lg_entry_eq]
  generalize (lg_sl ([.ref (a 0), .int (nI j), .int key]) ++ List.replicate (4 - (lg_sl ([.ref (a 0), .int (nI j), .int key])).length) Slot.unset).toArray = ls at hl ⊢
  have hl : lv_has ls 4 [(0, .ref (a 0)), (1, .int (nI j)), (2, .int key)] := hl
  have hj4 : j < 4 := by omega
  refine lv_aload_n hx hb d_Hop_remove_0 rfl (lv_at hl 0 rfl) ?_
  refine lv_aload_n hx hb d_Hop_remove_1 rfl (lv_at hl 0 rfl) ?_
  refine lv_iload_n hx hb d_Hop_remove_2 rfl (lv_at hl 1 rfl) ?_
  refine k_partOf X hlt hK hP hD hS hF hZ hl.1 hj (Nat.le_of_ble_eq_true rfl) ⟨Nat.le_of_ble_eq_true rfl, Nat.le_of_ble_eq_true rfl⟩ ⟨Nat.le_of_ble_eq_true rfl, Nat.le_of_ble_eq_true rfl⟩ d_Hop_remove_3 (fun H locs hP hD hS => ?_)
  refine lv_iload_n hx hb d_Hop_remove_6 rfl (lv_at hl 2 rfl) ?_
  refine k_slotHolding X hlt hK hP hD hS hF hZ hl.1 hj4 hc hbd hk hfd (Nat.le_of_ble_eq_true rfl) ⟨Nat.le_of_ble_eq_true rfl, Nat.le_of_ble_eq_true rfl⟩ ⟨Nat.le_of_ble_eq_true rfl, Nat.le_of_ble_eq_true rfl⟩ d_Hop_remove_7 (fun H locs hP hD hS => ?_)
  refine lv_istore_n (lv' := [(3, .int (nI k)), (0, .ref (a 0)), (1, .int (nI j)), (2, .int key)]) hx hb d_Hop_remove_10 rfl hl (by decide) rfl (fun ls hl => ?_)
  refine lv_aload_n hx hb d_Hop_remove_11 rfl (lv_at hl 1 rfl) ?_
  refine hg_taken X hK hP d_Hop_remove_12 ?_
  refine lv_iload_n hx hb d_Hop_remove_15 rfl (lv_at hl 0 rfl) ?_
  refine lv_iconst (v := 0) hx hb d_Hop_remove_16 (by decide) ?_
  refine hs_T X hK hP hD hS (i := k) (x := false) (hk) d_Hop_remove_17 (fun H locs hP hD hS => ?_)
  refine lv_aload_n hx hb d_Hop_remove_18 rfl (lv_at hl 1 rfl) ?_
  refine hg_values X hK hP d_Hop_remove_19 ?_
  refine lv_iload_n hx hb d_Hop_remove_22 rfl (lv_at hl 0 rfl) ?_
  refine hl_V X hK hP (i := k) (hk) d_Hop_remove_23 ?_
  refine W.widen (k := 2) (n := 12) (Nat.le_of_ble_eq_true rfl) (Nat.le_of_ble_eq_true rfl) ?_
  exact vx_ret (W.iret (v := V k) hx hb hr (fun t ht hW => ⟨_, rfl, rfl, by rw [ht]; exact hP, hS.F ht⟩) hS.2.2 d_Hop_remove_24)
set_option maxHeartbeats 4000000 in
set_option maxRecDepth 100000 in
/-- remove -/
theorem c_Hop_remove_no (l : Launch) (hlt : l.stackTraces = false) (D : va_G) (ca a q : Nat → Nat) (K V : IT) (T : BT) (C : IT) (B P : Nat → Nat) (S : IT) (sa : Nat → Nat) (j : Nat) (hj : j < 3) (hc : pw (P j)) (hbd : B j + P j ≤ 256) (key : Int32) (hfd : fnd T K (B j) (P j) (hom key (S j) (P j)) key 0 8 = none) : vx_Met l y_Hop_remove w_Hop_remove (rmD 7 2 12) (va_Pc [.ref (a 0), .int (nI j), .int key] (hb_X D hCl (wH ca a q K V T C B P S) (tyH ca) sa)) (hX_Q (.inr "java/util/NoSuchElementException") D hCl (wH ca a q K V T C B P S) (hA (wH ca a q K V T C B P S))) (hX_X (.inr "java/util/NoSuchElementException") D hCl (wH ca a q K V T C B P S) (hA (wH ca a q K V T C B P S))) 2 12 (hA (wH ca a q K V T C B P S)) := by
  refine vx_ofW (cc := b_Hop_remove) (maxL := 4) (ret := some .int) (by decide) rfl ?_
  intro p e s m args below meth c0 s₁ B0 hml hnt hv
  obtain ⟨rfl, hP, hK, hD0, hF, hZ⟩ := hv
  have hx := B0.exec
  have hb := B0.bytes
  have hr := B0.returns
  have hts := atoms_spec (ws := w_Hop_remove) B0.pre
  have hown : s.vm.findClass R_Hop = some m.cls := findClass_of_methodNamed B0.named
  have hlocks := B0.notSynchronized
  have hwA : ∀ w ∈ wsA, w.before ([.ref (a 0), .int (nI j), .int key] : List Value).toArray s = true := fun w h => hts w (List.mem_cons_of_mem _ h)
  have X : CallFix p m c0 b_Hop_remove 4 s ([.ref (a 0), .int (nI j), .int key] : List Value).toArray wsA R_Hop := ⟨hx, hb, hml, hown, hwA⟩
  have hD := hA_D hD0
  have hS : va_S (hA (wH ca a q K V T C B P S)) s.heap s.heap [] := va_S.rf
  have hl := lv_entry ([.ref (a 0), .int (nI j), .int key]) (n := 4) (Nat.le_of_ble_eq_true rfl)
  rw [lg_entry_eq]
  generalize (lg_sl ([.ref (a 0), .int (nI j), .int key]) ++ List.replicate (4 - (lg_sl ([.ref (a 0), .int (nI j), .int key])).length) Slot.unset).toArray = ls at hl ⊢
  have hl : lv_has ls 4 [(0, .ref (a 0)), (1, .int (nI j)), (2, .int key)] := hl
  have hj4 : j < 4 := by omega
  refine lv_aload_n hx hb d_Hop_remove_0 rfl (lv_at hl 0 rfl) ?_
  refine lv_aload_n hx hb d_Hop_remove_1 rfl (lv_at hl 0 rfl) ?_
  refine lv_iload_n hx hb d_Hop_remove_2 rfl (lv_at hl 1 rfl) ?_
  refine k_partOf X hlt hK hP hD hS hF hZ hl.1 hj (Nat.le_of_ble_eq_true rfl) ⟨Nat.le_of_ble_eq_true rfl, Nat.le_of_ble_eq_true rfl⟩ ⟨Nat.le_of_ble_eq_true rfl, Nat.le_of_ble_eq_true rfl⟩ d_Hop_remove_3 (fun H locs hP hD hS => ?_)
  refine lv_iload_n hx hb d_Hop_remove_6 rfl (lv_at hl 2 rfl) ?_
  exact k_slotHolding_bad X hlt hK hP hD hS hF hZ hl.1 hj4 hc hbd hfd (Nat.le_of_ble_eq_true rfl) ⟨Nat.le_of_ble_eq_true rfl, Nat.le_of_ble_eq_true rfl⟩ ⟨Nat.le_of_ble_eq_true rfl, Nat.le_of_ble_eq_true rfl⟩ d_Hop_remove_7 hnt hlocks (Nat.le_of_ble_eq_true rfl) (Nat.le_of_ble_eq_true rfl)
set_option maxHeartbeats 4000000 in
set_option maxRecDepth 100000 in
/-- has -/
theorem c_Hop_has (l : Launch) (hlt : l.stackTraces = false) (D : va_G) (ca a q : Nat → Nat) (K V : IT) (T : BT) (C : IT) (B P : Nat → Nat) (S : IT) (sa : Nat → Nat) (j : Nat) (hj : j < 3) (hc : pw (P j)) (hbd : B j + P j ≤ 256) (key : Int32)  : vx_Met l y_Hop_has w_Hop_has (rmD 7 1 6) (va_Pc [.ref (a 0), .int (nI j), .int key] (hb_X D hCl (wH ca a q K V T C B P S) (tyH ca) sa)) (hX_Q (.inl (some (.int (bI (fnd T K (B j) (P j) (hom key (S j) (P j)) key 0 8).isSome)))) D hCl (wH ca a q K V T C B P S) (hA (wH ca a q K V T C B P S))) (hX_X (.inl (some (.int (bI (fnd T K (B j) (P j) (hom key (S j) (P j)) key 0 8).isSome)))) D hCl (wH ca a q K V T C B P S) (hA (wH ca a q K V T C B P S))) 1 6 (hA (wH ca a q K V T C B P S)) := by
  refine vx_ofW (cc := b_Hop_has) (maxL := 3) (ret := some .boolean) (by decide) rfl ?_
  intro p e s m args below meth c0 s₁ B0 hml hnt hv
  obtain ⟨rfl, hP, hK, hD0, hF, hZ⟩ := hv
  have hx := B0.exec
  have hb := B0.bytes
  have hr := B0.returns
  have hts := atoms_spec (ws := w_Hop_has) B0.pre
  have hown : s.vm.findClass R_Hop = some m.cls := findClass_of_methodNamed B0.named
  have hlocks := B0.notSynchronized
  have hwA : ∀ w ∈ wsA, w.before ([.ref (a 0), .int (nI j), .int key] : List Value).toArray s = true := fun w h => hts w (List.mem_cons_of_mem _ h)
  have X : CallFix p m c0 b_Hop_has 3 s ([.ref (a 0), .int (nI j), .int key] : List Value).toArray wsA R_Hop := ⟨hx, hb, hml, hown, hwA⟩
  have hD := hA_D hD0
  have hS : va_S (hA (wH ca a q K V T C B P S)) s.heap s.heap [] := va_S.rf
  have hl := lv_entry ([.ref (a 0), .int (nI j), .int key]) (n := 3) (Nat.le_of_ble_eq_true rfl)
  rw [lg_entry_eq]
  generalize (lg_sl ([.ref (a 0), .int (nI j), .int key]) ++ List.replicate (3 - (lg_sl ([.ref (a 0), .int (nI j), .int key])).length) Slot.unset).toArray = ls at hl ⊢
  have hl : lv_has ls 3 [(0, .ref (a 0)), (1, .int (nI j)), (2, .int key)] := hl
  have hj4 : j < 4 := by omega
  refine lv_aload_n hx hb d_Hop_has_0 rfl (lv_at hl 0 rfl) ?_
  refine lv_aload_n hx hb d_Hop_has_1 rfl (lv_at hl 0 rfl) ?_
  refine lv_iload_n hx hb d_Hop_has_2 rfl (lv_at hl 1 rfl) ?_
  refine k_partOf X hlt hK hP hD hS hF hZ hl.1 hj (Nat.le_of_ble_eq_true rfl) ⟨Nat.le_of_ble_eq_true rfl, Nat.le_of_ble_eq_true rfl⟩ ⟨Nat.le_of_ble_eq_true rfl, Nat.le_of_ble_eq_true rfl⟩ d_Hop_has_3 (fun H locs hP hD hS => ?_)
  refine lv_iload_n hx hb d_Hop_has_6 rfl (lv_at hl 2 rfl) ?_
  refine k_slotOrNone X hK hP hl.1 hj4 hc hbd (Nat.le_of_ble_eq_true rfl) ⟨Nat.le_of_ble_eq_true rfl, Nat.le_of_ble_eq_true rfl⟩ ⟨Nat.le_of_ble_eq_true rfl, Nat.le_of_ble_eq_true rfl⟩ d_Hop_has_7 ?_
  refine lv_iconst (v := -1) hx hb d_Hop_has_10 (by decide) ?_
  refine lv_icmp_eq (tgt := 18) hx hb d_Hop_has_11 (by decide) (fun h1 => ?_) (fun h1 => ?_)
  · have h2 := (oI_b (fun k hk => Nat.lt_trans (fnd_lt hc hbd _ _ _ hk) (by decide))).mp h1
    refine lv_iconst (v := 0) hx hb d_Hop_has_18 (by decide) ?_
    refine W.widen (k := 1) (n := 6) (Nat.le_of_ble_eq_true rfl) (Nat.le_of_ble_eq_true rfl) ?_
    exact vx_ret (W.zret (v := 0) hx hb hr rfl (fun t ht hW => ⟨_, rfl, by rw [h2]; rfl, by rw [ht]; exact hP, hS.F ht⟩) hS.2.2 d_Hop_has_19)
  · have h2 : fnd T K (B j) (P j) (hom key (S j) (P j)) key 0 8 ≠ none := fun z => h1 ((oI_b (fun k hk => Nat.lt_trans (fnd_lt hc hbd _ _ _ hk) (by decide))).mpr z)
    have h3 : (fnd T K (B j) (P j) (hom key (S j) (P j)) key 0 8).isSome = true := Option.isSome_iff_ne_none.mpr h2
    refine lv_iconst (v := 1) hx hb d_Hop_has_14 (by decide) ?_
    refine lv_goto (tgt := 19) hx hb d_Hop_has_15 (by decide) ?_
    refine W.widen (k := 1) (n := 6) (Nat.le_of_ble_eq_true rfl) (Nat.le_of_ble_eq_true rfl) ?_
    exact vx_ret (W.zret (v := 1) hx hb hr rfl (fun t ht hW => ⟨_, rfl, by rw [h3]; rfl, by rw [ht]; exact hP, hS.F ht⟩) hS.2.2 d_Hop_has_19)
set_option maxHeartbeats 4000000 in
set_option maxRecDepth 100000 in
/-- size -/
theorem c_Hop_size (l : Launch) (hlt : l.stackTraces = false) (D : va_G) (ca a q : Nat → Nat) (K V : IT) (T : BT) (C : IT) (B P : Nat → Nat) (S : IT) (sa : Nat → Nat) (j : Nat) (hj : j < 3) (hc : pw (P j)) (hbd : B j + P j ≤ 256)  : vx_Met l y_Hop_size w_Hop_size (rmD 7 1 6) (va_Pc [.ref (a 0), .int (nI j)] (hb_X D hCl (wH ca a q K V T C B P S) (tyH ca) sa)) (hX_Q (.inl (some (.int (nI (cnt T (B j) (P j)))))) D hCl (wH ca a q K V T C B P S) (hA (wH ca a q K V T C B P S))) (hX_X (.inl (some (.int (nI (cnt T (B j) (P j)))))) D hCl (wH ca a q K V T C B P S) (hA (wH ca a q K V T C B P S))) 1 6 (hA (wH ca a q K V T C B P S)) := by
  refine vx_ofW (cc := b_Hop_size) (maxL := 2) (ret := some .int) (by decide) rfl ?_
  intro p e s m args below meth c0 s₁ B0 hml hnt hv
  obtain ⟨rfl, hP, hK, hD0, hF, hZ⟩ := hv
  have hx := B0.exec
  have hb := B0.bytes
  have hr := B0.returns
  have hts := atoms_spec (ws := w_Hop_size) B0.pre
  have hown : s.vm.findClass R_Hop = some m.cls := findClass_of_methodNamed B0.named
  have hlocks := B0.notSynchronized
  have hwA : ∀ w ∈ wsA, w.before ([.ref (a 0), .int (nI j)] : List Value).toArray s = true := fun w h => hts w (List.mem_cons_of_mem _ h)
  have X : CallFix p m c0 b_Hop_size 2 s ([.ref (a 0), .int (nI j)] : List Value).toArray wsA R_Hop := ⟨hx, hb, hml, hown, hwA⟩
  have hD := hA_D hD0
  have hS : va_S (hA (wH ca a q K V T C B P S)) s.heap s.heap [] := va_S.rf
  have hl := lv_entry ([.ref (a 0), .int (nI j)]) (n := 2) (Nat.le_of_ble_eq_true rfl)
  rw [lg_entry_eq]
  generalize (lg_sl ([.ref (a 0), .int (nI j)]) ++ List.replicate (2 - (lg_sl ([.ref (a 0), .int (nI j)])).length) Slot.unset).toArray = ls at hl ⊢
  have hl : lv_has ls 2 [(0, .ref (a 0)), (1, .int (nI j))] := hl
  have hj4 : j < 4 := by omega
  refine lv_aload_n hx hb d_Hop_size_0 rfl (lv_at hl 0 rfl) ?_
  refine lv_aload_n hx hb d_Hop_size_1 rfl (lv_at hl 0 rfl) ?_
  refine lv_iload_n hx hb d_Hop_size_2 rfl (lv_at hl 1 rfl) ?_
  refine k_partOf X hlt hK hP hD hS hF hZ hl.1 hj (Nat.le_of_ble_eq_true rfl) ⟨Nat.le_of_ble_eq_true rfl, Nat.le_of_ble_eq_true rfl⟩ ⟨Nat.le_of_ble_eq_true rfl, Nat.le_of_ble_eq_true rfl⟩ d_Hop_size_3 (fun H locs hP hD hS => ?_)
  refine k_keysIn X hK hP hl.1 hj4 hbd (Nat.le_of_ble_eq_true rfl) ⟨Nat.le_of_ble_eq_true rfl, Nat.le_of_ble_eq_true rfl⟩ ⟨Nat.le_of_ble_eq_true rfl, Nat.le_of_ble_eq_true rfl⟩ d_Hop_size_6 ?_
  refine W.widen (k := 1) (n := 6) (Nat.le_of_ble_eq_true rfl) (Nat.le_of_ble_eq_true rfl) ?_
  exact vx_ret (W.iret (v := nI (cnt T (B j) (P j))) hx hb hr (fun t ht hW => ⟨_, rfl, rfl, by rw [ht]; exact hP, hS.F ht⟩) hS.2.2 d_Hop_size_9)
set_option maxHeartbeats 4000000 in
set_option maxRecDepth 100000 in
/-- clear -/
theorem c_Hop_clear (l : Launch) (hlt : l.stackTraces = false) (D : va_G) (ca a q : Nat → Nat) (K V : IT) (T : BT) (C : IT) (B P : Nat → Nat) (S : IT) (sa : Nat → Nat) (j : Nat) (hj : j < 3) (hc : pw (P j)) (hbd : B j + P j ≤ 256)  : vx_Met l y_Hop_clear w_Hop_clear (rmD 7 1 6) (va_Pc [.ref (a 0), .int (nI j)] (hb_X D hCl (wH ca a q K V T C B P S) (tyH ca) sa)) (hX_Q (.inl (some (.int (nI (cnt T (B j) (P j)))))) D hCl (wH ca a q K V (clr T (B j) 8) C B (va_up P j 8) S) (hA (wH ca a q K V T C B P S))) (hX_X (.inl (some (.int (nI (cnt T (B j) (P j)))))) D hCl (wH ca a q K V (clr T (B j) 8) C B (va_up P j 8) S) (hA (wH ca a q K V T C B P S))) 1 6 (hA (wH ca a q K V T C B P S)) := by
  refine vx_ofW (cc := b_Hop_clear) (maxL := 4) (ret := some .int) (by decide) rfl ?_
  intro p e s m args below meth c0 s₁ B0 hml hnt hv
  obtain ⟨rfl, hP, hK, hD0, hF, hZ⟩ := hv
  have hx := B0.exec
  have hb := B0.bytes
  have hr := B0.returns
  have hts := atoms_spec (ws := w_Hop_clear) B0.pre
  have hown : s.vm.findClass R_Hop = some m.cls := findClass_of_methodNamed B0.named
  have hlocks := B0.notSynchronized
  have hwA : ∀ w ∈ wsA, w.before ([.ref (a 0), .int (nI j)] : List Value).toArray s = true := fun w h => hts w (List.mem_cons_of_mem _ h)
  have X : CallFix p m c0 b_Hop_clear 4 s ([.ref (a 0), .int (nI j)] : List Value).toArray wsA R_Hop := ⟨hx, hb, hml, hown, hwA⟩
  have hD := hA_D hD0
  have hS : va_S (hA (wH ca a q K V T C B P S)) s.heap s.heap [] := va_S.rf
  have hl := lv_entry ([.ref (a 0), .int (nI j)]) (n := 4) (Nat.le_of_ble_eq_true rfl)
  rw [lg_entry_eq]
  generalize (lg_sl ([.ref (a 0), .int (nI j)]) ++ List.replicate (4 - (lg_sl ([.ref (a 0), .int (nI j)])).length) Slot.unset).toArray = ls at hl ⊢
  have hl : lv_has ls 4 [(0, .ref (a 0)), (1, .int (nI j))] := hl
  have hj4 : j < 4 := by omega
  refine lv_aload_n hx hb d_Hop_clear_0 rfl (lv_at hl 0 rfl) ?_
  refine lv_iload_n hx hb d_Hop_clear_1 rfl (lv_at hl 1 rfl) ?_
  refine k_partOf X hlt hK hP hD hS hF hZ hl.1 hj (Nat.le_of_ble_eq_true rfl) ⟨Nat.le_of_ble_eq_true rfl, Nat.le_of_ble_eq_true rfl⟩ ⟨Nat.le_of_ble_eq_true rfl, Nat.le_of_ble_eq_true rfl⟩ d_Hop_clear_2 (fun H locs hP hD hS => ?_)
  refine lv_astore_n (lv' := [(2, .ref (q j)), (0, .ref (a 0)), (1, .int (nI j))]) hx hb d_Hop_clear_5 rfl hl (by decide) rfl (fun ls hl => ?_)
  refine lv_aload_n hx hb d_Hop_clear_6 rfl (lv_at hl 1 rfl) ?_
  refine lv_aload_n hx hb d_Hop_clear_7 rfl (lv_at hl 0 rfl) ?_
  refine k_keysIn X hK hP hl.1 hj4 hbd (Nat.le_of_ble_eq_true rfl) ⟨Nat.le_of_ble_eq_true rfl, Nat.le_of_ble_eq_true rfl⟩ ⟨Nat.le_of_ble_eq_true rfl, Nat.le_of_ble_eq_true rfl⟩ d_Hop_clear_8 ?_
  refine lv_istore_n (lv' := [(3, .int (nI (cnt T (B j) (P j)))), (2, .ref (q j)), (0, .ref (a 0)), (1, .int (nI j))]) hx hb d_Hop_clear_11 rfl hl (by decide) rfl (fun ls hl => ?_)
  refine lv_aload_n hx hb d_Hop_clear_12 rfl (lv_at hl 1 rfl) ?_
  refine lv_bipush (v := 8) hx hb d_Hop_clear_13 (by decide) ?_
  refine hp_capacity X hK hP hD hS (x := 8) hj4 d_Hop_clear_15 (fun H locs hP hD hS => ?_)
  refine lv_aload_n hx hb d_Hop_clear_18 rfl (lv_at hl 2 rfl) ?_
  refine lv_aload_n hx hb d_Hop_clear_19 rfl (lv_at hl 1 rfl) ?_
  refine k_freeAll X hK hP hD hS hl.1 hj4 (by rw [va_up_self]; have := pw_ge hc; omega) (Nat.le_of_ble_eq_true rfl) ⟨Nat.le_of_ble_eq_true rfl, Nat.le_of_ble_eq_true rfl⟩ ⟨Nat.le_of_ble_eq_true rfl, Nat.le_of_ble_eq_true rfl⟩ d_Hop_clear_20 (fun H locs hP hD hS => ?_)
  rw [va_up_self] at hP
  refine lv_iload_n hx hb d_Hop_clear_23 rfl (lv_at hl 0 rfl) ?_
  refine W.widen (k := 1) (n := 6) (Nat.le_of_ble_eq_true rfl) (Nat.le_of_ble_eq_true rfl) ?_
  exact vx_ret (W.iret (v := nI (cnt T (B j) (P j))) hx hb hr (fun t ht hW => ⟨_, rfl, rfl, by rw [ht]; exact hP, hS.F ht⟩) hS.2.2 d_Hop_clear_24)
set_option maxHeartbeats 4000000 in
set_option maxRecDepth 100000 in
/-- about -/
theorem c_Hop_about_0 (l : Launch) (hlt : l.stackTraces = false) (D : va_G) (ca a q : Nat → Nat) (K V : IT) (T : BT) (C : IT) (B P : Nat → Nat) (S : IT) (sa : Nat → Nat) (j : Nat) (hj : j < 3) (hc : pw (P j)) (hbd : B j + P j ≤ 256)  : vx_Met l y_Hop_about w_Hop_about (rmD 7 2 12) (va_Pc [.ref (a 0), .int (nI j), .int 0] (hb_X D hCl (wH ca a q K V T C B P S) (tyH ca) sa)) (hX_Q (.inl (some (.int (nI (P j))))) D hCl (wH ca a q K V T C B P S) (hA (wH ca a q K V T C B P S))) (hX_X (.inl (some (.int (nI (P j))))) D hCl (wH ca a q K V T C B P S) (hA (wH ca a q K V T C B P S))) 2 12 (hA (wH ca a q K V T C B P S)) := by
  refine vx_ofW (cc := b_Hop_about) (maxL := 4) (ret := some .int) (by decide) rfl ?_
  intro p e s m args below meth c0 s₁ B0 hml hnt hv
  obtain ⟨rfl, hP, hK, hD0, hF, hZ⟩ := hv
  have hx := B0.exec
  have hb := B0.bytes
  have hr := B0.returns
  have hts := atoms_spec (ws := w_Hop_about) B0.pre
  have hown : s.vm.findClass R_Hop = some m.cls := findClass_of_methodNamed B0.named
  have hlocks := B0.notSynchronized
  have hwA : ∀ w ∈ wsA, w.before ([.ref (a 0), .int (nI j), .int 0] : List Value).toArray s = true := fun w h => hts w (List.mem_cons_of_mem _ h)
  have X : CallFix p m c0 b_Hop_about 4 s ([.ref (a 0), .int (nI j), .int 0] : List Value).toArray wsA R_Hop := ⟨hx, hb, hml, hown, hwA⟩
  have hD := hA_D hD0
  have hS : va_S (hA (wH ca a q K V T C B P S)) s.heap s.heap [] := va_S.rf
  have hl := lv_entry ([.ref (a 0), .int (nI j), .int 0]) (n := 4) (Nat.le_of_ble_eq_true rfl)
  rw [lg_entry_eq]
  generalize (lg_sl ([.ref (a 0), .int (nI j), .int 0]) ++ List.replicate (4 - (lg_sl ([.ref (a 0), .int (nI j), .int 0])).length) Slot.unset).toArray = ls at hl ⊢
  have hl : lv_has ls 4 [(0, .ref (a 0)), (1, .int (nI j)), (2, .int 0)] := hl
  have hj4 : j < 4 := by omega
  refine lv_aload_n hx hb d_Hop_about_0 rfl (lv_at hl 0 rfl) ?_
  refine lv_iload_n hx hb d_Hop_about_1 rfl (lv_at hl 1 rfl) ?_
  refine k_partOf X hlt hK hP hD hS hF hZ hl.1 hj (Nat.le_of_ble_eq_true rfl) ⟨Nat.le_of_ble_eq_true rfl, Nat.le_of_ble_eq_true rfl⟩ ⟨Nat.le_of_ble_eq_true rfl, Nat.le_of_ble_eq_true rfl⟩ d_Hop_about_2 (fun H locs hP hD hS => ?_)
  refine lv_astore_n (lv' := [(3, .ref (q j)), (0, .ref (a 0)), (1, .int (nI j)), (2, .int 0)]) hx hb d_Hop_about_5 rfl hl (by decide) rfl (fun ls hl => ?_)
  refine lv_iload_n hx hb d_Hop_about_6 rfl (lv_at hl 3 rfl) ?_
  refine lv_tableIn (off := 25) (tgt := 32) hx hb d_Hop_about_7 (by decide) (by decide) (by decide) (by decide) ?_
  refine lv_aload_n hx hb d_Hop_about_32 rfl (lv_at hl 0 rfl) ?_
  refine hg_capacity X hK hP hj4 d_Hop_about_33 ?_
  refine W.widen (k := 2) (n := 12) (Nat.le_of_ble_eq_true rfl) (Nat.le_of_ble_eq_true rfl) ?_
  exact vx_ret (W.iret (v := nI (P j)) hx hb hr (fun t ht hW => ⟨_, rfl, rfl, by rw [ht]; exact hP, hS.F ht⟩) hS.2.2 d_Hop_about_36)
set_option maxHeartbeats 4000000 in
set_option maxRecDepth 100000 in
/-- about -/
theorem c_Hop_about_1 (l : Launch) (hlt : l.stackTraces = false) (D : va_G) (ca a q : Nat → Nat) (K V : IT) (T : BT) (C : IT) (B P : Nat → Nat) (S : IT) (sa : Nat → Nat) (j : Nat) (hj : j < 3) (hc : pw (P j)) (hbd : B j + P j ≤ 256)  : vx_Met l y_Hop_about w_Hop_about (rmD 7 2 12) (va_Pc [.ref (a 0), .int (nI j), .int 1] (hb_X D hCl (wH ca a q K V T C B P S) (tyH ca) sa)) (hX_Q (.inl (some (.int (nI (B j))))) D hCl (wH ca a q K V T C B P S) (hA (wH ca a q K V T C B P S))) (hX_X (.inl (some (.int (nI (B j))))) D hCl (wH ca a q K V T C B P S) (hA (wH ca a q K V T C B P S))) 2 12 (hA (wH ca a q K V T C B P S)) := by
  refine vx_ofW (cc := b_Hop_about) (maxL := 4) (ret := some .int) (by decide) rfl ?_
  intro p e s m args below meth c0 s₁ B0 hml hnt hv
  obtain ⟨rfl, hP, hK, hD0, hF, hZ⟩ := hv
  have hx := B0.exec
  have hb := B0.bytes
  have hr := B0.returns
  have hts := atoms_spec (ws := w_Hop_about) B0.pre
  have hown : s.vm.findClass R_Hop = some m.cls := findClass_of_methodNamed B0.named
  have hlocks := B0.notSynchronized
  have hwA : ∀ w ∈ wsA, w.before ([.ref (a 0), .int (nI j), .int 1] : List Value).toArray s = true := fun w h => hts w (List.mem_cons_of_mem _ h)
  have X : CallFix p m c0 b_Hop_about 4 s ([.ref (a 0), .int (nI j), .int 1] : List Value).toArray wsA R_Hop := ⟨hx, hb, hml, hown, hwA⟩
  have hD := hA_D hD0
  have hS : va_S (hA (wH ca a q K V T C B P S)) s.heap s.heap [] := va_S.rf
  have hl := lv_entry ([.ref (a 0), .int (nI j), .int 1]) (n := 4) (Nat.le_of_ble_eq_true rfl)
  rw [lg_entry_eq]
  generalize (lg_sl ([.ref (a 0), .int (nI j), .int 1]) ++ List.replicate (4 - (lg_sl ([.ref (a 0), .int (nI j), .int 1])).length) Slot.unset).toArray = ls at hl ⊢
  have hl : lv_has ls 4 [(0, .ref (a 0)), (1, .int (nI j)), (2, .int 1)] := hl
  have hj4 : j < 4 := by omega
  refine lv_aload_n hx hb d_Hop_about_0 rfl (lv_at hl 0 rfl) ?_
  refine lv_iload_n hx hb d_Hop_about_1 rfl (lv_at hl 1 rfl) ?_
  refine k_partOf X hlt hK hP hD hS hF hZ hl.1 hj (Nat.le_of_ble_eq_true rfl) ⟨Nat.le_of_ble_eq_true rfl, Nat.le_of_ble_eq_true rfl⟩ ⟨Nat.le_of_ble_eq_true rfl, Nat.le_of_ble_eq_true rfl⟩ d_Hop_about_2 (fun H locs hP hD hS => ?_)
  refine lv_astore_n (lv' := [(3, .ref (q j)), (0, .ref (a 0)), (1, .int (nI j)), (2, .int 1)]) hx hb d_Hop_about_5 rfl hl (by decide) rfl (fun ls hl => ?_)
  refine lv_iload_n hx hb d_Hop_about_6 rfl (lv_at hl 3 rfl) ?_
  refine lv_tableIn (off := 30) (tgt := 37) hx hb d_Hop_about_7 (by decide) (by decide) (by decide) (by decide) ?_
  refine lv_aload_n hx hb d_Hop_about_37 rfl (lv_at hl 0 rfl) ?_
  refine hg_base X hK hP hj4 d_Hop_about_38 ?_
  refine W.widen (k := 2) (n := 12) (Nat.le_of_ble_eq_true rfl) (Nat.le_of_ble_eq_true rfl) ?_
  exact vx_ret (W.iret (v := nI (B j)) hx hb hr (fun t ht hW => ⟨_, rfl, rfl, by rw [ht]; exact hP, hS.F ht⟩) hS.2.2 d_Hop_about_41)
set_option maxHeartbeats 4000000 in
set_option maxRecDepth 100000 in
/-- about -/
theorem c_Hop_about_2 (l : Launch) (hlt : l.stackTraces = false) (D : va_G) (ca a q : Nat → Nat) (K V : IT) (T : BT) (C : IT) (B P : Nat → Nat) (S : IT) (sa : Nat → Nat) (j : Nat) (hj : j < 3) (hc : pw (P j)) (hbd : B j + P j ≤ 256)  : vx_Met l y_Hop_about w_Hop_about (rmD 7 2 12) (va_Pc [.ref (a 0), .int (nI j), .int 2] (hb_X D hCl (wH ca a q K V T C B P S) (tyH ca) sa)) (hX_Q (.inl (some (.int (S j)))) D hCl (wH ca a q K V T C B P S) (hA (wH ca a q K V T C B P S))) (hX_X (.inl (some (.int (S j)))) D hCl (wH ca a q K V T C B P S) (hA (wH ca a q K V T C B P S))) 2 12 (hA (wH ca a q K V T C B P S)) := by
  refine vx_ofW (cc := b_Hop_about) (maxL := 4) (ret := some .int) (by decide) rfl ?_
  intro p e s m args below meth c0 s₁ B0 hml hnt hv
  obtain ⟨rfl, hP, hK, hD0, hF, hZ⟩ := hv
  have hx := B0.exec
  have hb := B0.bytes
  have hr := B0.returns
  have hts := atoms_spec (ws := w_Hop_about) B0.pre
  have hown : s.vm.findClass R_Hop = some m.cls := findClass_of_methodNamed B0.named
  have hlocks := B0.notSynchronized
  have hwA : ∀ w ∈ wsA, w.before ([.ref (a 0), .int (nI j), .int 2] : List Value).toArray s = true := fun w h => hts w (List.mem_cons_of_mem _ h)
  have X : CallFix p m c0 b_Hop_about 4 s ([.ref (a 0), .int (nI j), .int 2] : List Value).toArray wsA R_Hop := ⟨hx, hb, hml, hown, hwA⟩
  have hD := hA_D hD0
  have hS : va_S (hA (wH ca a q K V T C B P S)) s.heap s.heap [] := va_S.rf
  have hl := lv_entry ([.ref (a 0), .int (nI j), .int 2]) (n := 4) (Nat.le_of_ble_eq_true rfl)
  rw [lg_entry_eq]
  generalize (lg_sl ([.ref (a 0), .int (nI j), .int 2]) ++ List.replicate (4 - (lg_sl ([.ref (a 0), .int (nI j), .int 2])).length) Slot.unset).toArray = ls at hl ⊢
  have hl : lv_has ls 4 [(0, .ref (a 0)), (1, .int (nI j)), (2, .int 2)] := hl
  have hj4 : j < 4 := by omega
  refine lv_aload_n hx hb d_Hop_about_0 rfl (lv_at hl 0 rfl) ?_
  refine lv_iload_n hx hb d_Hop_about_1 rfl (lv_at hl 1 rfl) ?_
  refine k_partOf X hlt hK hP hD hS hF hZ hl.1 hj (Nat.le_of_ble_eq_true rfl) ⟨Nat.le_of_ble_eq_true rfl, Nat.le_of_ble_eq_true rfl⟩ ⟨Nat.le_of_ble_eq_true rfl, Nat.le_of_ble_eq_true rfl⟩ d_Hop_about_2 (fun H locs hP hD hS => ?_)
  refine lv_astore_n (lv' := [(3, .ref (q j)), (0, .ref (a 0)), (1, .int (nI j)), (2, .int 2)]) hx hb d_Hop_about_5 rfl hl (by decide) rfl (fun ls hl => ?_)
  refine lv_iload_n hx hb d_Hop_about_6 rfl (lv_at hl 3 rfl) ?_
  refine lv_tableIn (off := 35) (tgt := 42) hx hb d_Hop_about_7 (by decide) (by decide) (by decide) (by decide) ?_
  refine lv_aload_n hx hb d_Hop_about_42 rfl (lv_at hl 0 rfl) ?_
  refine hg_seed X hK hP hj4 d_Hop_about_43 ?_
  refine W.widen (k := 2) (n := 12) (Nat.le_of_ble_eq_true rfl) (Nat.le_of_ble_eq_true rfl) ?_
  exact vx_ret (W.iret (v := S j) hx hb hr (fun t ht hW => ⟨_, rfl, rfl, by rw [ht]; exact hP, hS.F ht⟩) hS.2.2 d_Hop_about_46)
set_option maxHeartbeats 4000000 in
set_option maxRecDepth 100000 in
/-- about -/
theorem c_Hop_about_no (l : Launch) (hlt : l.stackTraces = false) (D : va_G) (ca a q : Nat → Nat) (K V : IT) (T : BT) (C : IT) (B P : Nat → Nat) (S : IT) (sa : Nat → Nat) (j : Nat) (hj : j < 3) (hc : pw (P j)) (hbd : B j + P j ≤ 256) (wh : Int32) (hw : wh.toInt < 0 ∨ 2 < wh.toInt) : vx_Met l y_Hop_about w_Hop_about (rmD 7 2 12) (va_Pc [.ref (a 0), .int (nI j), .int wh] (hb_X D hCl (wH ca a q K V T C B P S) (tyH ca) sa)) (hX_Q (.inr "java/lang/IllegalArgumentException") D hCl (wH ca a q K V T C B P S) (hA (wH ca a q K V T C B P S))) (hX_X (.inr "java/lang/IllegalArgumentException") D hCl (wH ca a q K V T C B P S) (hA (wH ca a q K V T C B P S))) 2 12 (hA (wH ca a q K V T C B P S)) := by
  refine vx_ofW (cc := b_Hop_about) (maxL := 4) (ret := some .int) (by decide) rfl ?_
  intro p e s m args below meth c0 s₁ B0 hml hnt hv
  obtain ⟨rfl, hP, hK, hD0, hF, hZ⟩ := hv
  have hx := B0.exec
  have hb := B0.bytes
  have hr := B0.returns
  have hts := atoms_spec (ws := w_Hop_about) B0.pre
  have hown : s.vm.findClass R_Hop = some m.cls := findClass_of_methodNamed B0.named
  have hlocks := B0.notSynchronized
  have hwA : ∀ w ∈ wsA, w.before ([.ref (a 0), .int (nI j), .int wh] : List Value).toArray s = true := fun w h => hts w (List.mem_cons_of_mem _ h)
  have X : CallFix p m c0 b_Hop_about 4 s ([.ref (a 0), .int (nI j), .int wh] : List Value).toArray wsA R_Hop := ⟨hx, hb, hml, hown, hwA⟩
  have hD := hA_D hD0
  have hS : va_S (hA (wH ca a q K V T C B P S)) s.heap s.heap [] := va_S.rf
  have hl := lv_entry ([.ref (a 0), .int (nI j), .int wh]) (n := 4) (Nat.le_of_ble_eq_true rfl)
  rw [lg_entry_eq]
  generalize (lg_sl ([.ref (a 0), .int (nI j), .int wh]) ++ List.replicate (4 - (lg_sl ([.ref (a 0), .int (nI j), .int wh])).length) Slot.unset).toArray = ls at hl ⊢
  have hl : lv_has ls 4 [(0, .ref (a 0)), (1, .int (nI j)), (2, .int wh)] := hl
  have hj4 : j < 4 := by omega
  refine lv_aload_n hx hb d_Hop_about_0 rfl (lv_at hl 0 rfl) ?_
  refine lv_iload_n hx hb d_Hop_about_1 rfl (lv_at hl 1 rfl) ?_
  refine k_partOf X hlt hK hP hD hS hF hZ hl.1 hj (Nat.le_of_ble_eq_true rfl) ⟨Nat.le_of_ble_eq_true rfl, Nat.le_of_ble_eq_true rfl⟩ ⟨Nat.le_of_ble_eq_true rfl, Nat.le_of_ble_eq_true rfl⟩ d_Hop_about_2 (fun H locs hP hD hS => ?_)
  refine lv_astore_n (lv' := [(3, .ref (q j)), (0, .ref (a 0)), (1, .int (nI j)), (2, .int wh)]) hx hb d_Hop_about_5 rfl hl (by decide) rfl (fun ls hl => ?_)
  refine lv_iload_n hx hb d_Hop_about_6 rfl (lv_at hl 3 rfl) ?_
  refine lv_tableOut (tgt := 47) hx hb d_Hop_about_7 hw (by decide) ?_
  exact hX_throw (k := 3) (text := "no such thing about a map") X hlt hF hZ hP hS hl.1 by7_0 by7_1 by7_2 by7_5 (by decide) m_348 m_50 (by decide +kernel) at_IAE ot_IAE d_Hop_about_47 d_Hop_about_50 d_Hop_about_51 d_Hop_about_53 d_Hop_about_56 hnt ⟨Nat.le_of_ble_eq_true rfl, Nat.le_of_ble_eq_true rfl⟩ (Nat.le_of_ble_eq_true rfl) (Nat.le_of_ble_eq_true rfl) (Nat.le_of_ble_eq_true rfl) hlocks rfl (Nat.le_of_ble_eq_true rfl) (Nat.le_of_ble_eq_true rfl)
set_option maxHeartbeats 4000000 in
set_option maxRecDepth 100000 in
/-- home -/
theorem c_Hop_home (l : Launch) (hlt : l.stackTraces = false) (D : va_G) (ca a q : Nat → Nat) (K V : IT) (T : BT) (C : IT) (B P : Nat → Nat) (S : IT) (sa : Nat → Nat) (j : Nat) (hj : j < 3) (hc : pw (P j)) (hbd : B j + P j ≤ 256) (key : Int32)  : vx_Met l y_Hop_home w_Hop_home (rmD 7 1 6) (va_Pc [.ref (a 0), .int (nI j), .int key] (hb_X D hCl (wH ca a q K V T C B P S) (tyH ca) sa)) (hX_Q (.inl (some (.int (nI (hom key (S j) (P j)))))) D hCl (wH ca a q K V T C B P S) (hA (wH ca a q K V T C B P S))) (hX_X (.inl (some (.int (nI (hom key (S j) (P j)))))) D hCl (wH ca a q K V T C B P S) (hA (wH ca a q K V T C B P S))) 1 6 (hA (wH ca a q K V T C B P S)) := by
  refine vx_ofW (cc := b_Hop_home) (maxL := 3) (ret := some .int) (by decide) rfl ?_
  intro p e s m args below meth c0 s₁ B0 hml hnt hv
  obtain ⟨rfl, hP, hK, hD0, hF, hZ⟩ := hv
  have hx := B0.exec
  have hb := B0.bytes
  have hr := B0.returns
  have hts := atoms_spec (ws := w_Hop_home) B0.pre
  have hown : s.vm.findClass R_Hop = some m.cls := findClass_of_methodNamed B0.named
  have hlocks := B0.notSynchronized
  have hwA : ∀ w ∈ wsA, w.before ([.ref (a 0), .int (nI j), .int key] : List Value).toArray s = true := fun w h => hts w (List.mem_cons_of_mem _ h)
  have X : CallFix p m c0 b_Hop_home 3 s ([.ref (a 0), .int (nI j), .int key] : List Value).toArray wsA R_Hop := ⟨hx, hb, hml, hown, hwA⟩
  have hD := hA_D hD0
  have hS : va_S (hA (wH ca a q K V T C B P S)) s.heap s.heap [] := va_S.rf
  have hl := lv_entry ([.ref (a 0), .int (nI j), .int key]) (n := 3) (Nat.le_of_ble_eq_true rfl)
  rw [lg_entry_eq]
  generalize (lg_sl ([.ref (a 0), .int (nI j), .int key]) ++ List.replicate (3 - (lg_sl ([.ref (a 0), .int (nI j), .int key])).length) Slot.unset).toArray = ls at hl ⊢
  have hl : lv_has ls 3 [(0, .ref (a 0)), (1, .int (nI j)), (2, .int key)] := hl
  have hj4 : j < 4 := by omega
  refine lv_aload_n hx hb d_Hop_home_0 rfl (lv_at hl 0 rfl) ?_
  refine lv_iload_n hx hb d_Hop_home_1 rfl (lv_at hl 1 rfl) ?_
  refine k_partOf X hlt hK hP hD hS hF hZ hl.1 hj (Nat.le_of_ble_eq_true rfl) ⟨Nat.le_of_ble_eq_true rfl, Nat.le_of_ble_eq_true rfl⟩ ⟨Nat.le_of_ble_eq_true rfl, Nat.le_of_ble_eq_true rfl⟩ d_Hop_home_2 (fun H locs hP hD hS => ?_)
  refine lv_iload_n hx hb d_Hop_home_5 rfl (lv_at hl 2 rfl) ?_
  refine k_homeOf X hK hP hl.1 hc hj4 (Nat.le_of_ble_eq_true rfl) ⟨Nat.le_of_ble_eq_true rfl, Nat.le_of_ble_eq_true rfl⟩ ⟨Nat.le_of_ble_eq_true rfl, Nat.le_of_ble_eq_true rfl⟩ d_Hop_home_6 ?_
  refine W.widen (k := 1) (n := 6) (Nat.le_of_ble_eq_true rfl) (Nat.le_of_ble_eq_true rfl) ?_
  exact vx_ret (W.iret (v := nI (hom key (S j) (P j))) hx hb hr (fun t ht hW => ⟨_, rfl, rfl, by rw [ht]; exact hP, hS.F ht⟩) hS.2.2 d_Hop_home_9)
end
section
set_option maxHeartbeats 4000000 in
set_option maxRecDepth 100000 in
/-- around: any number -/
theorem c_Part_aroundZ (l : Launch) (D : va_G) (h b c : Nat) (sd x : Int32) (hc : pw c) : Met l y_Part_around w_Part_around (rmD 0 0 0) (va_Pc [.ref h, .int x] (hb_R D hCl [(h, pt b c sd)] [])) (hq_R (some (.int (nI (x.toBitVec.toNat % c))))) 0 0 hq_no := by
  refine Met.ofW (cc := b_Part_around) (maxL := 2) (ret := some .int) (by decide) rfl ?_
  intro p e s m args below meth c0 s₁ B0 hml hv
  obtain ⟨rfl, hP, hK⟩ := hv
  have hx := B0.exec
  have hb := B0.bytes
  have hr := B0.returns
  have hts := atoms_spec (ws := w_Part_around) B0.pre
  have hown : s.vm.findClass R_Part = some m.cls := findClass_of_methodNamed B0.named
  have hlocks := B0.notSynchronized
  have hwA : ∀ w ∈ wsA, w.before ([.ref h, .int x] : List Value).toArray s = true := fun w h => hts w (List.mem_cons_of_mem _ h)
  have X : CallFix p m c0 b_Part_around 2 s ([.ref h, .int x] : List Value).toArray wsA R_Part := ⟨hx, hb, hml, hown, hwA⟩
  have hl := lv_entry ([.ref h, .int x]) (n := 2) (Nat.le_of_ble_eq_true rfl)
  rw [lg_entry_eq]
  generalize (lg_sl ([.ref h, .int x]) ++ List.replicate (2 - (lg_sl ([.ref h, .int x])).length) Slot.unset).toArray = ls at hl ⊢
  have hl : lv_has ls 2 [(0, .ref h), (1, .int x)] := hl
  refine lv_iload_n hx hb d_Part_around_0 rfl (lv_at hl 1 rfl) ?_
  refine lv_aload_n hx hb d_Part_around_1 rfl (lv_at hl 0 rfl) ?_
  refine va_get (D := D) (ci := 1) (v := .int (nI c)) (C := R_Part) (T := F_Part) (N := 3) hx hb hwA hin_Part hown hK hP 0 rfl rfl 1 (by decide) (hwA (.fieldLink R_Part 13 "HopArena$Part" "capacity" "I") m_68) (fun _ h9 => h9) rfl d_Part_around_2 ?_
  refine lv_iconst (v := 1) hx hb d_Part_around_5 (by decide) ?_
  refine lv_isub hx hb d_Part_around_6 ?_
  refine lv_iand hx hb d_Part_around_7 ?_
  refine lv_tope (y := nI (x.toBitVec.toNat % c)) (pw_and hc x) ?_
  exact W.iret (v := nI (x.toBitVec.toNat % c)) hx hb hr (fun t ht hW => ⟨rfl, ht⟩) hq_nl d_Part_around_8
section HKZ
variable {p : Program} {l : Launch} {e : Env} {R : Room} {s : State} {m : MethodId} {args : Array Value} {below : List Frame} {meth : Method} {c : Code} {H : Heap} {locs : List Loc} {cells slots : Nat} {Q : State → Prop}
variable {cc : ByteArray} {pc nL : Nat} {ls : Array Slot} {rest st0 : List Value} {D : va_G} {A : Nat → Prop} {H0 : Heap} {ca a q : Nat → Nat} {K V : IT} {T : BT} {C : IT} {B P : Nat → Nat} {S : IT}
theorem k_aroundZ (X : CallFix p m c cc nL s args wsA R_Hop) (hK : va_K D hCl (tyH ca) s) (hP : va_P D hCl (wH ca a q K V T C B P S) H) (hsz : ls.size = nL) {j : Nat} {x : Int32} (hc : pw (P j)) (hj : j < 4) (hrm : (rest.map fun v => v.category).sum ≤ 8) (hf : cells ≤ R.cells ∧ slots ≤ R.slots) (hR : 1 ≤ R.frames ∧ 30 ≤ R.locals) (d : decode cc pc = .ok (.invokevirtual 89, 3)) (k : W p l e R s m args below meth c H locs cells slots Q (F0 m (pc + 3) ls (.int (nI (x.toBitVec.toNat % P j)) :: rest))) : W p l e R s m args below meth c H locs cells slots Q (F0 m pc ls (.int x :: .ref (q j) :: rest)) :=
  hr_V (As := [.int x]) (v := some (.int (nI (x.toBitVec.toNat % P j)))) (C := R_Part) X (c_Part_aroundZ l D (q j) (B j) (P j) (S j) x hc) (cwV 1 X.2.2.2.2 (g_Hop_Part_around) rfl rfl rfl (by decide +kernel) ⟨by show 0 + 1 ≤ _; omega, by show 8 + (2 + 11) + 30 * 0 ≤ _; omega⟩) (wH_sub hP hj) (hK.sub [] rfl) (va_recv hK hP rfl (wH_p hj)) rfl hsz rfl hrm hf d k
end HKZ
set_option maxHeartbeats 4000000 in
set_option maxRecDepth 100000 in
/-- distance -/
theorem c_Hop_distance (l : Launch) (hlt : l.stackTraces = false) (D : va_G) (ca a q : Nat → Nat) (K V : IT) (T : BT) (C : IT) (B P : Nat → Nat) (S : IT) (sa : Nat → Nat) (j : Nat) (hj : j < 3) (hc : pw (P j)) (hbd : B j + P j ≤ 256) (key : Int32) (k : Nat) (hk : k < 256) (hfd : fnd T K (B j) (P j) (hom key (S j) (P j)) key 0 8 = some k) : vx_Met l y_Hop_distance w_Hop_distance (rmD 7 2 12) (va_Pc [.ref (a 0), .int (nI j), .int key] (hb_X D hCl (wH ca a q K V T C B P S) (tyH ca) sa)) (hX_Q (.inl (some (.int (nI (((nI k - nI (B j)) - nI (hom key (S j) (P j))).toBitVec.toNat % P j))))) D hCl (wH ca a q K V T C B P S) (hA (wH ca a q K V T C B P S))) (hX_X (.inl (some (.int (nI (((nI k - nI (B j)) - nI (hom key (S j) (P j))).toBitVec.toNat % P j))))) D hCl (wH ca a q K V T C B P S) (hA (wH ca a q K V T C B P S))) 2 12 (hA (wH ca a q K V T C B P S)) := by
  refine vx_ofW (cc := b_Hop_distance) (maxL := 5) (ret := some .int) (by decide) rfl ?_
  intro p e s m args below meth c0 s₁ B0 hml hnt hv
  obtain ⟨rfl, hP, hK, hD0, hF, hZ⟩ := hv
  have hx := B0.exec
  have hb := B0.bytes
  have hr := B0.returns
  have hts := atoms_spec (ws := w_Hop_distance) B0.pre
  have hown : s.vm.findClass R_Hop = some m.cls := findClass_of_methodNamed B0.named
  have hlocks := B0.notSynchronized
  have hwA : ∀ w ∈ wsA, w.before ([.ref (a 0), .int (nI j), .int key] : List Value).toArray s = true := fun w h => hts w (List.mem_cons_of_mem _ h)
  have X : CallFix p m c0 b_Hop_distance 5 s ([.ref (a 0), .int (nI j), .int key] : List Value).toArray wsA R_Hop := ⟨hx, hb, hml, hown, hwA⟩
  have hD := hA_D hD0
  have hS : va_S (hA (wH ca a q K V T C B P S)) s.heap s.heap [] := va_S.rf
  have hl := lv_entry ([.ref (a 0), .int (nI j), .int key]) (n := 5) (Nat.le_of_ble_eq_true rfl)
  rw [lg_entry_eq]
  generalize (lg_sl ([.ref (a 0), .int (nI j), .int key]) ++ List.replicate (5 - (lg_sl ([.ref (a 0), .int (nI j), .int key])).length) Slot.unset).toArray = ls at hl ⊢
  have hl : lv_has ls 5 [(0, .ref (a 0)), (1, .int (nI j)), (2, .int key)] := hl
  have hj4 : j < 4 := by omega
  have hP8 := pw_le hc
  refine lv_aload_n hx hb d_Hop_distance_0 rfl (lv_at hl 0 rfl) ?_
  refine lv_iload_n hx hb d_Hop_distance_1 rfl (lv_at hl 1 rfl) ?_
  refine k_partOf X hlt hK hP hD hS hF hZ hl.1 hj (Nat.le_of_ble_eq_true rfl) ⟨Nat.le_of_ble_eq_true rfl, Nat.le_of_ble_eq_true rfl⟩ ⟨Nat.le_of_ble_eq_true rfl, Nat.le_of_ble_eq_true rfl⟩ d_Hop_distance_2 (fun H locs hP hD hS => ?_)
  refine lv_astore_n (lv' := [(3, .ref (q j)), (0, .ref (a 0)), (1, .int (nI j)), (2, .int key)]) hx hb d_Hop_distance_5 rfl hl (by decide) rfl (fun ls hl => ?_)
  refine lv_aload_n hx hb d_Hop_distance_6 rfl (lv_at hl 1 rfl) ?_
  refine lv_aload_n hx hb d_Hop_distance_7 rfl (lv_at hl 0 rfl) ?_
  refine lv_iload_n hx hb d_Hop_distance_8 rfl (lv_at hl 3 rfl) ?_
  refine k_slotHolding X hlt hK hP hD hS hF hZ hl.1 hj4 hc hbd hk hfd (Nat.le_of_ble_eq_true rfl) ⟨Nat.le_of_ble_eq_true rfl, Nat.le_of_ble_eq_true rfl⟩ ⟨Nat.le_of_ble_eq_true rfl, Nat.le_of_ble_eq_true rfl⟩ d_Hop_distance_9 (fun H locs hP hD hS => ?_)
  refine lv_aload_n hx hb d_Hop_distance_12 rfl (lv_at hl 0 rfl) ?_
  refine hg_base X hK hP hj4 d_Hop_distance_13 ?_
  refine lv_isub hx hb d_Hop_distance_16 ?_
  refine lv_istore (lv' := [(4, .int ((nI k) - (nI (B j)))), (3, .ref (q j)), (0, .ref (a 0)), (1, .int (nI j)), (2, .int key)]) hx hb d_Hop_distance_17 hl (by decide) rfl (fun ls hl => ?_)
  refine lv_aload_n hx hb d_Hop_distance_19 rfl (lv_at hl 1 rfl) ?_
  refine lv_iload hx hb d_Hop_distance_20 (lv_at hl 0 rfl) ?_
  refine lv_aload_n hx hb d_Hop_distance_22 rfl (lv_at hl 1 rfl) ?_
  refine lv_iload_n hx hb d_Hop_distance_23 rfl (lv_at hl 4 rfl) ?_
  refine k_homeOf X hK hP hl.1 hc hj4 (Nat.le_of_ble_eq_true rfl) ⟨Nat.le_of_ble_eq_true rfl, Nat.le_of_ble_eq_true rfl⟩ ⟨Nat.le_of_ble_eq_true rfl, Nat.le_of_ble_eq_true rfl⟩ d_Hop_distance_24 ?_
  refine lv_isub hx hb d_Hop_distance_27 ?_
  refine k_aroundZ X hK hP hl.1 hc hj4 (Nat.le_of_ble_eq_true rfl) ⟨Nat.le_of_ble_eq_true rfl, Nat.le_of_ble_eq_true rfl⟩ ⟨Nat.le_of_ble_eq_true rfl, Nat.le_of_ble_eq_true rfl⟩ d_Hop_distance_28 ?_
  refine W.widen (k := 2) (n := 12) (Nat.le_of_ble_eq_true rfl) (Nat.le_of_ble_eq_true rfl) ?_
  exact vx_ret (W.iret (v := nI (((nI k - nI (B j)) - nI (hom key (S j) (P j))).toBitVec.toNat % P j)) hx hb hr (fun t ht hW => ⟨_, rfl, rfl, by rw [ht]; exact hP, hS.F ht⟩) hS.2.2 d_Hop_distance_31)
set_option maxHeartbeats 4000000 in
set_option maxRecDepth 100000 in
/-- distance -/
theorem c_Hop_distance_no (l : Launch) (hlt : l.stackTraces = false) (D : va_G) (ca a q : Nat → Nat) (K V : IT) (T : BT) (C : IT) (B P : Nat → Nat) (S : IT) (sa : Nat → Nat) (j : Nat) (hj : j < 3) (hc : pw (P j)) (hbd : B j + P j ≤ 256) (key : Int32) (hfd : fnd T K (B j) (P j) (hom key (S j) (P j)) key 0 8 = none) : vx_Met l y_Hop_distance w_Hop_distance (rmD 7 2 12) (va_Pc [.ref (a 0), .int (nI j), .int key] (hb_X D hCl (wH ca a q K V T C B P S) (tyH ca) sa)) (hX_Q (.inr "java/util/NoSuchElementException") D hCl (wH ca a q K V T C B P S) (hA (wH ca a q K V T C B P S))) (hX_X (.inr "java/util/NoSuchElementException") D hCl (wH ca a q K V T C B P S) (hA (wH ca a q K V T C B P S))) 2 12 (hA (wH ca a q K V T C B P S)) := by
  refine vx_ofW (cc := b_Hop_distance) (maxL := 5) (ret := some .int) (by decide) rfl ?_
  intro p e s m args below meth c0 s₁ B0 hml hnt hv
  obtain ⟨rfl, hP, hK, hD0, hF, hZ⟩ := hv
  have hx := B0.exec
  have hb := B0.bytes
  have hr := B0.returns
  have hts := atoms_spec (ws := w_Hop_distance) B0.pre
  have hown : s.vm.findClass R_Hop = some m.cls := findClass_of_methodNamed B0.named
  have hlocks := B0.notSynchronized
  have hwA : ∀ w ∈ wsA, w.before ([.ref (a 0), .int (nI j), .int key] : List Value).toArray s = true := fun w h => hts w (List.mem_cons_of_mem _ h)
  have X : CallFix p m c0 b_Hop_distance 5 s ([.ref (a 0), .int (nI j), .int key] : List Value).toArray wsA R_Hop := ⟨hx, hb, hml, hown, hwA⟩
  have hD := hA_D hD0
  have hS : va_S (hA (wH ca a q K V T C B P S)) s.heap s.heap [] := va_S.rf
  have hl := lv_entry ([.ref (a 0), .int (nI j), .int key]) (n := 5) (Nat.le_of_ble_eq_true rfl)
  rw [lg_entry_eq]
  generalize (lg_sl ([.ref (a 0), .int (nI j), .int key]) ++ List.replicate (5 - (lg_sl ([.ref (a 0), .int (nI j), .int key])).length) Slot.unset).toArray = ls at hl ⊢
  have hl : lv_has ls 5 [(0, .ref (a 0)), (1, .int (nI j)), (2, .int key)] := hl
  have hj4 : j < 4 := by omega
  have hP8 := pw_le hc
  refine lv_aload_n hx hb d_Hop_distance_0 rfl (lv_at hl 0 rfl) ?_
  refine lv_iload_n hx hb d_Hop_distance_1 rfl (lv_at hl 1 rfl) ?_
  refine k_partOf X hlt hK hP hD hS hF hZ hl.1 hj (Nat.le_of_ble_eq_true rfl) ⟨Nat.le_of_ble_eq_true rfl, Nat.le_of_ble_eq_true rfl⟩ ⟨Nat.le_of_ble_eq_true rfl, Nat.le_of_ble_eq_true rfl⟩ d_Hop_distance_2 (fun H locs hP hD hS => ?_)
  refine lv_astore_n (lv' := [(3, .ref (q j)), (0, .ref (a 0)), (1, .int (nI j)), (2, .int key)]) hx hb d_Hop_distance_5 rfl hl (by decide) rfl (fun ls hl => ?_)
  refine lv_aload_n hx hb d_Hop_distance_6 rfl (lv_at hl 1 rfl) ?_
  refine lv_aload_n hx hb d_Hop_distance_7 rfl (lv_at hl 0 rfl) ?_
  refine lv_iload_n hx hb d_Hop_distance_8 rfl (lv_at hl 3 rfl) ?_
  exact k_slotHolding_bad X hlt hK hP hD hS hF hZ hl.1 hj4 hc hbd hfd (Nat.le_of_ble_eq_true rfl) ⟨Nat.le_of_ble_eq_true rfl, Nat.le_of_ble_eq_true rfl⟩ ⟨Nat.le_of_ble_eq_true rfl, Nat.le_of_ble_eq_true rfl⟩ d_Hop_distance_9 hnt hlocks (Nat.le_of_ble_eq_true rfl) (Nat.le_of_ble_eq_true rfl)
set_option maxHeartbeats 4000000 in
set_option maxRecDepth 100000 in
/-- bits: there is no such place -/
theorem c_Hop_bits_np (l : Launch) (hlt : l.stackTraces = false) (D : va_G) (ca a q : Nat → Nat) (K V : IT) (T : BT) (C : IT) (B P : Nat → Nat) (S : IT) (sa : Nat → Nat) (j : Nat) (hj : j < 3) (hc : pw (P j)) (hbd : B j + P j ≤ 256) (x : Int32) (hx0 : ¬ (0 ≤ x ∧ x < nI (P j))) : vx_Met l y_Hop_bits w_Hop_bits (rmD 7 2 12) (va_Pc [.ref (a 0), .int (nI j), .int x] (hb_X D hCl (wH ca a q K V T C B P S) (tyH ca) sa)) (hX_Q (.inr "java/lang/IllegalArgumentException") D hCl (wH ca a q K V T C B P S) (hA (wH ca a q K V T C B P S))) (hX_X (.inr "java/lang/IllegalArgumentException") D hCl (wH ca a q K V T C B P S) (hA (wH ca a q K V T C B P S))) 2 12 (hA (wH ca a q K V T C B P S)) := by
  refine vx_ofW (cc := b_Hop_bits) (maxL := 6) (ret := some .int) (by decide) rfl ?_
  intro p e s m args below meth c0 s₁ B0 hml hnt hv
  obtain ⟨rfl, hP, hK, hD0, hF, hZ⟩ := hv
  have hx := B0.exec
  have hb := B0.bytes
  have hr := B0.returns
  have hts := atoms_spec (ws := w_Hop_bits) B0.pre
  have hown : s.vm.findClass R_Hop = some m.cls := findClass_of_methodNamed B0.named
  have hlocks := B0.notSynchronized
  have hwA : ∀ w ∈ wsA, w.before ([.ref (a 0), .int (nI j), .int x] : List Value).toArray s = true := fun w h => hts w (List.mem_cons_of_mem _ h)
  have X : CallFix p m c0 b_Hop_bits 6 s ([.ref (a 0), .int (nI j), .int x] : List Value).toArray wsA R_Hop := ⟨hx, hb, hml, hown, hwA⟩
  have hD := hA_D hD0
  have hS : va_S (hA (wH ca a q K V T C B P S)) s.heap s.heap [] := va_S.rf
  have hl := lv_entry ([.ref (a 0), .int (nI j), .int x]) (n := 6) (Nat.le_of_ble_eq_true rfl)
  rw [lg_entry_eq]
  generalize (lg_sl ([.ref (a 0), .int (nI j), .int x]) ++ List.replicate (6 - (lg_sl ([.ref (a 0), .int (nI j), .int x])).length) Slot.unset).toArray = ls at hl ⊢
  have hl : lv_has ls 6 [(0, .ref (a 0)), (1, .int (nI j)), (2, .int x)] := hl
  have hj4 : j < 4 := by omega
  have hP8 := pw_le hc
  refine lv_aload_n hx hb d_Hop_bits_0 rfl (lv_at hl 0 rfl) ?_
  refine lv_iload_n hx hb d_Hop_bits_1 rfl (lv_at hl 1 rfl) ?_
  refine k_partOf X hlt hK hP hD hS hF hZ hl.1 hj (Nat.le_of_ble_eq_true rfl) ⟨Nat.le_of_ble_eq_true rfl, Nat.le_of_ble_eq_true rfl⟩ ⟨Nat.le_of_ble_eq_true rfl, Nat.le_of_ble_eq_true rfl⟩ d_Hop_bits_2 (fun H locs hP hD hS => ?_)
  refine lv_astore_n (lv' := [(3, .ref (q j)), (0, .ref (a 0)), (1, .int (nI j)), (2, .int x)]) hx hb d_Hop_bits_5 rfl hl (by decide) rfl (fun ls hl => ?_)
  refine lv_aload_n hx hb d_Hop_bits_6 rfl (lv_at hl 0 rfl) ?_
  refine lv_iload_n hx hb d_Hop_bits_7 rfl (lv_at hl 3 rfl) ?_
  exact k_requirePlace_bad X hlt hK hP hD hS hF hZ hl.1 hj4 (by omega) hx0 (Nat.le_of_ble_eq_true rfl) ⟨Nat.le_of_ble_eq_true rfl, Nat.le_of_ble_eq_true rfl⟩ ⟨Nat.le_of_ble_eq_true rfl, Nat.le_of_ble_eq_true rfl⟩ d_Hop_bits_8 hnt hlocks (Nat.le_of_ble_eq_true rfl) (Nat.le_of_ble_eq_true rfl)
set_option maxHeartbeats 4000000 in
set_option maxRecDepth 100000 in
/-- next: there is no such place -/
theorem c_Hop_next_np (l : Launch) (hlt : l.stackTraces = false) (D : va_G) (ca a q : Nat → Nat) (K V : IT) (T : BT) (C : IT) (B P : Nat → Nat) (S : IT) (sa : Nat → Nat) (j : Nat) (hj : j < 3) (hc : pw (P j)) (hbd : B j + P j ≤ 256) (x : Int32) (hx0 : ¬ (0 ≤ x ∧ x < nI (P j))) : vx_Met l y_Hop_next w_Hop_next (rmD 7 2 12) (va_Pc [.ref (a 0), .int (nI j), .int x] (hb_X D hCl (wH ca a q K V T C B P S) (tyH ca) sa)) (hX_Q (.inr "java/lang/IllegalArgumentException") D hCl (wH ca a q K V T C B P S) (hA (wH ca a q K V T C B P S))) (hX_X (.inr "java/lang/IllegalArgumentException") D hCl (wH ca a q K V T C B P S) (hA (wH ca a q K V T C B P S))) 2 12 (hA (wH ca a q K V T C B P S)) := by
  refine vx_ofW (cc := b_Hop_next) (maxL := 5) (ret := some .int) (by decide) rfl ?_
  intro p e s m args below meth c0 s₁ B0 hml hnt hv
  obtain ⟨rfl, hP, hK, hD0, hF, hZ⟩ := hv
  have hx := B0.exec
  have hb := B0.bytes
  have hr := B0.returns
  have hts := atoms_spec (ws := w_Hop_next) B0.pre
  have hown : s.vm.findClass R_Hop = some m.cls := findClass_of_methodNamed B0.named
  have hlocks := B0.notSynchronized
  have hwA : ∀ w ∈ wsA, w.before ([.ref (a 0), .int (nI j), .int x] : List Value).toArray s = true := fun w h => hts w (List.mem_cons_of_mem _ h)
  have X : CallFix p m c0 b_Hop_next 5 s ([.ref (a 0), .int (nI j), .int x] : List Value).toArray wsA R_Hop := ⟨hx, hb, hml, hown, hwA⟩
  have hD := hA_D hD0
  have hS : va_S (hA (wH ca a q K V T C B P S)) s.heap s.heap [] := va_S.rf
  have hl := lv_entry ([.ref (a 0), .int (nI j), .int x]) (n := 5) (Nat.le_of_ble_eq_true rfl)
  rw [lg_entry_eq]
  generalize (lg_sl ([.ref (a 0), .int (nI j), .int x]) ++ List.replicate (5 - (lg_sl ([.ref (a 0), .int (nI j), .int x])).length) Slot.unset).toArray = ls at hl ⊢
  have hl : lv_has ls 5 [(0, .ref (a 0)), (1, .int (nI j)), (2, .int x)] := hl
  have hj4 : j < 4 := by omega
  have hP8 := pw_le hc
  refine lv_aload_n hx hb d_Hop_next_0 rfl (lv_at hl 0 rfl) ?_
  refine lv_iload_n hx hb d_Hop_next_1 rfl (lv_at hl 1 rfl) ?_
  refine k_partOf X hlt hK hP hD hS hF hZ hl.1 hj (Nat.le_of_ble_eq_true rfl) ⟨Nat.le_of_ble_eq_true rfl, Nat.le_of_ble_eq_true rfl⟩ ⟨Nat.le_of_ble_eq_true rfl, Nat.le_of_ble_eq_true rfl⟩ d_Hop_next_2 (fun H locs hP hD hS => ?_)
  refine lv_astore_n (lv' := [(3, .ref (q j)), (0, .ref (a 0)), (1, .int (nI j)), (2, .int x)]) hx hb d_Hop_next_5 rfl hl (by decide) rfl (fun ls hl => ?_)
  refine lv_aload_n hx hb d_Hop_next_6 rfl (lv_at hl 0 rfl) ?_
  refine lv_iload_n hx hb d_Hop_next_7 rfl (lv_at hl 3 rfl) ?_
  exact k_requirePlace_bad X hlt hK hP hD hS hF hZ hl.1 hj4 (by omega) hx0 (Nat.le_of_ble_eq_true rfl) ⟨Nat.le_of_ble_eq_true rfl, Nat.le_of_ble_eq_true rfl⟩ ⟨Nat.le_of_ble_eq_true rfl, Nat.le_of_ble_eq_true rfl⟩ d_Hop_next_8 hnt hlocks (Nat.le_of_ble_eq_true rfl) (Nat.le_of_ble_eq_true rfl)
set_option maxHeartbeats 4000000 in
set_option maxRecDepth 100000 in
/-- key: there is no such place -/
theorem c_Hop_key_np (l : Launch) (hlt : l.stackTraces = false) (D : va_G) (ca a q : Nat → Nat) (K V : IT) (T : BT) (C : IT) (B P : Nat → Nat) (S : IT) (sa : Nat → Nat) (j : Nat) (hj : j < 3) (hc : pw (P j)) (hbd : B j + P j ≤ 256) (x : Int32) (hx0 : ¬ (0 ≤ x ∧ x < nI (P j))) : vx_Met l y_Hop_key w_Hop_key (rmD 7 3 18) (va_Pc [.ref (a 0), .int (nI j), .int x] (hb_X D hCl (wH ca a q K V T C B P S) (tyH ca) sa)) (hX_Q (.inr "java/lang/IllegalArgumentException") D hCl (wH ca a q K V T C B P S) (hA (wH ca a q K V T C B P S))) (hX_X (.inr "java/lang/IllegalArgumentException") D hCl (wH ca a q K V T C B P S) (hA (wH ca a q K V T C B P S))) 3 18 (hA (wH ca a q K V T C B P S)) := by
  refine vx_ofW (cc := b_Hop_key) (maxL := 5) (ret := some .int) (by decide) rfl ?_
  intro p e s m args below meth c0 s₁ B0 hml hnt hv
  obtain ⟨rfl, hP, hK, hD0, hF, hZ⟩ := hv
  have hx := B0.exec
  have hb := B0.bytes
  have hr := B0.returns
  have hts := atoms_spec (ws := w_Hop_key) B0.pre
  have hown : s.vm.findClass R_Hop = some m.cls := findClass_of_methodNamed B0.named
  have hlocks := B0.notSynchronized
  have hwA : ∀ w ∈ wsA, w.before ([.ref (a 0), .int (nI j), .int x] : List Value).toArray s = true := fun w h => hts w (List.mem_cons_of_mem _ h)
  have X : CallFix p m c0 b_Hop_key 5 s ([.ref (a 0), .int (nI j), .int x] : List Value).toArray wsA R_Hop := ⟨hx, hb, hml, hown, hwA⟩
  have hD := hA_D hD0
  have hS : va_S (hA (wH ca a q K V T C B P S)) s.heap s.heap [] := va_S.rf
  have hl := lv_entry ([.ref (a 0), .int (nI j), .int x]) (n := 5) (Nat.le_of_ble_eq_true rfl)
  rw [lg_entry_eq]
  generalize (lg_sl ([.ref (a 0), .int (nI j), .int x]) ++ List.replicate (5 - (lg_sl ([.ref (a 0), .int (nI j), .int x])).length) Slot.unset).toArray = ls at hl ⊢
  have hl : lv_has ls 5 [(0, .ref (a 0)), (1, .int (nI j)), (2, .int x)] := hl
  have hj4 : j < 4 := by omega
  have hP8 := pw_le hc
  refine lv_aload_n hx hb d_Hop_key_0 rfl (lv_at hl 0 rfl) ?_
  refine lv_iload_n hx hb d_Hop_key_1 rfl (lv_at hl 1 rfl) ?_
  refine k_partOf X hlt hK hP hD hS hF hZ hl.1 hj (Nat.le_of_ble_eq_true rfl) ⟨Nat.le_of_ble_eq_true rfl, Nat.le_of_ble_eq_true rfl⟩ ⟨Nat.le_of_ble_eq_true rfl, Nat.le_of_ble_eq_true rfl⟩ d_Hop_key_2 (fun H locs hP hD hS => ?_)
  refine lv_astore_n (lv' := [(3, .ref (q j)), (0, .ref (a 0)), (1, .int (nI j)), (2, .int x)]) hx hb d_Hop_key_5 rfl hl (by decide) rfl (fun ls hl => ?_)
  refine lv_aload_n hx hb d_Hop_key_6 rfl (lv_at hl 0 rfl) ?_
  refine lv_iload_n hx hb d_Hop_key_7 rfl (lv_at hl 3 rfl) ?_
  exact k_requirePlace_bad X hlt hK hP hD hS hF hZ hl.1 hj4 (by omega) hx0 (Nat.le_of_ble_eq_true rfl) ⟨Nat.le_of_ble_eq_true rfl, Nat.le_of_ble_eq_true rfl⟩ ⟨Nat.le_of_ble_eq_true rfl, Nat.le_of_ble_eq_true rfl⟩ d_Hop_key_8 hnt hlocks (Nat.le_of_ble_eq_true rfl) (Nat.le_of_ble_eq_true rfl)
set_option maxHeartbeats 4000000 in
set_option maxRecDepth 100000 in
/-- bits -/
theorem c_Hop_bits (l : Launch) (hlt : l.stackTraces = false) (D : va_G) (ca a q : Nat → Nat) (K V : IT) (T : BT) (C : IT) (B P : Nat → Nat) (S : IT) (sa : Nat → Nat) (j : Nat) (hj : j < 3) (hc : pw (P j)) (hbd : B j + P j ≤ 256) (h : Nat) (hh : h < P j)  : vx_Met l y_Hop_bits w_Hop_bits (rmD 7 2 12) (va_Pc [.ref (a 0), .int (nI j), .int (nI h)] (hb_X D hCl (wH ca a q K V T C B P S) (tyH ca) sa)) (hX_Q (.inl (some (.int (rowB (fun i => bit T K (B j) (P j) (S j) h i) 8)))) D hCl (wH ca a q K V T C B P S) (hA (wH ca a q K V T C B P S))) (hX_X (.inl (some (.int (rowB (fun i => bit T K (B j) (P j) (S j) h i) 8)))) D hCl (wH ca a q K V T C B P S) (hA (wH ca a q K V T C B P S))) 2 12 (hA (wH ca a q K V T C B P S)) := by
  refine vx_ofW (cc := b_Hop_bits) (maxL := 6) (ret := some .int) (by decide) rfl ?_
  intro p e s m args below meth c0 s₁ B0 hml hnt hv
  obtain ⟨rfl, hP, hK, hD0, hF, hZ⟩ := hv
  have hx := B0.exec
  have hb := B0.bytes
  have hr := B0.returns
  have hts := atoms_spec (ws := w_Hop_bits) B0.pre
  have hown : s.vm.findClass R_Hop = some m.cls := findClass_of_methodNamed B0.named
  have hlocks := B0.notSynchronized
  have hwA : ∀ w ∈ wsA, w.before ([.ref (a 0), .int (nI j), .int (nI h)] : List Value).toArray s = true := fun w h => hts w (List.mem_cons_of_mem _ h)
  have X : CallFix p m c0 b_Hop_bits 6 s ([.ref (a 0), .int (nI j), .int (nI h)] : List Value).toArray wsA R_Hop := ⟨hx, hb, hml, hown, hwA⟩
  have hD := hA_D hD0
  have hS : va_S (hA (wH ca a q K V T C B P S)) s.heap s.heap [] := va_S.rf
  have hl := lv_entry ([.ref (a 0), .int (nI j), .int (nI h)]) (n := 6) (Nat.le_of_ble_eq_true rfl)
  rw [lg_entry_eq]
  generalize (lg_sl ([.ref (a 0), .int (nI j), .int (nI h)]) ++ List.replicate (6 - (lg_sl ([.ref (a 0), .int (nI j), .int (nI h)])).length) Slot.unset).toArray = ls at hl ⊢
  have hl : lv_has ls 6 [(0, .ref (a 0)), (1, .int (nI j)), (2, .int (nI h))] := hl
  have hj4 : j < 4 := by omega
  have hP8 := pw_le hc
  have hx0 : 0 ≤ nI h ∧ nI h < nI (P j) := ⟨nI_pos' (by omega), nI_lt hh (by omega)⟩
  have loop : ∀ (n i : Nat) (ls : Array Slot) (H : Heap) (locs : List Loc), i + n = 8 → va_P D hCl (wH ca a q K V T C B P S) H → va_D (hA (wH ca a q K V T C B P S)) (wH ca a q K V T C B P S) → va_S (hA (wH ca a q K V T C B P S)) s.heap H locs → lv_has ls 6 [(5, .int (nI i)), (4, .int (rowB (fun i => bit T K (B j) (P j) (S j) h i) i)), (3, .ref (q j)), (0, .ref (a 0)), (1, .int (nI j)), (2, .int (nI h))] → W p l e (headSpec w_Hop_bits (rmD 7 2 12)).room s m ([.ref (a 0), .int (nI j), .int (nI h)] : List Value).toArray below meth c0 H locs 2 12 (vx_MQ below (hX_Q (.inl (some (.int (rowB (fun i => bit T K (B j) (P j) (S j) h i) 8)))) D hCl (wH ca a q K V T C B P S) (hA (wH ca a q K V T C B P S))) (hX_X (.inl (some (.int (rowB (fun i => bit T K (B j) (P j) (S j) h i) 8)))) D hCl (wH ca a q K V T C B P S) (hA (wH ca a q K V T C B P S))) ([.ref (a 0), .int (nI j), .int (nI h)] : List Value).toArray s 2 12 (hA (wH ca a q K V T C B P S))) (F0 m 17 ls []) := by
    intro n
    induction n with
    | zero =>
      intro i ls H locs hi hP hD hS hl
      have hi8 : i = 8 := by omega
      subst hi8
      refine lv_iload hx hb d_Hop_bits_17 (lv_at hl 0 rfl) ?_
      refine lv_bipush (v := 8) hx hb d_Hop_bits_19 (by decide) ?_
      refine lvT_icmp_ge (tgt := 50) hx hb d_Hop_bits_21 (by decide) (by decide) ?_
      refine lv_iload hx hb d_Hop_bits_50 (lv_at hl 1 rfl) ?_
      refine W.widen (k := 2) (n := 12) (Nat.le_of_ble_eq_true rfl) (Nat.le_of_ble_eq_true rfl) ?_
      exact vx_ret (W.iret (v := rowB (fun i => bit T K (B j) (P j) (S j) h i) 8) hx hb hr (fun t ht hW => ⟨_, rfl, rfl, by rw [ht]; exact hP, hS.F ht⟩) hS.2.2 d_Hop_bits_52)
    | succ n ih =>
      intro i ls H locs hi hP hD hS hl
      refine lv_iload hx hb d_Hop_bits_17 (lv_at hl 0 rfl) ?_
      refine lv_bipush (v := 8) hx hb d_Hop_bits_19 (by decide) ?_
      refine lvF_icmp_ge (tgt := 50) hx hb d_Hop_bits_21 (by decide) (nI_ge (a := i) (b := 8) (by omega) (by omega)) ?_
      refine lv_aload_n hx hb d_Hop_bits_24 rfl (lv_at hl 3 rfl) ?_
      refine lv_aload_n hx hb d_Hop_bits_25 rfl (lv_at hl 2 rfl) ?_
      refine lv_iload_n hx hb d_Hop_bits_26 rfl (lv_at hl 5 rfl) ?_
      refine lv_iload hx hb d_Hop_bits_27 (lv_at hl 0 rfl) ?_
      refine k_isBitSet X hK hP hl.1 (h := h) (i := i) hj4 hc hbd (by omega) (by omega) (Nat.le_of_ble_eq_true rfl) ⟨Nat.le_of_ble_eq_true rfl, Nat.le_of_ble_eq_true rfl⟩ ⟨Nat.le_of_ble_eq_true rfl, Nat.le_of_ble_eq_true rfl⟩ d_Hop_bits_29 ?_
      refine lv_if_eq (tgt := 44) hx hb d_Hop_bits_32 (by decide) (fun h1 => ?_) (fun h1 => ?_)
      · have e1 : rowB (fun i => bit T K (B j) (P j) (S j) h i) (i + 1) = rowB (fun i => bit T K (B j) (P j) (S j) h i) i := if_neg (by show ¬ bit T K (B j) (P j) (S j) h i = true; rw [bI_0.mp h1]; decide)
        refine lv_iinc (k := 0) (v := nI (i + 1)) (lv' := [(5, .int (nI (i + 1))), (4, .int (rowB (fun i => bit T K (B j) (P j) (S j) h i) i)), (3, .ref (q j)), (0, .ref (a 0)), (1, .int (nI j)), (2, .int (nI h))]) hx hb d_Hop_bits_44 hl rfl (inc1 i) (by decide) rfl (fun ls hl => ?_)
        refine lv_goto (tgt := 17) hx hb d_Hop_bits_47 (by decide) ?_
        exact ih (i + 1) ls H locs (by omega) hP hD hS (by rw [e1]; exact hl)
      · have e1 : rowB (fun i => bit T K (B j) (P j) (S j) h i) (i + 1) = rowB (fun i => bit T K (B j) (P j) (S j) h i) i ||| ((1 : Int32) <<< (nI i &&& 31)) := if_pos (bI_n0.mp h1)
        refine lv_iload hx hb d_Hop_bits_35 (lv_at hl 1 rfl) ?_
        refine lv_iconst (v := 1) hx hb d_Hop_bits_37 (by decide) ?_
        refine lv_iload hx hb d_Hop_bits_38 (lv_at hl 0 rfl) ?_
        refine lv_ishl hx hb d_Hop_bits_40 ?_
        refine lv_ior hx hb d_Hop_bits_41 ?_
        refine lv_istore (lv' := [(4, .int ((rowB (fun i => bit T K (B j) (P j) (S j) h i) i) ||| ((1) <<< ((nI i) &&& 31)))), (5, .int (nI i)), (3, .ref (q j)), (0, .ref (a 0)), (1, .int (nI j)), (2, .int (nI h))]) hx hb d_Hop_bits_42 hl (by decide) rfl (fun ls hl => ?_)
        refine lv_iinc (k := 1) (v := nI (i + 1)) (lv' := [(5, .int (nI (i + 1))), (4, .int ((rowB (fun i => bit T K (B j) (P j) (S j) h i) i) ||| ((1) <<< ((nI i) &&& 31)))), (3, .ref (q j)), (0, .ref (a 0)), (1, .int (nI j)), (2, .int (nI h))]) hx hb d_Hop_bits_44 hl rfl (inc1 i) (by decide) rfl (fun ls hl => ?_)
        refine lv_goto (tgt := 17) hx hb d_Hop_bits_47 (by decide) ?_
        exact ih (i + 1) ls H locs (by omega) hP hD hS (by rw [e1]; exact lv_sub hl [0, 1, 2, 3, 4, 5] rfl)
  refine lv_aload_n hx hb d_Hop_bits_0 rfl (lv_at hl 0 rfl) ?_
  refine lv_iload_n hx hb d_Hop_bits_1 rfl (lv_at hl 1 rfl) ?_
  refine k_partOf X hlt hK hP hD hS hF hZ hl.1 hj (Nat.le_of_ble_eq_true rfl) ⟨Nat.le_of_ble_eq_true rfl, Nat.le_of_ble_eq_true rfl⟩ ⟨Nat.le_of_ble_eq_true rfl, Nat.le_of_ble_eq_true rfl⟩ d_Hop_bits_2 (fun H locs hP hD hS => ?_)
  refine lv_astore_n (lv' := [(3, .ref (q j)), (0, .ref (a 0)), (1, .int (nI j)), (2, .int (nI h))]) hx hb d_Hop_bits_5 rfl hl (by decide) rfl (fun ls hl => ?_)
  refine lv_aload_n hx hb d_Hop_bits_6 rfl (lv_at hl 0 rfl) ?_
  refine lv_iload_n hx hb d_Hop_bits_7 rfl (lv_at hl 3 rfl) ?_
  refine k_requirePlace X hlt hK hP hD hS hF hZ hl.1 hj4 (by omega) hx0 (Nat.le_of_ble_eq_true rfl) ⟨Nat.le_of_ble_eq_true rfl, Nat.le_of_ble_eq_true rfl⟩ ⟨Nat.le_of_ble_eq_true rfl, Nat.le_of_ble_eq_true rfl⟩ d_Hop_bits_8 (fun H locs hP hD hS => ?_)
  refine lv_iconst (v := 0) hx hb d_Hop_bits_11 (by decide) ?_
  refine lv_istore (lv' := [(4, .int 0), (3, .ref (q j)), (0, .ref (a 0)), (1, .int (nI j)), (2, .int (nI h))]) hx hb d_Hop_bits_12 hl (by decide) rfl (fun ls hl => ?_)
  refine lv_iconst (v := 0) hx hb d_Hop_bits_14 (by decide) ?_
  refine lv_istore (lv' := [(5, .int 0), (4, .int 0), (3, .ref (q j)), (0, .ref (a 0)), (1, .int (nI j)), (2, .int (nI h))]) hx hb d_Hop_bits_15 hl (by decide) rfl (fun ls hl => ?_)
  exact loop 8 0 ls H locs (by omega) hP hD hS hl
set_option maxHeartbeats 4000000 in
set_option maxRecDepth 100000 in
/-- next -/
theorem c_Hop_next (l : Launch) (hlt : l.stackTraces = false) (D : va_G) (ca a q : Nat → Nat) (K V : IT) (T : BT) (C : IT) (B P : Nat → Nat) (S : IT) (sa : Nat → Nat) (j : Nat) (hj : j < 3) (hc : pw (P j)) (hbd : B j + P j ≤ 256) (h : Nat) (hh : h < P j)  : vx_Met l y_Hop_next w_Hop_next (rmD 7 2 12) (va_Pc [.ref (a 0), .int (nI j), .int (nI h)] (hb_X D hCl (wH ca a q K V T C B P S) (tyH ca) sa)) (hX_Q (.inl (some (.int (oI (nxF T (B j) (P j) h (P j - h)))))) D hCl (wH ca a q K V T C B P S) (hA (wH ca a q K V T C B P S))) (hX_X (.inl (some (.int (oI (nxF T (B j) (P j) h (P j - h)))))) D hCl (wH ca a q K V T C B P S) (hA (wH ca a q K V T C B P S))) 2 12 (hA (wH ca a q K V T C B P S)) := by
  refine vx_ofW (cc := b_Hop_next) (maxL := 5) (ret := some .int) (by decide) rfl ?_
  intro p e s m args below meth c0 s₁ B0 hml hnt hv
  obtain ⟨rfl, hP, hK, hD0, hF, hZ⟩ := hv
  have hx := B0.exec
  have hb := B0.bytes
  have hr := B0.returns
  have hts := atoms_spec (ws := w_Hop_next) B0.pre
  have hown : s.vm.findClass R_Hop = some m.cls := findClass_of_methodNamed B0.named
  have hlocks := B0.notSynchronized
  have hwA : ∀ w ∈ wsA, w.before ([.ref (a 0), .int (nI j), .int (nI h)] : List Value).toArray s = true := fun w h => hts w (List.mem_cons_of_mem _ h)
  have X : CallFix p m c0 b_Hop_next 5 s ([.ref (a 0), .int (nI j), .int (nI h)] : List Value).toArray wsA R_Hop := ⟨hx, hb, hml, hown, hwA⟩
  have hD := hA_D hD0
  have hS : va_S (hA (wH ca a q K V T C B P S)) s.heap s.heap [] := va_S.rf
  have hl := lv_entry ([.ref (a 0), .int (nI j), .int (nI h)]) (n := 5) (Nat.le_of_ble_eq_true rfl)
  rw [lg_entry_eq]
  generalize (lg_sl ([.ref (a 0), .int (nI j), .int (nI h)]) ++ List.replicate (5 - (lg_sl ([.ref (a 0), .int (nI j), .int (nI h)])).length) Slot.unset).toArray = ls at hl ⊢
  have hl : lv_has ls 5 [(0, .ref (a 0)), (1, .int (nI j)), (2, .int (nI h))] := hl
  have hj4 : j < 4 := by omega
  have hP8 := pw_le hc
  have hx0 : 0 ≤ nI h ∧ nI h < nI (P j) := ⟨nI_pos' (by omega), nI_lt hh (by omega)⟩
  have loop : ∀ (n i : Nat) (ls : Array Slot) (H : Heap) (locs : List Loc), i + n = P j → nxF T (B j) (P j) i n = nxF T (B j) (P j) h (P j - h) → va_P D hCl (wH ca a q K V T C B P S) H → va_D (hA (wH ca a q K V T C B P S)) (wH ca a q K V T C B P S) → va_S (hA (wH ca a q K V T C B P S)) s.heap H locs → lv_has ls 5 [(4, .int (nI i)), (3, .ref (q j)), (0, .ref (a 0)), (1, .int (nI j)), (2, .int (nI h))] → W p l e (headSpec w_Hop_next (rmD 7 2 12)).room s m ([.ref (a 0), .int (nI j), .int (nI h)] : List Value).toArray below meth c0 H locs 2 12 (vx_MQ below (hX_Q (.inl (some (.int (oI (nxF T (B j) (P j) h (P j - h)))))) D hCl (wH ca a q K V T C B P S) (hA (wH ca a q K V T C B P S))) (hX_X (.inl (some (.int (oI (nxF T (B j) (P j) h (P j - h)))))) D hCl (wH ca a q K V T C B P S) (hA (wH ca a q K V T C B P S))) ([.ref (a 0), .int (nI j), .int (nI h)] : List Value).toArray s 2 12 (hA (wH ca a q K V T C B P S))) (F0 m 14 ls []) := by
    intro n
    induction n with
    | zero =>
      intro i ls H locs hi hf hP hD hS hl
      refine lv_iload hx hb d_Hop_next_14 (lv_at hl 0 rfl) ?_
      refine lv_aload_n hx hb d_Hop_next_16 rfl (lv_at hl 1 rfl) ?_
      refine hg_capacity X hK hP hj4 d_Hop_next_17 ?_
      refine lvT_icmp_ge (tgt := 46) hx hb d_Hop_next_20 (by decide) (nI_le (a := P j) (b := i) (by omega) (by omega)) ?_
      refine lv_iconst (v := -1) hx hb d_Hop_next_46 (by decide) ?_
      rw [← hf]
      refine W.widen (k := 2) (n := 12) (Nat.le_of_ble_eq_true rfl) (Nat.le_of_ble_eq_true rfl) ?_
      exact vx_ret (W.iret (v := -1) hx hb hr (fun t ht hW => ⟨_, rfl, rfl, by rw [ht]; exact hP, hS.F ht⟩) hS.2.2 d_Hop_next_47)
    | succ n ih =>
      intro i ls H locs hi hf hP hD hS hl
      refine lv_iload hx hb d_Hop_next_14 (lv_at hl 0 rfl) ?_
      refine lv_aload_n hx hb d_Hop_next_16 rfl (lv_at hl 1 rfl) ?_
      refine hg_capacity X hK hP hj4 d_Hop_next_17 ?_
      refine lvF_icmp_ge (tgt := 46) hx hb d_Hop_next_20 (by decide) (nI_ge (a := i) (b := P j) (by omega) (by omega)) ?_
      refine lv_aload_n hx hb d_Hop_next_23 rfl (lv_at hl 2 rfl) ?_
      refine hg_taken X hK hP d_Hop_next_24 ?_
      refine lv_aload_n hx hb d_Hop_next_27 rfl (lv_at hl 1 rfl) ?_
      refine lv_iload hx hb d_Hop_next_28 (lv_at hl 0 rfl) ?_
      refine k_slotOf X hK hP hl.1 (x := i) hc (by omega) hj4 (Nat.le_of_ble_eq_true rfl) ⟨Nat.le_of_ble_eq_true rfl, Nat.le_of_ble_eq_true rfl⟩ ⟨Nat.le_of_ble_eq_true rfl, Nat.le_of_ble_eq_true rfl⟩ d_Hop_next_30 ?_
      refine hl_T X hK hP (i := B j + (i) % P j) (sl_lt hc hbd) d_Hop_next_33 ?_
      refine lv_if_eq (tgt := 40) hx hb d_Hop_next_34 (by decide) (fun h1 => ?_) (fun h1 => ?_)
      · refine lv_iinc (k := 0) (v := nI (i + 1)) (lv' := [(4, .int (nI (i + 1))), (3, .ref (q j)), (0, .ref (a 0)), (1, .int (nI j)), (2, .int (nI h))]) hx hb d_Hop_next_40 hl rfl (inc1 i) (by decide) rfl (fun ls hl => ?_)
        refine lv_goto (tgt := 14) hx hb d_Hop_next_43 (by decide) ?_
        exact ih (i + 1) ls H locs (by omega) (by rw [← hf]; exact (if_neg (by rw [bI_0.mp h1]; decide)).symm) hP hD hS hl
      · have e1 : nxF T (B j) (P j) h (P j - h) = some i := by rw [← hf]; exact if_pos (bI_n0.mp h1)
        refine lv_iload hx hb d_Hop_next_37 (lv_at hl 0 rfl) ?_
        rw [e1]
        refine W.widen (k := 2) (n := 12) (Nat.le_of_ble_eq_true rfl) (Nat.le_of_ble_eq_true rfl) ?_
        exact vx_ret (W.iret (v := nI i) hx hb hr (fun t ht hW => ⟨_, rfl, rfl, by rw [ht]; exact hP, hS.F ht⟩) hS.2.2 d_Hop_next_39)
  refine lv_aload_n hx hb d_Hop_next_0 rfl (lv_at hl 0 rfl) ?_
  refine lv_iload_n hx hb d_Hop_next_1 rfl (lv_at hl 1 rfl) ?_
  refine k_partOf X hlt hK hP hD hS hF hZ hl.1 hj (Nat.le_of_ble_eq_true rfl) ⟨Nat.le_of_ble_eq_true rfl, Nat.le_of_ble_eq_true rfl⟩ ⟨Nat.le_of_ble_eq_true rfl, Nat.le_of_ble_eq_true rfl⟩ d_Hop_next_2 (fun H locs hP hD hS => ?_)
  refine lv_astore_n (lv' := [(3, .ref (q j)), (0, .ref (a 0)), (1, .int (nI j)), (2, .int (nI h))]) hx hb d_Hop_next_5 rfl hl (by decide) rfl (fun ls hl => ?_)
  refine lv_aload_n hx hb d_Hop_next_6 rfl (lv_at hl 0 rfl) ?_
  refine lv_iload_n hx hb d_Hop_next_7 rfl (lv_at hl 3 rfl) ?_
  refine k_requirePlace X hlt hK hP hD hS hF hZ hl.1 hj4 (by omega) hx0 (Nat.le_of_ble_eq_true rfl) ⟨Nat.le_of_ble_eq_true rfl, Nat.le_of_ble_eq_true rfl⟩ ⟨Nat.le_of_ble_eq_true rfl, Nat.le_of_ble_eq_true rfl⟩ d_Hop_next_8 (fun H locs hP hD hS => ?_)
  refine lv_iload_n hx hb d_Hop_next_11 rfl (lv_at hl 3 rfl) ?_
  refine lv_istore (lv' := [(4, .int (nI h)), (3, .ref (q j)), (0, .ref (a 0)), (1, .int (nI j)), (2, .int (nI h))]) hx hb d_Hop_next_12 hl (by decide) rfl (fun ls hl => ?_)
  exact loop (P j - h) h ls H locs (by omega) rfl hP hD hS hl
set_option maxHeartbeats 4000000 in
set_option maxRecDepth 100000 in
/-- key -/
theorem c_Hop_key (l : Launch) (hlt : l.stackTraces = false) (D : va_G) (ca a q : Nat → Nat) (K V : IT) (T : BT) (C : IT) (B P : Nat → Nat) (S : IT) (sa : Nat → Nat) (j : Nat) (hj : j < 3) (hc : pw (P j)) (hbd : B j + P j ≤ 256) (h : Nat) (hh : h < P j) (hT : T (B j + h % P j) = true) : vx_Met l y_Hop_key w_Hop_key (rmD 7 3 18) (va_Pc [.ref (a 0), .int (nI j), .int (nI h)] (hb_X D hCl (wH ca a q K V T C B P S) (tyH ca) sa)) (hX_Q (.inl (some (.int (K (B j + h % P j))))) D hCl (wH ca a q K V T C B P S) (hA (wH ca a q K V T C B P S))) (hX_X (.inl (some (.int (K (B j + h % P j))))) D hCl (wH ca a q K V T C B P S) (hA (wH ca a q K V T C B P S))) 3 18 (hA (wH ca a q K V T C B P S)) := by
  refine vx_ofW (cc := b_Hop_key) (maxL := 5) (ret := some .int) (by decide) rfl ?_
  intro p e s m args below meth c0 s₁ B0 hml hnt hv
  obtain ⟨rfl, hP, hK, hD0, hF, hZ⟩ := hv
  have hx := B0.exec
  have hb := B0.bytes
  have hr := B0.returns
  have hts := atoms_spec (ws := w_Hop_key) B0.pre
  have hown : s.vm.findClass R_Hop = some m.cls := findClass_of_methodNamed B0.named
  have hlocks := B0.notSynchronized
  have hwA : ∀ w ∈ wsA, w.before ([.ref (a 0), .int (nI j), .int (nI h)] : List Value).toArray s = true := fun w h => hts w (List.mem_cons_of_mem _ h)
  have X : CallFix p m c0 b_Hop_key 5 s ([.ref (a 0), .int (nI j), .int (nI h)] : List Value).toArray wsA R_Hop := ⟨hx, hb, hml, hown, hwA⟩
  have hD := hA_D hD0
  have hS : va_S (hA (wH ca a q K V T C B P S)) s.heap s.heap [] := va_S.rf
  have hl := lv_entry ([.ref (a 0), .int (nI j), .int (nI h)]) (n := 5) (Nat.le_of_ble_eq_true rfl)
  rw [lg_entry_eq]
  generalize (lg_sl ([.ref (a 0), .int (nI j), .int (nI h)]) ++ List.replicate (5 - (lg_sl ([.ref (a 0), .int (nI j), .int (nI h)])).length) Slot.unset).toArray = ls at hl ⊢
  have hl : lv_has ls 5 [(0, .ref (a 0)), (1, .int (nI j)), (2, .int (nI h))] := hl
  have hj4 : j < 4 := by omega
  have hP8 := pw_le hc
  have hx0 : 0 ≤ nI h ∧ nI h < nI (P j) := ⟨nI_pos' (by omega), nI_lt hh (by omega)⟩
  refine lv_aload_n hx hb d_Hop_key_0 rfl (lv_at hl 0 rfl) ?_
  refine lv_iload_n hx hb d_Hop_key_1 rfl (lv_at hl 1 rfl) ?_
  refine k_partOf X hlt hK hP hD hS hF hZ hl.1 hj (Nat.le_of_ble_eq_true rfl) ⟨Nat.le_of_ble_eq_true rfl, Nat.le_of_ble_eq_true rfl⟩ ⟨Nat.le_of_ble_eq_true rfl, Nat.le_of_ble_eq_true rfl⟩ d_Hop_key_2 (fun H locs hP hD hS => ?_)
  refine lv_astore_n (lv' := [(3, .ref (q j)), (0, .ref (a 0)), (1, .int (nI j)), (2, .int (nI h))]) hx hb d_Hop_key_5 rfl hl (by decide) rfl (fun ls hl => ?_)
  refine lv_aload_n hx hb d_Hop_key_6 rfl (lv_at hl 0 rfl) ?_
  refine lv_iload_n hx hb d_Hop_key_7 rfl (lv_at hl 3 rfl) ?_
  refine k_requirePlace X hlt hK hP hD hS hF hZ hl.1 hj4 (by omega) hx0 (Nat.le_of_ble_eq_true rfl) ⟨Nat.le_of_ble_eq_true rfl, Nat.le_of_ble_eq_true rfl⟩ ⟨Nat.le_of_ble_eq_true rfl, Nat.le_of_ble_eq_true rfl⟩ d_Hop_key_8 (fun H locs hP hD hS => ?_)
  refine lv_aload_n hx hb d_Hop_key_11 rfl (lv_at hl 0 rfl) ?_
  refine lv_iload_n hx hb d_Hop_key_12 rfl (lv_at hl 3 rfl) ?_
  refine k_slotOf X hK hP hl.1 (x := h) hc (by omega) hj4 (Nat.le_of_ble_eq_true rfl) ⟨Nat.le_of_ble_eq_true rfl, Nat.le_of_ble_eq_true rfl⟩ ⟨Nat.le_of_ble_eq_true rfl, Nat.le_of_ble_eq_true rfl⟩ d_Hop_key_13 ?_
  refine lv_istore (lv' := [(4, .int (nI (B j + (h) % P j))), (3, .ref (q j)), (0, .ref (a 0)), (1, .int (nI j)), (2, .int (nI h))]) hx hb d_Hop_key_16 hl (by decide) rfl (fun ls hl => ?_)
  refine lv_aload_n hx hb d_Hop_key_18 rfl (lv_at hl 2 rfl) ?_
  refine hg_taken X hK hP d_Hop_key_19 ?_
  refine lv_iload hx hb d_Hop_key_22 (lv_at hl 0 rfl) ?_
  refine hl_T X hK hP (i := B j + (h) % P j) (sl_lt hc hbd) d_Hop_key_24 ?_
  refine lvT_if_ne (tgt := 38) hx hb d_Hop_key_25 (by decide) (bI_n0.mpr hT) ?_
  refine lv_aload_n hx hb d_Hop_key_38 rfl (lv_at hl 2 rfl) ?_
  refine hg_keys X hK hP d_Hop_key_39 ?_
  refine lv_iload hx hb d_Hop_key_42 (lv_at hl 0 rfl) ?_
  refine hl_K X hK hP (i := B j + (h) % P j) (sl_lt hc hbd) d_Hop_key_44 ?_
  refine W.widen (k := 3) (n := 18) (Nat.le_of_ble_eq_true rfl) (Nat.le_of_ble_eq_true rfl) ?_
  exact vx_ret (W.iret (v := K (B j + h % P j)) hx hb hr (fun t ht hW => ⟨_, rfl, rfl, by rw [ht]; exact hP, hS.F ht⟩) hS.2.2 d_Hop_key_45)
set_option maxHeartbeats 4000000 in
set_option maxRecDepth 100000 in
/-- key -/
theorem c_Hop_key_no (l : Launch) (hlt : l.stackTraces = false) (D : va_G) (ca a q : Nat → Nat) (K V : IT) (T : BT) (C : IT) (B P : Nat → Nat) (S : IT) (sa : Nat → Nat) (j : Nat) (hj : j < 3) (hc : pw (P j)) (hbd : B j + P j ≤ 256) (h : Nat) (hh : h < P j) (hT : T (B j + h % P j) = false) : vx_Met l y_Hop_key w_Hop_key (rmD 7 3 18) (va_Pc [.ref (a 0), .int (nI j), .int (nI h)] (hb_X D hCl (wH ca a q K V T C B P S) (tyH ca) sa)) (hX_Q (.inr "java/util/NoSuchElementException") D hCl (wH ca a q K V T C B P S) (hA (wH ca a q K V T C B P S))) (hX_X (.inr "java/util/NoSuchElementException") D hCl (wH ca a q K V T C B P S) (hA (wH ca a q K V T C B P S))) 3 18 (hA (wH ca a q K V T C B P S)) := by
  refine vx_ofW (cc := b_Hop_key) (maxL := 5) (ret := some .int) (by decide) rfl ?_
  intro p e s m args below meth c0 s₁ B0 hml hnt hv
  obtain ⟨rfl, hP, hK, hD0, hF, hZ⟩ := hv
  have hx := B0.exec
  have hb := B0.bytes
  have hr := B0.returns
  have hts := atoms_spec (ws := w_Hop_key) B0.pre
  have hown : s.vm.findClass R_Hop = some m.cls := findClass_of_methodNamed B0.named
  have hlocks := B0.notSynchronized
  have hwA : ∀ w ∈ wsA, w.before ([.ref (a 0), .int (nI j), .int (nI h)] : List Value).toArray s = true := fun w h => hts w (List.mem_cons_of_mem _ h)
  have X : CallFix p m c0 b_Hop_key 5 s ([.ref (a 0), .int (nI j), .int (nI h)] : List Value).toArray wsA R_Hop := ⟨hx, hb, hml, hown, hwA⟩
  have hD := hA_D hD0
  have hS : va_S (hA (wH ca a q K V T C B P S)) s.heap s.heap [] := va_S.rf
  have hl := lv_entry ([.ref (a 0), .int (nI j), .int (nI h)]) (n := 5) (Nat.le_of_ble_eq_true rfl)
  rw [lg_entry_eq]
  generalize (lg_sl ([.ref (a 0), .int (nI j), .int (nI h)]) ++ List.replicate (5 - (lg_sl ([.ref (a 0), .int (nI j), .int (nI h)])).length) Slot.unset).toArray = ls at hl ⊢
  have hl : lv_has ls 5 [(0, .ref (a 0)), (1, .int (nI j)), (2, .int (nI h))] := hl
  have hj4 : j < 4 := by omega
  have hP8 := pw_le hc
  have hx0 : 0 ≤ nI h ∧ nI h < nI (P j) := ⟨nI_pos' (by omega), nI_lt hh (by omega)⟩
  refine lv_aload_n hx hb d_Hop_key_0 rfl (lv_at hl 0 rfl) ?_
  refine lv_iload_n hx hb d_Hop_key_1 rfl (lv_at hl 1 rfl) ?_
  refine k_partOf X hlt hK hP hD hS hF hZ hl.1 hj (Nat.le_of_ble_eq_true rfl) ⟨Nat.le_of_ble_eq_true rfl, Nat.le_of_ble_eq_true rfl⟩ ⟨Nat.le_of_ble_eq_true rfl, Nat.le_of_ble_eq_true rfl⟩ d_Hop_key_2 (fun H locs hP hD hS => ?_)
  refine lv_astore_n (lv' := [(3, .ref (q j)), (0, .ref (a 0)), (1, .int (nI j)), (2, .int (nI h))]) hx hb d_Hop_key_5 rfl hl (by decide) rfl (fun ls hl => ?_)
  refine lv_aload_n hx hb d_Hop_key_6 rfl (lv_at hl 0 rfl) ?_
  refine lv_iload_n hx hb d_Hop_key_7 rfl (lv_at hl 3 rfl) ?_
  refine k_requirePlace X hlt hK hP hD hS hF hZ hl.1 hj4 (by omega) hx0 (Nat.le_of_ble_eq_true rfl) ⟨Nat.le_of_ble_eq_true rfl, Nat.le_of_ble_eq_true rfl⟩ ⟨Nat.le_of_ble_eq_true rfl, Nat.le_of_ble_eq_true rfl⟩ d_Hop_key_8 (fun H locs hP hD hS => ?_)
  refine lv_aload_n hx hb d_Hop_key_11 rfl (lv_at hl 0 rfl) ?_
  refine lv_iload_n hx hb d_Hop_key_12 rfl (lv_at hl 3 rfl) ?_
  refine k_slotOf X hK hP hl.1 (x := h) hc (by omega) hj4 (Nat.le_of_ble_eq_true rfl) ⟨Nat.le_of_ble_eq_true rfl, Nat.le_of_ble_eq_true rfl⟩ ⟨Nat.le_of_ble_eq_true rfl, Nat.le_of_ble_eq_true rfl⟩ d_Hop_key_13 ?_
  refine lv_istore (lv' := [(4, .int (nI (B j + (h) % P j))), (3, .ref (q j)), (0, .ref (a 0)), (1, .int (nI j)), (2, .int (nI h))]) hx hb d_Hop_key_16 hl (by decide) rfl (fun ls hl => ?_)
  refine lv_aload_n hx hb d_Hop_key_18 rfl (lv_at hl 2 rfl) ?_
  refine hg_taken X hK hP d_Hop_key_19 ?_
  refine lv_iload hx hb d_Hop_key_22 (lv_at hl 0 rfl) ?_
  refine hl_T X hK hP (i := B j + (h) % P j) (sl_lt hc hbd) d_Hop_key_24 ?_
  refine lvF_if_ne (tgt := 38) hx hb d_Hop_key_25 (by decide) (bI_0.mpr hT) ?_
  exact hX_throw (k := 5) (text := "the place is free") X hlt hF hZ hP hS hl.1 by13_0 by13_1 by13_2 by13_5 (by decide) m_292 m_49 (by decide +kernel) at_NSE ot_NSE d_Hop_key_28 d_Hop_key_31 d_Hop_key_32 d_Hop_key_34 d_Hop_key_37 hnt ⟨Nat.le_of_ble_eq_true rfl, Nat.le_of_ble_eq_true rfl⟩ (Nat.le_of_ble_eq_true rfl) (Nat.le_of_ble_eq_true rfl) (Nat.le_of_ble_eq_true rfl) hlocks rfl (Nat.le_of_ble_eq_true rfl) (Nat.le_of_ble_eq_true rfl)
set_option maxHeartbeats 4000000 in
set_option maxRecDepth 100000 in
/-- count -/
theorem c_Hop_count (l : Launch) (hlt : l.stackTraces = false) (D : va_G) (ca a q : Nat → Nat) (K V : IT) (T : BT) (C : IT) (B P : Nat → Nat) (S : IT) (sa : Nat → Nat) (k : Nat) (hk : k < 3) : vx_Met l y_Hop_count w_Hop_count (rmD 7 1 6) (va_Pc [.ref (a 0), .int (nI k)] (hb_X D hCl (wH ca a q K V T C B P S) (tyH ca) sa)) (hX_Q (.inl (some (.int (C k)))) D hCl (wH ca a q K V T C B P S) (hA (wH ca a q K V T C B P S))) (hX_X (.inl (some (.int (C k)))) D hCl (wH ca a q K V T C B P S) (hA (wH ca a q K V T C B P S))) 1 6 (hA (wH ca a q K V T C B P S)) := by
  refine vx_ofW (cc := b_Hop_count) (maxL := 2) (ret := some .int) (by decide) rfl ?_
  intro p e s m args below meth c0 s₁ B0 hml hnt hv
  obtain ⟨rfl, hP, hK, hD0, hF, hZ⟩ := hv
  have hx := B0.exec
  have hb := B0.bytes
  have hr := B0.returns
  have hts := atoms_spec (ws := w_Hop_count) B0.pre
  have hown : s.vm.findClass R_Hop = some m.cls := findClass_of_methodNamed B0.named
  have hlocks := B0.notSynchronized
  have hwA : ∀ w ∈ wsA, w.before ([.ref (a 0), .int (nI k)] : List Value).toArray s = true := fun w h => hts w (List.mem_cons_of_mem _ h)
  have X : CallFix p m c0 b_Hop_count 2 s ([.ref (a 0), .int (nI k)] : List Value).toArray wsA R_Hop := ⟨hx, hb, hml, hown, hwA⟩
  have hD := hA_D hD0
  have hS : va_S (hA (wH ca a q K V T C B P S)) s.heap s.heap [] := va_S.rf
  have hl := lv_entry ([.ref (a 0), .int (nI k)]) (n := 2) (Nat.le_of_ble_eq_true rfl)
  rw [lg_entry_eq]
  generalize (lg_sl ([.ref (a 0), .int (nI k)]) ++ List.replicate (2 - (lg_sl ([.ref (a 0), .int (nI k)])).length) Slot.unset).toArray = ls at hl ⊢
  have hl : lv_has ls 2 [(0, .ref (a 0)), (1, .int (nI k))] := hl
  refine lv_iload_n hx hb d_Hop_count_0 rfl (lv_at hl 1 rfl) ?_
  refine lvF_if_lt (tgt := 9) hx hb d_Hop_count_1 (by decide) (nI_pos (by omega)) ?_
  refine lv_iload_n hx hb d_Hop_count_4 rfl (lv_at hl 1 rfl) ?_
  refine lv_iconst (v := 3) hx hb d_Hop_count_5 (by decide) ?_
  refine lvT_icmp_lt (tgt := 19) hx hb d_Hop_count_6 (by decide) (nI_lt (a := k) (b := 3) (by omega) (by omega)) ?_
  refine lv_aload_n hx hb d_Hop_count_19 rfl (lv_at hl 0 rfl) ?_
  refine hg_counts X hK hP d_Hop_count_20 ?_
  refine lv_iload_n hx hb d_Hop_count_23 rfl (lv_at hl 1 rfl) ?_
  refine hl_C X hK hP (i := k) (hk) d_Hop_count_24 ?_
  refine W.widen (k := 1) (n := 6) (Nat.le_of_ble_eq_true rfl) (Nat.le_of_ble_eq_true rfl) ?_
  exact vx_ret (W.iret (v := C k) hx hb hr (fun t ht hW => ⟨_, rfl, rfl, by rw [ht]; exact hP, hS.F ht⟩) hS.2.2 d_Hop_count_25)
set_option maxHeartbeats 4000000 in
set_option maxRecDepth 100000 in
/-- count -/
theorem c_Hop_count_no (l : Launch) (hlt : l.stackTraces = false) (D : va_G) (ca a q : Nat → Nat) (K V : IT) (T : BT) (C : IT) (B P : Nat → Nat) (S : IT) (sa : Nat → Nat) (wh : Int32) (hw : wh < 0 ∨ nI 3 ≤ wh) : vx_Met l y_Hop_count w_Hop_count (rmD 7 1 6) (va_Pc [.ref (a 0), .int wh] (hb_X D hCl (wH ca a q K V T C B P S) (tyH ca) sa)) (hX_Q (.inr "java/lang/IllegalArgumentException") D hCl (wH ca a q K V T C B P S) (hA (wH ca a q K V T C B P S))) (hX_X (.inr "java/lang/IllegalArgumentException") D hCl (wH ca a q K V T C B P S) (hA (wH ca a q K V T C B P S))) 1 6 (hA (wH ca a q K V T C B P S)) := by
  refine vx_ofW (cc := b_Hop_count) (maxL := 2) (ret := some .int) (by decide) rfl ?_
  intro p e s m args below meth c0 s₁ B0 hml hnt hv
  obtain ⟨rfl, hP, hK, hD0, hF, hZ⟩ := hv
  have hx := B0.exec
  have hb := B0.bytes
  have hr := B0.returns
  have hts := atoms_spec (ws := w_Hop_count) B0.pre
  have hown : s.vm.findClass R_Hop = some m.cls := findClass_of_methodNamed B0.named
  have hlocks := B0.notSynchronized
  have hwA : ∀ w ∈ wsA, w.before ([.ref (a 0), .int wh] : List Value).toArray s = true := fun w h => hts w (List.mem_cons_of_mem _ h)
  have X : CallFix p m c0 b_Hop_count 2 s ([.ref (a 0), .int wh] : List Value).toArray wsA R_Hop := ⟨hx, hb, hml, hown, hwA⟩
  have hD := hA_D hD0
  have hS : va_S (hA (wH ca a q K V T C B P S)) s.heap s.heap [] := va_S.rf
  have hl := lv_entry ([.ref (a 0), .int wh]) (n := 2) (Nat.le_of_ble_eq_true rfl)
  rw [lg_entry_eq]
  generalize (lg_sl ([.ref (a 0), .int wh]) ++ List.replicate (2 - (lg_sl ([.ref (a 0), .int wh])).length) Slot.unset).toArray = ls at hl ⊢
  have hl : lv_has ls 2 [(0, .ref (a 0)), (1, .int wh)] := hl
  refine lv_iload_n hx hb d_Hop_count_0 rfl (lv_at hl 1 rfl) ?_
  refine lv_if_lt (tgt := 9) hx hb d_Hop_count_1 (by decide) (fun h1 => ?_) (fun h1 => ?_)
  · exact hX_throw (k := 6) (text := "no such count") X hlt hF hZ hP hS hl.1 by7_0 by7_1 by7_2 by7_5 (by decide) m_348 m_50 (by decide +kernel) at_IAE ot_IAE d_Hop_count_9 d_Hop_count_12 d_Hop_count_13 d_Hop_count_15 d_Hop_count_18 hnt ⟨Nat.le_of_ble_eq_true rfl, Nat.le_of_ble_eq_true rfl⟩ (Nat.le_of_ble_eq_true rfl) (Nat.le_of_ble_eq_true rfl) (Nat.le_of_ble_eq_true rfl) hlocks rfl (Nat.le_of_ble_eq_true rfl) (Nat.le_of_ble_eq_true rfl)
  · refine lv_iload_n hx hb d_Hop_count_4 rfl (lv_at hl 1 rfl) ?_
    refine lv_iconst (v := 3) hx hb d_Hop_count_5 (by decide) ?_
    refine lvF_icmp_lt (tgt := 19) hx hb d_Hop_count_6 (by decide) (Int32.not_lt.mpr (hw.resolve_left h1)) ?_
    exact hX_throw (k := 6) (text := "no such count") X hlt hF hZ hP hS hl.1 by7_0 by7_1 by7_2 by7_5 (by decide) m_348 m_50 (by decide +kernel) at_IAE ot_IAE d_Hop_count_9 d_Hop_count_12 d_Hop_count_13 d_Hop_count_15 d_Hop_count_18 hnt ⟨Nat.le_of_ble_eq_true rfl, Nat.le_of_ble_eq_true rfl⟩ (Nat.le_of_ble_eq_true rfl) (Nat.le_of_ble_eq_true rfl) (Nat.le_of_ble_eq_true rfl) hlocks rfl (Nat.le_of_ble_eq_true rfl) (Nat.le_of_ble_eq_true rfl)
end
section
set_option maxHeartbeats 4000000 in
set_option maxRecDepth 100000 in
/-- put -/
theorem c_Hop_put_old (l : Launch) (hlt : l.stackTraces = false) (D : va_G) (ca a q : Nat → Nat) (K V : IT) (T : BT) (C : IT) (B P : Nat → Nat) (S : IT) (sa : Nat → Nat) (j : Nat) (hj : j < 3) (hc : pw (P j)) (hbd : B j + P j ≤ 256) (key val : Int32) (k : Nat) (hk : k < 256) (hfd : fnd T K (B j) (P j) (hom key (S j) (P j)) key 0 8 = some k) : vx_Met l y_Hop_put w_Hop_put (rmD 7 2 12) (va_Pc [.ref (a 0), .int (nI j), .int key, .int val] (hb_X D hCl (wH ca a q K V T C B P S) (tyH ca) sa)) (hX_Q (.inl (some (.int 1))) D hCl (wH ca a q K (upd V k val) T C B P S) (hA (wH ca a q K V T C B P S))) (hX_X (.inl (some (.int 1))) D hCl (wH ca a q K (upd V k val) T C B P S) (hA (wH ca a q K V T C B P S))) 2 12 (hA (wH ca a q K V T C B P S)) := by
  refine vx_ofW (cc := b_Hop_put) (maxL := 6) (ret := some .boolean) (by decide) rfl ?_
  intro p e s m args below meth c0 s₁ B0 hml hnt hv
  obtain ⟨rfl, hP, hK, hD0, hF, hZ⟩ := hv
  have hx := B0.exec
  have hb := B0.bytes
  have hr := B0.returns
  have hts := atoms_spec (ws := w_Hop_put) B0.pre
  have hown : s.vm.findClass R_Hop = some m.cls := findClass_of_methodNamed B0.named
  have hlocks := B0.notSynchronized
  have hwA : ∀ w ∈ wsA, w.before ([.ref (a 0), .int (nI j), .int key, .int val] : List Value).toArray s = true := fun w h => hts w (List.mem_cons_of_mem _ h)
  have X : CallFix p m c0 b_Hop_put 6 s ([.ref (a 0), .int (nI j), .int key, .int val] : List Value).toArray wsA R_Hop := ⟨hx, hb, hml, hown, hwA⟩
  have hD := hA_D hD0
  have hS : va_S (hA (wH ca a q K V T C B P S)) s.heap s.heap [] := va_S.rf
  have hl := lv_entry ([.ref (a 0), .int (nI j), .int key, .int val]) (n := 6) (Nat.le_of_ble_eq_true rfl)
  rw [lg_entry_eq]
  generalize (lg_sl ([.ref (a 0), .int (nI j), .int key, .int val]) ++ List.replicate (6 - (lg_sl ([.ref (a 0), .int (nI j), .int key, .int val])).length) Slot.unset).toArray = ls at hl ⊢
  have hl : lv_has ls 6 [(0, .ref (a 0)), (1, .int (nI j)), (2, .int key), (3, .int val)] := hl
  have hj4 : j < 4 := by omega
  refine lv_aload_n hx hb d_Hop_put_0 rfl (lv_at hl 0 rfl) ?_
  refine lv_iload_n hx hb d_Hop_put_1 rfl (lv_at hl 1 rfl) ?_
  refine k_partOf X hlt hK hP hD hS hF hZ hl.1 hj (Nat.le_of_ble_eq_true rfl) ⟨Nat.le_of_ble_eq_true rfl, Nat.le_of_ble_eq_true rfl⟩ ⟨Nat.le_of_ble_eq_true rfl, Nat.le_of_ble_eq_true rfl⟩ d_Hop_put_2 (fun H locs hP hD hS => ?_)
  refine lv_astore (lv' := [(4, .ref (q j)), (0, .ref (a 0)), (1, .int (nI j)), (2, .int key), (3, .int val)]) hx hb d_Hop_put_5 hl (by decide) rfl (fun ls hl => ?_)
  refine lv_aload_n hx hb d_Hop_put_7 rfl (lv_at hl 1 rfl) ?_
  refine lv_aload hx hb d_Hop_put_8 (lv_at hl 0 rfl) ?_
  refine lv_iload_n hx hb d_Hop_put_10 rfl (lv_at hl 3 rfl) ?_
  refine k_slotOrNone X hK hP hl.1 hj4 hc hbd (Nat.le_of_ble_eq_true rfl) ⟨Nat.le_of_ble_eq_true rfl, Nat.le_of_ble_eq_true rfl⟩ ⟨Nat.le_of_ble_eq_true rfl, Nat.le_of_ble_eq_true rfl⟩ d_Hop_put_11 ?_
  rw [hfd]
  refine lv_tope (y := nI k) rfl ?_
  refine lv_istore (lv' := [(5, .int (nI k)), (4, .ref (q j)), (0, .ref (a 0)), (1, .int (nI j)), (2, .int key), (3, .int val)]) hx hb d_Hop_put_14 hl (by decide) rfl (fun ls hl => ?_)
  refine lv_iload hx hb d_Hop_put_16 (lv_at hl 0 rfl) ?_
  refine lv_iconst (v := -1) hx hb d_Hop_put_18 (by decide) ?_
  refine lvF_icmp_eq (tgt := 32) hx hb d_Hop_put_19 (by decide) (nI_m1 (by omega)) ?_
  refine lv_aload_n hx hb d_Hop_put_22 rfl (lv_at hl 2 rfl) ?_
  refine hg_values X hK hP d_Hop_put_23 ?_
  refine lv_iload hx hb d_Hop_put_26 (lv_at hl 0 rfl) ?_
  refine lv_iload_n hx hb d_Hop_put_28 rfl (lv_at hl 5 rfl) ?_
  refine hs_V X hK hP hD hS (i := k) (x := val) (hk) d_Hop_put_29 (fun H locs hP hD hS => ?_)
  refine lv_iconst (v := 1) hx hb d_Hop_put_30 (by decide) ?_
  refine W.widen (k := 2) (n := 12) (Nat.le_of_ble_eq_true rfl) (Nat.le_of_ble_eq_true rfl) ?_
  exact vx_ret (W.zret (v := 1) hx hb hr rfl (fun t ht hW => ⟨_, rfl, rfl, by rw [ht]; exact hP, hS.F ht⟩) hS.2.2 d_Hop_put_31)
set_option maxHeartbeats 4000000 in
set_option maxRecDepth 100000 in
/-- put -/
theorem c_Hop_put_ins (l : Launch) (hlt : l.stackTraces = false) (D : va_G) (ca a q : Nat → Nat) (K V : IT) (T : BT) (C : IT) (B P : Nat → Nat) (S : IT) (sa : Nat → Nat) (j : Nat) (hj : j < 3) (hc : pw (P j)) (hbd : B j + P j ≤ 256) (key val : Int32) (hfd : fnd T K (B j) (P j) (hom key (S j) (P j)) key 0 8 = none) (hi : (ins (B j) (P j) (S j) key val (K, V, T, C)).1 = true) : vx_Met l y_Hop_put w_Hop_put (rmD 7 2 12) (va_Pc [.ref (a 0), .int (nI j), .int key, .int val] (hb_X D hCl (wH ca a q K V T C B P S) (tyH ca) sa)) (hX_Q (.inl (some (.int 0))) D hCl (wH ca a q (ins (B j) (P j) (S j) key val (K, V, T, C)).2.1 (ins (B j) (P j) (S j) key val (K, V, T, C)).2.2.1 (ins (B j) (P j) (S j) key val (K, V, T, C)).2.2.2.1 (ins (B j) (P j) (S j) key val (K, V, T, C)).2.2.2.2 B P S) (hA (wH ca a q K V T C B P S))) (hX_X (.inl (some (.int 0))) D hCl (wH ca a q (ins (B j) (P j) (S j) key val (K, V, T, C)).2.1 (ins (B j) (P j) (S j) key val (K, V, T, C)).2.2.1 (ins (B j) (P j) (S j) key val (K, V, T, C)).2.2.2.1 (ins (B j) (P j) (S j) key val (K, V, T, C)).2.2.2.2 B P S) (hA (wH ca a q K V T C B P S))) 2 12 (hA (wH ca a q K V T C B P S)) := by
  refine vx_ofW (cc := b_Hop_put) (maxL := 6) (ret := some .boolean) (by decide) rfl ?_
  intro p e s m args below meth c0 s₁ B0 hml hnt hv
  obtain ⟨rfl, hP, hK, hD0, hF, hZ⟩ := hv
  have hx := B0.exec
  have hb := B0.bytes
  have hr := B0.returns
  have hts := atoms_spec (ws := w_Hop_put) B0.pre
  have hown : s.vm.findClass R_Hop = some m.cls := findClass_of_methodNamed B0.named
  have hlocks := B0.notSynchronized
  have hwA : ∀ w ∈ wsA, w.before ([.ref (a 0), .int (nI j), .int key, .int val] : List Value).toArray s = true := fun w h => hts w (List.mem_cons_of_mem _ h)
  have X : CallFix p m c0 b_Hop_put 6 s ([.ref (a 0), .int (nI j), .int key, .int val] : List Value).toArray wsA R_Hop := ⟨hx, hb, hml, hown, hwA⟩
  have hD := hA_D hD0
  have hS : va_S (hA (wH ca a q K V T C B P S)) s.heap s.heap [] := va_S.rf
  have hl := lv_entry ([.ref (a 0), .int (nI j), .int key, .int val]) (n := 6) (Nat.le_of_ble_eq_true rfl)
  rw [lg_entry_eq]
  generalize (lg_sl ([.ref (a 0), .int (nI j), .int key, .int val]) ++ List.replicate (6 - (lg_sl ([.ref (a 0), .int (nI j), .int key, .int val])).length) Slot.unset).toArray = ls at hl ⊢
  have hl : lv_has ls 6 [(0, .ref (a 0)), (1, .int (nI j)), (2, .int key), (3, .int val)] := hl
  have hj4 : j < 4 := by omega
  refine lv_aload_n hx hb d_Hop_put_0 rfl (lv_at hl 0 rfl) ?_
  refine lv_iload_n hx hb d_Hop_put_1 rfl (lv_at hl 1 rfl) ?_
  refine k_partOf X hlt hK hP hD hS hF hZ hl.1 hj (Nat.le_of_ble_eq_true rfl) ⟨Nat.le_of_ble_eq_true rfl, Nat.le_of_ble_eq_true rfl⟩ ⟨Nat.le_of_ble_eq_true rfl, Nat.le_of_ble_eq_true rfl⟩ d_Hop_put_2 (fun H locs hP hD hS => ?_)
  refine lv_astore (lv' := [(4, .ref (q j)), (0, .ref (a 0)), (1, .int (nI j)), (2, .int key), (3, .int val)]) hx hb d_Hop_put_5 hl (by decide) rfl (fun ls hl => ?_)
  refine lv_aload_n hx hb d_Hop_put_7 rfl (lv_at hl 1 rfl) ?_
  refine lv_aload hx hb d_Hop_put_8 (lv_at hl 0 rfl) ?_
  refine lv_iload_n hx hb d_Hop_put_10 rfl (lv_at hl 3 rfl) ?_
  refine k_slotOrNone X hK hP hl.1 hj4 hc hbd (Nat.le_of_ble_eq_true rfl) ⟨Nat.le_of_ble_eq_true rfl, Nat.le_of_ble_eq_true rfl⟩ ⟨Nat.le_of_ble_eq_true rfl, Nat.le_of_ble_eq_true rfl⟩ d_Hop_put_11 ?_
  rw [hfd]
  refine lv_tope (y := -1) rfl ?_
  refine lv_istore (lv' := [(5, .int (-1)), (4, .ref (q j)), (0, .ref (a 0)), (1, .int (nI j)), (2, .int key), (3, .int val)]) hx hb d_Hop_put_14 hl (by decide) rfl (fun ls hl => ?_)
  refine lv_iload hx hb d_Hop_put_16 (lv_at hl 0 rfl) ?_
  refine lv_iconst (v := -1) hx hb d_Hop_put_18 (by decide) ?_
  refine lvT_icmp_eq (tgt := 32) hx hb d_Hop_put_19 (by decide) (rfl) ?_
  refine lv_aload_n hx hb d_Hop_put_32 rfl (lv_at hl 2 rfl) ?_
  refine lv_aload hx hb d_Hop_put_33 (lv_at hl 1 rfl) ?_
  refine lv_iload_n hx hb d_Hop_put_35 rfl (lv_at hl 4 rfl) ?_
  refine lv_iload_n hx hb d_Hop_put_36 rfl (lv_at hl 5 rfl) ?_
  refine k_insert X hK hP hD hS hl.1 (key := key) (val := val) hj4 hc hbd (Nat.le_of_ble_eq_true rfl) ⟨Nat.le_of_ble_eq_true rfl, Nat.le_of_ble_eq_true rfl⟩ ⟨Nat.le_of_ble_eq_true rfl, Nat.le_of_ble_eq_true rfl⟩ d_Hop_put_37 (fun H locs hP hD hS => ?_)
  refine lvT_if_ne (tgt := 63) hx hb d_Hop_put_40 (by decide) (bI_n0.mpr hi) ?_
  refine lv_iconst (v := 0) hx hb d_Hop_put_63 (by decide) ?_
  refine W.widen (k := 2) (n := 12) (Nat.le_of_ble_eq_true rfl) (Nat.le_of_ble_eq_true rfl) ?_
  exact vx_ret (W.zret (v := 0) hx hb hr rfl (fun t ht hW => ⟨_, rfl, rfl, by rw [ht]; exact hP, hS.F ht⟩) hS.2.2 d_Hop_put_64)
set_option maxHeartbeats 4000000 in
set_option maxRecDepth 100000 in
/-- put -/
theorem c_Hop_put_grow (l : Launch) (hlt : l.stackTraces = false) (D : va_G) (ca a q : Nat → Nat) (K V : IT) (T : BT) (C : IT) (B P : Nat → Nat) (S : IT) (sa : Nat → Nat) (j : Nat) (hj : j < 3) (hc : pw (P j)) (hbd : B j + P j ≤ 256) (key val : Int32) (hfd : fnd T K (B j) (P j) (hom key (S j) (P j)) key 0 8 = none) (hi : (ins (B j) (P j) (S j) key val (K, V, T, C)).1 = false) (hG : GI (P 0 + P 1 + P 2) (P j) j B P) (hg : (grw j (P j) (P 0 + P 1 + P 2) key val 4 1 (S j) ((ins (B j) (P j) (S j) key val (K, V, T, C)).2.1, (ins (B j) (P j) (S j) key val (K, V, T, C)).2.2.1, (ins (B j) (P j) (S j) key val (K, V, T, C)).2.2.2.1, (ins (B j) (P j) (S j) key val (K, V, T, C)).2.2.2.2, B, P, S)).1 = true) : vx_Met l y_Hop_put w_Hop_put (rmD 7 2 12) (va_Pc [.ref (a 0), .int (nI j), .int key, .int val] (hb_X D hCl (wH ca a q K V T C B P S) (tyH ca) sa)) (hX_Q (.inl (some (.int 0))) D hCl (gW ca a q j (grw j (P j) (P 0 + P 1 + P 2) key val 4 1 (S j) ((ins (B j) (P j) (S j) key val (K, V, T, C)).2.1, (ins (B j) (P j) (S j) key val (K, V, T, C)).2.2.1, (ins (B j) (P j) (S j) key val (K, V, T, C)).2.2.2.1, (ins (B j) (P j) (S j) key val (K, V, T, C)).2.2.2.2, B, P, S))) (hA (wH ca a q K V T C B P S))) (hX_X (.inl (some (.int 0))) D hCl (gW ca a q j (grw j (P j) (P 0 + P 1 + P 2) key val 4 1 (S j) ((ins (B j) (P j) (S j) key val (K, V, T, C)).2.1, (ins (B j) (P j) (S j) key val (K, V, T, C)).2.2.1, (ins (B j) (P j) (S j) key val (K, V, T, C)).2.2.2.1, (ins (B j) (P j) (S j) key val (K, V, T, C)).2.2.2.2, B, P, S))) (hA (wH ca a q K V T C B P S))) 2 12 (hA (wH ca a q K V T C B P S)) := by
  refine vx_ofW (cc := b_Hop_put) (maxL := 6) (ret := some .boolean) (by decide) rfl ?_
  intro p e s m args below meth c0 s₁ B0 hml hnt hv
  obtain ⟨rfl, hP, hK, hD0, hF, hZ⟩ := hv
  have hx := B0.exec
  have hb := B0.bytes
  have hr := B0.returns
  have hts := atoms_spec (ws := w_Hop_put) B0.pre
  have hown : s.vm.findClass R_Hop = some m.cls := findClass_of_methodNamed B0.named
  have hlocks := B0.notSynchronized
  have hwA : ∀ w ∈ wsA, w.before ([.ref (a 0), .int (nI j), .int key, .int val] : List Value).toArray s = true := fun w h => hts w (List.mem_cons_of_mem _ h)
  have X : CallFix p m c0 b_Hop_put 6 s ([.ref (a 0), .int (nI j), .int key, .int val] : List Value).toArray wsA R_Hop := ⟨hx, hb, hml, hown, hwA⟩
  have hD := hA_D hD0
  have hS : va_S (hA (wH ca a q K V T C B P S)) s.heap s.heap [] := va_S.rf
  have hl := lv_entry ([.ref (a 0), .int (nI j), .int key, .int val]) (n := 6) (Nat.le_of_ble_eq_true rfl)
  rw [lg_entry_eq]
  generalize (lg_sl ([.ref (a 0), .int (nI j), .int key, .int val]) ++ List.replicate (6 - (lg_sl ([.ref (a 0), .int (nI j), .int key, .int val])).length) Slot.unset).toArray = ls at hl ⊢
  have hl : lv_has ls 6 [(0, .ref (a 0)), (1, .int (nI j)), (2, .int key), (3, .int val)] := hl
  have hj4 : j < 4 := by omega
  refine lv_aload_n hx hb d_Hop_put_0 rfl (lv_at hl 0 rfl) ?_
  refine lv_iload_n hx hb d_Hop_put_1 rfl (lv_at hl 1 rfl) ?_
  refine k_partOf X hlt hK hP hD hS hF hZ hl.1 hj (Nat.le_of_ble_eq_true rfl) ⟨Nat.le_of_ble_eq_true rfl, Nat.le_of_ble_eq_true rfl⟩ ⟨Nat.le_of_ble_eq_true rfl, Nat.le_of_ble_eq_true rfl⟩ d_Hop_put_2 (fun H locs hP hD hS => ?_)
  refine lv_astore (lv' := [(4, .ref (q j)), (0, .ref (a 0)), (1, .int (nI j)), (2, .int key), (3, .int val)]) hx hb d_Hop_put_5 hl (by decide) rfl (fun ls hl => ?_)
  refine lv_aload_n hx hb d_Hop_put_7 rfl (lv_at hl 1 rfl) ?_
  refine lv_aload hx hb d_Hop_put_8 (lv_at hl 0 rfl) ?_
  refine lv_iload_n hx hb d_Hop_put_10 rfl (lv_at hl 3 rfl) ?_
  refine k_slotOrNone X hK hP hl.1 hj4 hc hbd (Nat.le_of_ble_eq_true rfl) ⟨Nat.le_of_ble_eq_true rfl, Nat.le_of_ble_eq_true rfl⟩ ⟨Nat.le_of_ble_eq_true rfl, Nat.le_of_ble_eq_true rfl⟩ d_Hop_put_11 ?_
  rw [hfd]
  refine lv_tope (y := -1) rfl ?_
  refine lv_istore (lv' := [(5, .int (-1)), (4, .ref (q j)), (0, .ref (a 0)), (1, .int (nI j)), (2, .int key), (3, .int val)]) hx hb d_Hop_put_14 hl (by decide) rfl (fun ls hl => ?_)
  refine lv_iload hx hb d_Hop_put_16 (lv_at hl 0 rfl) ?_
  refine lv_iconst (v := -1) hx hb d_Hop_put_18 (by decide) ?_
  refine lvT_icmp_eq (tgt := 32) hx hb d_Hop_put_19 (by decide) (rfl) ?_
  refine lv_aload_n hx hb d_Hop_put_32 rfl (lv_at hl 2 rfl) ?_
  refine lv_aload hx hb d_Hop_put_33 (lv_at hl 1 rfl) ?_
  refine lv_iload_n hx hb d_Hop_put_35 rfl (lv_at hl 4 rfl) ?_
  refine lv_iload_n hx hb d_Hop_put_36 rfl (lv_at hl 5 rfl) ?_
  refine k_insert X hK hP hD hS hl.1 (key := key) (val := val) hj4 hc hbd (Nat.le_of_ble_eq_true rfl) ⟨Nat.le_of_ble_eq_true rfl, Nat.le_of_ble_eq_true rfl⟩ ⟨Nat.le_of_ble_eq_true rfl, Nat.le_of_ble_eq_true rfl⟩ d_Hop_put_37 (fun H locs hP hD hS => ?_)
  refine lvF_if_ne (tgt := 63) hx hb d_Hop_put_40 (by decide) (bI_0.mpr hi) ?_
  refine lv_aload_n hx hb d_Hop_put_43 rfl (lv_at hl 2 rfl) ?_
  refine lv_iload_n hx hb d_Hop_put_44 rfl (lv_at hl 3 rfl) ?_
  refine lv_iload_n hx hb d_Hop_put_45 rfl (lv_at hl 4 rfl) ?_
  refine lv_iload_n hx hb d_Hop_put_46 rfl (lv_at hl 5 rfl) ?_
  refine k_growWith X hK hP hD hS hl.1 (key := key) (val := val) hj hc hG (Nat.le_of_ble_eq_true rfl) ⟨Nat.le_of_ble_eq_true rfl, Nat.le_of_ble_eq_true rfl⟩ ⟨Nat.le_of_ble_eq_true rfl, Nat.le_of_ble_eq_true rfl⟩ d_Hop_put_47 (fun H locs hP hD hS => ?_)
  refine lvT_if_ne (tgt := 63) hx hb d_Hop_put_50 (by decide) (bI_n0.mpr hg) ?_
  refine lv_iconst (v := 0) hx hb d_Hop_put_63 (by decide) ?_
  refine W.widen (k := 2) (n := 12) (Nat.le_of_ble_eq_true rfl) (Nat.le_of_ble_eq_true rfl) ?_
  exact vx_ret (W.zret (v := 0) hx hb hr rfl (fun t ht hW => ⟨_, rfl, rfl, by rw [ht]; exact hP, hS.F ht⟩) hS.2.2 d_Hop_put_64)
set_option maxHeartbeats 4000000 in
set_option maxRecDepth 100000 in
/-- put -/
theorem c_Hop_put_ref (l : Launch) (hlt : l.stackTraces = false) (D : va_G) (ca a q : Nat → Nat) (K V : IT) (T : BT) (C : IT) (B P : Nat → Nat) (S : IT) (sa : Nat → Nat) (j : Nat) (hj : j < 3) (hc : pw (P j)) (hbd : B j + P j ≤ 256) (key val : Int32) (hfd : fnd T K (B j) (P j) (hom key (S j) (P j)) key 0 8 = none) (hi : (ins (B j) (P j) (S j) key val (K, V, T, C)).1 = false) (hG : GI (P 0 + P 1 + P 2) (P j) j B P) (hg : (grw j (P j) (P 0 + P 1 + P 2) key val 4 1 (S j) ((ins (B j) (P j) (S j) key val (K, V, T, C)).2.1, (ins (B j) (P j) (S j) key val (K, V, T, C)).2.2.1, (ins (B j) (P j) (S j) key val (K, V, T, C)).2.2.2.1, (ins (B j) (P j) (S j) key val (K, V, T, C)).2.2.2.2, B, P, S)).1 = false) : vx_Met l y_Hop_put w_Hop_put (rmD 7 2 12) (va_Pc [.ref (a 0), .int (nI j), .int key, .int val] (hb_X D hCl (wH ca a q K V T C B P S) (tyH ca) sa)) (hX_Q (.inr "java/lang/ArithmeticException") D hCl (gW ca a q j (grw j (P j) (P 0 + P 1 + P 2) key val 4 1 (S j) ((ins (B j) (P j) (S j) key val (K, V, T, C)).2.1, (ins (B j) (P j) (S j) key val (K, V, T, C)).2.2.1, (ins (B j) (P j) (S j) key val (K, V, T, C)).2.2.2.1, (ins (B j) (P j) (S j) key val (K, V, T, C)).2.2.2.2, B, P, S))) (hA (wH ca a q K V T C B P S))) (hX_X (.inr "java/lang/ArithmeticException") D hCl (gW ca a q j (grw j (P j) (P 0 + P 1 + P 2) key val 4 1 (S j) ((ins (B j) (P j) (S j) key val (K, V, T, C)).2.1, (ins (B j) (P j) (S j) key val (K, V, T, C)).2.2.1, (ins (B j) (P j) (S j) key val (K, V, T, C)).2.2.2.1, (ins (B j) (P j) (S j) key val (K, V, T, C)).2.2.2.2, B, P, S))) (hA (wH ca a q K V T C B P S))) 2 12 (hA (wH ca a q K V T C B P S)) := by
  refine vx_ofW (cc := b_Hop_put) (maxL := 6) (ret := some .boolean) (by decide) rfl ?_
  intro p e s m args below meth c0 s₁ B0 hml hnt hv
  obtain ⟨rfl, hP, hK, hD0, hF, hZ⟩ := hv
  have hx := B0.exec
  have hb := B0.bytes
  have hr := B0.returns
  have hts := atoms_spec (ws := w_Hop_put) B0.pre
  have hown : s.vm.findClass R_Hop = some m.cls := findClass_of_methodNamed B0.named
  have hlocks := B0.notSynchronized
  have hwA : ∀ w ∈ wsA, w.before ([.ref (a 0), .int (nI j), .int key, .int val] : List Value).toArray s = true := fun w h => hts w (List.mem_cons_of_mem _ h)
  have X : CallFix p m c0 b_Hop_put 6 s ([.ref (a 0), .int (nI j), .int key, .int val] : List Value).toArray wsA R_Hop := ⟨hx, hb, hml, hown, hwA⟩
  have hD := hA_D hD0
  have hS : va_S (hA (wH ca a q K V T C B P S)) s.heap s.heap [] := va_S.rf
  have hl := lv_entry ([.ref (a 0), .int (nI j), .int key, .int val]) (n := 6) (Nat.le_of_ble_eq_true rfl)
  rw [lg_entry_eq]
  generalize (lg_sl ([.ref (a 0), .int (nI j), .int key, .int val]) ++ List.replicate (6 - (lg_sl ([.ref (a 0), .int (nI j), .int key, .int val])).length) Slot.unset).toArray = ls at hl ⊢
  have hl : lv_has ls 6 [(0, .ref (a 0)), (1, .int (nI j)), (2, .int key), (3, .int val)] := hl
  have hj4 : j < 4 := by omega
  refine lv_aload_n hx hb d_Hop_put_0 rfl (lv_at hl 0 rfl) ?_
  refine lv_iload_n hx hb d_Hop_put_1 rfl (lv_at hl 1 rfl) ?_
  refine k_partOf X hlt hK hP hD hS hF hZ hl.1 hj (Nat.le_of_ble_eq_true rfl) ⟨Nat.le_of_ble_eq_true rfl, Nat.le_of_ble_eq_true rfl⟩ ⟨Nat.le_of_ble_eq_true rfl, Nat.le_of_ble_eq_true rfl⟩ d_Hop_put_2 (fun H locs hP hD hS => ?_)
  refine lv_astore (lv' := [(4, .ref (q j)), (0, .ref (a 0)), (1, .int (nI j)), (2, .int key), (3, .int val)]) hx hb d_Hop_put_5 hl (by decide) rfl (fun ls hl => ?_)
  refine lv_aload_n hx hb d_Hop_put_7 rfl (lv_at hl 1 rfl) ?_
  refine lv_aload hx hb d_Hop_put_8 (lv_at hl 0 rfl) ?_
  refine lv_iload_n hx hb d_Hop_put_10 rfl (lv_at hl 3 rfl) ?_
  refine k_slotOrNone X hK hP hl.1 hj4 hc hbd (Nat.le_of_ble_eq_true rfl) ⟨Nat.le_of_ble_eq_true rfl, Nat.le_of_ble_eq_true rfl⟩ ⟨Nat.le_of_ble_eq_true rfl, Nat.le_of_ble_eq_true rfl⟩ d_Hop_put_11 ?_
  rw [hfd]
  refine lv_tope (y := -1) rfl ?_
  refine lv_istore (lv' := [(5, .int (-1)), (4, .ref (q j)), (0, .ref (a 0)), (1, .int (nI j)), (2, .int key), (3, .int val)]) hx hb d_Hop_put_14 hl (by decide) rfl (fun ls hl => ?_)
  refine lv_iload hx hb d_Hop_put_16 (lv_at hl 0 rfl) ?_
  refine lv_iconst (v := -1) hx hb d_Hop_put_18 (by decide) ?_
  refine lvT_icmp_eq (tgt := 32) hx hb d_Hop_put_19 (by decide) (rfl) ?_
  refine lv_aload_n hx hb d_Hop_put_32 rfl (lv_at hl 2 rfl) ?_
  refine lv_aload hx hb d_Hop_put_33 (lv_at hl 1 rfl) ?_
  refine lv_iload_n hx hb d_Hop_put_35 rfl (lv_at hl 4 rfl) ?_
  refine lv_iload_n hx hb d_Hop_put_36 rfl (lv_at hl 5 rfl) ?_
  refine k_insert X hK hP hD hS hl.1 (key := key) (val := val) hj4 hc hbd (Nat.le_of_ble_eq_true rfl) ⟨Nat.le_of_ble_eq_true rfl, Nat.le_of_ble_eq_true rfl⟩ ⟨Nat.le_of_ble_eq_true rfl, Nat.le_of_ble_eq_true rfl⟩ d_Hop_put_37 (fun H locs hP hD hS => ?_)
  refine lvF_if_ne (tgt := 63) hx hb d_Hop_put_40 (by decide) (bI_0.mpr hi) ?_
  refine lv_aload_n hx hb d_Hop_put_43 rfl (lv_at hl 2 rfl) ?_
  refine lv_iload_n hx hb d_Hop_put_44 rfl (lv_at hl 3 rfl) ?_
  refine lv_iload_n hx hb d_Hop_put_45 rfl (lv_at hl 4 rfl) ?_
  refine lv_iload_n hx hb d_Hop_put_46 rfl (lv_at hl 5 rfl) ?_
  refine k_growWith X hK hP hD hS hl.1 (key := key) (val := val) hj hc hG (Nat.le_of_ble_eq_true rfl) ⟨Nat.le_of_ble_eq_true rfl, Nat.le_of_ble_eq_true rfl⟩ ⟨Nat.le_of_ble_eq_true rfl, Nat.le_of_ble_eq_true rfl⟩ d_Hop_put_47 (fun H locs hP hD hS => ?_)
  refine lvF_if_ne (tgt := 63) hx hb d_Hop_put_50 (by decide) (bI_0.mpr hg) ?_
  exact hX_throw (k := 1) (text := "growing was refused") X hlt hF hZ hP hS hl.1 by7_0 by7_1 by7_2 by7_5 (by decide) m_264 m_48 (by decide +kernel) at_AE ot_AE d_Hop_put_53 d_Hop_put_56 d_Hop_put_57 d_Hop_put_59 d_Hop_put_62 hnt ⟨Nat.le_of_ble_eq_true rfl, Nat.le_of_ble_eq_true rfl⟩ (Nat.le_of_ble_eq_true rfl) (Nat.le_of_ble_eq_true rfl) (Nat.le_of_ble_eq_true rfl) hlocks rfl (Nat.le_of_ble_eq_true rfl) (Nat.le_of_ble_eq_true rfl)
end
section
theorem oi_code : Cond.code objectInit ⟨#[0xb1]⟩ 1 none ∈ wsA := mA (List.mem_of_getElem? (i := 58) (by decide +kernel)) rfl
section HCO
variable {p : Program} {l : Launch} {e : Env} {R : Room} {s : State} {m : MethodId} {args : Array Value} {below : List Frame} {meth : Method} {c : Code} {H : Heap} {locs : List Loc} {cells slots : Nat} {Q : State → Prop}
variable {cc : ByteArray} {pc nL : Nat} {ls : Array Slot} {rest st0 : List Value} {D : va_G} {cl : List vw_C} {A : Nat → Prop} {H0 : Heap} {tys tc : List (ClassId × FieldType)} {ws wc w1 : va_W}
theorem hw_one {a : Array Value} {v : Option Value} {pa i : Nat} {e0 e1 : va_E} (hr : va_Run p l e R s m args below meth c H locs cells slots 0 0 (F0 m pc ls st0) rest (hq_W v D cl [(pa, e1)] (hA [(pa, e0)]) a) (hA [(pa, e0)])) (hP : va_P D cl ws H) (hD : va_D A ws) (hS : va_S A H0 H locs) (hp : ws[i]? = some (pa, e0))
    (kk : ∀ (H1 : Heap) (locs1 : List Loc), va_P D cl (ws.set i (pa, e1)) H1 → va_D A (ws.set i (pa, e1)) → va_S A H0 H1 locs1 → W p l e R s m args below meth c H1 locs1 cells slots Q (F0 m (pc + 3) ls (v.toList ++ rest))) : W p l e R s m args below meth c H locs cells slots Q (F0 m pc ls st0) := by
  have hin : ∀ x, hA [(pa, e0)] x → x = pa := fun x hx => by
    obtain ⟨k, e9, hk⟩ := hx
    have hz : k < 1 := (List.getElem?_eq_some_iff.mp hk).1
    rw [show k = 0 by omega] at hk
    exact (congrArg Prod.fst (Option.some.inj hk)).symm
  refine hw_call hr hS (fun x hx => by rw [hin x hx]; exact hD.2 i _ hp) (fun H1 locs1 h1 h2 h3 => kk H1 locs1 (fun k q hk => ?_) (hD.set hp) h3)
  have hl := (List.getElem?_eq_some_iff.mp hp).1
  by_cases hkp : k = i
  · subst hkp
    rw [List.getElem?_set_self hl] at hk
    cases hk
    exact h1 0 _ rfl
  · rw [List.getElem?_set_ne (Ne.symm hkp)] at hk
    exact (hP k q hk).kept (h2 q.1 (hP k q hk).lt (fun z => hkp (hD.1 k i q (pa, e0) hk hp (hin _ z))))
end HCO
set_option maxHeartbeats 4000000 in
set_option maxRecDepth 100000 in
/-- Part(base, capacity, seed) -/
theorem c_Part_init (l : Launch) (D : va_G) (h b c : Nat) (sd : Int32) : Met l y_Part_init w_Part_init (rmD 1 0 0) (va_Pc [.ref h, .int (nI b), .int (nI c), .int sd] (hb_W D hCl [(h, .inr (1, [.int 0, .int 0, .int 0]))] [])) (hq_W none D hCl [(h, pt b c sd)] (hA [(h, .inr (1, [.int 0, .int 0, .int 0]))])) 0 0 (hA [(h, .inr (1, [.int 0, .int 0, .int 0]))]) := by
  refine Met.ofW (cc := b_Part_init) (maxL := 4) (ret := none) (by decide) rfl ?_
  intro p e s m args below meth c0 s₁ B0 hml hv
  obtain ⟨rfl, hP, hK, hD0⟩ := hv
  have hx := B0.exec
  have hb := B0.bytes
  have hr := B0.returns
  have hts := atoms_spec (ws := w_Part_init) B0.pre
  have hown : s.vm.findClass R_Part = some m.cls := findClass_of_methodNamed B0.named
  have hlocks := B0.notSynchronized
  have hwA : ∀ w ∈ wsA, w.before ([.ref h, .int (nI b), .int (nI c), .int sd] : List Value).toArray s = true := fun w h => hts w (List.mem_cons_of_mem _ h)
  have X : CallFix p m c0 b_Part_init 4 s ([.ref h, .int (nI b), .int (nI c), .int sd] : List Value).toArray wsA R_Part := ⟨hx, hb, hml, hown, hwA⟩
  have hD := hA_D hD0
  have hS : va_S (hA ([(h, .inr (1, [.int 0, .int 0, .int 0]))])) s.heap s.heap [] := va_S.rf
  have hl := lv_entry ([.ref h, .int (nI b), .int (nI c), .int sd]) (n := 4) (Nat.le_of_ble_eq_true rfl)
  rw [lg_entry_eq]
  generalize (lg_sl ([.ref h, .int (nI b), .int (nI c), .int sd]) ++ List.replicate (4 - (lg_sl ([.ref h, .int (nI b), .int (nI c), .int sd])).length) Slot.unset).toArray = ls at hl ⊢
  have hl : lv_has ls 4 [(0, .ref h), (1, .int (nI b)), (2, .int (nI c)), (3, .int sd)] := hl
  refine lv_aload_n hx hb d_Part_init_0 rfl (lv_at hl 0 rfl) ?_
  refine W.objInit hx hb hown (hwA (.methodLink R_Part 1 objectInit) m_65) (hwA (.instanceMethod objectInit) m_57) (hwA (.code objectInit ⟨#[0xb1]⟩ 1 none) oi_code) rfl (by rw [hml]; exact hl.1) rfl d_Part_init_1 (Nat.le_of_ble_eq_true rfl) (Nat.le_of_ble_eq_true rfl) ?_
  refine W.eq (g2 := F0 m 4 ls []) rfl ?_
  refine lv_aload_n hx hb d_Part_init_4 rfl (lv_at hl 0 rfl) ?_
  refine lv_iload_n hx hb d_Part_init_5 rfl (lv_at hl 1 rfl) ?_
  refine va_put (D := D) (ci := 1) (v := .int (nI b)) (ty := .int) (C := R_Part) (T := F_Part) (N := 3) hx hb hwA hin_Part t_Part t_Part_ok n_Part hown hK hP hD hS 0 rfl rfl 0 (by decide) (hwA (.fieldLink R_Part 7 "HopArena$Part" "base" "I") m_66) (fun _ h9 => h9) rfl (by decide +kernel) rfl rfl (Nat.le_of_ble_eq_true rfl) d_Part_init_6 (fun H locs hP hD hS => ?_)
  refine lv_aload_n hx hb d_Part_init_9 rfl (lv_at hl 0 rfl) ?_
  refine lv_iload_n hx hb d_Part_init_10 rfl (lv_at hl 2 rfl) ?_
  refine va_put (D := D) (ci := 1) (v := .int (nI c)) (ty := .int) (C := R_Part) (T := F_Part) (N := 3) hx hb hwA hin_Part t_Part t_Part_ok n_Part hown hK hP hD hS 0 rfl rfl 1 (by decide) (hwA (.fieldLink R_Part 13 "HopArena$Part" "capacity" "I") m_68) (fun _ h9 => h9) rfl (by decide +kernel) rfl rfl (Nat.le_of_ble_eq_true rfl) d_Part_init_11 (fun H locs hP hD hS => ?_)
  refine lv_aload_n hx hb d_Part_init_14 rfl (lv_at hl 0 rfl) ?_
  refine lv_iload_n hx hb d_Part_init_15 rfl (lv_at hl 3 rfl) ?_
  refine va_put (D := D) (ci := 1) (v := .int (sd)) (ty := .int) (C := R_Part) (T := F_Part) (N := 3) hx hb hwA hin_Part t_Part t_Part_ok n_Part hown hK hP hD hS 0 rfl rfl 2 (by decide) (hwA (.fieldLink R_Part 16 "HopArena$Part" "seed" "I") m_70) (fun _ h9 => h9) rfl (by decide +kernel) rfl rfl (Nat.le_of_ble_eq_true rfl) d_Part_init_16 (fun H locs hP hD hS => ?_)
  exact W.vret hx hb hr (fun t ht hW => ⟨rfl, by rw [ht]; exact hP, hS.F ht⟩) hS.2.2 d_Part_init_19
def q4 (x0 x1 x2 x3 : Nat) : Nat → Nat := fun i => if i = 0 then x0 else if i = 1 then x1 else if i = 2 then x2 else x3
def a6 (x0 x1 x2 x3 x4 x5 : Nat) : Nat → Nat := fun i => if i = 0 then x0 else if i = 1 then x1 else if i = 2 then x2 else if i = 3 then x3 else if i = 4 then x4 else x5
theorem pA_mk (x0 x1 x2 x3 : Nat) : va_up (va_up (va_up (fun _ => none) 0 (some x0)) 1 (some x1)) 2 (some x2) = pA (q4 x0 x1 x2 x3) := by
  funext i
  by_cases h : i < 3
  · rcases (show i = 0 ∨ i = 1 ∨ i = 2 by omega) with rfl | rfl | rfl <;> rfl
  · have h0 : i ≠ 0 := by omega
    have h1 : i ≠ 1 := by omega
    have h2 : i ≠ 2 := by omega
    unfold pA
    rw [va_up_ne _ _ h2, va_up_ne _ _ h1, va_up_ne _ _ h0, if_neg h]
def iB : Nat → Nat := fun i => if i = 3 then 0 else i * 8
def iP : Nat → Nat := fun _ => 8
def iS : IT := fun i => if i = 3 then 0 else nI (i + 1)
def hI_Q (D : va_G) (h0 : Nat) (A : Nat → Prop) : Array Value → State → Outcome → State → Prop := fun _ st o t => o = .returned none ∧ ∃ ca a q : Nat → Nat, a 0 = h0 ∧ va_P D hCl (wH ca a q (fun _ => 0) (fun _ => 0) (fun _ => false) (fun _ => 0) iB iP iS) t.heap ∧ va_K D hCl (tyH ca) t ∧ va_D A (wH ca a q (fun _ => 0) (fun _ => 0) (fun _ => false) (fun _ => 0) iB iP iS) ∧ va_F A st t
set_option maxHeartbeats 4000000 in
set_option maxRecDepth 100000 in
/-- HopArena() -/
theorem c_Hop_init (l : Launch) (D : va_G) (h0 sz : Nat) : Met l y_Hop_init w_Hop_init (rmD 2 9 786) (va_Pc [.ref h0] (fun U => va_AO R_Part U ∧ U.heap.size = sz ∧ va_P D hCl [(h0, .inr (0, [.null, .null, .null, .null, .null, .null]))] U.heap ∧ va_K D hCl [] U ∧ va_D (fun _ => True) [(h0, .inr (0, [.null, .null, .null, .null, .null, .null]))])) (hI_Q D h0 (va_A [(h0, .inr (0, [.null, .null, .null, .null, .null, .null]))] sz)) 9 786 (va_A [(h0, .inr (0, [.null, .null, .null, .null, .null, .null]))] sz) := by
  refine Met.ofW (cc := b_Hop_init) (maxL := 2) (ret := none) (by decide) rfl ?_
  intro p e s m args below meth c0 s₁ B0 hml hv
  obtain ⟨rfl, hAO, hsz, hP, hK, hD0⟩ := hv
  have hx := B0.exec
  have hb := B0.bytes
  have hr := B0.returns
  have hts := atoms_spec (ws := w_Hop_init) B0.pre
  have hown : s.vm.findClass R_Hop = some m.cls := findClass_of_methodNamed B0.named
  have hlocks := B0.notSynchronized
  have hwA : ∀ w ∈ wsA, w.before ([.ref h0] : List Value).toArray s = true := fun w h => hts w (List.mem_cons_of_mem _ h)
  have X : CallFix p m c0 b_Hop_init 2 s ([.ref h0] : List Value).toArray wsA R_Hop := ⟨hx, hb, hml, hown, hwA⟩
  have hl := lv_entry ([.ref h0]) (n := 2) (Nat.le_of_ble_eq_true rfl)
  rw [lg_entry_eq]
  generalize (lg_sl ([.ref h0]) ++ List.replicate (2 - (lg_sl ([.ref h0])).length) Slot.unset).toArray = ls at hl ⊢
  have hl : lv_has ls 2 [(0, .ref h0)] := hl
  have hin : meth.name = "<init>" := (name_of_methodNamed B0.named B0.method).1
  subst hsz
  have hD := hD0.self (sz := s.heap.size)
  generalize hAe : va_A [(h0, .inr (0, [.null, .null, .null, .null, .null, .null]))] s.heap.size = A at hD ⊢
  have hAA : ∀ q : Nat, s.heap.size ≤ q → A q := fun q h => by rw [← hAe]; exact Or.inr h
  have hS : va_S A s.heap s.heap [] := va_S.rf
  refine lv_aload_n hx hb d_Hop_init_0 rfl (lv_at hl 0 rfl) ?_
  refine W.objInit hx hb hown (hwA (.methodLink R_Hop 1 objectInit) m_56) (hwA (.instanceMethod objectInit) m_57) (hwA (.code objectInit ⟨#[0xb1]⟩ 1 none) oi_code) rfl (by rw [hml]; exact hl.1) rfl d_Hop_init_1 (Nat.le_of_ble_eq_true rfl) (Nat.le_of_ble_eq_true rfl) ?_
  refine W.eq (g2 := F0 m 4 ls []) rfl ?_
  refine lv_aload_n hx hb d_Hop_init_4 rfl (lv_at hl 0 rfl) ?_
  refine lv_sipush (v := 256) hx hb d_Hop_init_5 (by decide) ?_
  refine va_newa (atype := .int) (ty := .int) (N' := 256) (a0 := (256, .inl (fun _ => 0))) hx hb (hwA (.arrayClass .int) m_79) rfl hK hP hD hS hAA (fun cA => rfl) (by decide) (by decide) (by decide) (Nat.le_of_ble_eq_true rfl) (Nat.le_of_ble_eq_true rfl) d_Hop_init_8 (fun x1 c1 H hK hP hD hS => ?_)
  have hP : va_P D hCl [(h0, .inr (0, [.null, .null, .null, .null, .null, .null])), (x1, .inl (c1, 256, .inl (fun _ => 0)))] H := hP
  have hD : va_D A [(h0, .inr (0, [.null, .null, .null, .null, .null, .null])), (x1, .inl (c1, 256, .inl (fun _ => 0)))] := hD
  refine va_putF (D := D) (ci := 0) (v := .ref x1) (ty := .array .int) (C := R_Hop) (T := F_Hop) (N := 6) hx hb hwA hin_Hop t_Hop t_Hop_ok n_Hop hown hK hP hD hS 0 rfl rfl 0 (by decide) (hwA (.fieldLink R_Hop 9 "HopArena" "keys" "[I") m_81) (fun _ h9 => h9) rfl hin rfl (by decide +kernel) rfl rfl (Nat.le_of_ble_eq_true rfl) d_Hop_init_10 (fun H locs hP hD hS => ?_)
  have hP : va_P D hCl [(h0, .inr (0, [.ref x1, .null, .null, .null, .null, .null])), (x1, .inl (c1, 256, .inl (fun _ => 0)))] H := hP
  have hD : va_D A [(h0, .inr (0, [.ref x1, .null, .null, .null, .null, .null])), (x1, .inl (c1, 256, .inl (fun _ => 0)))] := hD
  refine lv_aload_n hx hb d_Hop_init_13 rfl (lv_at hl 0 rfl) ?_
  refine lv_sipush (v := 256) hx hb d_Hop_init_14 (by decide) ?_
  refine va_newa (atype := .int) (ty := .int) (N' := 256) (a0 := (256, .inl (fun _ => 0))) hx hb (hwA (.arrayClass .int) m_79) rfl hK hP hD hS hAA (fun cA => rfl) (by decide) (by decide) (by decide) (Nat.le_of_ble_eq_true rfl) (Nat.le_of_ble_eq_true rfl) d_Hop_init_17 (fun x2 c2 H hK hP hD hS => ?_)
  have hP : va_P D hCl [(h0, .inr (0, [.ref x1, .null, .null, .null, .null, .null])), (x1, .inl (c1, 256, .inl (fun _ => 0))), (x2, .inl (c2, 256, .inl (fun _ => 0)))] H := hP
  have hD : va_D A [(h0, .inr (0, [.ref x1, .null, .null, .null, .null, .null])), (x1, .inl (c1, 256, .inl (fun _ => 0))), (x2, .inl (c2, 256, .inl (fun _ => 0)))] := hD
  refine va_putF (D := D) (ci := 0) (v := .ref x2) (ty := .array .int) (C := R_Hop) (T := F_Hop) (N := 6) hx hb hwA hin_Hop t_Hop t_Hop_ok n_Hop hown hK hP hD hS 0 rfl rfl 1 (by decide) (hwA (.fieldLink R_Hop 13 "HopArena" "values" "[I") m_82) (fun _ h9 => h9) rfl hin rfl (by decide +kernel) rfl rfl (Nat.le_of_ble_eq_true rfl) d_Hop_init_19 (fun H locs hP hD hS => ?_)
  have hP : va_P D hCl [(h0, .inr (0, [.ref x1, .ref x2, .null, .null, .null, .null])), (x1, .inl (c1, 256, .inl (fun _ => 0))), (x2, .inl (c2, 256, .inl (fun _ => 0)))] H := hP
  have hD : va_D A [(h0, .inr (0, [.ref x1, .ref x2, .null, .null, .null, .null])), (x1, .inl (c1, 256, .inl (fun _ => 0))), (x2, .inl (c2, 256, .inl (fun _ => 0)))] := hD
  refine lv_aload_n hx hb d_Hop_init_22 rfl (lv_at hl 0 rfl) ?_
  refine lv_sipush (v := 256) hx hb d_Hop_init_23 (by decide) ?_
  refine va_newa (atype := .boolean) (ty := .boolean) (N' := 256) (a0 := (256, .inl (fun _ => 0))) hx hb (hwA (.arrayClass .boolean) m_80) rfl hK hP hD hS hAA (fun cA => rfl) (by decide) (by decide) (by decide) (Nat.le_of_ble_eq_true rfl) (Nat.le_of_ble_eq_true rfl) d_Hop_init_26 (fun x3 c3 H hK hP hD hS => ?_)
  have hP : va_P D hCl [(h0, .inr (0, [.ref x1, .ref x2, .null, .null, .null, .null])), (x1, .inl (c1, 256, .inl (fun _ => 0))), (x2, .inl (c2, 256, .inl (fun _ => 0))), (x3, .inl (c3, 256, .inl (fun _ => 0)))] H := hP
  have hD : va_D A [(h0, .inr (0, [.ref x1, .ref x2, .null, .null, .null, .null])), (x1, .inl (c1, 256, .inl (fun _ => 0))), (x2, .inl (c2, 256, .inl (fun _ => 0))), (x3, .inl (c3, 256, .inl (fun _ => 0)))] := hD
  refine va_putF (D := D) (ci := 0) (v := .ref x3) (ty := .array .boolean) (C := R_Hop) (T := F_Hop) (N := 6) hx hb hwA hin_Hop t_Hop t_Hop_ok n_Hop hown hK hP hD hS 0 rfl rfl 2 (by decide) (hwA (.fieldLink R_Hop 16 "HopArena" "taken" "[Z") m_83) (fun _ h9 => h9) rfl hin rfl (by decide +kernel) rfl rfl (Nat.le_of_ble_eq_true rfl) d_Hop_init_28 (fun H locs hP hD hS => ?_)
  have hP : va_P D hCl [(h0, .inr (0, [.ref x1, .ref x2, .ref x3, .null, .null, .null])), (x1, .inl (c1, 256, .inl (fun _ => 0))), (x2, .inl (c2, 256, .inl (fun _ => 0))), (x3, .inl (c3, 256, .inl (fun _ => 0)))] H := hP
  have hD : va_D A [(h0, .inr (0, [.ref x1, .ref x2, .ref x3, .null, .null, .null])), (x1, .inl (c1, 256, .inl (fun _ => 0))), (x2, .inl (c2, 256, .inl (fun _ => 0))), (x3, .inl (c3, 256, .inl (fun _ => 0)))] := hD
  refine lv_aload_n hx hb d_Hop_init_31 rfl (lv_at hl 0 rfl) ?_
  refine lv_iconst (v := 3) hx hb d_Hop_init_32 (by decide) ?_
  refine va_newa (atype := .int) (ty := .int) (N' := 3) (a0 := (3, .inl (fun _ => 0))) hx hb (hwA (.arrayClass .int) m_79) rfl hK hP hD hS hAA (fun cA => rfl) (by decide) (by decide) (by decide) (Nat.le_of_ble_eq_true rfl) (Nat.le_of_ble_eq_true rfl) d_Hop_init_33 (fun x5 c5 H hK hP hD hS => ?_)
  have hP : va_P D hCl [(h0, .inr (0, [.ref x1, .ref x2, .ref x3, .null, .null, .null])), (x1, .inl (c1, 256, .inl (fun _ => 0))), (x2, .inl (c2, 256, .inl (fun _ => 0))), (x3, .inl (c3, 256, .inl (fun _ => 0))), (x5, .inl (c5, 3, .inl (fun _ => 0)))] H := hP
  have hD : va_D A [(h0, .inr (0, [.ref x1, .ref x2, .ref x3, .null, .null, .null])), (x1, .inl (c1, 256, .inl (fun _ => 0))), (x2, .inl (c2, 256, .inl (fun _ => 0))), (x3, .inl (c3, 256, .inl (fun _ => 0))), (x5, .inl (c5, 3, .inl (fun _ => 0)))] := hD
  refine va_putF (D := D) (ci := 0) (v := .ref x5) (ty := .array .int) (C := R_Hop) (T := F_Hop) (N := 6) hx hb hwA hin_Hop t_Hop t_Hop_ok n_Hop hown hK hP hD hS 0 rfl rfl 4 (by decide) (hwA (.fieldLink R_Hop 20 "HopArena" "counts" "[I") m_85) (fun _ h9 => h9) rfl hin rfl (by decide +kernel) rfl rfl (Nat.le_of_ble_eq_true rfl) d_Hop_init_35 (fun H locs hP hD hS => ?_)
  have hP : va_P D hCl [(h0, .inr (0, [.ref x1, .ref x2, .ref x3, .null, .ref x5, .null])), (x1, .inl (c1, 256, .inl (fun _ => 0))), (x2, .inl (c2, 256, .inl (fun _ => 0))), (x3, .inl (c3, 256, .inl (fun _ => 0))), (x5, .inl (c5, 3, .inl (fun _ => 0)))] H := hP
  have hD : va_D A [(h0, .inr (0, [.ref x1, .ref x2, .ref x3, .null, .ref x5, .null])), (x1, .inl (c1, 256, .inl (fun _ => 0))), (x2, .inl (c2, 256, .inl (fun _ => 0))), (x3, .inl (c3, 256, .inl (fun _ => 0))), (x5, .inl (c5, 3, .inl (fun _ => 0)))] := hD
  refine lv_aload_n hx hb d_Hop_init_38 rfl (lv_at hl 0 rfl) ?_
  refine lv_iconst (v := 3) hx hb d_Hop_init_39 (by decide) ?_
  refine va_newq (N' := 3) hx hb hown (hwA (.classLink R_Hop 23 R_Part) m_59) hAO hK hP hD hS hAA (by decide) (by decide) (by decide) (Nat.le_of_ble_eq_true rfl) (Nat.le_of_ble_eq_true rfl) d_Hop_init_40 (fun x4 c4 H hK hP hD hS => ?_)
  have hP : va_P D hCl [(h0, .inr (0, [.ref x1, .ref x2, .ref x3, .null, .ref x5, .null])), (x1, .inl (c1, 256, .inl (fun _ => 0))), (x2, .inl (c2, 256, .inl (fun _ => 0))), (x3, .inl (c3, 256, .inl (fun _ => 0))), (x5, .inl (c5, 3, .inl (fun _ => 0))), (x4, .inl (c4, 3, .inr (.inr (.inr (.inr (fun _ => none))))))] H := hP
  have hD : va_D A [(h0, .inr (0, [.ref x1, .ref x2, .ref x3, .null, .ref x5, .null])), (x1, .inl (c1, 256, .inl (fun _ => 0))), (x2, .inl (c2, 256, .inl (fun _ => 0))), (x3, .inl (c3, 256, .inl (fun _ => 0))), (x5, .inl (c5, 3, .inl (fun _ => 0))), (x4, .inl (c4, 3, .inr (.inr (.inr (.inr (fun _ => none))))))] := hD
  refine va_putF (D := D) (ci := 0) (v := .ref x4) (ty := .array (.object "HopArena$Part")) (C := R_Hop) (T := F_Hop) (N := 6) hx hb hwA hin_Hop t_Hop t_Hop_ok n_Hop hown hK hP hD hS 0 rfl rfl 3 (by decide) (hwA (.fieldLink R_Hop 25 "HopArena" "parts" "[LHopArena$Part;") m_84) (fun _ h9 => h9) rfl hin rfl (by decide +kernel) rfl rfl (Nat.le_of_ble_eq_true rfl) d_Hop_init_43 (fun H locs hP hD hS => ?_)
  have hP : va_P D hCl [(h0, .inr (0, [.ref x1, .ref x2, .ref x3, .ref x4, .ref x5, .null])), (x1, .inl (c1, 256, .inl (fun _ => 0))), (x2, .inl (c2, 256, .inl (fun _ => 0))), (x3, .inl (c3, 256, .inl (fun _ => 0))), (x5, .inl (c5, 3, .inl (fun _ => 0))), (x4, .inl (c4, 3, .inr (.inr (.inr (.inr (fun _ => none))))))] H := hP
  have hD : va_D A [(h0, .inr (0, [.ref x1, .ref x2, .ref x3, .ref x4, .ref x5, .null])), (x1, .inl (c1, 256, .inl (fun _ => 0))), (x2, .inl (c2, 256, .inl (fun _ => 0))), (x3, .inl (c3, 256, .inl (fun _ => 0))), (x5, .inl (c5, 3, .inl (fun _ => 0))), (x4, .inl (c4, 3, .inr (.inr (.inr (.inr (fun _ => none))))))] := hD
  refine lv_iconst (v := 0) hx hb d_Hop_init_46 (by decide) ?_
  refine lv_istore_n (lv' := [(1, .int 0), (0, .ref h0)]) hx hb d_Hop_init_47 rfl hl (by decide) rfl (fun ls hl => ?_)
  refine lv_iload_n hx hb d_Hop_init_48 rfl (lv_at hl 0 rfl) ?_
  refine lv_iconst (v := 3) hx hb d_Hop_init_49 (by decide) ?_
  refine lvF_icmp_ge (tgt := 81) hx hb d_Hop_init_50 (by decide) (by decide) ?_
  refine lv_aload_n hx hb d_Hop_init_53 rfl (lv_at hl 1 rfl) ?_
  refine va_get (D := D) (ci := 0) (v := .ref x4) (C := R_Hop) (T := F_Hop) (N := 6) hx hb hwA hin_Hop hown hK hP 0 rfl rfl 3 (by decide) (hwA (.fieldLink R_Hop 25 "HopArena" "parts" "[LHopArena$Part;") m_84) (fun _ h9 => h9) rfl d_Hop_init_54 ?_
  refine lv_iload_n hx hb d_Hop_init_57 rfl (lv_at hl 0 rfl) ?_
  refine va_new (ci := 1) (fs := [.int 0, .int 0, .int 0]) (C := R_Part) (T := F_Part) (N := 3) hx hb hwA hin_Part t_Part t_Part_ok hown (hwA (.classLink R_Hop 23 R_Part) m_59) (hwA (.instantiable R_Part 3) m_61) (hwA (.initialized R_Part) m_41) hK hP hD hS hAA rfl (fun j hj => by rcases (show j = 0 ∨ j = 1 ∨ j = 2 by omega) with rfl | rfl | rfl <;> rfl) (Nat.le_of_ble_eq_true rfl) (Nat.le_of_ble_eq_true rfl) d_Hop_init_58 (fun y0 H hP hD hS => ?_)
  have hP : va_P D hCl [(h0, .inr (0, [.ref x1, .ref x2, .ref x3, .ref x4, .ref x5, .null])), (x1, .inl (c1, 256, .inl (fun _ => 0))), (x2, .inl (c2, 256, .inl (fun _ => 0))), (x3, .inl (c3, 256, .inl (fun _ => 0))), (x5, .inl (c5, 3, .inl (fun _ => 0))), (x4, .inl (c4, 3, .inr (.inr (.inr (.inr (fun _ => none)))))), (y0, .inr (1, [.int 0, .int 0, .int 0]))] H := hP
  have hD : va_D A [(h0, .inr (0, [.ref x1, .ref x2, .ref x3, .ref x4, .ref x5, .null])), (x1, .inl (c1, 256, .inl (fun _ => 0))), (x2, .inl (c2, 256, .inl (fun _ => 0))), (x3, .inl (c3, 256, .inl (fun _ => 0))), (x5, .inl (c5, 3, .inl (fun _ => 0))), (x4, .inl (c4, 3, .inr (.inr (.inr (.inr (fun _ => none)))))), (y0, .inr (1, [.int 0, .int 0, .int 0]))] := hD
  refine lv_dup hx hb d_Hop_init_61 rfl ?_
  refine lv_iload_n hx hb d_Hop_init_62 rfl (lv_at hl 0 rfl) ?_
  refine lv_bipush (v := 8) hx hb d_Hop_init_63 (by decide) ?_
  refine lv_imul hx hb d_Hop_init_65 ?_
  refine lv_tope (y := nI 0) (by decide) ?_
  refine lv_bipush (v := 8) hx hb d_Hop_init_66 (by decide) ?_
  refine lv_iload_n hx hb d_Hop_init_68 rfl (lv_at hl 0 rfl) ?_
  refine lv_iconst (v := 1) hx hb d_Hop_init_69 (by decide) ?_
  refine lv_iadd hx hb d_Hop_init_70 ?_
  refine lv_tope (y := nI 1) (by decide) ?_
  refine hw_one (i := 6) (v := none) (va_runI (As := [.int (nI 0), .int (nI 8), .int (nI 1)]) (rest := [.ref y0, .int 0, .ref x4]) X (c_Part_init l D y0 0 8 (nI 1)) (cwI 3 hwA (gI (gC m_64)) rfl rfl rfl (hwA (.initialized R_Part) m_41) (hwA (.methodLink R_Hop 29 y_Part_init) m_62) (hwA (.instanceMethod y_Part_init) m_63) rfl (by decide +kernel) ⟨Nat.le_of_ble_eq_true rfl, Nat.le_of_ble_eq_true rfl⟩) ⟨hb_blindW, fun U hU hW => ⟨rfl, by rw [hU]; exact hP.sub [6] rfl, va_K.moved hW.alike (hK.sub [] rfl), (hD.sub (ws' := [(y0, .inr (1, [.int 0, .int 0, .int 0]))]) [6] (by decide) rfl).weaken (fun _ _ _ _ => trivial)⟩⟩ rfl rfl hl.1 rfl (lv_room (Nat.le_of_ble_eq_true rfl)) d_Hop_init_71 ⟨Nat.le_of_ble_eq_true rfl, Nat.le_of_ble_eq_true rfl⟩) hP hD hS rfl (fun H locs hP hD hS => ?_)
  have hP : va_P D hCl [(h0, .inr (0, [.ref x1, .ref x2, .ref x3, .ref x4, .ref x5, .null])), (x1, .inl (c1, 256, .inl (fun _ => 0))), (x2, .inl (c2, 256, .inl (fun _ => 0))), (x3, .inl (c3, 256, .inl (fun _ => 0))), (x5, .inl (c5, 3, .inl (fun _ => 0))), (x4, .inl (c4, 3, .inr (.inr (.inr (.inr (fun _ => none)))))), (y0, pt 0 8 (nI 1))] H := hP
  have hD : va_D A [(h0, .inr (0, [.ref x1, .ref x2, .ref x3, .ref x4, .ref x5, .null])), (x1, .inl (c1, 256, .inl (fun _ => 0))), (x2, .inl (c2, 256, .inl (fun _ => 0))), (x3, .inl (c3, 256, .inl (fun _ => 0))), (x5, .inl (c5, 3, .inl (fun _ => 0))), (x4, .inl (c4, 3, .inr (.inr (.inr (.inr (fun _ => none)))))), (y0, pt 0 8 (nI 1))] := hD
  refine va_astq (r := (R_Part, F_Part, 3)) hx hb hK hP hD hS 5 4 6 1 rfl rfl rfl rfl (vp_in_nI (n := 0) (by decide) (by decide)) d_Hop_init_74 (fun H locs hP hD hS => ?_)
  have hP : va_P D hCl [(h0, .inr (0, [.ref x1, .ref x2, .ref x3, .ref x4, .ref x5, .null])), (x1, .inl (c1, 256, .inl (fun _ => 0))), (x2, .inl (c2, 256, .inl (fun _ => 0))), (x3, .inl (c3, 256, .inl (fun _ => 0))), (x5, .inl (c5, 3, .inl (fun _ => 0))), (x4, .inl (c4, 3, .inr (.inr (.inr (.inr (va_up (fun _ => none) 0 (some y0))))))), (y0, pt 0 8 (nI 1))] H := hP
  have hD : va_D A [(h0, .inr (0, [.ref x1, .ref x2, .ref x3, .ref x4, .ref x5, .null])), (x1, .inl (c1, 256, .inl (fun _ => 0))), (x2, .inl (c2, 256, .inl (fun _ => 0))), (x3, .inl (c3, 256, .inl (fun _ => 0))), (x5, .inl (c5, 3, .inl (fun _ => 0))), (x4, .inl (c4, 3, .inr (.inr (.inr (.inr (va_up (fun _ => none) 0 (some y0))))))), (y0, pt 0 8 (nI 1))] := hD
  refine lv_iinc (k := 0) (v := 1) (lv' := [(1, .int 1), (0, .ref h0)]) hx hb d_Hop_init_75 hl rfl (by decide) (by decide) rfl (fun ls hl => ?_)
  refine lv_goto (tgt := 48) hx hb d_Hop_init_78 (by decide) ?_
  refine lv_iload_n hx hb d_Hop_init_48 rfl (lv_at hl 0 rfl) ?_
  refine lv_iconst (v := 3) hx hb d_Hop_init_49 (by decide) ?_
  refine lvF_icmp_ge (tgt := 81) hx hb d_Hop_init_50 (by decide) (by decide) ?_
  refine lv_aload_n hx hb d_Hop_init_53 rfl (lv_at hl 1 rfl) ?_
  refine va_get (D := D) (ci := 0) (v := .ref x4) (C := R_Hop) (T := F_Hop) (N := 6) hx hb hwA hin_Hop hown hK hP 0 rfl rfl 3 (by decide) (hwA (.fieldLink R_Hop 25 "HopArena" "parts" "[LHopArena$Part;") m_84) (fun _ h9 => h9) rfl d_Hop_init_54 ?_
  refine lv_iload_n hx hb d_Hop_init_57 rfl (lv_at hl 0 rfl) ?_
  refine va_new (ci := 1) (fs := [.int 0, .int 0, .int 0]) (C := R_Part) (T := F_Part) (N := 3) hx hb hwA hin_Part t_Part t_Part_ok hown (hwA (.classLink R_Hop 23 R_Part) m_59) (hwA (.instantiable R_Part 3) m_61) (hwA (.initialized R_Part) m_41) hK hP hD hS hAA rfl (fun j hj => by rcases (show j = 0 ∨ j = 1 ∨ j = 2 by omega) with rfl | rfl | rfl <;> rfl) (Nat.le_of_ble_eq_true rfl) (Nat.le_of_ble_eq_true rfl) d_Hop_init_58 (fun y1 H hP hD hS => ?_)
  have hP : va_P D hCl [(h0, .inr (0, [.ref x1, .ref x2, .ref x3, .ref x4, .ref x5, .null])), (x1, .inl (c1, 256, .inl (fun _ => 0))), (x2, .inl (c2, 256, .inl (fun _ => 0))), (x3, .inl (c3, 256, .inl (fun _ => 0))), (x5, .inl (c5, 3, .inl (fun _ => 0))), (x4, .inl (c4, 3, .inr (.inr (.inr (.inr (va_up (fun _ => none) 0 (some y0))))))), (y0, pt 0 8 (nI 1)), (y1, .inr (1, [.int 0, .int 0, .int 0]))] H := hP
  have hD : va_D A [(h0, .inr (0, [.ref x1, .ref x2, .ref x3, .ref x4, .ref x5, .null])), (x1, .inl (c1, 256, .inl (fun _ => 0))), (x2, .inl (c2, 256, .inl (fun _ => 0))), (x3, .inl (c3, 256, .inl (fun _ => 0))), (x5, .inl (c5, 3, .inl (fun _ => 0))), (x4, .inl (c4, 3, .inr (.inr (.inr (.inr (va_up (fun _ => none) 0 (some y0))))))), (y0, pt 0 8 (nI 1)), (y1, .inr (1, [.int 0, .int 0, .int 0]))] := hD
  refine lv_dup hx hb d_Hop_init_61 rfl ?_
  refine lv_iload_n hx hb d_Hop_init_62 rfl (lv_at hl 0 rfl) ?_
  refine lv_bipush (v := 8) hx hb d_Hop_init_63 (by decide) ?_
  refine lv_imul hx hb d_Hop_init_65 ?_
  refine lv_tope (y := nI 8) (by decide) ?_
  refine lv_bipush (v := 8) hx hb d_Hop_init_66 (by decide) ?_
  refine lv_iload_n hx hb d_Hop_init_68 rfl (lv_at hl 0 rfl) ?_
  refine lv_iconst (v := 1) hx hb d_Hop_init_69 (by decide) ?_
  refine lv_iadd hx hb d_Hop_init_70 ?_
  refine lv_tope (y := nI 2) (by decide) ?_
  refine hw_one (i := 7) (v := none) (va_runI (As := [.int (nI 8), .int (nI 8), .int (nI 2)]) (rest := [.ref y1, .int 1, .ref x4]) X (c_Part_init l D y1 8 8 (nI 2)) (cwI 3 hwA (gI (gC m_64)) rfl rfl rfl (hwA (.initialized R_Part) m_41) (hwA (.methodLink R_Hop 29 y_Part_init) m_62) (hwA (.instanceMethod y_Part_init) m_63) rfl (by decide +kernel) ⟨Nat.le_of_ble_eq_true rfl, Nat.le_of_ble_eq_true rfl⟩) ⟨hb_blindW, fun U hU hW => ⟨rfl, by rw [hU]; exact hP.sub [7] rfl, va_K.moved hW.alike (hK.sub [] rfl), (hD.sub (ws' := [(y1, .inr (1, [.int 0, .int 0, .int 0]))]) [7] (by decide) rfl).weaken (fun _ _ _ _ => trivial)⟩⟩ rfl rfl hl.1 rfl (lv_room (Nat.le_of_ble_eq_true rfl)) d_Hop_init_71 ⟨Nat.le_of_ble_eq_true rfl, Nat.le_of_ble_eq_true rfl⟩) hP hD hS rfl (fun H locs hP hD hS => ?_)
  have hP : va_P D hCl [(h0, .inr (0, [.ref x1, .ref x2, .ref x3, .ref x4, .ref x5, .null])), (x1, .inl (c1, 256, .inl (fun _ => 0))), (x2, .inl (c2, 256, .inl (fun _ => 0))), (x3, .inl (c3, 256, .inl (fun _ => 0))), (x5, .inl (c5, 3, .inl (fun _ => 0))), (x4, .inl (c4, 3, .inr (.inr (.inr (.inr (va_up (fun _ => none) 0 (some y0))))))), (y0, pt 0 8 (nI 1)), (y1, pt 8 8 (nI 2))] H := hP
  have hD : va_D A [(h0, .inr (0, [.ref x1, .ref x2, .ref x3, .ref x4, .ref x5, .null])), (x1, .inl (c1, 256, .inl (fun _ => 0))), (x2, .inl (c2, 256, .inl (fun _ => 0))), (x3, .inl (c3, 256, .inl (fun _ => 0))), (x5, .inl (c5, 3, .inl (fun _ => 0))), (x4, .inl (c4, 3, .inr (.inr (.inr (.inr (va_up (fun _ => none) 0 (some y0))))))), (y0, pt 0 8 (nI 1)), (y1, pt 8 8 (nI 2))] := hD
  refine va_astq (r := (R_Part, F_Part, 3)) hx hb hK hP hD hS 5 4 7 1 rfl rfl rfl rfl (vp_in_nI (n := 1) (by decide) (by decide)) d_Hop_init_74 (fun H locs hP hD hS => ?_)
  have hP : va_P D hCl [(h0, .inr (0, [.ref x1, .ref x2, .ref x3, .ref x4, .ref x5, .null])), (x1, .inl (c1, 256, .inl (fun _ => 0))), (x2, .inl (c2, 256, .inl (fun _ => 0))), (x3, .inl (c3, 256, .inl (fun _ => 0))), (x5, .inl (c5, 3, .inl (fun _ => 0))), (x4, .inl (c4, 3, .inr (.inr (.inr (.inr (va_up (va_up (fun _ => none) 0 (some y0)) 1 (some y1))))))), (y0, pt 0 8 (nI 1)), (y1, pt 8 8 (nI 2))] H := hP
  have hD : va_D A [(h0, .inr (0, [.ref x1, .ref x2, .ref x3, .ref x4, .ref x5, .null])), (x1, .inl (c1, 256, .inl (fun _ => 0))), (x2, .inl (c2, 256, .inl (fun _ => 0))), (x3, .inl (c3, 256, .inl (fun _ => 0))), (x5, .inl (c5, 3, .inl (fun _ => 0))), (x4, .inl (c4, 3, .inr (.inr (.inr (.inr (va_up (va_up (fun _ => none) 0 (some y0)) 1 (some y1))))))), (y0, pt 0 8 (nI 1)), (y1, pt 8 8 (nI 2))] := hD
  refine lv_iinc (k := 0) (v := 2) (lv' := [(1, .int 2), (0, .ref h0)]) hx hb d_Hop_init_75 hl rfl (by decide) (by decide) rfl (fun ls hl => ?_)
  refine lv_goto (tgt := 48) hx hb d_Hop_init_78 (by decide) ?_
  refine lv_iload_n hx hb d_Hop_init_48 rfl (lv_at hl 0 rfl) ?_
  refine lv_iconst (v := 3) hx hb d_Hop_init_49 (by decide) ?_
  refine lvF_icmp_ge (tgt := 81) hx hb d_Hop_init_50 (by decide) (by decide) ?_
  refine lv_aload_n hx hb d_Hop_init_53 rfl (lv_at hl 1 rfl) ?_
  refine va_get (D := D) (ci := 0) (v := .ref x4) (C := R_Hop) (T := F_Hop) (N := 6) hx hb hwA hin_Hop hown hK hP 0 rfl rfl 3 (by decide) (hwA (.fieldLink R_Hop 25 "HopArena" "parts" "[LHopArena$Part;") m_84) (fun _ h9 => h9) rfl d_Hop_init_54 ?_
  refine lv_iload_n hx hb d_Hop_init_57 rfl (lv_at hl 0 rfl) ?_
  refine va_new (ci := 1) (fs := [.int 0, .int 0, .int 0]) (C := R_Part) (T := F_Part) (N := 3) hx hb hwA hin_Part t_Part t_Part_ok hown (hwA (.classLink R_Hop 23 R_Part) m_59) (hwA (.instantiable R_Part 3) m_61) (hwA (.initialized R_Part) m_41) hK hP hD hS hAA rfl (fun j hj => by rcases (show j = 0 ∨ j = 1 ∨ j = 2 by omega) with rfl | rfl | rfl <;> rfl) (Nat.le_of_ble_eq_true rfl) (Nat.le_of_ble_eq_true rfl) d_Hop_init_58 (fun y2 H hP hD hS => ?_)
  have hP : va_P D hCl [(h0, .inr (0, [.ref x1, .ref x2, .ref x3, .ref x4, .ref x5, .null])), (x1, .inl (c1, 256, .inl (fun _ => 0))), (x2, .inl (c2, 256, .inl (fun _ => 0))), (x3, .inl (c3, 256, .inl (fun _ => 0))), (x5, .inl (c5, 3, .inl (fun _ => 0))), (x4, .inl (c4, 3, .inr (.inr (.inr (.inr (va_up (va_up (fun _ => none) 0 (some y0)) 1 (some y1))))))), (y0, pt 0 8 (nI 1)), (y1, pt 8 8 (nI 2)), (y2, .inr (1, [.int 0, .int 0, .int 0]))] H := hP
  have hD : va_D A [(h0, .inr (0, [.ref x1, .ref x2, .ref x3, .ref x4, .ref x5, .null])), (x1, .inl (c1, 256, .inl (fun _ => 0))), (x2, .inl (c2, 256, .inl (fun _ => 0))), (x3, .inl (c3, 256, .inl (fun _ => 0))), (x5, .inl (c5, 3, .inl (fun _ => 0))), (x4, .inl (c4, 3, .inr (.inr (.inr (.inr (va_up (va_up (fun _ => none) 0 (some y0)) 1 (some y1))))))), (y0, pt 0 8 (nI 1)), (y1, pt 8 8 (nI 2)), (y2, .inr (1, [.int 0, .int 0, .int 0]))] := hD
  refine lv_dup hx hb d_Hop_init_61 rfl ?_
  refine lv_iload_n hx hb d_Hop_init_62 rfl (lv_at hl 0 rfl) ?_
  refine lv_bipush (v := 8) hx hb d_Hop_init_63 (by decide) ?_
  refine lv_imul hx hb d_Hop_init_65 ?_
  refine lv_tope (y := nI 16) (by decide) ?_
  refine lv_bipush (v := 8) hx hb d_Hop_init_66 (by decide) ?_
  refine lv_iload_n hx hb d_Hop_init_68 rfl (lv_at hl 0 rfl) ?_
  refine lv_iconst (v := 1) hx hb d_Hop_init_69 (by decide) ?_
  refine lv_iadd hx hb d_Hop_init_70 ?_
  refine lv_tope (y := nI 3) (by decide) ?_
  refine hw_one (i := 8) (v := none) (va_runI (As := [.int (nI 16), .int (nI 8), .int (nI 3)]) (rest := [.ref y2, .int 2, .ref x4]) X (c_Part_init l D y2 16 8 (nI 3)) (cwI 3 hwA (gI (gC m_64)) rfl rfl rfl (hwA (.initialized R_Part) m_41) (hwA (.methodLink R_Hop 29 y_Part_init) m_62) (hwA (.instanceMethod y_Part_init) m_63) rfl (by decide +kernel) ⟨Nat.le_of_ble_eq_true rfl, Nat.le_of_ble_eq_true rfl⟩) ⟨hb_blindW, fun U hU hW => ⟨rfl, by rw [hU]; exact hP.sub [8] rfl, va_K.moved hW.alike (hK.sub [] rfl), (hD.sub (ws' := [(y2, .inr (1, [.int 0, .int 0, .int 0]))]) [8] (by decide) rfl).weaken (fun _ _ _ _ => trivial)⟩⟩ rfl rfl hl.1 rfl (lv_room (Nat.le_of_ble_eq_true rfl)) d_Hop_init_71 ⟨Nat.le_of_ble_eq_true rfl, Nat.le_of_ble_eq_true rfl⟩) hP hD hS rfl (fun H locs hP hD hS => ?_)
  have hP : va_P D hCl [(h0, .inr (0, [.ref x1, .ref x2, .ref x3, .ref x4, .ref x5, .null])), (x1, .inl (c1, 256, .inl (fun _ => 0))), (x2, .inl (c2, 256, .inl (fun _ => 0))), (x3, .inl (c3, 256, .inl (fun _ => 0))), (x5, .inl (c5, 3, .inl (fun _ => 0))), (x4, .inl (c4, 3, .inr (.inr (.inr (.inr (va_up (va_up (fun _ => none) 0 (some y0)) 1 (some y1))))))), (y0, pt 0 8 (nI 1)), (y1, pt 8 8 (nI 2)), (y2, pt 16 8 (nI 3))] H := hP
  have hD : va_D A [(h0, .inr (0, [.ref x1, .ref x2, .ref x3, .ref x4, .ref x5, .null])), (x1, .inl (c1, 256, .inl (fun _ => 0))), (x2, .inl (c2, 256, .inl (fun _ => 0))), (x3, .inl (c3, 256, .inl (fun _ => 0))), (x5, .inl (c5, 3, .inl (fun _ => 0))), (x4, .inl (c4, 3, .inr (.inr (.inr (.inr (va_up (va_up (fun _ => none) 0 (some y0)) 1 (some y1))))))), (y0, pt 0 8 (nI 1)), (y1, pt 8 8 (nI 2)), (y2, pt 16 8 (nI 3))] := hD
  refine va_astq (r := (R_Part, F_Part, 3)) hx hb hK hP hD hS 5 4 8 1 rfl rfl rfl rfl (vp_in_nI (n := 2) (by decide) (by decide)) d_Hop_init_74 (fun H locs hP hD hS => ?_)
  have hP : va_P D hCl [(h0, .inr (0, [.ref x1, .ref x2, .ref x3, .ref x4, .ref x5, .null])), (x1, .inl (c1, 256, .inl (fun _ => 0))), (x2, .inl (c2, 256, .inl (fun _ => 0))), (x3, .inl (c3, 256, .inl (fun _ => 0))), (x5, .inl (c5, 3, .inl (fun _ => 0))), (x4, .inl (c4, 3, .inr (.inr (.inr (.inr (va_up (va_up (va_up (fun _ => none) 0 (some y0)) 1 (some y1)) 2 (some y2))))))), (y0, pt 0 8 (nI 1)), (y1, pt 8 8 (nI 2)), (y2, pt 16 8 (nI 3))] H := hP
  have hD : va_D A [(h0, .inr (0, [.ref x1, .ref x2, .ref x3, .ref x4, .ref x5, .null])), (x1, .inl (c1, 256, .inl (fun _ => 0))), (x2, .inl (c2, 256, .inl (fun _ => 0))), (x3, .inl (c3, 256, .inl (fun _ => 0))), (x5, .inl (c5, 3, .inl (fun _ => 0))), (x4, .inl (c4, 3, .inr (.inr (.inr (.inr (va_up (va_up (va_up (fun _ => none) 0 (some y0)) 1 (some y1)) 2 (some y2))))))), (y0, pt 0 8 (nI 1)), (y1, pt 8 8 (nI 2)), (y2, pt 16 8 (nI 3))] := hD
  refine lv_iinc (k := 0) (v := 3) (lv' := [(1, .int 3), (0, .ref h0)]) hx hb d_Hop_init_75 hl rfl (by decide) (by decide) rfl (fun ls hl => ?_)
  refine lv_goto (tgt := 48) hx hb d_Hop_init_78 (by decide) ?_
  refine lv_iload_n hx hb d_Hop_init_48 rfl (lv_at hl 0 rfl) ?_
  refine lv_iconst (v := 3) hx hb d_Hop_init_49 (by decide) ?_
  refine lvT_icmp_ge (tgt := 81) hx hb d_Hop_init_50 (by decide) (by decide) ?_
  refine lv_aload_n hx hb d_Hop_init_81 rfl (lv_at hl 1 rfl) ?_
  refine va_new (ci := 1) (fs := [.int 0, .int 0, .int 0]) (C := R_Part) (T := F_Part) (N := 3) hx hb hwA hin_Part t_Part t_Part_ok hown (hwA (.classLink R_Hop 23 R_Part) m_59) (hwA (.instantiable R_Part 3) m_61) (hwA (.initialized R_Part) m_41) hK hP hD hS hAA rfl (fun j hj => by rcases (show j = 0 ∨ j = 1 ∨ j = 2 by omega) with rfl | rfl | rfl <;> rfl) (Nat.le_of_ble_eq_true rfl) (Nat.le_of_ble_eq_true rfl) d_Hop_init_82 (fun y3 H hP hD hS => ?_)
  have hP : va_P D hCl [(h0, .inr (0, [.ref x1, .ref x2, .ref x3, .ref x4, .ref x5, .null])), (x1, .inl (c1, 256, .inl (fun _ => 0))), (x2, .inl (c2, 256, .inl (fun _ => 0))), (x3, .inl (c3, 256, .inl (fun _ => 0))), (x5, .inl (c5, 3, .inl (fun _ => 0))), (x4, .inl (c4, 3, .inr (.inr (.inr (.inr (va_up (va_up (va_up (fun _ => none) 0 (some y0)) 1 (some y1)) 2 (some y2))))))), (y0, pt 0 8 (nI 1)), (y1, pt 8 8 (nI 2)), (y2, pt 16 8 (nI 3)), (y3, .inr (1, [.int 0, .int 0, .int 0]))] H := hP
  have hD : va_D A [(h0, .inr (0, [.ref x1, .ref x2, .ref x3, .ref x4, .ref x5, .null])), (x1, .inl (c1, 256, .inl (fun _ => 0))), (x2, .inl (c2, 256, .inl (fun _ => 0))), (x3, .inl (c3, 256, .inl (fun _ => 0))), (x5, .inl (c5, 3, .inl (fun _ => 0))), (x4, .inl (c4, 3, .inr (.inr (.inr (.inr (va_up (va_up (va_up (fun _ => none) 0 (some y0)) 1 (some y1)) 2 (some y2))))))), (y0, pt 0 8 (nI 1)), (y1, pt 8 8 (nI 2)), (y2, pt 16 8 (nI 3)), (y3, .inr (1, [.int 0, .int 0, .int 0]))] := hD
  refine lv_dup hx hb d_Hop_init_85 rfl ?_
  refine lv_iconst (v := 0) hx hb d_Hop_init_86 (by decide) ?_
  refine lv_bipush (v := 8) hx hb d_Hop_init_87 (by decide) ?_
  refine lv_iconst (v := 0) hx hb d_Hop_init_89 (by decide) ?_
  refine hw_one (i := 9) (v := none) (va_runI (As := [.int (nI 0), .int (nI 8), .int (0)]) (rest := [.ref y3, .ref h0]) X (c_Part_init l D y3 0 8 (0)) (cwI 3 hwA (gI (gC m_64)) rfl rfl rfl (hwA (.initialized R_Part) m_41) (hwA (.methodLink R_Hop 29 y_Part_init) m_62) (hwA (.instanceMethod y_Part_init) m_63) rfl (by decide +kernel) ⟨Nat.le_of_ble_eq_true rfl, Nat.le_of_ble_eq_true rfl⟩) ⟨hb_blindW, fun U hU hW => ⟨rfl, by rw [hU]; exact hP.sub [9] rfl, va_K.moved hW.alike (hK.sub [] rfl), (hD.sub (ws' := [(y3, .inr (1, [.int 0, .int 0, .int 0]))]) [9] (by decide) rfl).weaken (fun _ _ _ _ => trivial)⟩⟩ rfl rfl hl.1 rfl (lv_room (Nat.le_of_ble_eq_true rfl)) d_Hop_init_90 ⟨Nat.le_of_ble_eq_true rfl, Nat.le_of_ble_eq_true rfl⟩) hP hD hS rfl (fun H locs hP hD hS => ?_)
  have hP : va_P D hCl [(h0, .inr (0, [.ref x1, .ref x2, .ref x3, .ref x4, .ref x5, .null])), (x1, .inl (c1, 256, .inl (fun _ => 0))), (x2, .inl (c2, 256, .inl (fun _ => 0))), (x3, .inl (c3, 256, .inl (fun _ => 0))), (x5, .inl (c5, 3, .inl (fun _ => 0))), (x4, .inl (c4, 3, .inr (.inr (.inr (.inr (va_up (va_up (va_up (fun _ => none) 0 (some y0)) 1 (some y1)) 2 (some y2))))))), (y0, pt 0 8 (nI 1)), (y1, pt 8 8 (nI 2)), (y2, pt 16 8 (nI 3)), (y3, pt 0 8 (0))] H := hP
  have hD : va_D A [(h0, .inr (0, [.ref x1, .ref x2, .ref x3, .ref x4, .ref x5, .null])), (x1, .inl (c1, 256, .inl (fun _ => 0))), (x2, .inl (c2, 256, .inl (fun _ => 0))), (x3, .inl (c3, 256, .inl (fun _ => 0))), (x5, .inl (c5, 3, .inl (fun _ => 0))), (x4, .inl (c4, 3, .inr (.inr (.inr (.inr (va_up (va_up (va_up (fun _ => none) 0 (some y0)) 1 (some y1)) 2 (some y2))))))), (y0, pt 0 8 (nI 1)), (y1, pt 8 8 (nI 2)), (y2, pt 16 8 (nI 3)), (y3, pt 0 8 (0))] := hD
  refine va_put (D := D) (ci := 0) (v := .ref y3) (ty := .object "HopArena$Part") (C := R_Hop) (T := F_Hop) (N := 6) hx hb hwA hin_Hop t_Hop t_Hop_ok n_Hop hown hK hP hD hS 0 rfl rfl 5 (by decide) (hwA (.fieldLink R_Hop 32 "HopArena" "spare" "LHopArena$Part;") m_86) (fun _ h9 => h9) rfl (by decide +kernel) rfl rfl (Nat.le_of_ble_eq_true rfl) d_Hop_init_93 (fun H locs hP hD hS => ?_)
  have hP : va_P D hCl [(h0, .inr (0, [.ref x1, .ref x2, .ref x3, .ref x4, .ref x5, .ref y3])), (x1, .inl (c1, 256, .inl (fun _ => 0))), (x2, .inl (c2, 256, .inl (fun _ => 0))), (x3, .inl (c3, 256, .inl (fun _ => 0))), (x5, .inl (c5, 3, .inl (fun _ => 0))), (x4, .inl (c4, 3, .inr (.inr (.inr (.inr (va_up (va_up (va_up (fun _ => none) 0 (some y0)) 1 (some y1)) 2 (some y2))))))), (y0, pt 0 8 (nI 1)), (y1, pt 8 8 (nI 2)), (y2, pt 16 8 (nI 3)), (y3, pt 0 8 (0))] H := hP
  have hD : va_D A [(h0, .inr (0, [.ref x1, .ref x2, .ref x3, .ref x4, .ref x5, .ref y3])), (x1, .inl (c1, 256, .inl (fun _ => 0))), (x2, .inl (c2, 256, .inl (fun _ => 0))), (x3, .inl (c3, 256, .inl (fun _ => 0))), (x5, .inl (c5, 3, .inl (fun _ => 0))), (x4, .inl (c4, 3, .inr (.inr (.inr (.inr (va_up (va_up (va_up (fun _ => none) 0 (some y0)) 1 (some y1)) 2 (some y2))))))), (y0, pt 0 8 (nI 1)), (y1, pt 8 8 (nI 2)), (y2, pt 16 8 (nI 3)), (y3, pt 0 8 (0))] := hD
  rw [pA_mk y0 y1 y2 y3] at hP hD
  have hP : va_P D hCl (wH (a6 0 c1 c2 c3 c4 c5) (a6 h0 x1 x2 x3 x4 x5) (q4 y0 y1 y2 y3) (fun _ => 0) (fun _ => 0) (fun _ => false) (fun _ => 0) iB iP iS) H := hP.sub [0, 1, 2, 3, 5, 4, 6, 7, 8, 9] rfl
  have hD : va_D A (wH (a6 0 c1 c2 c3 c4 c5) (a6 h0 x1 x2 x3 x4 x5) (q4 y0 y1 y2 y3) (fun _ => 0) (fun _ => 0) (fun _ => false) (fun _ => 0) iB iP iS) := hD.sub [0, 1, 2, 3, 5, 4, 6, 7, 8, 9] (by decide) rfl
  have hK : va_K D hCl (tyH (a6 0 c1 c2 c3 c4 c5)) s := hK.sub [0, 1, 2, 4, 3] rfl
  refine W.widen (k := 9) (n := 786) (Nat.le_of_ble_eq_true rfl) (Nat.le_of_ble_eq_true rfl) ?_
  exact W.vret hx hb hr (fun t ht hW => ⟨rfl, _, _, _, rfl, by rw [ht]; exact hP, va_K.moved hW.alike hK, hD, hS.F ht⟩) hS.2.2 d_Hop_init_96
end
section
abbrev b_Mod_init : ByteArray := prog_4_method_1_code
def y_Mod_init : MethodName := ⟨R_Mod, "<init>", "()V"⟩
def w_Mod_init : List Cond := .code y_Mod_init b_Mod_init 1 (none) :: wsA
abbrev b_Mod_thrown : ByteArray := prog_4_method_2_code
def y_Mod_thrown : MethodName := ⟨R_Mod, "thrown", "()I"⟩
def w_Mod_thrown : List Cond := .code y_Mod_thrown b_Mod_thrown 1 (some .int) :: wsA
abbrev b_Mod_put : ByteArray := prog_4_method_21_code
def y_Mod_put : MethodName := ⟨R_Mod, "put", "(III)Z"⟩
def w_Mod_put : List Cond := .code y_Mod_put b_Mod_put 5 (some .boolean) :: wsA
abbrev b_Mod_isMap : ByteArray := prog_4_method_4_code
def y_Mod_isMap : MethodName := ⟨R_Mod, "isMap", "(I)Z"⟩
def w_Mod_isMap : List Cond := .code y_Mod_isMap b_Mod_isMap 2 (some .boolean) :: wsA
abbrev b_Mod_within : ByteArray := prog_4_method_3_code
def y_Mod_within : MethodName := ⟨R_Mod, "within", "(III)Z"⟩
def w_Mod_within : List Cond := .code y_Mod_within b_Mod_within 3 (some .boolean) :: wsA
abbrev b_Mod_placeOf : ByteArray := prog_4_method_7_code
def y_Mod_placeOf : MethodName := ⟨R_Mod, "placeOf", "(II)I"⟩
def w_Mod_placeOf : List Cond := .code y_Mod_placeOf b_Mod_placeOf 5 (some .int) :: wsA
abbrev b_Mod_insert : ByteArray := prog_4_method_12_code
def y_Mod_insert : MethodName := ⟨R_Mod, "insert", "(III)Z"⟩
def w_Mod_insert : List Cond := .code y_Mod_insert b_Mod_insert 8 (some .boolean) :: wsA
abbrev b_Mod_homeOf : ByteArray := prog_4_method_5_code
def y_Mod_homeOf : MethodName := ⟨R_Mod, "homeOf", "(II)I"⟩
def w_Mod_homeOf : List Cond := .code y_Mod_homeOf b_Mod_homeOf 3 (some .int) :: wsA
abbrev b_Mod_behind : ByteArray := prog_4_method_6_code
def y_Mod_behind : MethodName := ⟨R_Mod, "behind", "(III)I"⟩
def w_Mod_behind : List Cond := .code y_Mod_behind b_Mod_behind 4 (some .int) :: wsA
abbrev b_Mod_mover : ByteArray := prog_4_method_11_code
def y_Mod_mover : MethodName := ⟨R_Mod, "mover", "(II)I"⟩
def w_Mod_mover : List Cond := .code y_Mod_mover b_Mod_mover 7 (some .int) :: wsA
abbrev b_Mod_move : ByteArray := prog_4_method_10_code
def y_Mod_move : MethodName := ⟨R_Mod, "move", "(III)V"⟩
def w_Mod_move : List Cond := .code y_Mod_move b_Mod_move 6 (none) :: wsA
abbrev b_Mod_hold : ByteArray := prog_4_method_14_code
def y_Mod_hold : MethodName := ⟨R_Mod, "hold", "(I)V"⟩
def w_Mod_hold : List Cond := .code y_Mod_hold b_Mod_hold 3 (none) :: wsA
abbrev b_Mod_grow : ByteArray := prog_4_method_20_code
def y_Mod_grow : MethodName := ⟨R_Mod, "grow", "(I)Z"⟩
def w_Mod_grow : List Cond := .code y_Mod_grow b_Mod_grow 9 (some .boolean) :: wsA
abbrev b_Mod_endOfAll : ByteArray := prog_4_method_18_code
def y_Mod_endOfAll : MethodName := ⟨R_Mod, "endOfAll", "(II)I"⟩
def w_Mod_endOfAll : List Cond := .code y_Mod_endOfAll b_Mod_endOfAll 6 (some .int) :: wsA
abbrev b_Mod_endOf : ByteArray := prog_4_method_17_code
def y_Mod_endOf : MethodName := ⟨R_Mod, "endOf", "(III)I"⟩
def w_Mod_endOf : List Cond := .code y_Mod_endOf b_Mod_endOf 4 (some .int) :: wsA
abbrev b_Mod_pushTogether : ByteArray := prog_4_method_19_code
def y_Mod_pushTogether : MethodName := ⟨R_Mod, "pushTogether", "(II)V"⟩
def w_Mod_pushTogether : List Cond := .code y_Mod_pushTogether b_Mod_pushTogether 7 (none) :: wsA
abbrev b_Mod_nextFrom : ByteArray := prog_4_method_16_code
def y_Mod_nextFrom : MethodName := ⟨R_Mod, "nextFrom", "(I)I"⟩
def w_Mod_nextFrom : List Cond := .code y_Mod_nextFrom b_Mod_nextFrom 5 (some .int) :: wsA
abbrev b_Mod_empty : ByteArray := prog_4_method_13_code
def y_Mod_empty : MethodName := ⟨R_Mod, "empty", "(I)V"⟩
def w_Mod_empty : List Cond := .code y_Mod_empty b_Mod_empty 3 (none) :: wsA
abbrev b_Mod_putBack : ByteArray := prog_4_method_15_code
def y_Mod_putBack : MethodName := ⟨R_Mod, "putBack", "(III)V"⟩
def w_Mod_putBack : List Cond := .code y_Mod_putBack b_Mod_putBack 5 (none) :: wsA
abbrev b_Mod_get : ByteArray := prog_4_method_23_code
def y_Mod_get : MethodName := ⟨R_Mod, "get", "(II)I"⟩
def w_Mod_get : List Cond := .code y_Mod_get b_Mod_get 4 (some .int) :: wsA
abbrev b_Mod_find : ByteArray := prog_4_method_22_code
def y_Mod_find : MethodName := ⟨R_Mod, "find", "(II)I"⟩
def w_Mod_find : List Cond := .code y_Mod_find b_Mod_find 4 (some .int) :: wsA
abbrev b_Mod_remove : ByteArray := prog_4_method_24_code
def y_Mod_remove : MethodName := ⟨R_Mod, "remove", "(II)I"⟩
def w_Mod_remove : List Cond := .code y_Mod_remove b_Mod_remove 4 (some .int) :: wsA
abbrev b_Mod_has : ByteArray := prog_4_method_25_code
def y_Mod_has : MethodName := ⟨R_Mod, "has", "(II)Z"⟩
def w_Mod_has : List Cond := .code y_Mod_has b_Mod_has 3 (some .boolean) :: wsA
abbrev b_Mod_size : ByteArray := prog_4_method_27_code
def y_Mod_size : MethodName := ⟨R_Mod, "size", "(I)I"⟩
def w_Mod_size : List Cond := .code y_Mod_size b_Mod_size 2 (some .int) :: wsA
abbrev b_Mod_sizeOf : ByteArray := prog_4_method_26_code
def y_Mod_sizeOf : MethodName := ⟨R_Mod, "sizeOf", "(I)I"⟩
def w_Mod_sizeOf : List Cond := .code y_Mod_sizeOf b_Mod_sizeOf 4 (some .int) :: wsA
abbrev b_Mod_clear : ByteArray := prog_4_method_28_code
def y_Mod_clear : MethodName := ⟨R_Mod, "clear", "(I)I"⟩
def w_Mod_clear : List Cond := .code y_Mod_clear b_Mod_clear 3 (some .int) :: wsA
abbrev b_Mod_about : ByteArray := prog_4_method_29_code
def y_Mod_about : MethodName := ⟨R_Mod, "about", "(II)I"⟩
def w_Mod_about : List Cond := .code y_Mod_about b_Mod_about 3 (some .int) :: wsA
abbrev b_Mod_home : ByteArray := prog_4_method_30_code
def y_Mod_home : MethodName := ⟨R_Mod, "home", "(II)I"⟩
def w_Mod_home : List Cond := .code y_Mod_home b_Mod_home 3 (some .int) :: wsA
abbrev b_Mod_distance : ByteArray := prog_4_method_31_code
def y_Mod_distance : MethodName := ⟨R_Mod, "distance", "(II)I"⟩
def w_Mod_distance : List Cond := .code y_Mod_distance b_Mod_distance 4 (some .int) :: wsA
abbrev b_Mod_distanceAt : ByteArray := prog_4_method_8_code
def y_Mod_distanceAt : MethodName := ⟨R_Mod, "distanceAt", "(II)I"⟩
def w_Mod_distanceAt : List Cond := .code y_Mod_distanceAt b_Mod_distanceAt 4 (some .int) :: wsA
abbrev b_Mod_bits : ByteArray := prog_4_method_33_code
def y_Mod_bits : MethodName := ⟨R_Mod, "bits", "(II)I"⟩
def w_Mod_bits : List Cond := .code y_Mod_bits b_Mod_bits 3 (some .int) :: wsA
abbrev b_Mod_isPlace : ByteArray := prog_4_method_32_code
def y_Mod_isPlace : MethodName := ⟨R_Mod, "isPlace", "(II)Z"⟩
def w_Mod_isPlace : List Cond := .code y_Mod_isPlace b_Mod_isPlace 3 (some .boolean) :: wsA
abbrev b_Mod_bitsOf : ByteArray := prog_4_method_9_code
def y_Mod_bitsOf : MethodName := ⟨R_Mod, "bitsOf", "(II)I"⟩
def w_Mod_bitsOf : List Cond := .code y_Mod_bitsOf b_Mod_bitsOf 7 (some .int) :: wsA
abbrev b_Mod_next : ByteArray := prog_4_method_34_code
def y_Mod_next : MethodName := ⟨R_Mod, "next", "(II)I"⟩
def w_Mod_next : List Cond := .code y_Mod_next b_Mod_next 4 (some .int) :: wsA
abbrev b_Mod_key : ByteArray := prog_4_method_35_code
def y_Mod_key : MethodName := ⟨R_Mod, "key", "(II)I"⟩
def w_Mod_key : List Cond := .code y_Mod_key b_Mod_key 3 (some .int) :: wsA
abbrev b_Mod_count : ByteArray := prog_4_method_36_code
def y_Mod_count : MethodName := ⟨R_Mod, "count", "(I)I"⟩
def w_Mod_count : List Cond := .code y_Mod_count b_Mod_count 2 (some .int) :: wsA
def F_Mod : u_T := fun k => match k with
  | 0 => ("HopArenaModel", "code", "I", false)
  | 1 => ("HopArenaModel", "full", "[Z", false)
  | 2 => ("HopArenaModel", "keys", "[I", false)
  | 3 => ("HopArenaModel", "values", "[I", false)
  | 4 => ("HopArenaModel", "capacity", "[I", false)
  | 5 => ("HopArenaModel", "base", "[I", false)
  | 6 => ("HopArenaModel", "seed", "[I", false)
  | 7 => ("HopArenaModel", "counts", "[I", false)
  | 8 => ("HopArenaModel", "held", "I", false)
  | 9 => ("HopArenaModel", "heldKeys", "[I", false)
  | 10 => ("HopArenaModel", "heldValues", "[I", false)
  | 11 => ("HopArenaModel", "oldFull", "[Z", false)
  | 12 => ("HopArenaModel", "oldKeys", "[I", false)
  | _ => ("HopArenaModel", "oldValues", "[I", false)
def t_Mod : Nat → FieldType := fun k => match k with
  | 0 => .int
  | 1 => .array .boolean
  | 2 => .array .int
  | 3 => .array .int
  | 4 => .array .int
  | 5 => .array .int
  | 6 => .array .int
  | 7 => .array .int
  | 8 => .int
  | 9 => .array .int
  | 10 => .array .int
  | 11 => .array .boolean
  | 12 => .array .int
  | _ => .array .int
theorem n_Mod : ∀ a, a < 14 → ∀ b, b < 14 → a ≠ b → (F_Mod a).2.1 ≠ (F_Mod b).2.1 := by decide +kernel
theorem t_Mod_ok : ∀ k, k < 14 → parseFieldDescriptor (F_Mod k).2.2.1 = some (t_Mod k) := by decide +kernel
theorem hin_Mod : ∀ w ∈ u_ws R_Mod F_Mod 14, w ∈ wsA := by decide +kernel
theorem g_Mod_homeOf : GoodIn wsA (wsV R_Mod 56 R_Mod y_Mod_homeOf w_Mod_homeOf) := gV m_488 m_490 m_22 m_42 m_491
theorem g_Mod_behind : GoodIn wsA (wsV R_Mod 60 R_Mod y_Mod_behind w_Mod_behind) := gV m_493 m_495 m_23 m_42 m_496
theorem g_Mod_mover : GoodIn wsA (wsV R_Mod 64 R_Mod y_Mod_mover w_Mod_mover) := gV m_497 m_499 m_24 m_42 m_500
theorem g_Mod_move : GoodIn wsA (wsV R_Mod 67 R_Mod y_Mod_move w_Mod_move) := gV m_501 m_503 m_25 m_42 m_504
theorem g_Mod_endOf : GoodIn wsA (wsV R_Mod 74 R_Mod y_Mod_endOf w_Mod_endOf) := gV m_517 m_519 m_29 m_42 m_520
theorem g_Mod_nextFrom : GoodIn wsA (wsV R_Mod 77 R_Mod y_Mod_nextFrom w_Mod_nextFrom) := gV m_525 m_527 m_31 m_42 m_528
theorem g_Mod_endOfAll : GoodIn wsA (wsV R_Mod 81 R_Mod y_Mod_endOfAll w_Mod_endOfAll) := gV m_513 m_515 m_28 m_42 m_516
theorem g_Mod_pushTogether : GoodIn wsA (wsV R_Mod 84 R_Mod y_Mod_pushTogether w_Mod_pushTogether) := gV m_521 m_523 m_30 m_42 m_524
theorem g_Mod_empty : GoodIn wsA (wsV R_Mod 90 R_Mod y_Mod_empty w_Mod_empty) := gV m_531 m_533 m_32 m_42 m_534
theorem g_Mod_insert : GoodIn wsA (wsV R_Mod 94 R_Mod y_Mod_insert w_Mod_insert) := gV m_484 m_486 m_21 m_42 m_487
theorem g_Mod_putBack : GoodIn wsA (wsV R_Mod 97 R_Mod y_Mod_putBack w_Mod_putBack) := gV m_535 m_537 m_33 m_42 m_538
theorem g_Mod_isMap : GoodIn wsA (wsV R_Mod 100 R_Mod y_Mod_isMap w_Mod_isMap) := gV m_473 m_475 m_19 m_42 m_476
theorem g_Mod_placeOf : GoodIn wsA (wsV R_Mod 104 R_Mod y_Mod_placeOf w_Mod_placeOf) := gV m_480 m_482 m_20 m_42 m_483
theorem g_Mod_hold : GoodIn wsA (wsV R_Mod 107 R_Mod y_Mod_hold w_Mod_hold) := gV m_505 m_507 m_26 m_42 m_508
theorem g_Mod_grow : GoodIn wsA (wsV R_Mod 110 R_Mod y_Mod_grow w_Mod_grow) := gV m_509 m_511 m_27 m_42 m_512
theorem g_Mod_find : GoodIn wsA (wsV R_Mod 113 R_Mod y_Mod_find w_Mod_find) := gV m_543 m_545 m_34 m_42 m_546
theorem g_Mod_sizeOf : GoodIn wsA (wsV R_Mod 116 R_Mod y_Mod_sizeOf w_Mod_sizeOf) := gV m_559 m_561 m_35 m_42 m_562
theorem g_Mod_distanceAt : GoodIn wsA (wsV R_Mod 119 R_Mod y_Mod_distanceAt w_Mod_distanceAt) := gV m_579 m_581 m_36 m_42 m_582
theorem g_Mod_isPlace : GoodIn wsA (wsV R_Mod 122 R_Mod y_Mod_isPlace w_Mod_isPlace) := gV m_587 m_589 m_37 m_42 m_590
theorem g_Mod_bitsOf : GoodIn wsA (wsV R_Mod 126 R_Mod y_Mod_bitsOf w_Mod_bitsOf) := gV m_591 m_593 m_38 m_42 m_594
theorem g_Mod_within : GoodIn wsA (wsS R_Mod 51 y_Mod_within w_Mod_within) := gS m_477 m_478 m_42 m_479
theorem d_Mod_init_0 : decode b_Mod_init 0 = .ok (.aload_n 0, 1) := by decide +kernel
theorem d_Mod_init_1 : decode b_Mod_init 1 = .ok (.invokespecial 1, 3) := by decide +kernel
theorem d_Mod_init_4 : decode b_Mod_init 4 = .ok (.aload_n 0, 1) := by decide +kernel
theorem d_Mod_init_5 : decode b_Mod_init 5 = .ok (.sipush 384, 3) := by decide +kernel
theorem d_Mod_init_8 : decode b_Mod_init 8 = .ok (.newarray .boolean, 2) := by decide +kernel
theorem d_Mod_init_10 : decode b_Mod_init 10 = .ok (.putfield 7, 3) := by decide +kernel
theorem d_Mod_init_13 : decode b_Mod_init 13 = .ok (.aload_n 0, 1) := by decide +kernel
theorem d_Mod_init_14 : decode b_Mod_init 14 = .ok (.sipush 384, 3) := by decide +kernel
theorem d_Mod_init_17 : decode b_Mod_init 17 = .ok (.newarray .int, 2) := by decide +kernel
theorem d_Mod_init_19 : decode b_Mod_init 19 = .ok (.putfield 13, 3) := by decide +kernel
theorem d_Mod_init_22 : decode b_Mod_init 22 = .ok (.aload_n 0, 1) := by decide +kernel
theorem d_Mod_init_23 : decode b_Mod_init 23 = .ok (.sipush 384, 3) := by decide +kernel
theorem d_Mod_init_26 : decode b_Mod_init 26 = .ok (.newarray .int, 2) := by decide +kernel
theorem d_Mod_init_28 : decode b_Mod_init 28 = .ok (.putfield 17, 3) := by decide +kernel
theorem d_Mod_init_31 : decode b_Mod_init 31 = .ok (.aload_n 0, 1) := by decide +kernel
theorem d_Mod_init_32 : decode b_Mod_init 32 = .ok (.iconst 3, 1) := by decide +kernel
theorem d_Mod_init_33 : decode b_Mod_init 33 = .ok (.newarray .int, 2) := by decide +kernel
theorem d_Mod_init_35 : decode b_Mod_init 35 = .ok (.dup, 1) := by decide +kernel
theorem d_Mod_init_36 : decode b_Mod_init 36 = .ok (.iconst 0, 1) := by decide +kernel
theorem d_Mod_init_37 : decode b_Mod_init 37 = .ok (.bipush 8, 2) := by decide +kernel
theorem d_Mod_init_39 : decode b_Mod_init 39 = .ok (.iastore, 1) := by decide +kernel
theorem d_Mod_init_40 : decode b_Mod_init 40 = .ok (.dup, 1) := by decide +kernel
theorem d_Mod_init_41 : decode b_Mod_init 41 = .ok (.iconst 1, 1) := by decide +kernel
theorem d_Mod_init_42 : decode b_Mod_init 42 = .ok (.bipush 8, 2) := by decide +kernel
theorem d_Mod_init_44 : decode b_Mod_init 44 = .ok (.iastore, 1) := by decide +kernel
theorem d_Mod_init_45 : decode b_Mod_init 45 = .ok (.dup, 1) := by decide +kernel
theorem d_Mod_init_46 : decode b_Mod_init 46 = .ok (.iconst 2, 1) := by decide +kernel
theorem d_Mod_init_47 : decode b_Mod_init 47 = .ok (.bipush 8, 2) := by decide +kernel
theorem d_Mod_init_49 : decode b_Mod_init 49 = .ok (.iastore, 1) := by decide +kernel
theorem d_Mod_init_50 : decode b_Mod_init 50 = .ok (.putfield 20, 3) := by decide +kernel
theorem d_Mod_init_53 : decode b_Mod_init 53 = .ok (.aload_n 0, 1) := by decide +kernel
theorem d_Mod_init_54 : decode b_Mod_init 54 = .ok (.iconst 3, 1) := by decide +kernel
theorem d_Mod_init_55 : decode b_Mod_init 55 = .ok (.newarray .int, 2) := by decide +kernel
theorem d_Mod_init_57 : decode b_Mod_init 57 = .ok (.dup, 1) := by decide +kernel
theorem d_Mod_init_58 : decode b_Mod_init 58 = .ok (.iconst 0, 1) := by decide +kernel
theorem d_Mod_init_59 : decode b_Mod_init 59 = .ok (.iconst 0, 1) := by decide +kernel
theorem d_Mod_init_60 : decode b_Mod_init 60 = .ok (.iastore, 1) := by decide +kernel
theorem d_Mod_init_61 : decode b_Mod_init 61 = .ok (.dup, 1) := by decide +kernel
theorem d_Mod_init_62 : decode b_Mod_init 62 = .ok (.iconst 1, 1) := by decide +kernel
theorem d_Mod_init_63 : decode b_Mod_init 63 = .ok (.bipush 8, 2) := by decide +kernel
theorem d_Mod_init_65 : decode b_Mod_init 65 = .ok (.iastore, 1) := by decide +kernel
theorem d_Mod_init_66 : decode b_Mod_init 66 = .ok (.dup, 1) := by decide +kernel
theorem d_Mod_init_67 : decode b_Mod_init 67 = .ok (.iconst 2, 1) := by decide +kernel
theorem d_Mod_init_68 : decode b_Mod_init 68 = .ok (.bipush 16, 2) := by decide +kernel
theorem d_Mod_init_70 : decode b_Mod_init 70 = .ok (.iastore, 1) := by decide +kernel
theorem d_Mod_init_71 : decode b_Mod_init 71 = .ok (.putfield 23, 3) := by decide +kernel
theorem d_Mod_init_74 : decode b_Mod_init 74 = .ok (.aload_n 0, 1) := by decide +kernel
theorem d_Mod_init_75 : decode b_Mod_init 75 = .ok (.iconst 3, 1) := by decide +kernel
theorem d_Mod_init_76 : decode b_Mod_init 76 = .ok (.newarray .int, 2) := by decide +kernel
theorem d_Mod_init_78 : decode b_Mod_init 78 = .ok (.dup, 1) := by decide +kernel
theorem d_Mod_init_79 : decode b_Mod_init 79 = .ok (.iconst 0, 1) := by decide +kernel
theorem d_Mod_init_80 : decode b_Mod_init 80 = .ok (.iconst 1, 1) := by decide +kernel
theorem d_Mod_init_81 : decode b_Mod_init 81 = .ok (.iastore, 1) := by decide +kernel
theorem d_Mod_init_82 : decode b_Mod_init 82 = .ok (.dup, 1) := by decide +kernel
theorem d_Mod_init_83 : decode b_Mod_init 83 = .ok (.iconst 1, 1) := by decide +kernel
theorem d_Mod_init_84 : decode b_Mod_init 84 = .ok (.iconst 2, 1) := by decide +kernel
theorem d_Mod_init_85 : decode b_Mod_init 85 = .ok (.iastore, 1) := by decide +kernel
theorem d_Mod_init_86 : decode b_Mod_init 86 = .ok (.dup, 1) := by decide +kernel
theorem d_Mod_init_87 : decode b_Mod_init 87 = .ok (.iconst 2, 1) := by decide +kernel
theorem d_Mod_init_88 : decode b_Mod_init 88 = .ok (.iconst 3, 1) := by decide +kernel
theorem d_Mod_init_89 : decode b_Mod_init 89 = .ok (.iastore, 1) := by decide +kernel
theorem d_Mod_init_90 : decode b_Mod_init 90 = .ok (.putfield 26, 3) := by decide +kernel
theorem d_Mod_init_93 : decode b_Mod_init 93 = .ok (.aload_n 0, 1) := by decide +kernel
theorem d_Mod_init_94 : decode b_Mod_init 94 = .ok (.iconst 3, 1) := by decide +kernel
theorem d_Mod_init_95 : decode b_Mod_init 95 = .ok (.newarray .int, 2) := by decide +kernel
theorem d_Mod_init_97 : decode b_Mod_init 97 = .ok (.putfield 29, 3) := by decide +kernel
theorem d_Mod_init_100 : decode b_Mod_init 100 = .ok (.aload_n 0, 1) := by decide +kernel
theorem d_Mod_init_101 : decode b_Mod_init 101 = .ok (.sipush 129, 3) := by decide +kernel
theorem d_Mod_init_104 : decode b_Mod_init 104 = .ok (.newarray .int, 2) := by decide +kernel
theorem d_Mod_init_106 : decode b_Mod_init 106 = .ok (.putfield 32, 3) := by decide +kernel
theorem d_Mod_init_109 : decode b_Mod_init 109 = .ok (.aload_n 0, 1) := by decide +kernel
theorem d_Mod_init_110 : decode b_Mod_init 110 = .ok (.sipush 129, 3) := by decide +kernel
theorem d_Mod_init_113 : decode b_Mod_init 113 = .ok (.newarray .int, 2) := by decide +kernel
theorem d_Mod_init_115 : decode b_Mod_init 115 = .ok (.putfield 35, 3) := by decide +kernel
theorem d_Mod_init_118 : decode b_Mod_init 118 = .ok (.aload_n 0, 1) := by decide +kernel
theorem d_Mod_init_119 : decode b_Mod_init 119 = .ok (.sipush 128, 3) := by decide +kernel
theorem d_Mod_init_122 : decode b_Mod_init 122 = .ok (.newarray .boolean, 2) := by decide +kernel
theorem d_Mod_init_124 : decode b_Mod_init 124 = .ok (.putfield 38, 3) := by decide +kernel
theorem d_Mod_init_127 : decode b_Mod_init 127 = .ok (.aload_n 0, 1) := by decide +kernel
theorem d_Mod_init_128 : decode b_Mod_init 128 = .ok (.sipush 128, 3) := by decide +kernel
theorem d_Mod_init_131 : decode b_Mod_init 131 = .ok (.newarray .int, 2) := by decide +kernel
theorem d_Mod_init_133 : decode b_Mod_init 133 = .ok (.putfield 41, 3) := by decide +kernel
theorem d_Mod_init_136 : decode b_Mod_init 136 = .ok (.aload_n 0, 1) := by decide +kernel
theorem d_Mod_init_137 : decode b_Mod_init 137 = .ok (.sipush 128, 3) := by decide +kernel
theorem d_Mod_init_140 : decode b_Mod_init 140 = .ok (.newarray .int, 2) := by decide +kernel
theorem d_Mod_init_142 : decode b_Mod_init 142 = .ok (.putfield 44, 3) := by decide +kernel
theorem d_Mod_init_145 : decode b_Mod_init 145 = .ok (.return_, 1) := by decide +kernel
theorem d_Mod_thrown_0 : decode b_Mod_thrown 0 = .ok (.aload_n 0, 1) := by decide +kernel
theorem d_Mod_thrown_1 : decode b_Mod_thrown 1 = .ok (.getfield 47, 3) := by decide +kernel
theorem d_Mod_thrown_4 : decode b_Mod_thrown 4 = .ok (.ireturn, 1) := by decide +kernel
theorem d_Mod_within_0 : decode b_Mod_within 0 = .ok (.iload_n 0, 1) := by decide +kernel
theorem d_Mod_within_1 : decode b_Mod_within 1 = .ok (.iload_n 1, 1) := by decide +kernel
theorem d_Mod_within_2 : decode b_Mod_within 2 = .ok (.if_icmp .lt 12, 3) := by decide +kernel
theorem d_Mod_within_5 : decode b_Mod_within 5 = .ok (.iload_n 0, 1) := by decide +kernel
theorem d_Mod_within_6 : decode b_Mod_within 6 = .ok (.iload_n 2, 1) := by decide +kernel
theorem d_Mod_within_7 : decode b_Mod_within 7 = .ok (.if_icmp .gt 7, 3) := by decide +kernel
theorem d_Mod_within_10 : decode b_Mod_within 10 = .ok (.iconst 1, 1) := by decide +kernel
theorem d_Mod_within_11 : decode b_Mod_within 11 = .ok (.goto 4, 3) := by decide +kernel
theorem d_Mod_within_14 : decode b_Mod_within 14 = .ok (.iconst 0, 1) := by decide +kernel
theorem d_Mod_within_15 : decode b_Mod_within 15 = .ok (.ireturn, 1) := by decide +kernel
theorem d_Mod_isMap_0 : decode b_Mod_isMap 0 = .ok (.aload_n 0, 1) := by decide +kernel
theorem d_Mod_isMap_1 : decode b_Mod_isMap 1 = .ok (.iload_n 1, 1) := by decide +kernel
theorem d_Mod_isMap_2 : decode b_Mod_isMap 2 = .ok (.iconst 0, 1) := by decide +kernel
theorem d_Mod_isMap_3 : decode b_Mod_isMap 3 = .ok (.iconst 2, 1) := by decide +kernel
theorem d_Mod_isMap_4 : decode b_Mod_isMap 4 = .ok (.invokestatic 51, 3) := by decide +kernel
theorem d_Mod_isMap_7 : decode b_Mod_isMap 7 = .ok (.ifCond .eq 7, 3) := by decide +kernel
theorem d_Mod_isMap_10 : decode b_Mod_isMap 10 = .ok (.iconst 0, 1) := by decide +kernel
theorem d_Mod_isMap_11 : decode b_Mod_isMap 11 = .ok (.goto 4, 3) := by decide +kernel
theorem d_Mod_isMap_14 : decode b_Mod_isMap 14 = .ok (.iconst 1, 1) := by decide +kernel
theorem d_Mod_isMap_15 : decode b_Mod_isMap 15 = .ok (.putfield 47, 3) := by decide +kernel
theorem d_Mod_isMap_18 : decode b_Mod_isMap 18 = .ok (.aload_n 0, 1) := by decide +kernel
theorem d_Mod_isMap_19 : decode b_Mod_isMap 19 = .ok (.getfield 47, 3) := by decide +kernel
theorem d_Mod_isMap_22 : decode b_Mod_isMap 22 = .ok (.ifCond .ne 7, 3) := by decide +kernel
theorem d_Mod_isMap_25 : decode b_Mod_isMap 25 = .ok (.iconst 1, 1) := by decide +kernel
theorem d_Mod_isMap_26 : decode b_Mod_isMap 26 = .ok (.goto 4, 3) := by decide +kernel
theorem d_Mod_isMap_29 : decode b_Mod_isMap 29 = .ok (.iconst 0, 1) := by decide +kernel
theorem d_Mod_isMap_30 : decode b_Mod_isMap 30 = .ok (.ireturn, 1) := by decide +kernel
theorem d_Mod_homeOf_0 : decode b_Mod_homeOf 0 = .ok (.iload_n 2, 1) := by decide +kernel
theorem d_Mod_homeOf_1 : decode b_Mod_homeOf 1 = .ok (.aload_n 0, 1) := by decide +kernel
theorem d_Mod_homeOf_2 : decode b_Mod_homeOf 2 = .ok (.getfield 26, 3) := by decide +kernel
theorem d_Mod_homeOf_5 : decode b_Mod_homeOf 5 = .ok (.iload_n 1, 1) := by decide +kernel
theorem d_Mod_homeOf_6 : decode b_Mod_homeOf 6 = .ok (.iaload, 1) := by decide +kernel
theorem d_Mod_homeOf_7 : decode b_Mod_homeOf 7 = .ok (.ixor, 1) := by decide +kernel
theorem d_Mod_homeOf_8 : decode b_Mod_homeOf 8 = .ok (.ldc 55, 2) := by decide +kernel
theorem d_Mod_homeOf_10 : decode b_Mod_homeOf 10 = .ok (.imul, 1) := by decide +kernel
theorem d_Mod_homeOf_11 : decode b_Mod_homeOf 11 = .ok (.bipush 9, 2) := by decide +kernel
theorem d_Mod_homeOf_13 : decode b_Mod_homeOf 13 = .ok (.iushr, 1) := by decide +kernel
theorem d_Mod_homeOf_14 : decode b_Mod_homeOf 14 = .ok (.aload_n 0, 1) := by decide +kernel
theorem d_Mod_homeOf_15 : decode b_Mod_homeOf 15 = .ok (.getfield 20, 3) := by decide +kernel
theorem d_Mod_homeOf_18 : decode b_Mod_homeOf 18 = .ok (.iload_n 1, 1) := by decide +kernel
theorem d_Mod_homeOf_19 : decode b_Mod_homeOf 19 = .ok (.iaload, 1) := by decide +kernel
theorem d_Mod_homeOf_20 : decode b_Mod_homeOf 20 = .ok (.iconst 1, 1) := by decide +kernel
theorem d_Mod_homeOf_21 : decode b_Mod_homeOf 21 = .ok (.isub, 1) := by decide +kernel
theorem d_Mod_homeOf_22 : decode b_Mod_homeOf 22 = .ok (.iand, 1) := by decide +kernel
theorem d_Mod_homeOf_23 : decode b_Mod_homeOf 23 = .ok (.ireturn, 1) := by decide +kernel
theorem d_Mod_behind_0 : decode b_Mod_behind 0 = .ok (.iload_n 2, 1) := by decide +kernel
theorem d_Mod_behind_1 : decode b_Mod_behind 1 = .ok (.iload_n 3, 1) := by decide +kernel
theorem d_Mod_behind_2 : decode b_Mod_behind 2 = .ok (.iadd, 1) := by decide +kernel
theorem d_Mod_behind_3 : decode b_Mod_behind 3 = .ok (.aload_n 0, 1) := by decide +kernel
theorem d_Mod_behind_4 : decode b_Mod_behind 4 = .ok (.getfield 20, 3) := by decide +kernel
theorem d_Mod_behind_7 : decode b_Mod_behind 7 = .ok (.iload_n 1, 1) := by decide +kernel
theorem d_Mod_behind_8 : decode b_Mod_behind 8 = .ok (.iaload, 1) := by decide +kernel
theorem d_Mod_behind_9 : decode b_Mod_behind 9 = .ok (.iconst 1, 1) := by decide +kernel
theorem d_Mod_behind_10 : decode b_Mod_behind 10 = .ok (.isub, 1) := by decide +kernel
theorem d_Mod_behind_11 : decode b_Mod_behind 11 = .ok (.iand, 1) := by decide +kernel
theorem d_Mod_behind_12 : decode b_Mod_behind 12 = .ok (.ireturn, 1) := by decide +kernel
theorem d_Mod_placeOf_0 : decode b_Mod_placeOf 0 = .ok (.iconst (-1), 1) := by decide +kernel
theorem d_Mod_placeOf_1 : decode b_Mod_placeOf 1 = .ok (.istore_n 3, 1) := by decide +kernel
theorem d_Mod_placeOf_2 : decode b_Mod_placeOf 2 = .ok (.iconst 0, 1) := by decide +kernel
theorem d_Mod_placeOf_3 : decode b_Mod_placeOf 3 = .ok (.istore 4, 2) := by decide +kernel
theorem d_Mod_placeOf_5 : decode b_Mod_placeOf 5 = .ok (.iload 4, 2) := by decide +kernel
theorem d_Mod_placeOf_7 : decode b_Mod_placeOf 7 = .ok (.aload_n 0, 1) := by decide +kernel
theorem d_Mod_placeOf_8 : decode b_Mod_placeOf 8 = .ok (.getfield 20, 3) := by decide +kernel
theorem d_Mod_placeOf_11 : decode b_Mod_placeOf 11 = .ok (.iload_n 1, 1) := by decide +kernel
theorem d_Mod_placeOf_12 : decode b_Mod_placeOf 12 = .ok (.iaload, 1) := by decide +kernel
theorem d_Mod_placeOf_13 : decode b_Mod_placeOf 13 = .ok (.if_icmp .ge 49, 3) := by decide +kernel
theorem d_Mod_placeOf_16 : decode b_Mod_placeOf 16 = .ok (.aload_n 0, 1) := by decide +kernel
theorem d_Mod_placeOf_17 : decode b_Mod_placeOf 17 = .ok (.getfield 7, 3) := by decide +kernel
theorem d_Mod_placeOf_20 : decode b_Mod_placeOf 20 = .ok (.sipush 128, 3) := by decide +kernel
theorem d_Mod_placeOf_23 : decode b_Mod_placeOf 23 = .ok (.iload_n 1, 1) := by decide +kernel
theorem d_Mod_placeOf_24 : decode b_Mod_placeOf 24 = .ok (.imul, 1) := by decide +kernel
theorem d_Mod_placeOf_25 : decode b_Mod_placeOf 25 = .ok (.iload 4, 2) := by decide +kernel
theorem d_Mod_placeOf_27 : decode b_Mod_placeOf 27 = .ok (.iadd, 1) := by decide +kernel
theorem d_Mod_placeOf_28 : decode b_Mod_placeOf 28 = .ok (.baload, 1) := by decide +kernel
theorem d_Mod_placeOf_29 : decode b_Mod_placeOf 29 = .ok (.ifCond .eq 25, 3) := by decide +kernel
theorem d_Mod_placeOf_32 : decode b_Mod_placeOf 32 = .ok (.aload_n 0, 1) := by decide +kernel
theorem d_Mod_placeOf_33 : decode b_Mod_placeOf 33 = .ok (.getfield 13, 3) := by decide +kernel
theorem d_Mod_placeOf_36 : decode b_Mod_placeOf 36 = .ok (.sipush 128, 3) := by decide +kernel
theorem d_Mod_placeOf_39 : decode b_Mod_placeOf 39 = .ok (.iload_n 1, 1) := by decide +kernel
theorem d_Mod_placeOf_40 : decode b_Mod_placeOf 40 = .ok (.imul, 1) := by decide +kernel
theorem d_Mod_placeOf_41 : decode b_Mod_placeOf 41 = .ok (.iload 4, 2) := by decide +kernel
theorem d_Mod_placeOf_43 : decode b_Mod_placeOf 43 = .ok (.iadd, 1) := by decide +kernel
theorem d_Mod_placeOf_44 : decode b_Mod_placeOf 44 = .ok (.iaload, 1) := by decide +kernel
theorem d_Mod_placeOf_45 : decode b_Mod_placeOf 45 = .ok (.iload_n 2, 1) := by decide +kernel
theorem d_Mod_placeOf_46 : decode b_Mod_placeOf 46 = .ok (.if_icmp .ne 8, 3) := by decide +kernel
theorem d_Mod_placeOf_49 : decode b_Mod_placeOf 49 = .ok (.iload 4, 2) := by decide +kernel
theorem d_Mod_placeOf_51 : decode b_Mod_placeOf 51 = .ok (.goto 4, 3) := by decide +kernel
theorem d_Mod_placeOf_54 : decode b_Mod_placeOf 54 = .ok (.iload_n 3, 1) := by decide +kernel
theorem d_Mod_placeOf_55 : decode b_Mod_placeOf 55 = .ok (.istore_n 3, 1) := by decide +kernel
theorem d_Mod_placeOf_56 : decode b_Mod_placeOf 56 = .ok (.iinc 4 1, 3) := by decide +kernel
theorem d_Mod_placeOf_59 : decode b_Mod_placeOf 59 = .ok (.goto (-54), 3) := by decide +kernel
theorem d_Mod_placeOf_62 : decode b_Mod_placeOf 62 = .ok (.iload_n 3, 1) := by decide +kernel
theorem d_Mod_placeOf_63 : decode b_Mod_placeOf 63 = .ok (.ireturn, 1) := by decide +kernel
theorem d_Mod_distanceAt_0 : decode b_Mod_distanceAt 0 = .ok (.aload_n 0, 1) := by decide +kernel
theorem d_Mod_distanceAt_1 : decode b_Mod_distanceAt 1 = .ok (.iload_n 1, 1) := by decide +kernel
theorem d_Mod_distanceAt_2 : decode b_Mod_distanceAt 2 = .ok (.aload_n 0, 1) := by decide +kernel
theorem d_Mod_distanceAt_3 : decode b_Mod_distanceAt 3 = .ok (.getfield 13, 3) := by decide +kernel
theorem d_Mod_distanceAt_6 : decode b_Mod_distanceAt 6 = .ok (.sipush 128, 3) := by decide +kernel
theorem d_Mod_distanceAt_9 : decode b_Mod_distanceAt 9 = .ok (.iload_n 1, 1) := by decide +kernel
theorem d_Mod_distanceAt_10 : decode b_Mod_distanceAt 10 = .ok (.imul, 1) := by decide +kernel
theorem d_Mod_distanceAt_11 : decode b_Mod_distanceAt 11 = .ok (.iload_n 2, 1) := by decide +kernel
theorem d_Mod_distanceAt_12 : decode b_Mod_distanceAt 12 = .ok (.iadd, 1) := by decide +kernel
theorem d_Mod_distanceAt_13 : decode b_Mod_distanceAt 13 = .ok (.iaload, 1) := by decide +kernel
theorem d_Mod_distanceAt_14 : decode b_Mod_distanceAt 14 = .ok (.invokevirtual 56, 3) := by decide +kernel
theorem d_Mod_distanceAt_17 : decode b_Mod_distanceAt 17 = .ok (.istore_n 3, 1) := by decide +kernel
theorem d_Mod_distanceAt_18 : decode b_Mod_distanceAt 18 = .ok (.iload_n 2, 1) := by decide +kernel
theorem d_Mod_distanceAt_19 : decode b_Mod_distanceAt 19 = .ok (.iload_n 3, 1) := by decide +kernel
theorem d_Mod_distanceAt_20 : decode b_Mod_distanceAt 20 = .ok (.isub, 1) := by decide +kernel
theorem d_Mod_distanceAt_21 : decode b_Mod_distanceAt 21 = .ok (.aload_n 0, 1) := by decide +kernel
theorem d_Mod_distanceAt_22 : decode b_Mod_distanceAt 22 = .ok (.getfield 20, 3) := by decide +kernel
theorem d_Mod_distanceAt_25 : decode b_Mod_distanceAt 25 = .ok (.iload_n 1, 1) := by decide +kernel
theorem d_Mod_distanceAt_26 : decode b_Mod_distanceAt 26 = .ok (.iaload, 1) := by decide +kernel
theorem d_Mod_distanceAt_27 : decode b_Mod_distanceAt 27 = .ok (.iconst 1, 1) := by decide +kernel
theorem d_Mod_distanceAt_28 : decode b_Mod_distanceAt 28 = .ok (.isub, 1) := by decide +kernel
theorem d_Mod_distanceAt_29 : decode b_Mod_distanceAt 29 = .ok (.iand, 1) := by decide +kernel
theorem d_Mod_distanceAt_30 : decode b_Mod_distanceAt 30 = .ok (.ireturn, 1) := by decide +kernel
theorem d_Mod_bitsOf_0 : decode b_Mod_bitsOf 0 = .ok (.iconst 0, 1) := by decide +kernel
theorem d_Mod_bitsOf_1 : decode b_Mod_bitsOf 1 = .ok (.istore_n 3, 1) := by decide +kernel
theorem d_Mod_bitsOf_2 : decode b_Mod_bitsOf 2 = .ok (.iconst 0, 1) := by decide +kernel
theorem d_Mod_bitsOf_3 : decode b_Mod_bitsOf 3 = .ok (.istore 4, 2) := by decide +kernel
theorem d_Mod_bitsOf_5 : decode b_Mod_bitsOf 5 = .ok (.iload 4, 2) := by decide +kernel
theorem d_Mod_bitsOf_7 : decode b_Mod_bitsOf 7 = .ok (.bipush 8, 2) := by decide +kernel
theorem d_Mod_bitsOf_9 : decode b_Mod_bitsOf 9 = .ok (.if_icmp .ge 80, 3) := by decide +kernel
theorem d_Mod_bitsOf_12 : decode b_Mod_bitsOf 12 = .ok (.aload_n 0, 1) := by decide +kernel
theorem d_Mod_bitsOf_13 : decode b_Mod_bitsOf 13 = .ok (.iload_n 1, 1) := by decide +kernel
theorem d_Mod_bitsOf_14 : decode b_Mod_bitsOf 14 = .ok (.iload_n 2, 1) := by decide +kernel
theorem d_Mod_bitsOf_15 : decode b_Mod_bitsOf 15 = .ok (.iload 4, 2) := by decide +kernel
theorem d_Mod_bitsOf_17 : decode b_Mod_bitsOf 17 = .ok (.invokevirtual 60, 3) := by decide +kernel
theorem d_Mod_bitsOf_20 : decode b_Mod_bitsOf 20 = .ok (.istore 5, 2) := by decide +kernel
theorem d_Mod_bitsOf_22 : decode b_Mod_bitsOf 22 = .ok (.aload_n 0, 1) := by decide +kernel
theorem d_Mod_bitsOf_23 : decode b_Mod_bitsOf 23 = .ok (.getfield 7, 3) := by decide +kernel
theorem d_Mod_bitsOf_26 : decode b_Mod_bitsOf 26 = .ok (.sipush 128, 3) := by decide +kernel
theorem d_Mod_bitsOf_29 : decode b_Mod_bitsOf 29 = .ok (.iload_n 1, 1) := by decide +kernel
theorem d_Mod_bitsOf_30 : decode b_Mod_bitsOf 30 = .ok (.imul, 1) := by decide +kernel
theorem d_Mod_bitsOf_31 : decode b_Mod_bitsOf 31 = .ok (.iload 5, 2) := by decide +kernel
theorem d_Mod_bitsOf_33 : decode b_Mod_bitsOf 33 = .ok (.iadd, 1) := by decide +kernel
theorem d_Mod_bitsOf_34 : decode b_Mod_bitsOf 34 = .ok (.baload, 1) := by decide +kernel
theorem d_Mod_bitsOf_35 : decode b_Mod_bitsOf 35 = .ok (.ifCond .eq 29, 3) := by decide +kernel
theorem d_Mod_bitsOf_38 : decode b_Mod_bitsOf 38 = .ok (.aload_n 0, 1) := by decide +kernel
theorem d_Mod_bitsOf_39 : decode b_Mod_bitsOf 39 = .ok (.iload_n 1, 1) := by decide +kernel
theorem d_Mod_bitsOf_40 : decode b_Mod_bitsOf 40 = .ok (.aload_n 0, 1) := by decide +kernel
theorem d_Mod_bitsOf_41 : decode b_Mod_bitsOf 41 = .ok (.getfield 13, 3) := by decide +kernel
theorem d_Mod_bitsOf_44 : decode b_Mod_bitsOf 44 = .ok (.sipush 128, 3) := by decide +kernel
theorem d_Mod_bitsOf_47 : decode b_Mod_bitsOf 47 = .ok (.iload_n 1, 1) := by decide +kernel
theorem d_Mod_bitsOf_48 : decode b_Mod_bitsOf 48 = .ok (.imul, 1) := by decide +kernel
theorem d_Mod_bitsOf_49 : decode b_Mod_bitsOf 49 = .ok (.iload 5, 2) := by decide +kernel
theorem d_Mod_bitsOf_51 : decode b_Mod_bitsOf 51 = .ok (.iadd, 1) := by decide +kernel
theorem d_Mod_bitsOf_52 : decode b_Mod_bitsOf 52 = .ok (.iaload, 1) := by decide +kernel
theorem d_Mod_bitsOf_53 : decode b_Mod_bitsOf 53 = .ok (.invokevirtual 56, 3) := by decide +kernel
theorem d_Mod_bitsOf_56 : decode b_Mod_bitsOf 56 = .ok (.iload_n 2, 1) := by decide +kernel
theorem d_Mod_bitsOf_57 : decode b_Mod_bitsOf 57 = .ok (.if_icmp .ne 7, 3) := by decide +kernel
theorem d_Mod_bitsOf_60 : decode b_Mod_bitsOf 60 = .ok (.iconst 1, 1) := by decide +kernel
theorem d_Mod_bitsOf_61 : decode b_Mod_bitsOf 61 = .ok (.goto 4, 3) := by decide +kernel
theorem d_Mod_bitsOf_64 : decode b_Mod_bitsOf 64 = .ok (.iconst 0, 1) := by decide +kernel
theorem d_Mod_bitsOf_65 : decode b_Mod_bitsOf 65 = .ok (.istore 6, 2) := by decide +kernel
theorem d_Mod_bitsOf_67 : decode b_Mod_bitsOf 67 = .ok (.iload 6, 2) := by decide +kernel
theorem d_Mod_bitsOf_69 : decode b_Mod_bitsOf 69 = .ok (.ifCond .eq 12, 3) := by decide +kernel
theorem d_Mod_bitsOf_72 : decode b_Mod_bitsOf 72 = .ok (.iload_n 3, 1) := by decide +kernel
theorem d_Mod_bitsOf_73 : decode b_Mod_bitsOf 73 = .ok (.iconst 1, 1) := by decide +kernel
theorem d_Mod_bitsOf_74 : decode b_Mod_bitsOf 74 = .ok (.iload 4, 2) := by decide +kernel
theorem d_Mod_bitsOf_76 : decode b_Mod_bitsOf 76 = .ok (.ishl, 1) := by decide +kernel
theorem d_Mod_bitsOf_77 : decode b_Mod_bitsOf 77 = .ok (.ior, 1) := by decide +kernel
theorem d_Mod_bitsOf_78 : decode b_Mod_bitsOf 78 = .ok (.goto 4, 3) := by decide +kernel
theorem d_Mod_bitsOf_81 : decode b_Mod_bitsOf 81 = .ok (.iload_n 3, 1) := by decide +kernel
theorem d_Mod_bitsOf_82 : decode b_Mod_bitsOf 82 = .ok (.istore_n 3, 1) := by decide +kernel
theorem d_Mod_bitsOf_83 : decode b_Mod_bitsOf 83 = .ok (.iinc 4 1, 3) := by decide +kernel
theorem d_Mod_bitsOf_86 : decode b_Mod_bitsOf 86 = .ok (.goto (-81), 3) := by decide +kernel
theorem d_Mod_bitsOf_89 : decode b_Mod_bitsOf 89 = .ok (.iload_n 3, 1) := by decide +kernel
theorem d_Mod_bitsOf_90 : decode b_Mod_bitsOf 90 = .ok (.ireturn, 1) := by decide +kernel
theorem d_Mod_move_0 : decode b_Mod_move 0 = .ok (.sipush 128, 3) := by decide +kernel
theorem d_Mod_move_3 : decode b_Mod_move 3 = .ok (.iload_n 1, 1) := by decide +kernel
theorem d_Mod_move_4 : decode b_Mod_move 4 = .ok (.imul, 1) := by decide +kernel
theorem d_Mod_move_5 : decode b_Mod_move 5 = .ok (.iload_n 2, 1) := by decide +kernel
theorem d_Mod_move_6 : decode b_Mod_move 6 = .ok (.iadd, 1) := by decide +kernel
theorem d_Mod_move_7 : decode b_Mod_move 7 = .ok (.istore 4, 2) := by decide +kernel
theorem d_Mod_move_9 : decode b_Mod_move 9 = .ok (.sipush 128, 3) := by decide +kernel
theorem d_Mod_move_12 : decode b_Mod_move 12 = .ok (.iload_n 1, 1) := by decide +kernel
theorem d_Mod_move_13 : decode b_Mod_move 13 = .ok (.imul, 1) := by decide +kernel
theorem d_Mod_move_14 : decode b_Mod_move 14 = .ok (.iload_n 3, 1) := by decide +kernel
theorem d_Mod_move_15 : decode b_Mod_move 15 = .ok (.iadd, 1) := by decide +kernel
theorem d_Mod_move_16 : decode b_Mod_move 16 = .ok (.istore 5, 2) := by decide +kernel
theorem d_Mod_move_18 : decode b_Mod_move 18 = .ok (.aload_n 0, 1) := by decide +kernel
theorem d_Mod_move_19 : decode b_Mod_move 19 = .ok (.getfield 7, 3) := by decide +kernel
theorem d_Mod_move_22 : decode b_Mod_move 22 = .ok (.iload 5, 2) := by decide +kernel
theorem d_Mod_move_24 : decode b_Mod_move 24 = .ok (.iconst 1, 1) := by decide +kernel
theorem d_Mod_move_25 : decode b_Mod_move 25 = .ok (.bastore, 1) := by decide +kernel
theorem d_Mod_move_26 : decode b_Mod_move 26 = .ok (.aload_n 0, 1) := by decide +kernel
theorem d_Mod_move_27 : decode b_Mod_move 27 = .ok (.getfield 13, 3) := by decide +kernel
theorem d_Mod_move_30 : decode b_Mod_move 30 = .ok (.iload 5, 2) := by decide +kernel
theorem d_Mod_move_32 : decode b_Mod_move 32 = .ok (.aload_n 0, 1) := by decide +kernel
theorem d_Mod_move_33 : decode b_Mod_move 33 = .ok (.getfield 13, 3) := by decide +kernel
theorem d_Mod_move_36 : decode b_Mod_move 36 = .ok (.iload 4, 2) := by decide +kernel
theorem d_Mod_move_38 : decode b_Mod_move 38 = .ok (.iaload, 1) := by decide +kernel
theorem d_Mod_move_39 : decode b_Mod_move 39 = .ok (.iastore, 1) := by decide +kernel
theorem d_Mod_move_40 : decode b_Mod_move 40 = .ok (.aload_n 0, 1) := by decide +kernel
theorem d_Mod_move_41 : decode b_Mod_move 41 = .ok (.getfield 17, 3) := by decide +kernel
theorem d_Mod_move_44 : decode b_Mod_move 44 = .ok (.iload 5, 2) := by decide +kernel
theorem d_Mod_move_46 : decode b_Mod_move 46 = .ok (.aload_n 0, 1) := by decide +kernel
theorem d_Mod_move_47 : decode b_Mod_move 47 = .ok (.getfield 17, 3) := by decide +kernel
theorem d_Mod_move_50 : decode b_Mod_move 50 = .ok (.iload 4, 2) := by decide +kernel
theorem d_Mod_move_52 : decode b_Mod_move 52 = .ok (.iaload, 1) := by decide +kernel
theorem d_Mod_move_53 : decode b_Mod_move 53 = .ok (.iastore, 1) := by decide +kernel
theorem d_Mod_move_54 : decode b_Mod_move 54 = .ok (.aload_n 0, 1) := by decide +kernel
theorem d_Mod_move_55 : decode b_Mod_move 55 = .ok (.getfield 7, 3) := by decide +kernel
theorem d_Mod_move_58 : decode b_Mod_move 58 = .ok (.iload 4, 2) := by decide +kernel
theorem d_Mod_move_60 : decode b_Mod_move 60 = .ok (.iconst 0, 1) := by decide +kernel
theorem d_Mod_move_61 : decode b_Mod_move 61 = .ok (.bastore, 1) := by decide +kernel
theorem d_Mod_move_62 : decode b_Mod_move 62 = .ok (.aload_n 0, 1) := by decide +kernel
theorem d_Mod_move_63 : decode b_Mod_move 63 = .ok (.getfield 29, 3) := by decide +kernel
theorem d_Mod_move_66 : decode b_Mod_move 66 = .ok (.iconst 0, 1) := by decide +kernel
theorem d_Mod_move_67 : decode b_Mod_move 67 = .ok (.aload_n 0, 1) := by decide +kernel
theorem d_Mod_move_68 : decode b_Mod_move 68 = .ok (.getfield 29, 3) := by decide +kernel
theorem d_Mod_move_71 : decode b_Mod_move 71 = .ok (.iconst 0, 1) := by decide +kernel
theorem d_Mod_move_72 : decode b_Mod_move 72 = .ok (.iaload, 1) := by decide +kernel
theorem d_Mod_move_73 : decode b_Mod_move 73 = .ok (.iconst 1, 1) := by decide +kernel
theorem d_Mod_move_74 : decode b_Mod_move 74 = .ok (.iadd, 1) := by decide +kernel
theorem d_Mod_move_75 : decode b_Mod_move 75 = .ok (.iastore, 1) := by decide +kernel
theorem d_Mod_move_76 : decode b_Mod_move 76 = .ok (.return_, 1) := by decide +kernel
theorem d_Mod_mover_0 : decode b_Mod_mover 0 = .ok (.bipush 7, 2) := by decide +kernel
theorem d_Mod_mover_2 : decode b_Mod_mover 2 = .ok (.istore_n 3, 1) := by decide +kernel
theorem d_Mod_mover_3 : decode b_Mod_mover 3 = .ok (.iload_n 3, 1) := by decide +kernel
theorem d_Mod_mover_4 : decode b_Mod_mover 4 = .ok (.ifCond .le 87, 3) := by decide +kernel
theorem d_Mod_mover_7 : decode b_Mod_mover 7 = .ok (.aload_n 0, 1) := by decide +kernel
theorem d_Mod_mover_8 : decode b_Mod_mover 8 = .ok (.iload_n 1, 1) := by decide +kernel
theorem d_Mod_mover_9 : decode b_Mod_mover 9 = .ok (.iload_n 2, 1) := by decide +kernel
theorem d_Mod_mover_10 : decode b_Mod_mover 10 = .ok (.iload_n 3, 1) := by decide +kernel
theorem d_Mod_mover_11 : decode b_Mod_mover 11 = .ok (.ineg, 1) := by decide +kernel
theorem d_Mod_mover_12 : decode b_Mod_mover 12 = .ok (.invokevirtual 60, 3) := by decide +kernel
theorem d_Mod_mover_15 : decode b_Mod_mover 15 = .ok (.istore 4, 2) := by decide +kernel
theorem d_Mod_mover_17 : decode b_Mod_mover 17 = .ok (.iconst 0, 1) := by decide +kernel
theorem d_Mod_mover_18 : decode b_Mod_mover 18 = .ok (.istore 5, 2) := by decide +kernel
theorem d_Mod_mover_20 : decode b_Mod_mover 20 = .ok (.iload 5, 2) := by decide +kernel
theorem d_Mod_mover_22 : decode b_Mod_mover 22 = .ok (.iload_n 3, 1) := by decide +kernel
theorem d_Mod_mover_23 : decode b_Mod_mover 23 = .ok (.if_icmp .ge 62, 3) := by decide +kernel
theorem d_Mod_mover_26 : decode b_Mod_mover 26 = .ok (.aload_n 0, 1) := by decide +kernel
theorem d_Mod_mover_27 : decode b_Mod_mover 27 = .ok (.iload_n 1, 1) := by decide +kernel
theorem d_Mod_mover_28 : decode b_Mod_mover 28 = .ok (.iload 4, 2) := by decide +kernel
theorem d_Mod_mover_30 : decode b_Mod_mover 30 = .ok (.iload 5, 2) := by decide +kernel
theorem d_Mod_mover_32 : decode b_Mod_mover 32 = .ok (.invokevirtual 60, 3) := by decide +kernel
theorem d_Mod_mover_35 : decode b_Mod_mover 35 = .ok (.istore 6, 2) := by decide +kernel
theorem d_Mod_mover_37 : decode b_Mod_mover 37 = .ok (.aload_n 0, 1) := by decide +kernel
theorem d_Mod_mover_38 : decode b_Mod_mover 38 = .ok (.getfield 7, 3) := by decide +kernel
theorem d_Mod_mover_41 : decode b_Mod_mover 41 = .ok (.sipush 128, 3) := by decide +kernel
theorem d_Mod_mover_44 : decode b_Mod_mover 44 = .ok (.iload_n 1, 1) := by decide +kernel
theorem d_Mod_mover_45 : decode b_Mod_mover 45 = .ok (.imul, 1) := by decide +kernel
theorem d_Mod_mover_46 : decode b_Mod_mover 46 = .ok (.iload 6, 2) := by decide +kernel
theorem d_Mod_mover_48 : decode b_Mod_mover 48 = .ok (.iadd, 1) := by decide +kernel
theorem d_Mod_mover_49 : decode b_Mod_mover 49 = .ok (.baload, 1) := by decide +kernel
theorem d_Mod_mover_50 : decode b_Mod_mover 50 = .ok (.ifCond .eq 29, 3) := by decide +kernel
theorem d_Mod_mover_53 : decode b_Mod_mover 53 = .ok (.aload_n 0, 1) := by decide +kernel
theorem d_Mod_mover_54 : decode b_Mod_mover 54 = .ok (.iload_n 1, 1) := by decide +kernel
theorem d_Mod_mover_55 : decode b_Mod_mover 55 = .ok (.aload_n 0, 1) := by decide +kernel
theorem d_Mod_mover_56 : decode b_Mod_mover 56 = .ok (.getfield 13, 3) := by decide +kernel
theorem d_Mod_mover_59 : decode b_Mod_mover 59 = .ok (.sipush 128, 3) := by decide +kernel
theorem d_Mod_mover_62 : decode b_Mod_mover 62 = .ok (.iload_n 1, 1) := by decide +kernel
theorem d_Mod_mover_63 : decode b_Mod_mover 63 = .ok (.imul, 1) := by decide +kernel
theorem d_Mod_mover_64 : decode b_Mod_mover 64 = .ok (.iload 6, 2) := by decide +kernel
theorem d_Mod_mover_66 : decode b_Mod_mover 66 = .ok (.iadd, 1) := by decide +kernel
theorem d_Mod_mover_67 : decode b_Mod_mover 67 = .ok (.iaload, 1) := by decide +kernel
theorem d_Mod_mover_68 : decode b_Mod_mover 68 = .ok (.invokevirtual 56, 3) := by decide +kernel
theorem d_Mod_mover_71 : decode b_Mod_mover 71 = .ok (.iload 4, 2) := by decide +kernel
theorem d_Mod_mover_73 : decode b_Mod_mover 73 = .ok (.if_icmp .ne 6, 3) := by decide +kernel
theorem d_Mod_mover_76 : decode b_Mod_mover 76 = .ok (.iload 6, 2) := by decide +kernel
theorem d_Mod_mover_78 : decode b_Mod_mover 78 = .ok (.ireturn, 1) := by decide +kernel
theorem d_Mod_mover_79 : decode b_Mod_mover 79 = .ok (.iinc 5 1, 3) := by decide +kernel
theorem d_Mod_mover_82 : decode b_Mod_mover 82 = .ok (.goto (-62), 3) := by decide +kernel
theorem d_Mod_mover_85 : decode b_Mod_mover 85 = .ok (.iinc 3 (-1), 3) := by decide +kernel
theorem d_Mod_mover_88 : decode b_Mod_mover 88 = .ok (.goto (-85), 3) := by decide +kernel
theorem d_Mod_mover_91 : decode b_Mod_mover 91 = .ok (.iconst (-1), 1) := by decide +kernel
theorem d_Mod_mover_92 : decode b_Mod_mover 92 = .ok (.ireturn, 1) := by decide +kernel
theorem d_Mod_insert_0 : decode b_Mod_insert 0 = .ok (.aload_n 0, 1) := by decide +kernel
theorem d_Mod_insert_1 : decode b_Mod_insert 1 = .ok (.iload_n 1, 1) := by decide +kernel
theorem d_Mod_insert_2 : decode b_Mod_insert 2 = .ok (.iload_n 2, 1) := by decide +kernel
theorem d_Mod_insert_3 : decode b_Mod_insert 3 = .ok (.invokevirtual 56, 3) := by decide +kernel
theorem d_Mod_insert_6 : decode b_Mod_insert 6 = .ok (.istore 4, 2) := by decide +kernel
theorem d_Mod_insert_8 : decode b_Mod_insert 8 = .ok (.iconst 0, 1) := by decide +kernel
theorem d_Mod_insert_9 : decode b_Mod_insert 9 = .ok (.istore 5, 2) := by decide +kernel
theorem d_Mod_insert_11 : decode b_Mod_insert 11 = .ok (.iload 5, 2) := by decide +kernel
theorem d_Mod_insert_13 : decode b_Mod_insert 13 = .ok (.aload_n 0, 1) := by decide +kernel
theorem d_Mod_insert_14 : decode b_Mod_insert 14 = .ok (.getfield 20, 3) := by decide +kernel
theorem d_Mod_insert_17 : decode b_Mod_insert 17 = .ok (.iload_n 1, 1) := by decide +kernel
theorem d_Mod_insert_18 : decode b_Mod_insert 18 = .ok (.iaload, 1) := by decide +kernel
theorem d_Mod_insert_19 : decode b_Mod_insert 19 = .ok (.if_icmp .ge 32, 3) := by decide +kernel
theorem d_Mod_insert_22 : decode b_Mod_insert 22 = .ok (.aload_n 0, 1) := by decide +kernel
theorem d_Mod_insert_23 : decode b_Mod_insert 23 = .ok (.getfield 7, 3) := by decide +kernel
theorem d_Mod_insert_26 : decode b_Mod_insert 26 = .ok (.sipush 128, 3) := by decide +kernel
theorem d_Mod_insert_29 : decode b_Mod_insert 29 = .ok (.iload_n 1, 1) := by decide +kernel
theorem d_Mod_insert_30 : decode b_Mod_insert 30 = .ok (.imul, 1) := by decide +kernel
theorem d_Mod_insert_31 : decode b_Mod_insert 31 = .ok (.aload_n 0, 1) := by decide +kernel
theorem d_Mod_insert_32 : decode b_Mod_insert 32 = .ok (.iload_n 1, 1) := by decide +kernel
theorem d_Mod_insert_33 : decode b_Mod_insert 33 = .ok (.iload 4, 2) := by decide +kernel
theorem d_Mod_insert_35 : decode b_Mod_insert 35 = .ok (.iload 5, 2) := by decide +kernel
theorem d_Mod_insert_37 : decode b_Mod_insert 37 = .ok (.invokevirtual 60, 3) := by decide +kernel
theorem d_Mod_insert_40 : decode b_Mod_insert 40 = .ok (.iadd, 1) := by decide +kernel
theorem d_Mod_insert_41 : decode b_Mod_insert 41 = .ok (.baload, 1) := by decide +kernel
theorem d_Mod_insert_42 : decode b_Mod_insert 42 = .ok (.ifCond .eq 9, 3) := by decide +kernel
theorem d_Mod_insert_45 : decode b_Mod_insert 45 = .ok (.iinc 5 1, 3) := by decide +kernel
theorem d_Mod_insert_48 : decode b_Mod_insert 48 = .ok (.goto (-37), 3) := by decide +kernel
theorem d_Mod_insert_51 : decode b_Mod_insert 51 = .ok (.iload 5, 2) := by decide +kernel
theorem d_Mod_insert_53 : decode b_Mod_insert 53 = .ok (.aload_n 0, 1) := by decide +kernel
theorem d_Mod_insert_54 : decode b_Mod_insert 54 = .ok (.getfield 20, 3) := by decide +kernel
theorem d_Mod_insert_57 : decode b_Mod_insert 57 = .ok (.iload_n 1, 1) := by decide +kernel
theorem d_Mod_insert_58 : decode b_Mod_insert 58 = .ok (.iaload, 1) := by decide +kernel
theorem d_Mod_insert_59 : decode b_Mod_insert 59 = .ok (.if_icmp .ne 5, 3) := by decide +kernel
theorem d_Mod_insert_62 : decode b_Mod_insert 62 = .ok (.iconst 0, 1) := by decide +kernel
theorem d_Mod_insert_63 : decode b_Mod_insert 63 = .ok (.ireturn, 1) := by decide +kernel
theorem d_Mod_insert_64 : decode b_Mod_insert 64 = .ok (.aload_n 0, 1) := by decide +kernel
theorem d_Mod_insert_65 : decode b_Mod_insert 65 = .ok (.iload_n 1, 1) := by decide +kernel
theorem d_Mod_insert_66 : decode b_Mod_insert 66 = .ok (.iload 4, 2) := by decide +kernel
theorem d_Mod_insert_68 : decode b_Mod_insert 68 = .ok (.iload 5, 2) := by decide +kernel
theorem d_Mod_insert_70 : decode b_Mod_insert 70 = .ok (.invokevirtual 60, 3) := by decide +kernel
theorem d_Mod_insert_73 : decode b_Mod_insert 73 = .ok (.istore 6, 2) := by decide +kernel
theorem d_Mod_insert_75 : decode b_Mod_insert 75 = .ok (.iload 5, 2) := by decide +kernel
theorem d_Mod_insert_77 : decode b_Mod_insert 77 = .ok (.bipush 7, 2) := by decide +kernel
theorem d_Mod_insert_79 : decode b_Mod_insert 79 = .ok (.if_icmp .le 52, 3) := by decide +kernel
theorem d_Mod_insert_82 : decode b_Mod_insert 82 = .ok (.aload_n 0, 1) := by decide +kernel
theorem d_Mod_insert_83 : decode b_Mod_insert 83 = .ok (.iload_n 1, 1) := by decide +kernel
theorem d_Mod_insert_84 : decode b_Mod_insert 84 = .ok (.iload 6, 2) := by decide +kernel
theorem d_Mod_insert_86 : decode b_Mod_insert 86 = .ok (.invokevirtual 64, 3) := by decide +kernel
theorem d_Mod_insert_89 : decode b_Mod_insert 89 = .ok (.istore 7, 2) := by decide +kernel
theorem d_Mod_insert_91 : decode b_Mod_insert 91 = .ok (.iload 7, 2) := by decide +kernel
theorem d_Mod_insert_93 : decode b_Mod_insert 93 = .ok (.iconst (-1), 1) := by decide +kernel
theorem d_Mod_insert_94 : decode b_Mod_insert 94 = .ok (.if_icmp .ne 5, 3) := by decide +kernel
theorem d_Mod_insert_97 : decode b_Mod_insert 97 = .ok (.iconst 0, 1) := by decide +kernel
theorem d_Mod_insert_98 : decode b_Mod_insert 98 = .ok (.ireturn, 1) := by decide +kernel
theorem d_Mod_insert_99 : decode b_Mod_insert 99 = .ok (.aload_n 0, 1) := by decide +kernel
theorem d_Mod_insert_100 : decode b_Mod_insert 100 = .ok (.iload_n 1, 1) := by decide +kernel
theorem d_Mod_insert_101 : decode b_Mod_insert 101 = .ok (.iload 7, 2) := by decide +kernel
theorem d_Mod_insert_103 : decode b_Mod_insert 103 = .ok (.iload 6, 2) := by decide +kernel
theorem d_Mod_insert_105 : decode b_Mod_insert 105 = .ok (.invokevirtual 67, 3) := by decide +kernel
theorem d_Mod_insert_108 : decode b_Mod_insert 108 = .ok (.iload 7, 2) := by decide +kernel
theorem d_Mod_insert_110 : decode b_Mod_insert 110 = .ok (.istore 6, 2) := by decide +kernel
theorem d_Mod_insert_112 : decode b_Mod_insert 112 = .ok (.iload 6, 2) := by decide +kernel
theorem d_Mod_insert_114 : decode b_Mod_insert 114 = .ok (.iload 4, 2) := by decide +kernel
theorem d_Mod_insert_116 : decode b_Mod_insert 116 = .ok (.isub, 1) := by decide +kernel
theorem d_Mod_insert_117 : decode b_Mod_insert 117 = .ok (.aload_n 0, 1) := by decide +kernel
theorem d_Mod_insert_118 : decode b_Mod_insert 118 = .ok (.getfield 20, 3) := by decide +kernel
theorem d_Mod_insert_121 : decode b_Mod_insert 121 = .ok (.iload_n 1, 1) := by decide +kernel
theorem d_Mod_insert_122 : decode b_Mod_insert 122 = .ok (.iaload, 1) := by decide +kernel
theorem d_Mod_insert_123 : decode b_Mod_insert 123 = .ok (.iconst 1, 1) := by decide +kernel
theorem d_Mod_insert_124 : decode b_Mod_insert 124 = .ok (.isub, 1) := by decide +kernel
theorem d_Mod_insert_125 : decode b_Mod_insert 125 = .ok (.iand, 1) := by decide +kernel
theorem d_Mod_insert_126 : decode b_Mod_insert 126 = .ok (.istore 5, 2) := by decide +kernel
theorem d_Mod_insert_128 : decode b_Mod_insert 128 = .ok (.goto (-53), 3) := by decide +kernel
theorem d_Mod_insert_131 : decode b_Mod_insert 131 = .ok (.aload_n 0, 1) := by decide +kernel
theorem d_Mod_insert_132 : decode b_Mod_insert 132 = .ok (.getfield 7, 3) := by decide +kernel
theorem d_Mod_insert_135 : decode b_Mod_insert 135 = .ok (.sipush 128, 3) := by decide +kernel
theorem d_Mod_insert_138 : decode b_Mod_insert 138 = .ok (.iload_n 1, 1) := by decide +kernel
theorem d_Mod_insert_139 : decode b_Mod_insert 139 = .ok (.imul, 1) := by decide +kernel
theorem d_Mod_insert_140 : decode b_Mod_insert 140 = .ok (.iload 6, 2) := by decide +kernel
theorem d_Mod_insert_142 : decode b_Mod_insert 142 = .ok (.iadd, 1) := by decide +kernel
theorem d_Mod_insert_143 : decode b_Mod_insert 143 = .ok (.iconst 1, 1) := by decide +kernel
theorem d_Mod_insert_144 : decode b_Mod_insert 144 = .ok (.bastore, 1) := by decide +kernel
theorem d_Mod_insert_145 : decode b_Mod_insert 145 = .ok (.aload_n 0, 1) := by decide +kernel
theorem d_Mod_insert_146 : decode b_Mod_insert 146 = .ok (.getfield 13, 3) := by decide +kernel
theorem d_Mod_insert_149 : decode b_Mod_insert 149 = .ok (.sipush 128, 3) := by decide +kernel
theorem d_Mod_insert_152 : decode b_Mod_insert 152 = .ok (.iload_n 1, 1) := by decide +kernel
theorem d_Mod_insert_153 : decode b_Mod_insert 153 = .ok (.imul, 1) := by decide +kernel
theorem d_Mod_insert_154 : decode b_Mod_insert 154 = .ok (.iload 6, 2) := by decide +kernel
theorem d_Mod_insert_156 : decode b_Mod_insert 156 = .ok (.iadd, 1) := by decide +kernel
theorem d_Mod_insert_157 : decode b_Mod_insert 157 = .ok (.iload_n 2, 1) := by decide +kernel
theorem d_Mod_insert_158 : decode b_Mod_insert 158 = .ok (.iastore, 1) := by decide +kernel
theorem d_Mod_insert_159 : decode b_Mod_insert 159 = .ok (.aload_n 0, 1) := by decide +kernel
theorem d_Mod_insert_160 : decode b_Mod_insert 160 = .ok (.getfield 17, 3) := by decide +kernel
theorem d_Mod_insert_163 : decode b_Mod_insert 163 = .ok (.sipush 128, 3) := by decide +kernel
theorem d_Mod_insert_166 : decode b_Mod_insert 166 = .ok (.iload_n 1, 1) := by decide +kernel
theorem d_Mod_insert_167 : decode b_Mod_insert 167 = .ok (.imul, 1) := by decide +kernel
theorem d_Mod_insert_168 : decode b_Mod_insert 168 = .ok (.iload 6, 2) := by decide +kernel
theorem d_Mod_insert_170 : decode b_Mod_insert 170 = .ok (.iadd, 1) := by decide +kernel
theorem d_Mod_insert_171 : decode b_Mod_insert 171 = .ok (.iload_n 3, 1) := by decide +kernel
theorem d_Mod_insert_172 : decode b_Mod_insert 172 = .ok (.iastore, 1) := by decide +kernel
theorem d_Mod_insert_173 : decode b_Mod_insert 173 = .ok (.iconst 1, 1) := by decide +kernel
theorem d_Mod_insert_174 : decode b_Mod_insert 174 = .ok (.ireturn, 1) := by decide +kernel
theorem d_Mod_empty_0 : decode b_Mod_empty 0 = .ok (.iconst 0, 1) := by decide +kernel
theorem d_Mod_empty_1 : decode b_Mod_empty 1 = .ok (.istore_n 2, 1) := by decide +kernel
theorem d_Mod_empty_2 : decode b_Mod_empty 2 = .ok (.iload_n 2, 1) := by decide +kernel
theorem d_Mod_empty_3 : decode b_Mod_empty 3 = .ok (.sipush 128, 3) := by decide +kernel
theorem d_Mod_empty_6 : decode b_Mod_empty 6 = .ok (.if_icmp .ge 22, 3) := by decide +kernel
theorem d_Mod_empty_9 : decode b_Mod_empty 9 = .ok (.aload_n 0, 1) := by decide +kernel
theorem d_Mod_empty_10 : decode b_Mod_empty 10 = .ok (.getfield 7, 3) := by decide +kernel
theorem d_Mod_empty_13 : decode b_Mod_empty 13 = .ok (.sipush 128, 3) := by decide +kernel
theorem d_Mod_empty_16 : decode b_Mod_empty 16 = .ok (.iload_n 1, 1) := by decide +kernel
theorem d_Mod_empty_17 : decode b_Mod_empty 17 = .ok (.imul, 1) := by decide +kernel
theorem d_Mod_empty_18 : decode b_Mod_empty 18 = .ok (.iload_n 2, 1) := by decide +kernel
theorem d_Mod_empty_19 : decode b_Mod_empty 19 = .ok (.iadd, 1) := by decide +kernel
theorem d_Mod_empty_20 : decode b_Mod_empty 20 = .ok (.iconst 0, 1) := by decide +kernel
theorem d_Mod_empty_21 : decode b_Mod_empty 21 = .ok (.bastore, 1) := by decide +kernel
theorem d_Mod_empty_22 : decode b_Mod_empty 22 = .ok (.iinc 2 1, 3) := by decide +kernel
theorem d_Mod_empty_25 : decode b_Mod_empty 25 = .ok (.goto (-23), 3) := by decide +kernel
theorem d_Mod_empty_28 : decode b_Mod_empty 28 = .ok (.return_, 1) := by decide +kernel
theorem d_Mod_hold_0 : decode b_Mod_hold 0 = .ok (.aload_n 0, 1) := by decide +kernel
theorem d_Mod_hold_1 : decode b_Mod_hold 1 = .ok (.iconst 0, 1) := by decide +kernel
theorem d_Mod_hold_2 : decode b_Mod_hold 2 = .ok (.putfield 71, 3) := by decide +kernel
theorem d_Mod_hold_5 : decode b_Mod_hold 5 = .ok (.iconst 0, 1) := by decide +kernel
theorem d_Mod_hold_6 : decode b_Mod_hold 6 = .ok (.istore_n 2, 1) := by decide +kernel
theorem d_Mod_hold_7 : decode b_Mod_hold 7 = .ok (.iload_n 2, 1) := by decide +kernel
theorem d_Mod_hold_8 : decode b_Mod_hold 8 = .ok (.sipush 128, 3) := by decide +kernel
theorem d_Mod_hold_11 : decode b_Mod_hold 11 = .ok (.if_icmp .ge 122, 3) := by decide +kernel
theorem d_Mod_hold_14 : decode b_Mod_hold 14 = .ok (.aload_n 0, 1) := by decide +kernel
theorem d_Mod_hold_15 : decode b_Mod_hold 15 = .ok (.getfield 38, 3) := by decide +kernel
theorem d_Mod_hold_18 : decode b_Mod_hold 18 = .ok (.iload_n 2, 1) := by decide +kernel
theorem d_Mod_hold_19 : decode b_Mod_hold 19 = .ok (.aload_n 0, 1) := by decide +kernel
theorem d_Mod_hold_20 : decode b_Mod_hold 20 = .ok (.getfield 7, 3) := by decide +kernel
theorem d_Mod_hold_23 : decode b_Mod_hold 23 = .ok (.sipush 128, 3) := by decide +kernel
theorem d_Mod_hold_26 : decode b_Mod_hold 26 = .ok (.iload_n 1, 1) := by decide +kernel
theorem d_Mod_hold_27 : decode b_Mod_hold 27 = .ok (.imul, 1) := by decide +kernel
theorem d_Mod_hold_28 : decode b_Mod_hold 28 = .ok (.iload_n 2, 1) := by decide +kernel
theorem d_Mod_hold_29 : decode b_Mod_hold 29 = .ok (.iadd, 1) := by decide +kernel
theorem d_Mod_hold_30 : decode b_Mod_hold 30 = .ok (.baload, 1) := by decide +kernel
theorem d_Mod_hold_31 : decode b_Mod_hold 31 = .ok (.bastore, 1) := by decide +kernel
theorem d_Mod_hold_32 : decode b_Mod_hold 32 = .ok (.aload_n 0, 1) := by decide +kernel
theorem d_Mod_hold_33 : decode b_Mod_hold 33 = .ok (.getfield 41, 3) := by decide +kernel
theorem d_Mod_hold_36 : decode b_Mod_hold 36 = .ok (.iload_n 2, 1) := by decide +kernel
theorem d_Mod_hold_37 : decode b_Mod_hold 37 = .ok (.aload_n 0, 1) := by decide +kernel
theorem d_Mod_hold_38 : decode b_Mod_hold 38 = .ok (.getfield 13, 3) := by decide +kernel
theorem d_Mod_hold_41 : decode b_Mod_hold 41 = .ok (.sipush 128, 3) := by decide +kernel
theorem d_Mod_hold_44 : decode b_Mod_hold 44 = .ok (.iload_n 1, 1) := by decide +kernel
theorem d_Mod_hold_45 : decode b_Mod_hold 45 = .ok (.imul, 1) := by decide +kernel
theorem d_Mod_hold_46 : decode b_Mod_hold 46 = .ok (.iload_n 2, 1) := by decide +kernel
theorem d_Mod_hold_47 : decode b_Mod_hold 47 = .ok (.iadd, 1) := by decide +kernel
theorem d_Mod_hold_48 : decode b_Mod_hold 48 = .ok (.iaload, 1) := by decide +kernel
theorem d_Mod_hold_49 : decode b_Mod_hold 49 = .ok (.iastore, 1) := by decide +kernel
theorem d_Mod_hold_50 : decode b_Mod_hold 50 = .ok (.aload_n 0, 1) := by decide +kernel
theorem d_Mod_hold_51 : decode b_Mod_hold 51 = .ok (.getfield 44, 3) := by decide +kernel
theorem d_Mod_hold_54 : decode b_Mod_hold 54 = .ok (.iload_n 2, 1) := by decide +kernel
theorem d_Mod_hold_55 : decode b_Mod_hold 55 = .ok (.aload_n 0, 1) := by decide +kernel
theorem d_Mod_hold_56 : decode b_Mod_hold 56 = .ok (.getfield 17, 3) := by decide +kernel
theorem d_Mod_hold_59 : decode b_Mod_hold 59 = .ok (.sipush 128, 3) := by decide +kernel
theorem d_Mod_hold_62 : decode b_Mod_hold 62 = .ok (.iload_n 1, 1) := by decide +kernel
theorem d_Mod_hold_63 : decode b_Mod_hold 63 = .ok (.imul, 1) := by decide +kernel
theorem d_Mod_hold_64 : decode b_Mod_hold 64 = .ok (.iload_n 2, 1) := by decide +kernel
theorem d_Mod_hold_65 : decode b_Mod_hold 65 = .ok (.iadd, 1) := by decide +kernel
theorem d_Mod_hold_66 : decode b_Mod_hold 66 = .ok (.iaload, 1) := by decide +kernel
theorem d_Mod_hold_67 : decode b_Mod_hold 67 = .ok (.iastore, 1) := by decide +kernel
theorem d_Mod_hold_68 : decode b_Mod_hold 68 = .ok (.iload_n 2, 1) := by decide +kernel
theorem d_Mod_hold_69 : decode b_Mod_hold 69 = .ok (.aload_n 0, 1) := by decide +kernel
theorem d_Mod_hold_70 : decode b_Mod_hold 70 = .ok (.getfield 20, 3) := by decide +kernel
theorem d_Mod_hold_73 : decode b_Mod_hold 73 = .ok (.iload_n 1, 1) := by decide +kernel
theorem d_Mod_hold_74 : decode b_Mod_hold 74 = .ok (.iaload, 1) := by decide +kernel
theorem d_Mod_hold_75 : decode b_Mod_hold 75 = .ok (.if_icmp .ge 52, 3) := by decide +kernel
theorem d_Mod_hold_78 : decode b_Mod_hold 78 = .ok (.aload_n 0, 1) := by decide +kernel
theorem d_Mod_hold_79 : decode b_Mod_hold 79 = .ok (.getfield 38, 3) := by decide +kernel
theorem d_Mod_hold_82 : decode b_Mod_hold 82 = .ok (.iload_n 2, 1) := by decide +kernel
theorem d_Mod_hold_83 : decode b_Mod_hold 83 = .ok (.baload, 1) := by decide +kernel
theorem d_Mod_hold_84 : decode b_Mod_hold 84 = .ok (.ifCond .eq 43, 3) := by decide +kernel
theorem d_Mod_hold_87 : decode b_Mod_hold 87 = .ok (.aload_n 0, 1) := by decide +kernel
theorem d_Mod_hold_88 : decode b_Mod_hold 88 = .ok (.getfield 32, 3) := by decide +kernel
theorem d_Mod_hold_91 : decode b_Mod_hold 91 = .ok (.aload_n 0, 1) := by decide +kernel
theorem d_Mod_hold_92 : decode b_Mod_hold 92 = .ok (.getfield 71, 3) := by decide +kernel
theorem d_Mod_hold_95 : decode b_Mod_hold 95 = .ok (.aload_n 0, 1) := by decide +kernel
theorem d_Mod_hold_96 : decode b_Mod_hold 96 = .ok (.getfield 41, 3) := by decide +kernel
theorem d_Mod_hold_99 : decode b_Mod_hold 99 = .ok (.iload_n 2, 1) := by decide +kernel
theorem d_Mod_hold_100 : decode b_Mod_hold 100 = .ok (.iaload, 1) := by decide +kernel
theorem d_Mod_hold_101 : decode b_Mod_hold 101 = .ok (.iastore, 1) := by decide +kernel
theorem d_Mod_hold_102 : decode b_Mod_hold 102 = .ok (.aload_n 0, 1) := by decide +kernel
theorem d_Mod_hold_103 : decode b_Mod_hold 103 = .ok (.getfield 35, 3) := by decide +kernel
theorem d_Mod_hold_106 : decode b_Mod_hold 106 = .ok (.aload_n 0, 1) := by decide +kernel
theorem d_Mod_hold_107 : decode b_Mod_hold 107 = .ok (.getfield 71, 3) := by decide +kernel
theorem d_Mod_hold_110 : decode b_Mod_hold 110 = .ok (.aload_n 0, 1) := by decide +kernel
theorem d_Mod_hold_111 : decode b_Mod_hold 111 = .ok (.getfield 44, 3) := by decide +kernel
theorem d_Mod_hold_114 : decode b_Mod_hold 114 = .ok (.iload_n 2, 1) := by decide +kernel
theorem d_Mod_hold_115 : decode b_Mod_hold 115 = .ok (.iaload, 1) := by decide +kernel
theorem d_Mod_hold_116 : decode b_Mod_hold 116 = .ok (.iastore, 1) := by decide +kernel
theorem d_Mod_hold_117 : decode b_Mod_hold 117 = .ok (.aload_n 0, 1) := by decide +kernel
theorem d_Mod_hold_118 : decode b_Mod_hold 118 = .ok (.dup, 1) := by decide +kernel
theorem d_Mod_hold_119 : decode b_Mod_hold 119 = .ok (.getfield 71, 3) := by decide +kernel
theorem d_Mod_hold_122 : decode b_Mod_hold 122 = .ok (.iconst 1, 1) := by decide +kernel
theorem d_Mod_hold_123 : decode b_Mod_hold 123 = .ok (.iadd, 1) := by decide +kernel
theorem d_Mod_hold_124 : decode b_Mod_hold 124 = .ok (.putfield 71, 3) := by decide +kernel
theorem d_Mod_hold_127 : decode b_Mod_hold 127 = .ok (.iinc 2 1, 3) := by decide +kernel
theorem d_Mod_hold_130 : decode b_Mod_hold 130 = .ok (.goto (-123), 3) := by decide +kernel
theorem d_Mod_hold_133 : decode b_Mod_hold 133 = .ok (.return_, 1) := by decide +kernel
theorem d_Mod_putBack_0 : decode b_Mod_putBack 0 = .ok (.aload_n 0, 1) := by decide +kernel
theorem d_Mod_putBack_1 : decode b_Mod_putBack 1 = .ok (.getfield 20, 3) := by decide +kernel
theorem d_Mod_putBack_4 : decode b_Mod_putBack 4 = .ok (.iload_n 1, 1) := by decide +kernel
theorem d_Mod_putBack_5 : decode b_Mod_putBack 5 = .ok (.iload_n 2, 1) := by decide +kernel
theorem d_Mod_putBack_6 : decode b_Mod_putBack 6 = .ok (.iastore, 1) := by decide +kernel
theorem d_Mod_putBack_7 : decode b_Mod_putBack 7 = .ok (.aload_n 0, 1) := by decide +kernel
theorem d_Mod_putBack_8 : decode b_Mod_putBack 8 = .ok (.getfield 26, 3) := by decide +kernel
theorem d_Mod_putBack_11 : decode b_Mod_putBack 11 = .ok (.iload_n 1, 1) := by decide +kernel
theorem d_Mod_putBack_12 : decode b_Mod_putBack 12 = .ok (.iload_n 3, 1) := by decide +kernel
theorem d_Mod_putBack_13 : decode b_Mod_putBack 13 = .ok (.iastore, 1) := by decide +kernel
theorem d_Mod_putBack_14 : decode b_Mod_putBack 14 = .ok (.iconst 0, 1) := by decide +kernel
theorem d_Mod_putBack_15 : decode b_Mod_putBack 15 = .ok (.istore 4, 2) := by decide +kernel
theorem d_Mod_putBack_17 : decode b_Mod_putBack 17 = .ok (.iload 4, 2) := by decide +kernel
theorem d_Mod_putBack_19 : decode b_Mod_putBack 19 = .ok (.sipush 128, 3) := by decide +kernel
theorem d_Mod_putBack_22 : decode b_Mod_putBack 22 = .ok (.if_icmp .ge 69, 3) := by decide +kernel
theorem d_Mod_putBack_25 : decode b_Mod_putBack 25 = .ok (.aload_n 0, 1) := by decide +kernel
theorem d_Mod_putBack_26 : decode b_Mod_putBack 26 = .ok (.getfield 7, 3) := by decide +kernel
theorem d_Mod_putBack_29 : decode b_Mod_putBack 29 = .ok (.sipush 128, 3) := by decide +kernel
theorem d_Mod_putBack_32 : decode b_Mod_putBack 32 = .ok (.iload_n 1, 1) := by decide +kernel
theorem d_Mod_putBack_33 : decode b_Mod_putBack 33 = .ok (.imul, 1) := by decide +kernel
theorem d_Mod_putBack_34 : decode b_Mod_putBack 34 = .ok (.iload 4, 2) := by decide +kernel
theorem d_Mod_putBack_36 : decode b_Mod_putBack 36 = .ok (.iadd, 1) := by decide +kernel
theorem d_Mod_putBack_37 : decode b_Mod_putBack 37 = .ok (.aload_n 0, 1) := by decide +kernel
theorem d_Mod_putBack_38 : decode b_Mod_putBack 38 = .ok (.getfield 38, 3) := by decide +kernel
theorem d_Mod_putBack_41 : decode b_Mod_putBack 41 = .ok (.iload 4, 2) := by decide +kernel
theorem d_Mod_putBack_43 : decode b_Mod_putBack 43 = .ok (.baload, 1) := by decide +kernel
theorem d_Mod_putBack_44 : decode b_Mod_putBack 44 = .ok (.bastore, 1) := by decide +kernel
theorem d_Mod_putBack_45 : decode b_Mod_putBack 45 = .ok (.aload_n 0, 1) := by decide +kernel
theorem d_Mod_putBack_46 : decode b_Mod_putBack 46 = .ok (.getfield 13, 3) := by decide +kernel
theorem d_Mod_putBack_49 : decode b_Mod_putBack 49 = .ok (.sipush 128, 3) := by decide +kernel
theorem d_Mod_putBack_52 : decode b_Mod_putBack 52 = .ok (.iload_n 1, 1) := by decide +kernel
theorem d_Mod_putBack_53 : decode b_Mod_putBack 53 = .ok (.imul, 1) := by decide +kernel
theorem d_Mod_putBack_54 : decode b_Mod_putBack 54 = .ok (.iload 4, 2) := by decide +kernel
theorem d_Mod_putBack_56 : decode b_Mod_putBack 56 = .ok (.iadd, 1) := by decide +kernel
theorem d_Mod_putBack_57 : decode b_Mod_putBack 57 = .ok (.aload_n 0, 1) := by decide +kernel
theorem d_Mod_putBack_58 : decode b_Mod_putBack 58 = .ok (.getfield 41, 3) := by decide +kernel
theorem d_Mod_putBack_61 : decode b_Mod_putBack 61 = .ok (.iload 4, 2) := by decide +kernel
theorem d_Mod_putBack_63 : decode b_Mod_putBack 63 = .ok (.iaload, 1) := by decide +kernel
theorem d_Mod_putBack_64 : decode b_Mod_putBack 64 = .ok (.iastore, 1) := by decide +kernel
theorem d_Mod_putBack_65 : decode b_Mod_putBack 65 = .ok (.aload_n 0, 1) := by decide +kernel
theorem d_Mod_putBack_66 : decode b_Mod_putBack 66 = .ok (.getfield 17, 3) := by decide +kernel
theorem d_Mod_putBack_69 : decode b_Mod_putBack 69 = .ok (.sipush 128, 3) := by decide +kernel
theorem d_Mod_putBack_72 : decode b_Mod_putBack 72 = .ok (.iload_n 1, 1) := by decide +kernel
theorem d_Mod_putBack_73 : decode b_Mod_putBack 73 = .ok (.imul, 1) := by decide +kernel
theorem d_Mod_putBack_74 : decode b_Mod_putBack 74 = .ok (.iload 4, 2) := by decide +kernel
theorem d_Mod_putBack_76 : decode b_Mod_putBack 76 = .ok (.iadd, 1) := by decide +kernel
theorem d_Mod_putBack_77 : decode b_Mod_putBack 77 = .ok (.aload_n 0, 1) := by decide +kernel
theorem d_Mod_putBack_78 : decode b_Mod_putBack 78 = .ok (.getfield 44, 3) := by decide +kernel
theorem d_Mod_putBack_81 : decode b_Mod_putBack 81 = .ok (.iload 4, 2) := by decide +kernel
theorem d_Mod_putBack_83 : decode b_Mod_putBack 83 = .ok (.iaload, 1) := by decide +kernel
theorem d_Mod_putBack_84 : decode b_Mod_putBack 84 = .ok (.iastore, 1) := by decide +kernel
theorem d_Mod_putBack_85 : decode b_Mod_putBack 85 = .ok (.iinc 4 1, 3) := by decide +kernel
theorem d_Mod_putBack_88 : decode b_Mod_putBack 88 = .ok (.goto (-71), 3) := by decide +kernel
theorem d_Mod_putBack_91 : decode b_Mod_putBack 91 = .ok (.return_, 1) := by decide +kernel
theorem d_Mod_nextFrom_0 : decode b_Mod_nextFrom 0 = .ok (.iconst (-1), 1) := by decide +kernel
theorem d_Mod_nextFrom_1 : decode b_Mod_nextFrom 1 = .ok (.istore_n 2, 1) := by decide +kernel
theorem d_Mod_nextFrom_2 : decode b_Mod_nextFrom 2 = .ok (.iconst 0, 1) := by decide +kernel
theorem d_Mod_nextFrom_3 : decode b_Mod_nextFrom 3 = .ok (.istore_n 3, 1) := by decide +kernel
theorem d_Mod_nextFrom_4 : decode b_Mod_nextFrom 4 = .ok (.iload_n 3, 1) := by decide +kernel
theorem d_Mod_nextFrom_5 : decode b_Mod_nextFrom 5 = .ok (.iconst 3, 1) := by decide +kernel
theorem d_Mod_nextFrom_6 : decode b_Mod_nextFrom 6 = .ok (.if_icmp .ge 57, 3) := by decide +kernel
theorem d_Mod_nextFrom_9 : decode b_Mod_nextFrom 9 = .ok (.aload_n 0, 1) := by decide +kernel
theorem d_Mod_nextFrom_10 : decode b_Mod_nextFrom 10 = .ok (.getfield 23, 3) := by decide +kernel
theorem d_Mod_nextFrom_13 : decode b_Mod_nextFrom 13 = .ok (.iload_n 3, 1) := by decide +kernel
theorem d_Mod_nextFrom_14 : decode b_Mod_nextFrom 14 = .ok (.iaload, 1) := by decide +kernel
theorem d_Mod_nextFrom_15 : decode b_Mod_nextFrom 15 = .ok (.iload_n 1, 1) := by decide +kernel
theorem d_Mod_nextFrom_16 : decode b_Mod_nextFrom 16 = .ok (.if_icmp .lt 7, 3) := by decide +kernel
theorem d_Mod_nextFrom_19 : decode b_Mod_nextFrom 19 = .ok (.iconst 1, 1) := by decide +kernel
theorem d_Mod_nextFrom_20 : decode b_Mod_nextFrom 20 = .ok (.goto 4, 3) := by decide +kernel
theorem d_Mod_nextFrom_23 : decode b_Mod_nextFrom 23 = .ok (.iconst 0, 1) := by decide +kernel
theorem d_Mod_nextFrom_24 : decode b_Mod_nextFrom 24 = .ok (.istore 4, 2) := by decide +kernel
theorem d_Mod_nextFrom_26 : decode b_Mod_nextFrom 26 = .ok (.iload 4, 2) := by decide +kernel
theorem d_Mod_nextFrom_28 : decode b_Mod_nextFrom 28 = .ok (.ifCond .eq 27, 3) := by decide +kernel
theorem d_Mod_nextFrom_31 : decode b_Mod_nextFrom 31 = .ok (.iload_n 2, 1) := by decide +kernel
theorem d_Mod_nextFrom_32 : decode b_Mod_nextFrom 32 = .ok (.iconst (-1), 1) := by decide +kernel
theorem d_Mod_nextFrom_33 : decode b_Mod_nextFrom 33 = .ok (.if_icmp .eq 18, 3) := by decide +kernel
theorem d_Mod_nextFrom_36 : decode b_Mod_nextFrom 36 = .ok (.aload_n 0, 1) := by decide +kernel
theorem d_Mod_nextFrom_37 : decode b_Mod_nextFrom 37 = .ok (.getfield 23, 3) := by decide +kernel
theorem d_Mod_nextFrom_40 : decode b_Mod_nextFrom 40 = .ok (.iload_n 3, 1) := by decide +kernel
theorem d_Mod_nextFrom_41 : decode b_Mod_nextFrom 41 = .ok (.iaload, 1) := by decide +kernel
theorem d_Mod_nextFrom_42 : decode b_Mod_nextFrom 42 = .ok (.aload_n 0, 1) := by decide +kernel
theorem d_Mod_nextFrom_43 : decode b_Mod_nextFrom 43 = .ok (.getfield 23, 3) := by decide +kernel
theorem d_Mod_nextFrom_46 : decode b_Mod_nextFrom 46 = .ok (.iload_n 2, 1) := by decide +kernel
theorem d_Mod_nextFrom_47 : decode b_Mod_nextFrom 47 = .ok (.iaload, 1) := by decide +kernel
theorem d_Mod_nextFrom_48 : decode b_Mod_nextFrom 48 = .ok (.if_icmp .ge 7, 3) := by decide +kernel
theorem d_Mod_nextFrom_51 : decode b_Mod_nextFrom 51 = .ok (.iload_n 3, 1) := by decide +kernel
theorem d_Mod_nextFrom_52 : decode b_Mod_nextFrom 52 = .ok (.goto 4, 3) := by decide +kernel
theorem d_Mod_nextFrom_55 : decode b_Mod_nextFrom 55 = .ok (.iload_n 2, 1) := by decide +kernel
theorem d_Mod_nextFrom_56 : decode b_Mod_nextFrom 56 = .ok (.istore_n 2, 1) := by decide +kernel
theorem d_Mod_nextFrom_57 : decode b_Mod_nextFrom 57 = .ok (.iinc 3 1, 3) := by decide +kernel
theorem d_Mod_nextFrom_60 : decode b_Mod_nextFrom 60 = .ok (.goto (-56), 3) := by decide +kernel
theorem d_Mod_nextFrom_63 : decode b_Mod_nextFrom 63 = .ok (.iload_n 2, 1) := by decide +kernel
theorem d_Mod_nextFrom_64 : decode b_Mod_nextFrom 64 = .ok (.ireturn, 1) := by decide +kernel
theorem d_Mod_endOf_0 : decode b_Mod_endOf 0 = .ok (.aload_n 0, 1) := by decide +kernel
theorem d_Mod_endOf_1 : decode b_Mod_endOf 1 = .ok (.getfield 23, 3) := by decide +kernel
theorem d_Mod_endOf_4 : decode b_Mod_endOf 4 = .ok (.iload_n 1, 1) := by decide +kernel
theorem d_Mod_endOf_5 : decode b_Mod_endOf 5 = .ok (.iaload, 1) := by decide +kernel
theorem d_Mod_endOf_6 : decode b_Mod_endOf 6 = .ok (.iload_n 1, 1) := by decide +kernel
theorem d_Mod_endOf_7 : decode b_Mod_endOf 7 = .ok (.iload_n 2, 1) := by decide +kernel
theorem d_Mod_endOf_8 : decode b_Mod_endOf 8 = .ok (.if_icmp .ne 7, 3) := by decide +kernel
theorem d_Mod_endOf_11 : decode b_Mod_endOf 11 = .ok (.iload_n 3, 1) := by decide +kernel
theorem d_Mod_endOf_12 : decode b_Mod_endOf 12 = .ok (.goto 9, 3) := by decide +kernel
theorem d_Mod_endOf_15 : decode b_Mod_endOf 15 = .ok (.aload_n 0, 1) := by decide +kernel
theorem d_Mod_endOf_16 : decode b_Mod_endOf 16 = .ok (.getfield 20, 3) := by decide +kernel
theorem d_Mod_endOf_19 : decode b_Mod_endOf 19 = .ok (.iload_n 1, 1) := by decide +kernel
theorem d_Mod_endOf_20 : decode b_Mod_endOf 20 = .ok (.iaload, 1) := by decide +kernel
theorem d_Mod_endOf_21 : decode b_Mod_endOf 21 = .ok (.iadd, 1) := by decide +kernel
theorem d_Mod_endOf_22 : decode b_Mod_endOf 22 = .ok (.ireturn, 1) := by decide +kernel
theorem d_Mod_endOfAll_0 : decode b_Mod_endOfAll 0 = .ok (.iconst 0, 1) := by decide +kernel
theorem d_Mod_endOfAll_1 : decode b_Mod_endOfAll 1 = .ok (.istore_n 3, 1) := by decide +kernel
theorem d_Mod_endOfAll_2 : decode b_Mod_endOfAll 2 = .ok (.iconst 0, 1) := by decide +kernel
theorem d_Mod_endOfAll_3 : decode b_Mod_endOfAll 3 = .ok (.istore 4, 2) := by decide +kernel
theorem d_Mod_endOfAll_5 : decode b_Mod_endOfAll 5 = .ok (.iload 4, 2) := by decide +kernel
theorem d_Mod_endOfAll_7 : decode b_Mod_endOfAll 7 = .ok (.iconst 3, 1) := by decide +kernel
theorem d_Mod_endOfAll_8 : decode b_Mod_endOfAll 8 = .ok (.if_icmp .ge 32, 3) := by decide +kernel
theorem d_Mod_endOfAll_11 : decode b_Mod_endOfAll 11 = .ok (.aload_n 0, 1) := by decide +kernel
theorem d_Mod_endOfAll_12 : decode b_Mod_endOfAll 12 = .ok (.iload 4, 2) := by decide +kernel
theorem d_Mod_endOfAll_14 : decode b_Mod_endOfAll 14 = .ok (.iload_n 1, 1) := by decide +kernel
theorem d_Mod_endOfAll_15 : decode b_Mod_endOfAll 15 = .ok (.iload_n 2, 1) := by decide +kernel
theorem d_Mod_endOfAll_16 : decode b_Mod_endOfAll 16 = .ok (.invokevirtual 74, 3) := by decide +kernel
theorem d_Mod_endOfAll_19 : decode b_Mod_endOfAll 19 = .ok (.istore 5, 2) := by decide +kernel
theorem d_Mod_endOfAll_21 : decode b_Mod_endOfAll 21 = .ok (.iload 5, 2) := by decide +kernel
theorem d_Mod_endOfAll_23 : decode b_Mod_endOfAll 23 = .ok (.iload_n 3, 1) := by decide +kernel
theorem d_Mod_endOfAll_24 : decode b_Mod_endOfAll 24 = .ok (.if_icmp .le 8, 3) := by decide +kernel
theorem d_Mod_endOfAll_27 : decode b_Mod_endOfAll 27 = .ok (.iload 5, 2) := by decide +kernel
theorem d_Mod_endOfAll_29 : decode b_Mod_endOfAll 29 = .ok (.goto 4, 3) := by decide +kernel
theorem d_Mod_endOfAll_32 : decode b_Mod_endOfAll 32 = .ok (.iload_n 3, 1) := by decide +kernel
theorem d_Mod_endOfAll_33 : decode b_Mod_endOfAll 33 = .ok (.istore_n 3, 1) := by decide +kernel
theorem d_Mod_endOfAll_34 : decode b_Mod_endOfAll 34 = .ok (.iinc 4 1, 3) := by decide +kernel
theorem d_Mod_endOfAll_37 : decode b_Mod_endOfAll 37 = .ok (.goto (-32), 3) := by decide +kernel
theorem d_Mod_endOfAll_40 : decode b_Mod_endOfAll 40 = .ok (.iload_n 3, 1) := by decide +kernel
theorem d_Mod_endOfAll_41 : decode b_Mod_endOfAll 41 = .ok (.ireturn, 1) := by decide +kernel
theorem d_Mod_pushTogether_0 : decode b_Mod_pushTogether 0 = .ok (.iconst 0, 1) := by decide +kernel
theorem d_Mod_pushTogether_1 : decode b_Mod_pushTogether 1 = .ok (.istore_n 3, 1) := by decide +kernel
theorem d_Mod_pushTogether_2 : decode b_Mod_pushTogether 2 = .ok (.iconst 0, 1) := by decide +kernel
theorem d_Mod_pushTogether_3 : decode b_Mod_pushTogether 3 = .ok (.istore 4, 2) := by decide +kernel
theorem d_Mod_pushTogether_5 : decode b_Mod_pushTogether 5 = .ok (.iconst 0, 1) := by decide +kernel
theorem d_Mod_pushTogether_6 : decode b_Mod_pushTogether 6 = .ok (.istore 5, 2) := by decide +kernel
theorem d_Mod_pushTogether_8 : decode b_Mod_pushTogether 8 = .ok (.iload 5, 2) := by decide +kernel
theorem d_Mod_pushTogether_10 : decode b_Mod_pushTogether 10 = .ok (.iconst 3, 1) := by decide +kernel
theorem d_Mod_pushTogether_11 : decode b_Mod_pushTogether 11 = .ok (.if_icmp .ge 44, 3) := by decide +kernel
theorem d_Mod_pushTogether_14 : decode b_Mod_pushTogether 14 = .ok (.aload_n 0, 1) := by decide +kernel
theorem d_Mod_pushTogether_15 : decode b_Mod_pushTogether 15 = .ok (.iload 4, 2) := by decide +kernel
theorem d_Mod_pushTogether_17 : decode b_Mod_pushTogether 17 = .ok (.invokevirtual 77, 3) := by decide +kernel
theorem d_Mod_pushTogether_20 : decode b_Mod_pushTogether 20 = .ok (.istore 6, 2) := by decide +kernel
theorem d_Mod_pushTogether_22 : decode b_Mod_pushTogether 22 = .ok (.aload_n 0, 1) := by decide +kernel
theorem d_Mod_pushTogether_23 : decode b_Mod_pushTogether 23 = .ok (.iload 6, 2) := by decide +kernel
theorem d_Mod_pushTogether_25 : decode b_Mod_pushTogether 25 = .ok (.iload_n 1, 1) := by decide +kernel
theorem d_Mod_pushTogether_26 : decode b_Mod_pushTogether 26 = .ok (.iload_n 2, 1) := by decide +kernel
theorem d_Mod_pushTogether_27 : decode b_Mod_pushTogether 27 = .ok (.invokevirtual 74, 3) := by decide +kernel
theorem d_Mod_pushTogether_30 : decode b_Mod_pushTogether 30 = .ok (.istore 4, 2) := by decide +kernel
theorem d_Mod_pushTogether_32 : decode b_Mod_pushTogether 32 = .ok (.aload_n 0, 1) := by decide +kernel
theorem d_Mod_pushTogether_33 : decode b_Mod_pushTogether 33 = .ok (.getfield 23, 3) := by decide +kernel
theorem d_Mod_pushTogether_36 : decode b_Mod_pushTogether 36 = .ok (.iload 6, 2) := by decide +kernel
theorem d_Mod_pushTogether_38 : decode b_Mod_pushTogether 38 = .ok (.iload_n 3, 1) := by decide +kernel
theorem d_Mod_pushTogether_39 : decode b_Mod_pushTogether 39 = .ok (.iastore, 1) := by decide +kernel
theorem d_Mod_pushTogether_40 : decode b_Mod_pushTogether 40 = .ok (.aload_n 0, 1) := by decide +kernel
theorem d_Mod_pushTogether_41 : decode b_Mod_pushTogether 41 = .ok (.iload 6, 2) := by decide +kernel
theorem d_Mod_pushTogether_43 : decode b_Mod_pushTogether 43 = .ok (.iload_n 1, 1) := by decide +kernel
theorem d_Mod_pushTogether_44 : decode b_Mod_pushTogether 44 = .ok (.iload_n 2, 1) := by decide +kernel
theorem d_Mod_pushTogether_45 : decode b_Mod_pushTogether 45 = .ok (.invokevirtual 74, 3) := by decide +kernel
theorem d_Mod_pushTogether_48 : decode b_Mod_pushTogether 48 = .ok (.istore_n 3, 1) := by decide +kernel
theorem d_Mod_pushTogether_49 : decode b_Mod_pushTogether 49 = .ok (.iinc 5 1, 3) := by decide +kernel
theorem d_Mod_pushTogether_52 : decode b_Mod_pushTogether 52 = .ok (.goto (-44), 3) := by decide +kernel
theorem d_Mod_pushTogether_55 : decode b_Mod_pushTogether 55 = .ok (.aload_n 0, 1) := by decide +kernel
theorem d_Mod_pushTogether_56 : decode b_Mod_pushTogether 56 = .ok (.getfield 29, 3) := by decide +kernel
theorem d_Mod_pushTogether_59 : decode b_Mod_pushTogether 59 = .ok (.iconst 2, 1) := by decide +kernel
theorem d_Mod_pushTogether_60 : decode b_Mod_pushTogether 60 = .ok (.aload_n 0, 1) := by decide +kernel
theorem d_Mod_pushTogether_61 : decode b_Mod_pushTogether 61 = .ok (.getfield 29, 3) := by decide +kernel
theorem d_Mod_pushTogether_64 : decode b_Mod_pushTogether 64 = .ok (.iconst 2, 1) := by decide +kernel
theorem d_Mod_pushTogether_65 : decode b_Mod_pushTogether 65 = .ok (.iaload, 1) := by decide +kernel
theorem d_Mod_pushTogether_66 : decode b_Mod_pushTogether 66 = .ok (.iconst 1, 1) := by decide +kernel
theorem d_Mod_pushTogether_67 : decode b_Mod_pushTogether 67 = .ok (.iadd, 1) := by decide +kernel
theorem d_Mod_pushTogether_68 : decode b_Mod_pushTogether 68 = .ok (.iastore, 1) := by decide +kernel
theorem d_Mod_pushTogether_69 : decode b_Mod_pushTogether 69 = .ok (.return_, 1) := by decide +kernel
theorem d_Mod_grow_0 : decode b_Mod_grow 0 = .ok (.aload_n 0, 1) := by decide +kernel
theorem d_Mod_grow_1 : decode b_Mod_grow 1 = .ok (.getfield 20, 3) := by decide +kernel
theorem d_Mod_grow_4 : decode b_Mod_grow 4 = .ok (.iload_n 1, 1) := by decide +kernel
theorem d_Mod_grow_5 : decode b_Mod_grow 5 = .ok (.iaload, 1) := by decide +kernel
theorem d_Mod_grow_6 : decode b_Mod_grow 6 = .ok (.istore_n 2, 1) := by decide +kernel
theorem d_Mod_grow_7 : decode b_Mod_grow 7 = .ok (.aload_n 0, 1) := by decide +kernel
theorem d_Mod_grow_8 : decode b_Mod_grow 8 = .ok (.getfield 26, 3) := by decide +kernel
theorem d_Mod_grow_11 : decode b_Mod_grow 11 = .ok (.iload_n 1, 1) := by decide +kernel
theorem d_Mod_grow_12 : decode b_Mod_grow 12 = .ok (.iaload, 1) := by decide +kernel
theorem d_Mod_grow_13 : decode b_Mod_grow 13 = .ok (.istore_n 3, 1) := by decide +kernel
theorem d_Mod_grow_14 : decode b_Mod_grow 14 = .ok (.aload_n 0, 1) := by decide +kernel
theorem d_Mod_grow_15 : decode b_Mod_grow 15 = .ok (.getfield 20, 3) := by decide +kernel
theorem d_Mod_grow_18 : decode b_Mod_grow 18 = .ok (.iconst 0, 1) := by decide +kernel
theorem d_Mod_grow_19 : decode b_Mod_grow 19 = .ok (.iaload, 1) := by decide +kernel
theorem d_Mod_grow_20 : decode b_Mod_grow 20 = .ok (.aload_n 0, 1) := by decide +kernel
theorem d_Mod_grow_21 : decode b_Mod_grow 21 = .ok (.getfield 20, 3) := by decide +kernel
theorem d_Mod_grow_24 : decode b_Mod_grow 24 = .ok (.iconst 1, 1) := by decide +kernel
theorem d_Mod_grow_25 : decode b_Mod_grow 25 = .ok (.iaload, 1) := by decide +kernel
theorem d_Mod_grow_26 : decode b_Mod_grow 26 = .ok (.iadd, 1) := by decide +kernel
theorem d_Mod_grow_27 : decode b_Mod_grow 27 = .ok (.aload_n 0, 1) := by decide +kernel
theorem d_Mod_grow_28 : decode b_Mod_grow 28 = .ok (.getfield 20, 3) := by decide +kernel
theorem d_Mod_grow_31 : decode b_Mod_grow 31 = .ok (.iconst 2, 1) := by decide +kernel
theorem d_Mod_grow_32 : decode b_Mod_grow 32 = .ok (.iaload, 1) := by decide +kernel
theorem d_Mod_grow_33 : decode b_Mod_grow 33 = .ok (.iadd, 1) := by decide +kernel
theorem d_Mod_grow_34 : decode b_Mod_grow 34 = .ok (.iload_n 2, 1) := by decide +kernel
theorem d_Mod_grow_35 : decode b_Mod_grow 35 = .ok (.isub, 1) := by decide +kernel
theorem d_Mod_grow_36 : decode b_Mod_grow 36 = .ok (.istore 4, 2) := by decide +kernel
theorem d_Mod_grow_38 : decode b_Mod_grow 38 = .ok (.iconst 2, 1) := by decide +kernel
theorem d_Mod_grow_39 : decode b_Mod_grow 39 = .ok (.aload_n 0, 1) := by decide +kernel
theorem d_Mod_grow_40 : decode b_Mod_grow 40 = .ok (.getfield 20, 3) := by decide +kernel
theorem d_Mod_grow_43 : decode b_Mod_grow 43 = .ok (.iload_n 1, 1) := by decide +kernel
theorem d_Mod_grow_44 : decode b_Mod_grow 44 = .ok (.iaload, 1) := by decide +kernel
theorem d_Mod_grow_45 : decode b_Mod_grow 45 = .ok (.imul, 1) := by decide +kernel
theorem d_Mod_grow_46 : decode b_Mod_grow 46 = .ok (.sipush 128, 3) := by decide +kernel
theorem d_Mod_grow_49 : decode b_Mod_grow 49 = .ok (.if_icmp .gt 175, 3) := by decide +kernel
theorem d_Mod_grow_52 : decode b_Mod_grow 52 = .ok (.iload 4, 2) := by decide +kernel
theorem d_Mod_grow_54 : decode b_Mod_grow 54 = .ok (.iload_n 2, 1) := by decide +kernel
theorem d_Mod_grow_55 : decode b_Mod_grow 55 = .ok (.iadd, 1) := by decide +kernel
theorem d_Mod_grow_56 : decode b_Mod_grow 56 = .ok (.iconst 2, 1) := by decide +kernel
theorem d_Mod_grow_57 : decode b_Mod_grow 57 = .ok (.aload_n 0, 1) := by decide +kernel
theorem d_Mod_grow_58 : decode b_Mod_grow 58 = .ok (.getfield 20, 3) := by decide +kernel
theorem d_Mod_grow_61 : decode b_Mod_grow 61 = .ok (.iload_n 1, 1) := by decide +kernel
theorem d_Mod_grow_62 : decode b_Mod_grow 62 = .ok (.iaload, 1) := by decide +kernel
theorem d_Mod_grow_63 : decode b_Mod_grow 63 = .ok (.imul, 1) := by decide +kernel
theorem d_Mod_grow_64 : decode b_Mod_grow 64 = .ok (.iadd, 1) := by decide +kernel
theorem d_Mod_grow_65 : decode b_Mod_grow 65 = .ok (.sipush 256, 3) := by decide +kernel
theorem d_Mod_grow_68 : decode b_Mod_grow 68 = .ok (.if_icmp .gt 156, 3) := by decide +kernel
theorem d_Mod_grow_71 : decode b_Mod_grow 71 = .ok (.iconst 2, 1) := by decide +kernel
theorem d_Mod_grow_72 : decode b_Mod_grow 72 = .ok (.aload_n 0, 1) := by decide +kernel
theorem d_Mod_grow_73 : decode b_Mod_grow 73 = .ok (.getfield 20, 3) := by decide +kernel
theorem d_Mod_grow_76 : decode b_Mod_grow 76 = .ok (.iload_n 1, 1) := by decide +kernel
theorem d_Mod_grow_77 : decode b_Mod_grow 77 = .ok (.iaload, 1) := by decide +kernel
theorem d_Mod_grow_78 : decode b_Mod_grow 78 = .ok (.imul, 1) := by decide +kernel
theorem d_Mod_grow_79 : decode b_Mod_grow 79 = .ok (.istore 5, 2) := by decide +kernel
theorem d_Mod_grow_81 : decode b_Mod_grow 81 = .ok (.aload_n 0, 1) := by decide +kernel
theorem d_Mod_grow_82 : decode b_Mod_grow 82 = .ok (.iload_n 1, 1) := by decide +kernel
theorem d_Mod_grow_83 : decode b_Mod_grow 83 = .ok (.iload_n 2, 1) := by decide +kernel
theorem d_Mod_grow_84 : decode b_Mod_grow 84 = .ok (.invokevirtual 81, 3) := by decide +kernel
theorem d_Mod_grow_87 : decode b_Mod_grow 87 = .ok (.istore 6, 2) := by decide +kernel
theorem d_Mod_grow_89 : decode b_Mod_grow 89 = .ok (.iload 6, 2) := by decide +kernel
theorem d_Mod_grow_91 : decode b_Mod_grow 91 = .ok (.iload 5, 2) := by decide +kernel
theorem d_Mod_grow_93 : decode b_Mod_grow 93 = .ok (.iadd, 1) := by decide +kernel
theorem d_Mod_grow_94 : decode b_Mod_grow 94 = .ok (.sipush 256, 3) := by decide +kernel
theorem d_Mod_grow_97 : decode b_Mod_grow 97 = .ok (.if_icmp .le 17, 3) := by decide +kernel
theorem d_Mod_grow_100 : decode b_Mod_grow 100 = .ok (.aload_n 0, 1) := by decide +kernel
theorem d_Mod_grow_101 : decode b_Mod_grow 101 = .ok (.iload_n 1, 1) := by decide +kernel
theorem d_Mod_grow_102 : decode b_Mod_grow 102 = .ok (.iload_n 2, 1) := by decide +kernel
theorem d_Mod_grow_103 : decode b_Mod_grow 103 = .ok (.invokevirtual 84, 3) := by decide +kernel
theorem d_Mod_grow_106 : decode b_Mod_grow 106 = .ok (.aload_n 0, 1) := by decide +kernel
theorem d_Mod_grow_107 : decode b_Mod_grow 107 = .ok (.iload_n 1, 1) := by decide +kernel
theorem d_Mod_grow_108 : decode b_Mod_grow 108 = .ok (.iload_n 2, 1) := by decide +kernel
theorem d_Mod_grow_109 : decode b_Mod_grow 109 = .ok (.invokevirtual 81, 3) := by decide +kernel
theorem d_Mod_grow_112 : decode b_Mod_grow 112 = .ok (.istore 6, 2) := by decide +kernel
theorem d_Mod_grow_114 : decode b_Mod_grow 114 = .ok (.aload_n 0, 1) := by decide +kernel
theorem d_Mod_grow_115 : decode b_Mod_grow 115 = .ok (.getfield 20, 3) := by decide +kernel
theorem d_Mod_grow_118 : decode b_Mod_grow 118 = .ok (.iload_n 1, 1) := by decide +kernel
theorem d_Mod_grow_119 : decode b_Mod_grow 119 = .ok (.iload 5, 2) := by decide +kernel
theorem d_Mod_grow_121 : decode b_Mod_grow 121 = .ok (.iastore, 1) := by decide +kernel
theorem d_Mod_grow_122 : decode b_Mod_grow 122 = .ok (.aload_n 0, 1) := by decide +kernel
theorem d_Mod_grow_123 : decode b_Mod_grow 123 = .ok (.getfield 26, 3) := by decide +kernel
theorem d_Mod_grow_126 : decode b_Mod_grow 126 = .ok (.iload_n 1, 1) := by decide +kernel
theorem d_Mod_grow_127 : decode b_Mod_grow 127 = .ok (.aload_n 0, 1) := by decide +kernel
theorem d_Mod_grow_128 : decode b_Mod_grow 128 = .ok (.getfield 26, 3) := by decide +kernel
theorem d_Mod_grow_131 : decode b_Mod_grow 131 = .ok (.iload_n 1, 1) := by decide +kernel
theorem d_Mod_grow_132 : decode b_Mod_grow 132 = .ok (.iaload, 1) := by decide +kernel
theorem d_Mod_grow_133 : decode b_Mod_grow 133 = .ok (.ldc 88, 2) := by decide +kernel
theorem d_Mod_grow_135 : decode b_Mod_grow 135 = .ok (.imul, 1) := by decide +kernel
theorem d_Mod_grow_136 : decode b_Mod_grow 136 = .ok (.ldc 89, 2) := by decide +kernel
theorem d_Mod_grow_138 : decode b_Mod_grow 138 = .ok (.iadd, 1) := by decide +kernel
theorem d_Mod_grow_139 : decode b_Mod_grow 139 = .ok (.iastore, 1) := by decide +kernel
theorem d_Mod_grow_140 : decode b_Mod_grow 140 = .ok (.aload_n 0, 1) := by decide +kernel
theorem d_Mod_grow_141 : decode b_Mod_grow 141 = .ok (.getfield 29, 3) := by decide +kernel
theorem d_Mod_grow_144 : decode b_Mod_grow 144 = .ok (.iconst 1, 1) := by decide +kernel
theorem d_Mod_grow_145 : decode b_Mod_grow 145 = .ok (.aload_n 0, 1) := by decide +kernel
theorem d_Mod_grow_146 : decode b_Mod_grow 146 = .ok (.getfield 29, 3) := by decide +kernel
theorem d_Mod_grow_149 : decode b_Mod_grow 149 = .ok (.iconst 1, 1) := by decide +kernel
theorem d_Mod_grow_150 : decode b_Mod_grow 150 = .ok (.iaload, 1) := by decide +kernel
theorem d_Mod_grow_151 : decode b_Mod_grow 151 = .ok (.iconst 1, 1) := by decide +kernel
theorem d_Mod_grow_152 : decode b_Mod_grow 152 = .ok (.iadd, 1) := by decide +kernel
theorem d_Mod_grow_153 : decode b_Mod_grow 153 = .ok (.iastore, 1) := by decide +kernel
theorem d_Mod_grow_154 : decode b_Mod_grow 154 = .ok (.aload_n 0, 1) := by decide +kernel
theorem d_Mod_grow_155 : decode b_Mod_grow 155 = .ok (.iload_n 1, 1) := by decide +kernel
theorem d_Mod_grow_156 : decode b_Mod_grow 156 = .ok (.invokevirtual 90, 3) := by decide +kernel
theorem d_Mod_grow_159 : decode b_Mod_grow 159 = .ok (.iconst 1, 1) := by decide +kernel
theorem d_Mod_grow_160 : decode b_Mod_grow 160 = .ok (.istore 7, 2) := by decide +kernel
theorem d_Mod_grow_162 : decode b_Mod_grow 162 = .ok (.iconst 0, 1) := by decide +kernel
theorem d_Mod_grow_163 : decode b_Mod_grow 163 = .ok (.istore 8, 2) := by decide +kernel
theorem d_Mod_grow_165 : decode b_Mod_grow 165 = .ok (.iload 8, 2) := by decide +kernel
theorem d_Mod_grow_167 : decode b_Mod_grow 167 = .ok (.aload_n 0, 1) := by decide +kernel
theorem d_Mod_grow_168 : decode b_Mod_grow 168 = .ok (.getfield 71, 3) := by decide +kernel
theorem d_Mod_grow_171 : decode b_Mod_grow 171 = .ok (.if_icmp .ge 35, 3) := by decide +kernel
theorem d_Mod_grow_174 : decode b_Mod_grow 174 = .ok (.iload 7, 2) := by decide +kernel
theorem d_Mod_grow_176 : decode b_Mod_grow 176 = .ok (.ifCond .eq 30, 3) := by decide +kernel
theorem d_Mod_grow_179 : decode b_Mod_grow 179 = .ok (.aload_n 0, 1) := by decide +kernel
theorem d_Mod_grow_180 : decode b_Mod_grow 180 = .ok (.iload_n 1, 1) := by decide +kernel
theorem d_Mod_grow_181 : decode b_Mod_grow 181 = .ok (.aload_n 0, 1) := by decide +kernel
theorem d_Mod_grow_182 : decode b_Mod_grow 182 = .ok (.getfield 32, 3) := by decide +kernel
theorem d_Mod_grow_185 : decode b_Mod_grow 185 = .ok (.iload 8, 2) := by decide +kernel
theorem d_Mod_grow_187 : decode b_Mod_grow 187 = .ok (.iaload, 1) := by decide +kernel
theorem d_Mod_grow_188 : decode b_Mod_grow 188 = .ok (.aload_n 0, 1) := by decide +kernel
theorem d_Mod_grow_189 : decode b_Mod_grow 189 = .ok (.getfield 35, 3) := by decide +kernel
theorem d_Mod_grow_192 : decode b_Mod_grow 192 = .ok (.iload 8, 2) := by decide +kernel
theorem d_Mod_grow_194 : decode b_Mod_grow 194 = .ok (.iaload, 1) := by decide +kernel
theorem d_Mod_grow_195 : decode b_Mod_grow 195 = .ok (.invokevirtual 94, 3) := by decide +kernel
theorem d_Mod_grow_198 : decode b_Mod_grow 198 = .ok (.istore 7, 2) := by decide +kernel
theorem d_Mod_grow_200 : decode b_Mod_grow 200 = .ok (.iinc 8 1, 3) := by decide +kernel
theorem d_Mod_grow_203 : decode b_Mod_grow 203 = .ok (.goto (-38), 3) := by decide +kernel
theorem d_Mod_grow_206 : decode b_Mod_grow 206 = .ok (.iload 7, 2) := by decide +kernel
theorem d_Mod_grow_208 : decode b_Mod_grow 208 = .ok (.ifCond .eq 13, 3) := by decide +kernel
theorem d_Mod_grow_211 : decode b_Mod_grow 211 = .ok (.aload_n 0, 1) := by decide +kernel
theorem d_Mod_grow_212 : decode b_Mod_grow 212 = .ok (.getfield 23, 3) := by decide +kernel
theorem d_Mod_grow_215 : decode b_Mod_grow 215 = .ok (.iload_n 1, 1) := by decide +kernel
theorem d_Mod_grow_216 : decode b_Mod_grow 216 = .ok (.iload 6, 2) := by decide +kernel
theorem d_Mod_grow_218 : decode b_Mod_grow 218 = .ok (.iastore, 1) := by decide +kernel
theorem d_Mod_grow_219 : decode b_Mod_grow 219 = .ok (.iconst 1, 1) := by decide +kernel
theorem d_Mod_grow_220 : decode b_Mod_grow 220 = .ok (.ireturn, 1) := by decide +kernel
theorem d_Mod_grow_221 : decode b_Mod_grow 221 = .ok (.goto (-183), 3) := by decide +kernel
theorem d_Mod_grow_224 : decode b_Mod_grow 224 = .ok (.aload_n 0, 1) := by decide +kernel
theorem d_Mod_grow_225 : decode b_Mod_grow 225 = .ok (.iload_n 1, 1) := by decide +kernel
theorem d_Mod_grow_226 : decode b_Mod_grow 226 = .ok (.iload_n 2, 1) := by decide +kernel
theorem d_Mod_grow_227 : decode b_Mod_grow 227 = .ok (.iload_n 3, 1) := by decide +kernel
theorem d_Mod_grow_228 : decode b_Mod_grow 228 = .ok (.invokevirtual 97, 3) := by decide +kernel
theorem d_Mod_grow_231 : decode b_Mod_grow 231 = .ok (.iconst 0, 1) := by decide +kernel
theorem d_Mod_grow_232 : decode b_Mod_grow 232 = .ok (.ireturn, 1) := by decide +kernel
theorem d_Mod_put_0 : decode b_Mod_put 0 = .ok (.aload_n 0, 1) := by decide +kernel
theorem d_Mod_put_1 : decode b_Mod_put 1 = .ok (.iload_n 1, 1) := by decide +kernel
theorem d_Mod_put_2 : decode b_Mod_put 2 = .ok (.invokevirtual 100, 3) := by decide +kernel
theorem d_Mod_put_5 : decode b_Mod_put 5 = .ok (.ifCond .ne 5, 3) := by decide +kernel
theorem d_Mod_put_8 : decode b_Mod_put 8 = .ok (.iconst 0, 1) := by decide +kernel
theorem d_Mod_put_9 : decode b_Mod_put 9 = .ok (.ireturn, 1) := by decide +kernel
theorem d_Mod_put_10 : decode b_Mod_put 10 = .ok (.aload_n 0, 1) := by decide +kernel
theorem d_Mod_put_11 : decode b_Mod_put 11 = .ok (.iload_n 1, 1) := by decide +kernel
theorem d_Mod_put_12 : decode b_Mod_put 12 = .ok (.iload_n 2, 1) := by decide +kernel
theorem d_Mod_put_13 : decode b_Mod_put 13 = .ok (.invokevirtual 104, 3) := by decide +kernel
theorem d_Mod_put_16 : decode b_Mod_put 16 = .ok (.istore 4, 2) := by decide +kernel
theorem d_Mod_put_18 : decode b_Mod_put 18 = .ok (.iload 4, 2) := by decide +kernel
theorem d_Mod_put_20 : decode b_Mod_put 20 = .ok (.iconst (-1), 1) := by decide +kernel
theorem d_Mod_put_21 : decode b_Mod_put 21 = .ok (.if_icmp .eq 19, 3) := by decide +kernel
theorem d_Mod_put_24 : decode b_Mod_put 24 = .ok (.aload_n 0, 1) := by decide +kernel
theorem d_Mod_put_25 : decode b_Mod_put 25 = .ok (.getfield 17, 3) := by decide +kernel
theorem d_Mod_put_28 : decode b_Mod_put 28 = .ok (.sipush 128, 3) := by decide +kernel
theorem d_Mod_put_31 : decode b_Mod_put 31 = .ok (.iload_n 1, 1) := by decide +kernel
theorem d_Mod_put_32 : decode b_Mod_put 32 = .ok (.imul, 1) := by decide +kernel
theorem d_Mod_put_33 : decode b_Mod_put 33 = .ok (.iload 4, 2) := by decide +kernel
theorem d_Mod_put_35 : decode b_Mod_put 35 = .ok (.iadd, 1) := by decide +kernel
theorem d_Mod_put_36 : decode b_Mod_put 36 = .ok (.iload_n 3, 1) := by decide +kernel
theorem d_Mod_put_37 : decode b_Mod_put 37 = .ok (.iastore, 1) := by decide +kernel
theorem d_Mod_put_38 : decode b_Mod_put 38 = .ok (.iconst 1, 1) := by decide +kernel
theorem d_Mod_put_39 : decode b_Mod_put 39 = .ok (.ireturn, 1) := by decide +kernel
theorem d_Mod_put_40 : decode b_Mod_put 40 = .ok (.aload_n 0, 1) := by decide +kernel
theorem d_Mod_put_41 : decode b_Mod_put 41 = .ok (.iload_n 1, 1) := by decide +kernel
theorem d_Mod_put_42 : decode b_Mod_put 42 = .ok (.iload_n 2, 1) := by decide +kernel
theorem d_Mod_put_43 : decode b_Mod_put 43 = .ok (.iload_n 3, 1) := by decide +kernel
theorem d_Mod_put_44 : decode b_Mod_put 44 = .ok (.invokevirtual 94, 3) := by decide +kernel
theorem d_Mod_put_47 : decode b_Mod_put 47 = .ok (.ifCond .ne 55, 3) := by decide +kernel
theorem d_Mod_put_50 : decode b_Mod_put 50 = .ok (.aload_n 0, 1) := by decide +kernel
theorem d_Mod_put_51 : decode b_Mod_put 51 = .ok (.iload_n 1, 1) := by decide +kernel
theorem d_Mod_put_52 : decode b_Mod_put 52 = .ok (.invokevirtual 107, 3) := by decide +kernel
theorem d_Mod_put_55 : decode b_Mod_put 55 = .ok (.aload_n 0, 1) := by decide +kernel
theorem d_Mod_put_56 : decode b_Mod_put 56 = .ok (.getfield 32, 3) := by decide +kernel
theorem d_Mod_put_59 : decode b_Mod_put 59 = .ok (.aload_n 0, 1) := by decide +kernel
theorem d_Mod_put_60 : decode b_Mod_put 60 = .ok (.getfield 71, 3) := by decide +kernel
theorem d_Mod_put_63 : decode b_Mod_put 63 = .ok (.iload_n 2, 1) := by decide +kernel
theorem d_Mod_put_64 : decode b_Mod_put 64 = .ok (.iastore, 1) := by decide +kernel
theorem d_Mod_put_65 : decode b_Mod_put 65 = .ok (.aload_n 0, 1) := by decide +kernel
theorem d_Mod_put_66 : decode b_Mod_put 66 = .ok (.getfield 35, 3) := by decide +kernel
theorem d_Mod_put_69 : decode b_Mod_put 69 = .ok (.aload_n 0, 1) := by decide +kernel
theorem d_Mod_put_70 : decode b_Mod_put 70 = .ok (.getfield 71, 3) := by decide +kernel
theorem d_Mod_put_73 : decode b_Mod_put 73 = .ok (.iload_n 3, 1) := by decide +kernel
theorem d_Mod_put_74 : decode b_Mod_put 74 = .ok (.iastore, 1) := by decide +kernel
theorem d_Mod_put_75 : decode b_Mod_put 75 = .ok (.aload_n 0, 1) := by decide +kernel
theorem d_Mod_put_76 : decode b_Mod_put 76 = .ok (.dup, 1) := by decide +kernel
theorem d_Mod_put_77 : decode b_Mod_put 77 = .ok (.getfield 71, 3) := by decide +kernel
theorem d_Mod_put_80 : decode b_Mod_put 80 = .ok (.iconst 1, 1) := by decide +kernel
theorem d_Mod_put_81 : decode b_Mod_put 81 = .ok (.iadd, 1) := by decide +kernel
theorem d_Mod_put_82 : decode b_Mod_put 82 = .ok (.putfield 71, 3) := by decide +kernel
theorem d_Mod_put_85 : decode b_Mod_put 85 = .ok (.aload_n 0, 1) := by decide +kernel
theorem d_Mod_put_86 : decode b_Mod_put 86 = .ok (.aload_n 0, 1) := by decide +kernel
theorem d_Mod_put_87 : decode b_Mod_put 87 = .ok (.iload_n 1, 1) := by decide +kernel
theorem d_Mod_put_88 : decode b_Mod_put 88 = .ok (.invokevirtual 110, 3) := by decide +kernel
theorem d_Mod_put_91 : decode b_Mod_put 91 = .ok (.ifCond .eq 7, 3) := by decide +kernel
theorem d_Mod_put_94 : decode b_Mod_put 94 = .ok (.iconst 0, 1) := by decide +kernel
theorem d_Mod_put_95 : decode b_Mod_put 95 = .ok (.goto 4, 3) := by decide +kernel
theorem d_Mod_put_98 : decode b_Mod_put 98 = .ok (.iconst 2, 1) := by decide +kernel
theorem d_Mod_put_99 : decode b_Mod_put 99 = .ok (.putfield 47, 3) := by decide +kernel
theorem d_Mod_put_102 : decode b_Mod_put 102 = .ok (.iconst 0, 1) := by decide +kernel
theorem d_Mod_put_103 : decode b_Mod_put 103 = .ok (.ireturn, 1) := by decide +kernel
theorem d_Mod_find_0 : decode b_Mod_find 0 = .ok (.aload_n 0, 1) := by decide +kernel
theorem d_Mod_find_1 : decode b_Mod_find 1 = .ok (.iload_n 1, 1) := by decide +kernel
theorem d_Mod_find_2 : decode b_Mod_find 2 = .ok (.invokevirtual 100, 3) := by decide +kernel
theorem d_Mod_find_5 : decode b_Mod_find 5 = .ok (.ifCond .eq 12, 3) := by decide +kernel
theorem d_Mod_find_8 : decode b_Mod_find 8 = .ok (.aload_n 0, 1) := by decide +kernel
theorem d_Mod_find_9 : decode b_Mod_find 9 = .ok (.iload_n 1, 1) := by decide +kernel
theorem d_Mod_find_10 : decode b_Mod_find 10 = .ok (.iload_n 2, 1) := by decide +kernel
theorem d_Mod_find_11 : decode b_Mod_find 11 = .ok (.invokevirtual 104, 3) := by decide +kernel
theorem d_Mod_find_14 : decode b_Mod_find 14 = .ok (.goto 4, 3) := by decide +kernel
theorem d_Mod_find_17 : decode b_Mod_find 17 = .ok (.iconst (-1), 1) := by decide +kernel
theorem d_Mod_find_18 : decode b_Mod_find 18 = .ok (.istore_n 3, 1) := by decide +kernel
theorem d_Mod_find_19 : decode b_Mod_find 19 = .ok (.aload_n 0, 1) := by decide +kernel
theorem d_Mod_find_20 : decode b_Mod_find 20 = .ok (.aload_n 0, 1) := by decide +kernel
theorem d_Mod_find_21 : decode b_Mod_find 21 = .ok (.getfield 47, 3) := by decide +kernel
theorem d_Mod_find_24 : decode b_Mod_find 24 = .ok (.ifCond .ne 12, 3) := by decide +kernel
theorem d_Mod_find_27 : decode b_Mod_find 27 = .ok (.iload_n 3, 1) := by decide +kernel
theorem d_Mod_find_28 : decode b_Mod_find 28 = .ok (.iconst (-1), 1) := by decide +kernel
theorem d_Mod_find_29 : decode b_Mod_find 29 = .ok (.if_icmp .ne 7, 3) := by decide +kernel
theorem d_Mod_find_32 : decode b_Mod_find 32 = .ok (.iconst 2, 1) := by decide +kernel
theorem d_Mod_find_33 : decode b_Mod_find 33 = .ok (.goto 7, 3) := by decide +kernel
theorem d_Mod_find_36 : decode b_Mod_find 36 = .ok (.aload_n 0, 1) := by decide +kernel
theorem d_Mod_find_37 : decode b_Mod_find 37 = .ok (.getfield 47, 3) := by decide +kernel
theorem d_Mod_find_40 : decode b_Mod_find 40 = .ok (.putfield 47, 3) := by decide +kernel
theorem d_Mod_find_43 : decode b_Mod_find 43 = .ok (.iload_n 3, 1) := by decide +kernel
theorem d_Mod_find_44 : decode b_Mod_find 44 = .ok (.ireturn, 1) := by decide +kernel
theorem d_Mod_get_0 : decode b_Mod_get 0 = .ok (.aload_n 0, 1) := by decide +kernel
theorem d_Mod_get_1 : decode b_Mod_get 1 = .ok (.iload_n 1, 1) := by decide +kernel
theorem d_Mod_get_2 : decode b_Mod_get 2 = .ok (.iload_n 2, 1) := by decide +kernel
theorem d_Mod_get_3 : decode b_Mod_get 3 = .ok (.invokevirtual 113, 3) := by decide +kernel
theorem d_Mod_get_6 : decode b_Mod_get 6 = .ok (.istore_n 3, 1) := by decide +kernel
theorem d_Mod_get_7 : decode b_Mod_get 7 = .ok (.iload_n 3, 1) := by decide +kernel
theorem d_Mod_get_8 : decode b_Mod_get 8 = .ok (.iconst (-1), 1) := by decide +kernel
theorem d_Mod_get_9 : decode b_Mod_get 9 = .ok (.if_icmp .ne 7, 3) := by decide +kernel
theorem d_Mod_get_12 : decode b_Mod_get 12 = .ok (.iconst 0, 1) := by decide +kernel
theorem d_Mod_get_13 : decode b_Mod_get 13 = .ok (.goto 15, 3) := by decide +kernel
theorem d_Mod_get_16 : decode b_Mod_get 16 = .ok (.aload_n 0, 1) := by decide +kernel
theorem d_Mod_get_17 : decode b_Mod_get 17 = .ok (.getfield 17, 3) := by decide +kernel
theorem d_Mod_get_20 : decode b_Mod_get 20 = .ok (.sipush 128, 3) := by decide +kernel
theorem d_Mod_get_23 : decode b_Mod_get 23 = .ok (.iload_n 1, 1) := by decide +kernel
theorem d_Mod_get_24 : decode b_Mod_get 24 = .ok (.imul, 1) := by decide +kernel
theorem d_Mod_get_25 : decode b_Mod_get 25 = .ok (.iload_n 3, 1) := by decide +kernel
theorem d_Mod_get_26 : decode b_Mod_get 26 = .ok (.iadd, 1) := by decide +kernel
theorem d_Mod_get_27 : decode b_Mod_get 27 = .ok (.iaload, 1) := by decide +kernel
theorem d_Mod_get_28 : decode b_Mod_get 28 = .ok (.ireturn, 1) := by decide +kernel
theorem d_Mod_remove_0 : decode b_Mod_remove 0 = .ok (.aload_n 0, 1) := by decide +kernel
theorem d_Mod_remove_1 : decode b_Mod_remove 1 = .ok (.iload_n 1, 1) := by decide +kernel
theorem d_Mod_remove_2 : decode b_Mod_remove 2 = .ok (.iload_n 2, 1) := by decide +kernel
theorem d_Mod_remove_3 : decode b_Mod_remove 3 = .ok (.invokevirtual 113, 3) := by decide +kernel
theorem d_Mod_remove_6 : decode b_Mod_remove 6 = .ok (.istore_n 3, 1) := by decide +kernel
theorem d_Mod_remove_7 : decode b_Mod_remove 7 = .ok (.iload_n 3, 1) := by decide +kernel
theorem d_Mod_remove_8 : decode b_Mod_remove 8 = .ok (.iconst (-1), 1) := by decide +kernel
theorem d_Mod_remove_9 : decode b_Mod_remove 9 = .ok (.if_icmp .ne 5, 3) := by decide +kernel
theorem d_Mod_remove_12 : decode b_Mod_remove 12 = .ok (.iconst 0, 1) := by decide +kernel
theorem d_Mod_remove_13 : decode b_Mod_remove 13 = .ok (.ireturn, 1) := by decide +kernel
theorem d_Mod_remove_14 : decode b_Mod_remove 14 = .ok (.aload_n 0, 1) := by decide +kernel
theorem d_Mod_remove_15 : decode b_Mod_remove 15 = .ok (.getfield 7, 3) := by decide +kernel
theorem d_Mod_remove_18 : decode b_Mod_remove 18 = .ok (.sipush 128, 3) := by decide +kernel
theorem d_Mod_remove_21 : decode b_Mod_remove 21 = .ok (.iload_n 1, 1) := by decide +kernel
theorem d_Mod_remove_22 : decode b_Mod_remove 22 = .ok (.imul, 1) := by decide +kernel
theorem d_Mod_remove_23 : decode b_Mod_remove 23 = .ok (.iload_n 3, 1) := by decide +kernel
theorem d_Mod_remove_24 : decode b_Mod_remove 24 = .ok (.iadd, 1) := by decide +kernel
theorem d_Mod_remove_25 : decode b_Mod_remove 25 = .ok (.iconst 0, 1) := by decide +kernel
theorem d_Mod_remove_26 : decode b_Mod_remove 26 = .ok (.bastore, 1) := by decide +kernel
theorem d_Mod_remove_27 : decode b_Mod_remove 27 = .ok (.aload_n 0, 1) := by decide +kernel
theorem d_Mod_remove_28 : decode b_Mod_remove 28 = .ok (.getfield 17, 3) := by decide +kernel
theorem d_Mod_remove_31 : decode b_Mod_remove 31 = .ok (.sipush 128, 3) := by decide +kernel
theorem d_Mod_remove_34 : decode b_Mod_remove 34 = .ok (.iload_n 1, 1) := by decide +kernel
theorem d_Mod_remove_35 : decode b_Mod_remove 35 = .ok (.imul, 1) := by decide +kernel
theorem d_Mod_remove_36 : decode b_Mod_remove 36 = .ok (.iload_n 3, 1) := by decide +kernel
theorem d_Mod_remove_37 : decode b_Mod_remove 37 = .ok (.iadd, 1) := by decide +kernel
theorem d_Mod_remove_38 : decode b_Mod_remove 38 = .ok (.iaload, 1) := by decide +kernel
theorem d_Mod_remove_39 : decode b_Mod_remove 39 = .ok (.ireturn, 1) := by decide +kernel
theorem d_Mod_has_0 : decode b_Mod_has 0 = .ok (.aload_n 0, 1) := by decide +kernel
theorem d_Mod_has_1 : decode b_Mod_has 1 = .ok (.iload_n 1, 1) := by decide +kernel
theorem d_Mod_has_2 : decode b_Mod_has 2 = .ok (.invokevirtual 100, 3) := by decide +kernel
theorem d_Mod_has_5 : decode b_Mod_has 5 = .ok (.ifCond .eq 17, 3) := by decide +kernel
theorem d_Mod_has_8 : decode b_Mod_has 8 = .ok (.aload_n 0, 1) := by decide +kernel
theorem d_Mod_has_9 : decode b_Mod_has 9 = .ok (.iload_n 1, 1) := by decide +kernel
theorem d_Mod_has_10 : decode b_Mod_has 10 = .ok (.iload_n 2, 1) := by decide +kernel
theorem d_Mod_has_11 : decode b_Mod_has 11 = .ok (.invokevirtual 104, 3) := by decide +kernel
theorem d_Mod_has_14 : decode b_Mod_has 14 = .ok (.iconst (-1), 1) := by decide +kernel
theorem d_Mod_has_15 : decode b_Mod_has 15 = .ok (.if_icmp .eq 7, 3) := by decide +kernel
theorem d_Mod_has_18 : decode b_Mod_has 18 = .ok (.iconst 1, 1) := by decide +kernel
theorem d_Mod_has_19 : decode b_Mod_has 19 = .ok (.goto 4, 3) := by decide +kernel
theorem d_Mod_has_22 : decode b_Mod_has 22 = .ok (.iconst 0, 1) := by decide +kernel
theorem d_Mod_has_23 : decode b_Mod_has 23 = .ok (.ireturn, 1) := by decide +kernel
theorem d_Mod_sizeOf_0 : decode b_Mod_sizeOf 0 = .ok (.iconst 0, 1) := by decide +kernel
theorem d_Mod_sizeOf_1 : decode b_Mod_sizeOf 1 = .ok (.istore_n 2, 1) := by decide +kernel
theorem d_Mod_sizeOf_2 : decode b_Mod_sizeOf 2 = .ok (.iconst 0, 1) := by decide +kernel
theorem d_Mod_sizeOf_3 : decode b_Mod_sizeOf 3 = .ok (.istore_n 3, 1) := by decide +kernel
theorem d_Mod_sizeOf_4 : decode b_Mod_sizeOf 4 = .ok (.iload_n 3, 1) := by decide +kernel
theorem d_Mod_sizeOf_5 : decode b_Mod_sizeOf 5 = .ok (.aload_n 0, 1) := by decide +kernel
theorem d_Mod_sizeOf_6 : decode b_Mod_sizeOf 6 = .ok (.getfield 20, 3) := by decide +kernel
theorem d_Mod_sizeOf_9 : decode b_Mod_sizeOf 9 = .ok (.iload_n 1, 1) := by decide +kernel
theorem d_Mod_sizeOf_10 : decode b_Mod_sizeOf 10 = .ok (.iaload, 1) := by decide +kernel
theorem d_Mod_sizeOf_11 : decode b_Mod_sizeOf 11 = .ok (.if_icmp .ge 32, 3) := by decide +kernel
theorem d_Mod_sizeOf_14 : decode b_Mod_sizeOf 14 = .ok (.aload_n 0, 1) := by decide +kernel
theorem d_Mod_sizeOf_15 : decode b_Mod_sizeOf 15 = .ok (.getfield 7, 3) := by decide +kernel
theorem d_Mod_sizeOf_18 : decode b_Mod_sizeOf 18 = .ok (.sipush 128, 3) := by decide +kernel
theorem d_Mod_sizeOf_21 : decode b_Mod_sizeOf 21 = .ok (.iload_n 1, 1) := by decide +kernel
theorem d_Mod_sizeOf_22 : decode b_Mod_sizeOf 22 = .ok (.imul, 1) := by decide +kernel
theorem d_Mod_sizeOf_23 : decode b_Mod_sizeOf 23 = .ok (.iload_n 3, 1) := by decide +kernel
theorem d_Mod_sizeOf_24 : decode b_Mod_sizeOf 24 = .ok (.iadd, 1) := by decide +kernel
theorem d_Mod_sizeOf_25 : decode b_Mod_sizeOf 25 = .ok (.baload, 1) := by decide +kernel
theorem d_Mod_sizeOf_26 : decode b_Mod_sizeOf 26 = .ok (.ifCond .eq 9, 3) := by decide +kernel
theorem d_Mod_sizeOf_29 : decode b_Mod_sizeOf 29 = .ok (.iload_n 2, 1) := by decide +kernel
theorem d_Mod_sizeOf_30 : decode b_Mod_sizeOf 30 = .ok (.iconst 1, 1) := by decide +kernel
theorem d_Mod_sizeOf_31 : decode b_Mod_sizeOf 31 = .ok (.iadd, 1) := by decide +kernel
theorem d_Mod_sizeOf_32 : decode b_Mod_sizeOf 32 = .ok (.goto 4, 3) := by decide +kernel
theorem d_Mod_sizeOf_35 : decode b_Mod_sizeOf 35 = .ok (.iload_n 2, 1) := by decide +kernel
theorem d_Mod_sizeOf_36 : decode b_Mod_sizeOf 36 = .ok (.istore_n 2, 1) := by decide +kernel
theorem d_Mod_sizeOf_37 : decode b_Mod_sizeOf 37 = .ok (.iinc 3 1, 3) := by decide +kernel
theorem d_Mod_sizeOf_40 : decode b_Mod_sizeOf 40 = .ok (.goto (-36), 3) := by decide +kernel
theorem d_Mod_sizeOf_43 : decode b_Mod_sizeOf 43 = .ok (.iload_n 2, 1) := by decide +kernel
theorem d_Mod_sizeOf_44 : decode b_Mod_sizeOf 44 = .ok (.ireturn, 1) := by decide +kernel
theorem d_Mod_size_0 : decode b_Mod_size 0 = .ok (.aload_n 0, 1) := by decide +kernel
theorem d_Mod_size_1 : decode b_Mod_size 1 = .ok (.iload_n 1, 1) := by decide +kernel
theorem d_Mod_size_2 : decode b_Mod_size 2 = .ok (.invokevirtual 100, 3) := by decide +kernel
theorem d_Mod_size_5 : decode b_Mod_size 5 = .ok (.ifCond .eq 11, 3) := by decide +kernel
theorem d_Mod_size_8 : decode b_Mod_size 8 = .ok (.aload_n 0, 1) := by decide +kernel
theorem d_Mod_size_9 : decode b_Mod_size 9 = .ok (.iload_n 1, 1) := by decide +kernel
theorem d_Mod_size_10 : decode b_Mod_size 10 = .ok (.invokevirtual 116, 3) := by decide +kernel
theorem d_Mod_size_13 : decode b_Mod_size 13 = .ok (.goto 4, 3) := by decide +kernel
theorem d_Mod_size_16 : decode b_Mod_size 16 = .ok (.iconst 0, 1) := by decide +kernel
theorem d_Mod_size_17 : decode b_Mod_size 17 = .ok (.ireturn, 1) := by decide +kernel
theorem d_Mod_clear_0 : decode b_Mod_clear 0 = .ok (.aload_n 0, 1) := by decide +kernel
theorem d_Mod_clear_1 : decode b_Mod_clear 1 = .ok (.iload_n 1, 1) := by decide +kernel
theorem d_Mod_clear_2 : decode b_Mod_clear 2 = .ok (.invokevirtual 100, 3) := by decide +kernel
theorem d_Mod_clear_5 : decode b_Mod_clear 5 = .ok (.ifCond .ne 5, 3) := by decide +kernel
theorem d_Mod_clear_8 : decode b_Mod_clear 8 = .ok (.iconst 0, 1) := by decide +kernel
theorem d_Mod_clear_9 : decode b_Mod_clear 9 = .ok (.ireturn, 1) := by decide +kernel
theorem d_Mod_clear_10 : decode b_Mod_clear 10 = .ok (.aload_n 0, 1) := by decide +kernel
theorem d_Mod_clear_11 : decode b_Mod_clear 11 = .ok (.iload_n 1, 1) := by decide +kernel
theorem d_Mod_clear_12 : decode b_Mod_clear 12 = .ok (.invokevirtual 116, 3) := by decide +kernel
theorem d_Mod_clear_15 : decode b_Mod_clear 15 = .ok (.istore_n 2, 1) := by decide +kernel
theorem d_Mod_clear_16 : decode b_Mod_clear 16 = .ok (.aload_n 0, 1) := by decide +kernel
theorem d_Mod_clear_17 : decode b_Mod_clear 17 = .ok (.iload_n 1, 1) := by decide +kernel
theorem d_Mod_clear_18 : decode b_Mod_clear 18 = .ok (.invokevirtual 90, 3) := by decide +kernel
theorem d_Mod_clear_21 : decode b_Mod_clear 21 = .ok (.aload_n 0, 1) := by decide +kernel
theorem d_Mod_clear_22 : decode b_Mod_clear 22 = .ok (.getfield 20, 3) := by decide +kernel
theorem d_Mod_clear_25 : decode b_Mod_clear 25 = .ok (.iload_n 1, 1) := by decide +kernel
theorem d_Mod_clear_26 : decode b_Mod_clear 26 = .ok (.bipush 8, 2) := by decide +kernel
theorem d_Mod_clear_28 : decode b_Mod_clear 28 = .ok (.iastore, 1) := by decide +kernel
theorem d_Mod_clear_29 : decode b_Mod_clear 29 = .ok (.iload_n 2, 1) := by decide +kernel
theorem d_Mod_clear_30 : decode b_Mod_clear 30 = .ok (.ireturn, 1) := by decide +kernel
theorem d_Mod_about_0 : decode b_Mod_about 0 = .ok (.aload_n 0, 1) := by decide +kernel
theorem d_Mod_about_1 : decode b_Mod_about 1 = .ok (.iload_n 1, 1) := by decide +kernel
theorem d_Mod_about_2 : decode b_Mod_about 2 = .ok (.invokevirtual 100, 3) := by decide +kernel
theorem d_Mod_about_5 : decode b_Mod_about 5 = .ok (.ifCond .ne 5, 3) := by decide +kernel
theorem d_Mod_about_8 : decode b_Mod_about 8 = .ok (.iconst 0, 1) := by decide +kernel
theorem d_Mod_about_9 : decode b_Mod_about 9 = .ok (.ireturn, 1) := by decide +kernel
theorem d_Mod_about_10 : decode b_Mod_about 10 = .ok (.aload_n 0, 1) := by decide +kernel
theorem d_Mod_about_11 : decode b_Mod_about 11 = .ok (.iload_n 2, 1) := by decide +kernel
theorem d_Mod_about_12 : decode b_Mod_about 12 = .ok (.iconst 0, 1) := by decide +kernel
theorem d_Mod_about_13 : decode b_Mod_about 13 = .ok (.iconst 2, 1) := by decide +kernel
theorem d_Mod_about_14 : decode b_Mod_about 14 = .ok (.invokestatic 51, 3) := by decide +kernel
theorem d_Mod_about_17 : decode b_Mod_about 17 = .ok (.ifCond .eq 7, 3) := by decide +kernel
theorem d_Mod_about_20 : decode b_Mod_about 20 = .ok (.iconst 0, 1) := by decide +kernel
theorem d_Mod_about_21 : decode b_Mod_about 21 = .ok (.goto 4, 3) := by decide +kernel
theorem d_Mod_about_24 : decode b_Mod_about 24 = .ok (.iconst 2, 1) := by decide +kernel
theorem d_Mod_about_25 : decode b_Mod_about 25 = .ok (.putfield 47, 3) := by decide +kernel
theorem d_Mod_about_28 : decode b_Mod_about 28 = .ok (.aload_n 0, 1) := by decide +kernel
theorem d_Mod_about_29 : decode b_Mod_about 29 = .ok (.getfield 47, 3) := by decide +kernel
theorem d_Mod_about_32 : decode b_Mod_about 32 = .ok (.ifCond .le 7, 3) := by decide +kernel
theorem d_Mod_about_35 : decode b_Mod_about 35 = .ok (.iconst 0, 1) := by decide +kernel
theorem d_Mod_about_36 : decode b_Mod_about 36 = .ok (.goto 36, 3) := by decide +kernel
theorem d_Mod_about_39 : decode b_Mod_about 39 = .ok (.iload_n 2, 1) := by decide +kernel
theorem d_Mod_about_40 : decode b_Mod_about 40 = .ok (.ifCond .ne 12, 3) := by decide +kernel
theorem d_Mod_about_43 : decode b_Mod_about 43 = .ok (.aload_n 0, 1) := by decide +kernel
theorem d_Mod_about_44 : decode b_Mod_about 44 = .ok (.getfield 20, 3) := by decide +kernel
theorem d_Mod_about_47 : decode b_Mod_about 47 = .ok (.iload_n 1, 1) := by decide +kernel
theorem d_Mod_about_48 : decode b_Mod_about 48 = .ok (.iaload, 1) := by decide +kernel
theorem d_Mod_about_49 : decode b_Mod_about 49 = .ok (.goto 23, 3) := by decide +kernel
theorem d_Mod_about_52 : decode b_Mod_about 52 = .ok (.iload_n 2, 1) := by decide +kernel
theorem d_Mod_about_53 : decode b_Mod_about 53 = .ok (.iconst 1, 1) := by decide +kernel
theorem d_Mod_about_54 : decode b_Mod_about 54 = .ok (.if_icmp .ne 12, 3) := by decide +kernel
theorem d_Mod_about_57 : decode b_Mod_about 57 = .ok (.aload_n 0, 1) := by decide +kernel
theorem d_Mod_about_58 : decode b_Mod_about 58 = .ok (.getfield 23, 3) := by decide +kernel
theorem d_Mod_about_61 : decode b_Mod_about 61 = .ok (.iload_n 1, 1) := by decide +kernel
theorem d_Mod_about_62 : decode b_Mod_about 62 = .ok (.iaload, 1) := by decide +kernel
theorem d_Mod_about_63 : decode b_Mod_about 63 = .ok (.goto 9, 3) := by decide +kernel
theorem d_Mod_about_66 : decode b_Mod_about 66 = .ok (.aload_n 0, 1) := by decide +kernel
theorem d_Mod_about_67 : decode b_Mod_about 67 = .ok (.getfield 26, 3) := by decide +kernel
theorem d_Mod_about_70 : decode b_Mod_about 70 = .ok (.iload_n 1, 1) := by decide +kernel
theorem d_Mod_about_71 : decode b_Mod_about 71 = .ok (.iaload, 1) := by decide +kernel
theorem d_Mod_about_72 : decode b_Mod_about 72 = .ok (.ireturn, 1) := by decide +kernel
theorem d_Mod_home_0 : decode b_Mod_home 0 = .ok (.aload_n 0, 1) := by decide +kernel
theorem d_Mod_home_1 : decode b_Mod_home 1 = .ok (.iload_n 1, 1) := by decide +kernel
theorem d_Mod_home_2 : decode b_Mod_home 2 = .ok (.invokevirtual 100, 3) := by decide +kernel
theorem d_Mod_home_5 : decode b_Mod_home 5 = .ok (.ifCond .eq 12, 3) := by decide +kernel
theorem d_Mod_home_8 : decode b_Mod_home 8 = .ok (.aload_n 0, 1) := by decide +kernel
theorem d_Mod_home_9 : decode b_Mod_home 9 = .ok (.iload_n 1, 1) := by decide +kernel
theorem d_Mod_home_10 : decode b_Mod_home 10 = .ok (.iload_n 2, 1) := by decide +kernel
theorem d_Mod_home_11 : decode b_Mod_home 11 = .ok (.invokevirtual 56, 3) := by decide +kernel
theorem d_Mod_home_14 : decode b_Mod_home 14 = .ok (.goto 4, 3) := by decide +kernel
theorem d_Mod_home_17 : decode b_Mod_home 17 = .ok (.iconst 0, 1) := by decide +kernel
theorem d_Mod_home_18 : decode b_Mod_home 18 = .ok (.ireturn, 1) := by decide +kernel
theorem d_Mod_distance_0 : decode b_Mod_distance 0 = .ok (.aload_n 0, 1) := by decide +kernel
theorem d_Mod_distance_1 : decode b_Mod_distance 1 = .ok (.iload_n 1, 1) := by decide +kernel
theorem d_Mod_distance_2 : decode b_Mod_distance 2 = .ok (.iload_n 2, 1) := by decide +kernel
theorem d_Mod_distance_3 : decode b_Mod_distance 3 = .ok (.invokevirtual 113, 3) := by decide +kernel
theorem d_Mod_distance_6 : decode b_Mod_distance 6 = .ok (.istore_n 3, 1) := by decide +kernel
theorem d_Mod_distance_7 : decode b_Mod_distance 7 = .ok (.iload_n 3, 1) := by decide +kernel
theorem d_Mod_distance_8 : decode b_Mod_distance 8 = .ok (.iconst (-1), 1) := by decide +kernel
theorem d_Mod_distance_9 : decode b_Mod_distance 9 = .ok (.if_icmp .ne 7, 3) := by decide +kernel
theorem d_Mod_distance_12 : decode b_Mod_distance 12 = .ok (.iconst 0, 1) := by decide +kernel
theorem d_Mod_distance_13 : decode b_Mod_distance 13 = .ok (.goto 9, 3) := by decide +kernel
theorem d_Mod_distance_16 : decode b_Mod_distance 16 = .ok (.aload_n 0, 1) := by decide +kernel
theorem d_Mod_distance_17 : decode b_Mod_distance 17 = .ok (.iload_n 1, 1) := by decide +kernel
theorem d_Mod_distance_18 : decode b_Mod_distance 18 = .ok (.iload_n 3, 1) := by decide +kernel
theorem d_Mod_distance_19 : decode b_Mod_distance 19 = .ok (.invokevirtual 119, 3) := by decide +kernel
theorem d_Mod_distance_22 : decode b_Mod_distance 22 = .ok (.ireturn, 1) := by decide +kernel
theorem d_Mod_isPlace_0 : decode b_Mod_isPlace 0 = .ok (.aload_n 0, 1) := by decide +kernel
theorem d_Mod_isPlace_1 : decode b_Mod_isPlace 1 = .ok (.iload_n 1, 1) := by decide +kernel
theorem d_Mod_isPlace_2 : decode b_Mod_isPlace 2 = .ok (.invokevirtual 100, 3) := by decide +kernel
theorem d_Mod_isPlace_5 : decode b_Mod_isPlace 5 = .ok (.ifCond .ne 5, 3) := by decide +kernel
theorem d_Mod_isPlace_8 : decode b_Mod_isPlace 8 = .ok (.iconst 0, 1) := by decide +kernel
theorem d_Mod_isPlace_9 : decode b_Mod_isPlace 9 = .ok (.ireturn, 1) := by decide +kernel
theorem d_Mod_isPlace_10 : decode b_Mod_isPlace 10 = .ok (.aload_n 0, 1) := by decide +kernel
theorem d_Mod_isPlace_11 : decode b_Mod_isPlace 11 = .ok (.iload_n 2, 1) := by decide +kernel
theorem d_Mod_isPlace_12 : decode b_Mod_isPlace 12 = .ok (.iconst 0, 1) := by decide +kernel
theorem d_Mod_isPlace_13 : decode b_Mod_isPlace 13 = .ok (.aload_n 0, 1) := by decide +kernel
theorem d_Mod_isPlace_14 : decode b_Mod_isPlace 14 = .ok (.getfield 20, 3) := by decide +kernel
theorem d_Mod_isPlace_17 : decode b_Mod_isPlace 17 = .ok (.iload_n 1, 1) := by decide +kernel
theorem d_Mod_isPlace_18 : decode b_Mod_isPlace 18 = .ok (.iaload, 1) := by decide +kernel
theorem d_Mod_isPlace_19 : decode b_Mod_isPlace 19 = .ok (.iconst 1, 1) := by decide +kernel
theorem d_Mod_isPlace_20 : decode b_Mod_isPlace 20 = .ok (.isub, 1) := by decide +kernel
theorem d_Mod_isPlace_21 : decode b_Mod_isPlace 21 = .ok (.invokestatic 51, 3) := by decide +kernel
theorem d_Mod_isPlace_24 : decode b_Mod_isPlace 24 = .ok (.ifCond .eq 7, 3) := by decide +kernel
theorem d_Mod_isPlace_27 : decode b_Mod_isPlace 27 = .ok (.iconst 0, 1) := by decide +kernel
theorem d_Mod_isPlace_28 : decode b_Mod_isPlace 28 = .ok (.goto 4, 3) := by decide +kernel
theorem d_Mod_isPlace_31 : decode b_Mod_isPlace 31 = .ok (.iconst 2, 1) := by decide +kernel
theorem d_Mod_isPlace_32 : decode b_Mod_isPlace 32 = .ok (.putfield 47, 3) := by decide +kernel
theorem d_Mod_isPlace_35 : decode b_Mod_isPlace 35 = .ok (.aload_n 0, 1) := by decide +kernel
theorem d_Mod_isPlace_36 : decode b_Mod_isPlace 36 = .ok (.getfield 47, 3) := by decide +kernel
theorem d_Mod_isPlace_39 : decode b_Mod_isPlace 39 = .ok (.ifCond .ne 7, 3) := by decide +kernel
theorem d_Mod_isPlace_42 : decode b_Mod_isPlace 42 = .ok (.iconst 1, 1) := by decide +kernel
theorem d_Mod_isPlace_43 : decode b_Mod_isPlace 43 = .ok (.goto 4, 3) := by decide +kernel
theorem d_Mod_isPlace_46 : decode b_Mod_isPlace 46 = .ok (.iconst 0, 1) := by decide +kernel
theorem d_Mod_isPlace_47 : decode b_Mod_isPlace 47 = .ok (.ireturn, 1) := by decide +kernel
theorem d_Mod_bits_0 : decode b_Mod_bits 0 = .ok (.aload_n 0, 1) := by decide +kernel
theorem d_Mod_bits_1 : decode b_Mod_bits 1 = .ok (.iload_n 1, 1) := by decide +kernel
theorem d_Mod_bits_2 : decode b_Mod_bits 2 = .ok (.iload_n 2, 1) := by decide +kernel
theorem d_Mod_bits_3 : decode b_Mod_bits 3 = .ok (.invokevirtual 122, 3) := by decide +kernel
theorem d_Mod_bits_6 : decode b_Mod_bits 6 = .ok (.ifCond .eq 12, 3) := by decide +kernel
theorem d_Mod_bits_9 : decode b_Mod_bits 9 = .ok (.aload_n 0, 1) := by decide +kernel
theorem d_Mod_bits_10 : decode b_Mod_bits 10 = .ok (.iload_n 1, 1) := by decide +kernel
theorem d_Mod_bits_11 : decode b_Mod_bits 11 = .ok (.iload_n 2, 1) := by decide +kernel
theorem d_Mod_bits_12 : decode b_Mod_bits 12 = .ok (.invokevirtual 126, 3) := by decide +kernel
theorem d_Mod_bits_15 : decode b_Mod_bits 15 = .ok (.goto 4, 3) := by decide +kernel
theorem d_Mod_bits_18 : decode b_Mod_bits 18 = .ok (.iconst 0, 1) := by decide +kernel
theorem d_Mod_bits_19 : decode b_Mod_bits 19 = .ok (.ireturn, 1) := by decide +kernel
theorem d_Mod_next_0 : decode b_Mod_next 0 = .ok (.aload_n 0, 1) := by decide +kernel
theorem d_Mod_next_1 : decode b_Mod_next 1 = .ok (.iload_n 1, 1) := by decide +kernel
theorem d_Mod_next_2 : decode b_Mod_next 2 = .ok (.iload_n 2, 1) := by decide +kernel
theorem d_Mod_next_3 : decode b_Mod_next 3 = .ok (.invokevirtual 122, 3) := by decide +kernel
theorem d_Mod_next_6 : decode b_Mod_next 6 = .ok (.ifCond .ne 5, 3) := by decide +kernel
theorem d_Mod_next_9 : decode b_Mod_next 9 = .ok (.iconst 0, 1) := by decide +kernel
theorem d_Mod_next_10 : decode b_Mod_next 10 = .ok (.ireturn, 1) := by decide +kernel
theorem d_Mod_next_11 : decode b_Mod_next 11 = .ok (.iload_n 2, 1) := by decide +kernel
theorem d_Mod_next_12 : decode b_Mod_next 12 = .ok (.istore_n 3, 1) := by decide +kernel
theorem d_Mod_next_13 : decode b_Mod_next 13 = .ok (.iload_n 3, 1) := by decide +kernel
theorem d_Mod_next_14 : decode b_Mod_next 14 = .ok (.aload_n 0, 1) := by decide +kernel
theorem d_Mod_next_15 : decode b_Mod_next 15 = .ok (.getfield 20, 3) := by decide +kernel
theorem d_Mod_next_18 : decode b_Mod_next 18 = .ok (.iload_n 1, 1) := by decide +kernel
theorem d_Mod_next_19 : decode b_Mod_next 19 = .ok (.iaload, 1) := by decide +kernel
theorem d_Mod_next_20 : decode b_Mod_next 20 = .ok (.if_icmp .ge 24, 3) := by decide +kernel
theorem d_Mod_next_23 : decode b_Mod_next 23 = .ok (.aload_n 0, 1) := by decide +kernel
theorem d_Mod_next_24 : decode b_Mod_next 24 = .ok (.getfield 7, 3) := by decide +kernel
theorem d_Mod_next_27 : decode b_Mod_next 27 = .ok (.sipush 128, 3) := by decide +kernel
theorem d_Mod_next_30 : decode b_Mod_next 30 = .ok (.iload_n 1, 1) := by decide +kernel
theorem d_Mod_next_31 : decode b_Mod_next 31 = .ok (.imul, 1) := by decide +kernel
theorem d_Mod_next_32 : decode b_Mod_next 32 = .ok (.iload_n 3, 1) := by decide +kernel
theorem d_Mod_next_33 : decode b_Mod_next 33 = .ok (.iadd, 1) := by decide +kernel
theorem d_Mod_next_34 : decode b_Mod_next 34 = .ok (.baload, 1) := by decide +kernel
theorem d_Mod_next_35 : decode b_Mod_next 35 = .ok (.ifCond .ne 9, 3) := by decide +kernel
theorem d_Mod_next_38 : decode b_Mod_next 38 = .ok (.iinc 3 1, 3) := by decide +kernel
theorem d_Mod_next_41 : decode b_Mod_next 41 = .ok (.goto (-28), 3) := by decide +kernel
theorem d_Mod_next_44 : decode b_Mod_next 44 = .ok (.iload_n 3, 1) := by decide +kernel
theorem d_Mod_next_45 : decode b_Mod_next 45 = .ok (.aload_n 0, 1) := by decide +kernel
theorem d_Mod_next_46 : decode b_Mod_next 46 = .ok (.getfield 20, 3) := by decide +kernel
theorem d_Mod_next_49 : decode b_Mod_next 49 = .ok (.iload_n 1, 1) := by decide +kernel
theorem d_Mod_next_50 : decode b_Mod_next 50 = .ok (.iaload, 1) := by decide +kernel
theorem d_Mod_next_51 : decode b_Mod_next 51 = .ok (.if_icmp .ne 7, 3) := by decide +kernel
theorem d_Mod_next_54 : decode b_Mod_next 54 = .ok (.iconst (-1), 1) := by decide +kernel
theorem d_Mod_next_55 : decode b_Mod_next 55 = .ok (.goto 4, 3) := by decide +kernel
theorem d_Mod_next_58 : decode b_Mod_next 58 = .ok (.iload_n 3, 1) := by decide +kernel
theorem d_Mod_next_59 : decode b_Mod_next 59 = .ok (.ireturn, 1) := by decide +kernel
theorem d_Mod_key_0 : decode b_Mod_key 0 = .ok (.aload_n 0, 1) := by decide +kernel
theorem d_Mod_key_1 : decode b_Mod_key 1 = .ok (.iload_n 1, 1) := by decide +kernel
theorem d_Mod_key_2 : decode b_Mod_key 2 = .ok (.iload_n 2, 1) := by decide +kernel
theorem d_Mod_key_3 : decode b_Mod_key 3 = .ok (.invokevirtual 122, 3) := by decide +kernel
theorem d_Mod_key_6 : decode b_Mod_key 6 = .ok (.ifCond .ne 5, 3) := by decide +kernel
theorem d_Mod_key_9 : decode b_Mod_key 9 = .ok (.iconst 0, 1) := by decide +kernel
theorem d_Mod_key_10 : decode b_Mod_key 10 = .ok (.ireturn, 1) := by decide +kernel
theorem d_Mod_key_11 : decode b_Mod_key 11 = .ok (.aload_n 0, 1) := by decide +kernel
theorem d_Mod_key_12 : decode b_Mod_key 12 = .ok (.aload_n 0, 1) := by decide +kernel
theorem d_Mod_key_13 : decode b_Mod_key 13 = .ok (.getfield 7, 3) := by decide +kernel
theorem d_Mod_key_16 : decode b_Mod_key 16 = .ok (.sipush 128, 3) := by decide +kernel
theorem d_Mod_key_19 : decode b_Mod_key 19 = .ok (.iload_n 1, 1) := by decide +kernel
theorem d_Mod_key_20 : decode b_Mod_key 20 = .ok (.imul, 1) := by decide +kernel
theorem d_Mod_key_21 : decode b_Mod_key 21 = .ok (.iload_n 2, 1) := by decide +kernel
theorem d_Mod_key_22 : decode b_Mod_key 22 = .ok (.iadd, 1) := by decide +kernel
theorem d_Mod_key_23 : decode b_Mod_key 23 = .ok (.baload, 1) := by decide +kernel
theorem d_Mod_key_24 : decode b_Mod_key 24 = .ok (.ifCond .eq 7, 3) := by decide +kernel
theorem d_Mod_key_27 : decode b_Mod_key 27 = .ok (.iconst 0, 1) := by decide +kernel
theorem d_Mod_key_28 : decode b_Mod_key 28 = .ok (.goto 4, 3) := by decide +kernel
theorem d_Mod_key_31 : decode b_Mod_key 31 = .ok (.iconst 3, 1) := by decide +kernel
theorem d_Mod_key_32 : decode b_Mod_key 32 = .ok (.putfield 47, 3) := by decide +kernel
theorem d_Mod_key_35 : decode b_Mod_key 35 = .ok (.aload_n 0, 1) := by decide +kernel
theorem d_Mod_key_36 : decode b_Mod_key 36 = .ok (.getfield 47, 3) := by decide +kernel
theorem d_Mod_key_39 : decode b_Mod_key 39 = .ok (.ifCond .le 7, 3) := by decide +kernel
theorem d_Mod_key_42 : decode b_Mod_key 42 = .ok (.iconst 0, 1) := by decide +kernel
theorem d_Mod_key_43 : decode b_Mod_key 43 = .ok (.goto 15, 3) := by decide +kernel
theorem d_Mod_key_46 : decode b_Mod_key 46 = .ok (.aload_n 0, 1) := by decide +kernel
theorem d_Mod_key_47 : decode b_Mod_key 47 = .ok (.getfield 13, 3) := by decide +kernel
theorem d_Mod_key_50 : decode b_Mod_key 50 = .ok (.sipush 128, 3) := by decide +kernel
theorem d_Mod_key_53 : decode b_Mod_key 53 = .ok (.iload_n 1, 1) := by decide +kernel
theorem d_Mod_key_54 : decode b_Mod_key 54 = .ok (.imul, 1) := by decide +kernel
theorem d_Mod_key_55 : decode b_Mod_key 55 = .ok (.iload_n 2, 1) := by decide +kernel
theorem d_Mod_key_56 : decode b_Mod_key 56 = .ok (.iadd, 1) := by decide +kernel
theorem d_Mod_key_57 : decode b_Mod_key 57 = .ok (.iaload, 1) := by decide +kernel
theorem d_Mod_key_58 : decode b_Mod_key 58 = .ok (.ireturn, 1) := by decide +kernel
theorem d_Mod_count_0 : decode b_Mod_count 0 = .ok (.aload_n 0, 1) := by decide +kernel
theorem d_Mod_count_1 : decode b_Mod_count 1 = .ok (.iload_n 1, 1) := by decide +kernel
theorem d_Mod_count_2 : decode b_Mod_count 2 = .ok (.iconst 0, 1) := by decide +kernel
theorem d_Mod_count_3 : decode b_Mod_count 3 = .ok (.iconst 2, 1) := by decide +kernel
theorem d_Mod_count_4 : decode b_Mod_count 4 = .ok (.invokestatic 51, 3) := by decide +kernel
theorem d_Mod_count_7 : decode b_Mod_count 7 = .ok (.ifCond .eq 7, 3) := by decide +kernel
theorem d_Mod_count_10 : decode b_Mod_count 10 = .ok (.iconst 0, 1) := by decide +kernel
theorem d_Mod_count_11 : decode b_Mod_count 11 = .ok (.goto 4, 3) := by decide +kernel
theorem d_Mod_count_14 : decode b_Mod_count 14 = .ok (.iconst 1, 1) := by decide +kernel
theorem d_Mod_count_15 : decode b_Mod_count 15 = .ok (.putfield 47, 3) := by decide +kernel
theorem d_Mod_count_18 : decode b_Mod_count 18 = .ok (.aload_n 0, 1) := by decide +kernel
theorem d_Mod_count_19 : decode b_Mod_count 19 = .ok (.getfield 47, 3) := by decide +kernel
theorem d_Mod_count_22 : decode b_Mod_count 22 = .ok (.ifCond .le 7, 3) := by decide +kernel
theorem d_Mod_count_25 : decode b_Mod_count 25 = .ok (.iconst 0, 1) := by decide +kernel
theorem d_Mod_count_26 : decode b_Mod_count 26 = .ok (.goto 9, 3) := by decide +kernel
theorem d_Mod_count_29 : decode b_Mod_count 29 = .ok (.aload_n 0, 1) := by decide +kernel
theorem d_Mod_count_30 : decode b_Mod_count 30 = .ok (.getfield 29, 3) := by decide +kernel
theorem d_Mod_count_33 : decode b_Mod_count 33 = .ok (.iload_n 1, 1) := by decide +kernel
theorem d_Mod_count_34 : decode b_Mod_count 34 = .ok (.iaload, 1) := by decide +kernel
theorem d_Mod_count_35 : decode b_Mod_count 35 = .ok (.ireturn, 1) := by decide +kernel
end
section
theorem pw_subN {c x y : Nat} (h : pw c) (hx : x < 2 ^ 30) (hy : y ≤ c) : (nI x - nI y) &&& (nI c - 1) = nI ((x + c - y) % c) := by
  have hc := pw_le h
  have e : (nI x - nI y).toBitVec.toNat = (2 ^ 32 - y + x) % 2 ^ 32 := by
    rw [Int32.toBitVec_sub, BitVec.toNat_sub, pk_tn (by omega), pk_tn (by omega)]
  rw [pw_and h, e]
  congr 1
  rcases h with rfl | rfl | rfl | rfl | rfl <;> omega
theorem nI_neg (x : Int32) (y : Nat) : x + -(nI y) = x - nI y := by
  rw [Int32.sub_eq_add_neg]
/-- the last place that holds the key, among the first n -/
def plF (F : BT) (K : IT) (o : Nat) (key : Int32) : Nat → Option Nat
  | 0 => none
  | n + 1 => if F (o + n) = true ∧ K (o + n) = key then some n else plF F K o key n
theorem plF_lt {F : BT} {K : IT} {o : Nat} {key : Int32} : ∀ (n k : Nat), plF F K o key n = some k → k < n ∧ F (o + k) = true ∧ K (o + k) = key := by
  intro n
  induction n with
  | zero =>
    intro k h
    cases h
  | succ n ih =>
    intro k h
    have h : (if F (o + n) = true ∧ K (o + n) = key then some n else plF F K o key n) = some k := h
    by_cases hz : F (o + n) = true ∧ K (o + n) = key
    · rw [if_pos hz] at h
      cases h
      exact ⟨Nat.lt_succ_self _, hz⟩
    · rw [if_neg hz] at h
      have := ih k h
      exact ⟨Nat.lt_succ_of_lt this.1, this.2⟩
def hpP (c f : Nat) (r : Option (Nat × Nat)) : Option Nat := match r with
  | some x => some (((f + c - x.1) % c + x.2) % c)
  | none => none
def cpL (f : IT) (g : IT) (o n : Nat) : IT := fun i => if i < n then g (o + i) else f i
def cpLB (f : BT) (g : BT) (o n : Nat) : BT := fun i => if i < n then g (o + i) else f i
def pbL (f : IT) (g : IT) (o n : Nat) : IT := fun i => if o ≤ i ∧ i < o + n then g (i - o) else f i
def pbB (f : BT) (g : BT) (o n : Nat) : BT := fun i => if o ≤ i ∧ i < o + n then g (i - o) else f i
theorem cpL_0 (f g : IT) (o : Nat) : cpL f g o 0 = f := by
  funext i
  exact if_neg (Nat.not_lt_zero _)
theorem cpLB_0 (f g : BT) (o : Nat) : cpLB f g o 0 = f := by
  funext i
  exact if_neg (Nat.not_lt_zero _)
theorem cpL_s (f g : IT) (o n : Nat) : upd (cpL f g o n) n (g (o + n)) = cpL f g o (n + 1) := by
  funext i
  unfold upd cpL
  by_cases h : i = n
  · rw [if_pos h, if_pos (by omega), h]
  · rw [if_neg h]
    by_cases h2 : i < n
    · rw [if_pos h2, if_pos (by omega)]
    · rw [if_neg h2, if_neg (by omega)]
theorem cpLB_s (f g : BT) (o n : Nat) : va_up (cpLB f g o n) n (g (o + n)) = cpLB f g o (n + 1) := by
  funext i
  unfold va_up cpLB
  by_cases h : i = n
  · rw [if_pos h, if_pos (by omega), h]
  · rw [if_neg h]
    by_cases h2 : i < n
    · rw [if_pos h2, if_pos (by omega)]
    · rw [if_neg h2, if_neg (by omega)]
theorem pbL_0 (f g : IT) (o : Nat) : pbL f g o 0 = f := by
  funext i
  exact if_neg (by omega)
theorem pbB_0 (f g : BT) (o : Nat) : pbB f g o 0 = f := by
  funext i
  exact if_neg (by omega)
theorem pbL_s (f g : IT) (o n : Nat) : upd (pbL f g o n) (o + n) (g n) = pbL f g o (n + 1) := by
  funext i
  unfold upd pbL
  by_cases h : i = o + n
  · rw [if_pos h, if_pos (by omega), h, show o + n - o = n by omega]
  · rw [if_neg h]
    by_cases h2 : o ≤ i ∧ i < o + n
    · rw [if_pos h2, if_pos (by omega)]
    · rw [if_neg h2, if_neg (by omega)]
theorem pbB_s (f g : BT) (o n : Nat) : va_up (pbB f g o n) (o + n) (g n) = pbB f g o (n + 1) := by
  funext i
  unfold va_up pbB
  by_cases h : i = o + n
  · rw [if_pos h, if_pos (by omega), h, show o + n - o = n by omega]
  · rw [if_neg h]
    by_cases h2 : o ≤ i ∧ i < o + n
    · rw [if_pos h2, if_pos (by omega)]
    · rw [if_neg h2, if_neg (by omega)]
/-! the reference: its cells, its words -/
abbrev mCl : List vw_C := [(R_Hop, F_Hop, 6), (R_Part, F_Part, 3), (R_Mod, F_Mod, 14)]
def wM (ca a : Nat → Nat) (z : Int32) (F : BT) (K V : IT) (P B : Nat → Nat) (S C : IT) (N : Nat) (HK HV : IT) (OF : BT) (OK OV : IT) : va_W :=
  [(a 0, .inr (2, [.int z, .ref (a 1), .ref (a 2), .ref (a 3), .ref (a 4), .ref (a 5), .ref (a 6), .ref (a 7), .int (nI N), .ref (a 8), .ref (a 9), .ref (a 10), .ref (a 11), .ref (a 12)])), (a 1, .inl (ca 1, 384, .inl (fun i => bI (F i)))), (a 2, .inl (ca 2, 384, .inl K)), (a 3, .inl (ca 3, 384, .inl V)), (a 4, .inl (ca 4, 3, .inl (fun i => nI (P i)))), (a 5, .inl (ca 5, 3, .inl (fun i => nI (B i)))), (a 6, .inl (ca 6, 3, .inl S)), (a 7, .inl (ca 7, 3, .inl C)), (a 8, .inl (ca 8, 129, .inl HK)), (a 9, .inl (ca 9, 129, .inl HV)), (a 10, .inl (ca 10, 128, .inl (fun i => bI (OF i)))), (a 11, .inl (ca 11, 128, .inl OK)), (a 12, .inl (ca 12, 128, .inl OV))]
def tyM (ca : Nat → Nat) : List (ClassId × FieldType) := [(ca 1, .boolean), (ca 2, .int), (ca 3, .int), (ca 4, .int), (ca 5, .int), (ca 6, .int), (ca 7, .int), (ca 8, .int), (ca 9, .int), (ca 10, .boolean), (ca 11, .int), (ca 12, .int)]
theorem wM_a {ca a : Nat → Nat} {z : Int32} {F : BT} {K V : IT} {P B : Nat → Nat} {S C : IT} {N : Nat} {HK HV : IT} {OF : BT} {OK OV : IT} {z' : Int32} {F' : BT} {K' : IT} {V' : IT} {P' : Nat → Nat} {B' : Nat → Nat} {S' : IT} {C' : IT} {N' : Nat} {HK' : IT} {HV' : IT} {OF' : BT} {OK' : IT} {OV' : IT} : (wM ca a z F K V P B S C N HK HV OF OK OV).map (fun x => x.1) = (wM ca a z' F' K' V' P' B' S' C' N' HK' HV' OF' OK' OV').map (fun x => x.1) := rfl
theorem nI_upd (P : Nat → Nat) (i x : Nat) : upd (fun i => nI (P i)) i (nI x) = fun k => nI (va_up P i x k) := by
  funext k
  unfold upd va_up
  by_cases h : k = i
  · rw [if_pos h, if_pos h]
  · rw [if_neg h, if_neg h]
section MWA
variable {p : Program} {l : Launch} {e : Env} {R : Room} {s : State} {m : MethodId} {args : Array Value} {below : List Frame} {meth : Method} {c : Code} {H : Heap} {locs : List Loc} {cells slots : Nat} {Q : State → Prop}
variable {cc : ByteArray} {pc nL : Nat} {ls : Array Slot} {rest st0 : List Value} {D : va_G} {A : Nat → Prop} {H0 : Heap} {tys : List (ClassId × FieldType)} {ca a : Nat → Nat} {z : Int32} {F : BT} {K V : IT} {P B : Nat → Nat} {S C : IT} {N : Nat} {HK HV : IT} {OF : BT} {OK OV : IT}
theorem mg_code (X : CallFix p m c cc nL s args wsA R_Mod) (hK : va_K D mCl (tyM ca) s) (hP : va_P D mCl (wM ca a z F K V P B S C N HK HV OF OK OV) H) (d : decode cc pc = .ok (.getfield 47, 3)) (k : W p l e R s m args below meth c H locs cells slots Q (F0 m (pc + 3) ls (.int z :: rest))) : W p l e R s m args below meth c H locs cells slots Q (F0 m pc ls (.ref (a 0) :: rest)) :=
  va_get (D := D) (ci := 2) (v := .int z) (C := R_Mod) (T := F_Mod) (N := 14) X.1 X.2.1 X.2.2.2.2 hin_Mod X.2.2.2.1 hK hP 0 rfl rfl 0 (by decide) (X.2.2.2.2 (.fieldLink R_Mod 47 "HopArenaModel" "code" "I") m_422) (fun _ h9 => h9) rfl d k
theorem mg_full (X : CallFix p m c cc nL s args wsA R_Mod) (hK : va_K D mCl (tyM ca) s) (hP : va_P D mCl (wM ca a z F K V P B S C N HK HV OF OK OV) H) (d : decode cc pc = .ok (.getfield 7, 3)) (k : W p l e R s m args below meth c H locs cells slots Q (F0 m (pc + 3) ls (.ref (a 1) :: rest))) : W p l e R s m args below meth c H locs cells slots Q (F0 m pc ls (.ref (a 0) :: rest)) :=
  va_get (D := D) (ci := 2) (v := .ref (a 1)) (C := R_Mod) (T := F_Mod) (N := 14) X.1 X.2.1 X.2.2.2.2 hin_Mod X.2.2.2.1 hK hP 0 rfl rfl 1 (by decide) (X.2.2.2.2 (.fieldLink R_Mod 7 "HopArenaModel" "full" "[Z") m_423) (fun _ h9 => h9) rfl d k
theorem mg_keys (X : CallFix p m c cc nL s args wsA R_Mod) (hK : va_K D mCl (tyM ca) s) (hP : va_P D mCl (wM ca a z F K V P B S C N HK HV OF OK OV) H) (d : decode cc pc = .ok (.getfield 13, 3)) (k : W p l e R s m args below meth c H locs cells slots Q (F0 m (pc + 3) ls (.ref (a 2) :: rest))) : W p l e R s m args below meth c H locs cells slots Q (F0 m pc ls (.ref (a 0) :: rest)) :=
  va_get (D := D) (ci := 2) (v := .ref (a 2)) (C := R_Mod) (T := F_Mod) (N := 14) X.1 X.2.1 X.2.2.2.2 hin_Mod X.2.2.2.1 hK hP 0 rfl rfl 2 (by decide) (X.2.2.2.2 (.fieldLink R_Mod 13 "HopArenaModel" "keys" "[I") m_424) (fun _ h9 => h9) rfl d k
theorem mg_values (X : CallFix p m c cc nL s args wsA R_Mod) (hK : va_K D mCl (tyM ca) s) (hP : va_P D mCl (wM ca a z F K V P B S C N HK HV OF OK OV) H) (d : decode cc pc = .ok (.getfield 17, 3)) (k : W p l e R s m args below meth c H locs cells slots Q (F0 m (pc + 3) ls (.ref (a 3) :: rest))) : W p l e R s m args below meth c H locs cells slots Q (F0 m pc ls (.ref (a 0) :: rest)) :=
  va_get (D := D) (ci := 2) (v := .ref (a 3)) (C := R_Mod) (T := F_Mod) (N := 14) X.1 X.2.1 X.2.2.2.2 hin_Mod X.2.2.2.1 hK hP 0 rfl rfl 3 (by decide) (X.2.2.2.2 (.fieldLink R_Mod 17 "HopArenaModel" "values" "[I") m_425) (fun _ h9 => h9) rfl d k
theorem mg_capacity (X : CallFix p m c cc nL s args wsA R_Mod) (hK : va_K D mCl (tyM ca) s) (hP : va_P D mCl (wM ca a z F K V P B S C N HK HV OF OK OV) H) (d : decode cc pc = .ok (.getfield 20, 3)) (k : W p l e R s m args below meth c H locs cells slots Q (F0 m (pc + 3) ls (.ref (a 4) :: rest))) : W p l e R s m args below meth c H locs cells slots Q (F0 m pc ls (.ref (a 0) :: rest)) :=
  va_get (D := D) (ci := 2) (v := .ref (a 4)) (C := R_Mod) (T := F_Mod) (N := 14) X.1 X.2.1 X.2.2.2.2 hin_Mod X.2.2.2.1 hK hP 0 rfl rfl 4 (by decide) (X.2.2.2.2 (.fieldLink R_Mod 20 "HopArenaModel" "capacity" "[I") m_426) (fun _ h9 => h9) rfl d k
theorem mg_base (X : CallFix p m c cc nL s args wsA R_Mod) (hK : va_K D mCl (tyM ca) s) (hP : va_P D mCl (wM ca a z F K V P B S C N HK HV OF OK OV) H) (d : decode cc pc = .ok (.getfield 23, 3)) (k : W p l e R s m args below meth c H locs cells slots Q (F0 m (pc + 3) ls (.ref (a 5) :: rest))) : W p l e R s m args below meth c H locs cells slots Q (F0 m pc ls (.ref (a 0) :: rest)) :=
  va_get (D := D) (ci := 2) (v := .ref (a 5)) (C := R_Mod) (T := F_Mod) (N := 14) X.1 X.2.1 X.2.2.2.2 hin_Mod X.2.2.2.1 hK hP 0 rfl rfl 5 (by decide) (X.2.2.2.2 (.fieldLink R_Mod 23 "HopArenaModel" "base" "[I") m_427) (fun _ h9 => h9) rfl d k
theorem mg_seed (X : CallFix p m c cc nL s args wsA R_Mod) (hK : va_K D mCl (tyM ca) s) (hP : va_P D mCl (wM ca a z F K V P B S C N HK HV OF OK OV) H) (d : decode cc pc = .ok (.getfield 26, 3)) (k : W p l e R s m args below meth c H locs cells slots Q (F0 m (pc + 3) ls (.ref (a 6) :: rest))) : W p l e R s m args below meth c H locs cells slots Q (F0 m pc ls (.ref (a 0) :: rest)) :=
  va_get (D := D) (ci := 2) (v := .ref (a 6)) (C := R_Mod) (T := F_Mod) (N := 14) X.1 X.2.1 X.2.2.2.2 hin_Mod X.2.2.2.1 hK hP 0 rfl rfl 6 (by decide) (X.2.2.2.2 (.fieldLink R_Mod 26 "HopArenaModel" "seed" "[I") m_428) (fun _ h9 => h9) rfl d k
theorem mg_counts (X : CallFix p m c cc nL s args wsA R_Mod) (hK : va_K D mCl (tyM ca) s) (hP : va_P D mCl (wM ca a z F K V P B S C N HK HV OF OK OV) H) (d : decode cc pc = .ok (.getfield 29, 3)) (k : W p l e R s m args below meth c H locs cells slots Q (F0 m (pc + 3) ls (.ref (a 7) :: rest))) : W p l e R s m args below meth c H locs cells slots Q (F0 m pc ls (.ref (a 0) :: rest)) :=
  va_get (D := D) (ci := 2) (v := .ref (a 7)) (C := R_Mod) (T := F_Mod) (N := 14) X.1 X.2.1 X.2.2.2.2 hin_Mod X.2.2.2.1 hK hP 0 rfl rfl 7 (by decide) (X.2.2.2.2 (.fieldLink R_Mod 29 "HopArenaModel" "counts" "[I") m_429) (fun _ h9 => h9) rfl d k
theorem mg_held (X : CallFix p m c cc nL s args wsA R_Mod) (hK : va_K D mCl (tyM ca) s) (hP : va_P D mCl (wM ca a z F K V P B S C N HK HV OF OK OV) H) (d : decode cc pc = .ok (.getfield 71, 3)) (k : W p l e R s m args below meth c H locs cells slots Q (F0 m (pc + 3) ls (.int (nI N) :: rest))) : W p l e R s m args below meth c H locs cells slots Q (F0 m pc ls (.ref (a 0) :: rest)) :=
  va_get (D := D) (ci := 2) (v := .int (nI N)) (C := R_Mod) (T := F_Mod) (N := 14) X.1 X.2.1 X.2.2.2.2 hin_Mod X.2.2.2.1 hK hP 0 rfl rfl 8 (by decide) (X.2.2.2.2 (.fieldLink R_Mod 71 "HopArenaModel" "held" "I") m_430) (fun _ h9 => h9) rfl d k
theorem mg_heldKeys (X : CallFix p m c cc nL s args wsA R_Mod) (hK : va_K D mCl (tyM ca) s) (hP : va_P D mCl (wM ca a z F K V P B S C N HK HV OF OK OV) H) (d : decode cc pc = .ok (.getfield 32, 3)) (k : W p l e R s m args below meth c H locs cells slots Q (F0 m (pc + 3) ls (.ref (a 8) :: rest))) : W p l e R s m args below meth c H locs cells slots Q (F0 m pc ls (.ref (a 0) :: rest)) :=
  va_get (D := D) (ci := 2) (v := .ref (a 8)) (C := R_Mod) (T := F_Mod) (N := 14) X.1 X.2.1 X.2.2.2.2 hin_Mod X.2.2.2.1 hK hP 0 rfl rfl 9 (by decide) (X.2.2.2.2 (.fieldLink R_Mod 32 "HopArenaModel" "heldKeys" "[I") m_431) (fun _ h9 => h9) rfl d k
theorem mg_heldValues (X : CallFix p m c cc nL s args wsA R_Mod) (hK : va_K D mCl (tyM ca) s) (hP : va_P D mCl (wM ca a z F K V P B S C N HK HV OF OK OV) H) (d : decode cc pc = .ok (.getfield 35, 3)) (k : W p l e R s m args below meth c H locs cells slots Q (F0 m (pc + 3) ls (.ref (a 9) :: rest))) : W p l e R s m args below meth c H locs cells slots Q (F0 m pc ls (.ref (a 0) :: rest)) :=
  va_get (D := D) (ci := 2) (v := .ref (a 9)) (C := R_Mod) (T := F_Mod) (N := 14) X.1 X.2.1 X.2.2.2.2 hin_Mod X.2.2.2.1 hK hP 0 rfl rfl 10 (by decide) (X.2.2.2.2 (.fieldLink R_Mod 35 "HopArenaModel" "heldValues" "[I") m_432) (fun _ h9 => h9) rfl d k
theorem mg_oldFull (X : CallFix p m c cc nL s args wsA R_Mod) (hK : va_K D mCl (tyM ca) s) (hP : va_P D mCl (wM ca a z F K V P B S C N HK HV OF OK OV) H) (d : decode cc pc = .ok (.getfield 38, 3)) (k : W p l e R s m args below meth c H locs cells slots Q (F0 m (pc + 3) ls (.ref (a 10) :: rest))) : W p l e R s m args below meth c H locs cells slots Q (F0 m pc ls (.ref (a 0) :: rest)) :=
  va_get (D := D) (ci := 2) (v := .ref (a 10)) (C := R_Mod) (T := F_Mod) (N := 14) X.1 X.2.1 X.2.2.2.2 hin_Mod X.2.2.2.1 hK hP 0 rfl rfl 11 (by decide) (X.2.2.2.2 (.fieldLink R_Mod 38 "HopArenaModel" "oldFull" "[Z") m_433) (fun _ h9 => h9) rfl d k
theorem mg_oldKeys (X : CallFix p m c cc nL s args wsA R_Mod) (hK : va_K D mCl (tyM ca) s) (hP : va_P D mCl (wM ca a z F K V P B S C N HK HV OF OK OV) H) (d : decode cc pc = .ok (.getfield 41, 3)) (k : W p l e R s m args below meth c H locs cells slots Q (F0 m (pc + 3) ls (.ref (a 11) :: rest))) : W p l e R s m args below meth c H locs cells slots Q (F0 m pc ls (.ref (a 0) :: rest)) :=
  va_get (D := D) (ci := 2) (v := .ref (a 11)) (C := R_Mod) (T := F_Mod) (N := 14) X.1 X.2.1 X.2.2.2.2 hin_Mod X.2.2.2.1 hK hP 0 rfl rfl 12 (by decide) (X.2.2.2.2 (.fieldLink R_Mod 41 "HopArenaModel" "oldKeys" "[I") m_434) (fun _ h9 => h9) rfl d k
theorem mg_oldValues (X : CallFix p m c cc nL s args wsA R_Mod) (hK : va_K D mCl (tyM ca) s) (hP : va_P D mCl (wM ca a z F K V P B S C N HK HV OF OK OV) H) (d : decode cc pc = .ok (.getfield 44, 3)) (k : W p l e R s m args below meth c H locs cells slots Q (F0 m (pc + 3) ls (.ref (a 12) :: rest))) : W p l e R s m args below meth c H locs cells slots Q (F0 m pc ls (.ref (a 0) :: rest)) :=
  va_get (D := D) (ci := 2) (v := .ref (a 12)) (C := R_Mod) (T := F_Mod) (N := 14) X.1 X.2.1 X.2.2.2.2 hin_Mod X.2.2.2.1 hK hP 0 rfl rfl 13 (by decide) (X.2.2.2.2 (.fieldLink R_Mod 44 "HopArenaModel" "oldValues" "[I") m_435) (fun _ h9 => h9) rfl d k
theorem ml_F (X : CallFix p m c cc nL s args wsA R_Mod) (hK : va_K D mCl (tyM ca) s) (hP : va_P D mCl (wM ca a z F K V P B S C N HK HV OF OK OV) H) {i : Nat} (hi : i < 384) (d : decode cc pc = .ok (.baload, 1)) (k : W p l e R s m args below meth c H locs cells slots Q (F0 m (pc + 1) ls (.int (bI (F i)) :: rest))) : W p l e R s m args below meth c H locs cells slots Q (F0 m pc ls (.int (nI i) :: .ref (a 1) :: rest)) :=
  va_zald X.1 X.2.1 hK hP 1 0 rfl rfl (vp_in_nI hi (by decide)) d (by rw [nI_clamp (by omega)]; exact k)
theorem ms_F (X : CallFix p m c cc nL s args wsA R_Mod) (hK : va_K D mCl (tyM ca) s) (hP : va_P D mCl (wM ca a z F K V P B S C N HK HV OF OK OV) H) (hD : va_D A (wM ca a z F K V P B S C N HK HV OF OK OV)) (hS : va_S A H0 H locs) {i : Nat} {x : Bool} (hi : i < 384) (d : decode cc pc = .ok (.bastore, 1)) (k : ∀ (H1 : Heap) (locs1 : List Loc), va_P D mCl (wM ca a z (va_up F i x) K V P B S C N HK HV OF OK OV) H1 → va_D A (wM ca a z (va_up F i x) K V P B S C N HK HV OF OK OV) → va_S A H0 H1 locs1 → W p l e R s m args below meth c H1 locs1 cells slots Q (F0 m (pc + 1) ls rest)) : W p l e R s m args below meth c H locs cells slots Q (F0 m pc ls (.int (bI x) :: .int (nI i) :: .ref (a 1) :: rest)) :=
  va_zast X.1 X.2.1 hK hP hD hS 1 0 rfl rfl (vp_in_nI hi (by decide)) d (by rw [nI_clamp (by omega), bI_nar, bI_upd]; exact k)
theorem ml_K (X : CallFix p m c cc nL s args wsA R_Mod) (hK : va_K D mCl (tyM ca) s) (hP : va_P D mCl (wM ca a z F K V P B S C N HK HV OF OK OV) H) {i : Nat} (hi : i < 384) (d : decode cc pc = .ok (.iaload, 1)) (k : W p l e R s m args below meth c H locs cells slots Q (F0 m (pc + 1) ls (.int (K i) :: rest))) : W p l e R s m args below meth c H locs cells slots Q (F0 m pc ls (.int (nI i) :: .ref (a 2) :: rest)) :=
  va_iald X.1 X.2.1 hK hP 2 1 rfl rfl (vp_in_nI hi (by decide)) d (by rw [nI_clamp (by omega)]; exact k)
theorem ms_K (X : CallFix p m c cc nL s args wsA R_Mod) (hK : va_K D mCl (tyM ca) s) (hP : va_P D mCl (wM ca a z F K V P B S C N HK HV OF OK OV) H) (hD : va_D A (wM ca a z F K V P B S C N HK HV OF OK OV)) (hS : va_S A H0 H locs) {i : Nat} {x : Int32} (hi : i < 384) (d : decode cc pc = .ok (.iastore, 1)) (k : ∀ (H1 : Heap) (locs1 : List Loc), va_P D mCl (wM ca a z F (upd K i x) V P B S C N HK HV OF OK OV) H1 → va_D A (wM ca a z F (upd K i x) V P B S C N HK HV OF OK OV) → va_S A H0 H1 locs1 → W p l e R s m args below meth c H1 locs1 cells slots Q (F0 m (pc + 1) ls rest)) : W p l e R s m args below meth c H locs cells slots Q (F0 m pc ls (.int x :: .int (nI i) :: .ref (a 2) :: rest)) :=
  va_iast X.1 X.2.1 hK hP hD hS 2 1 rfl rfl (vp_in_nI hi (by decide)) d (by rw [nI_clamp (by omega)]; exact k)
theorem ml_V (X : CallFix p m c cc nL s args wsA R_Mod) (hK : va_K D mCl (tyM ca) s) (hP : va_P D mCl (wM ca a z F K V P B S C N HK HV OF OK OV) H) {i : Nat} (hi : i < 384) (d : decode cc pc = .ok (.iaload, 1)) (k : W p l e R s m args below meth c H locs cells slots Q (F0 m (pc + 1) ls (.int (V i) :: rest))) : W p l e R s m args below meth c H locs cells slots Q (F0 m pc ls (.int (nI i) :: .ref (a 3) :: rest)) :=
  va_iald X.1 X.2.1 hK hP 3 2 rfl rfl (vp_in_nI hi (by decide)) d (by rw [nI_clamp (by omega)]; exact k)
theorem ms_V (X : CallFix p m c cc nL s args wsA R_Mod) (hK : va_K D mCl (tyM ca) s) (hP : va_P D mCl (wM ca a z F K V P B S C N HK HV OF OK OV) H) (hD : va_D A (wM ca a z F K V P B S C N HK HV OF OK OV)) (hS : va_S A H0 H locs) {i : Nat} {x : Int32} (hi : i < 384) (d : decode cc pc = .ok (.iastore, 1)) (k : ∀ (H1 : Heap) (locs1 : List Loc), va_P D mCl (wM ca a z F K (upd V i x) P B S C N HK HV OF OK OV) H1 → va_D A (wM ca a z F K (upd V i x) P B S C N HK HV OF OK OV) → va_S A H0 H1 locs1 → W p l e R s m args below meth c H1 locs1 cells slots Q (F0 m (pc + 1) ls rest)) : W p l e R s m args below meth c H locs cells slots Q (F0 m pc ls (.int x :: .int (nI i) :: .ref (a 3) :: rest)) :=
  va_iast X.1 X.2.1 hK hP hD hS 3 2 rfl rfl (vp_in_nI hi (by decide)) d (by rw [nI_clamp (by omega)]; exact k)
theorem ml_P (X : CallFix p m c cc nL s args wsA R_Mod) (hK : va_K D mCl (tyM ca) s) (hP : va_P D mCl (wM ca a z F K V P B S C N HK HV OF OK OV) H) {i : Nat} (hi : i < 3) (d : decode cc pc = .ok (.iaload, 1)) (k : W p l e R s m args below meth c H locs cells slots Q (F0 m (pc + 1) ls (.int (nI (P i)) :: rest))) : W p l e R s m args below meth c H locs cells slots Q (F0 m pc ls (.int (nI i) :: .ref (a 4) :: rest)) :=
  va_iald X.1 X.2.1 hK hP 4 3 rfl rfl (vp_in_nI hi (by decide)) d (by rw [nI_clamp (by omega)]; exact k)
theorem ms_P (X : CallFix p m c cc nL s args wsA R_Mod) (hK : va_K D mCl (tyM ca) s) (hP : va_P D mCl (wM ca a z F K V P B S C N HK HV OF OK OV) H) (hD : va_D A (wM ca a z F K V P B S C N HK HV OF OK OV)) (hS : va_S A H0 H locs) {i : Nat} {x : Nat} (hi : i < 3) (d : decode cc pc = .ok (.iastore, 1)) (k : ∀ (H1 : Heap) (locs1 : List Loc), va_P D mCl (wM ca a z F K V (va_up P i x) B S C N HK HV OF OK OV) H1 → va_D A (wM ca a z F K V (va_up P i x) B S C N HK HV OF OK OV) → va_S A H0 H1 locs1 → W p l e R s m args below meth c H1 locs1 cells slots Q (F0 m (pc + 1) ls rest)) : W p l e R s m args below meth c H locs cells slots Q (F0 m pc ls (.int (nI x) :: .int (nI i) :: .ref (a 4) :: rest)) :=
  va_iast X.1 X.2.1 hK hP hD hS 4 3 rfl rfl (vp_in_nI hi (by decide)) d (by rw [nI_clamp (by omega), nI_upd]; exact k)
theorem ml_B (X : CallFix p m c cc nL s args wsA R_Mod) (hK : va_K D mCl (tyM ca) s) (hP : va_P D mCl (wM ca a z F K V P B S C N HK HV OF OK OV) H) {i : Nat} (hi : i < 3) (d : decode cc pc = .ok (.iaload, 1)) (k : W p l e R s m args below meth c H locs cells slots Q (F0 m (pc + 1) ls (.int (nI (B i)) :: rest))) : W p l e R s m args below meth c H locs cells slots Q (F0 m pc ls (.int (nI i) :: .ref (a 5) :: rest)) :=
  va_iald X.1 X.2.1 hK hP 5 4 rfl rfl (vp_in_nI hi (by decide)) d (by rw [nI_clamp (by omega)]; exact k)
theorem ms_B (X : CallFix p m c cc nL s args wsA R_Mod) (hK : va_K D mCl (tyM ca) s) (hP : va_P D mCl (wM ca a z F K V P B S C N HK HV OF OK OV) H) (hD : va_D A (wM ca a z F K V P B S C N HK HV OF OK OV)) (hS : va_S A H0 H locs) {i : Nat} {x : Nat} (hi : i < 3) (d : decode cc pc = .ok (.iastore, 1)) (k : ∀ (H1 : Heap) (locs1 : List Loc), va_P D mCl (wM ca a z F K V P (va_up B i x) S C N HK HV OF OK OV) H1 → va_D A (wM ca a z F K V P (va_up B i x) S C N HK HV OF OK OV) → va_S A H0 H1 locs1 → W p l e R s m args below meth c H1 locs1 cells slots Q (F0 m (pc + 1) ls rest)) : W p l e R s m args below meth c H locs cells slots Q (F0 m pc ls (.int (nI x) :: .int (nI i) :: .ref (a 5) :: rest)) :=
  va_iast X.1 X.2.1 hK hP hD hS 5 4 rfl rfl (vp_in_nI hi (by decide)) d (by rw [nI_clamp (by omega), nI_upd]; exact k)
theorem ml_S (X : CallFix p m c cc nL s args wsA R_Mod) (hK : va_K D mCl (tyM ca) s) (hP : va_P D mCl (wM ca a z F K V P B S C N HK HV OF OK OV) H) {i : Nat} (hi : i < 3) (d : decode cc pc = .ok (.iaload, 1)) (k : W p l e R s m args below meth c H locs cells slots Q (F0 m (pc + 1) ls (.int (S i) :: rest))) : W p l e R s m args below meth c H locs cells slots Q (F0 m pc ls (.int (nI i) :: .ref (a 6) :: rest)) :=
  va_iald X.1 X.2.1 hK hP 6 5 rfl rfl (vp_in_nI hi (by decide)) d (by rw [nI_clamp (by omega)]; exact k)
theorem ms_S (X : CallFix p m c cc nL s args wsA R_Mod) (hK : va_K D mCl (tyM ca) s) (hP : va_P D mCl (wM ca a z F K V P B S C N HK HV OF OK OV) H) (hD : va_D A (wM ca a z F K V P B S C N HK HV OF OK OV)) (hS : va_S A H0 H locs) {i : Nat} {x : Int32} (hi : i < 3) (d : decode cc pc = .ok (.iastore, 1)) (k : ∀ (H1 : Heap) (locs1 : List Loc), va_P D mCl (wM ca a z F K V P B (upd S i x) C N HK HV OF OK OV) H1 → va_D A (wM ca a z F K V P B (upd S i x) C N HK HV OF OK OV) → va_S A H0 H1 locs1 → W p l e R s m args below meth c H1 locs1 cells slots Q (F0 m (pc + 1) ls rest)) : W p l e R s m args below meth c H locs cells slots Q (F0 m pc ls (.int x :: .int (nI i) :: .ref (a 6) :: rest)) :=
  va_iast X.1 X.2.1 hK hP hD hS 6 5 rfl rfl (vp_in_nI hi (by decide)) d (by rw [nI_clamp (by omega)]; exact k)
theorem ml_C (X : CallFix p m c cc nL s args wsA R_Mod) (hK : va_K D mCl (tyM ca) s) (hP : va_P D mCl (wM ca a z F K V P B S C N HK HV OF OK OV) H) {i : Nat} (hi : i < 3) (d : decode cc pc = .ok (.iaload, 1)) (k : W p l e R s m args below meth c H locs cells slots Q (F0 m (pc + 1) ls (.int (C i) :: rest))) : W p l e R s m args below meth c H locs cells slots Q (F0 m pc ls (.int (nI i) :: .ref (a 7) :: rest)) :=
  va_iald X.1 X.2.1 hK hP 7 6 rfl rfl (vp_in_nI hi (by decide)) d (by rw [nI_clamp (by omega)]; exact k)
theorem ms_C (X : CallFix p m c cc nL s args wsA R_Mod) (hK : va_K D mCl (tyM ca) s) (hP : va_P D mCl (wM ca a z F K V P B S C N HK HV OF OK OV) H) (hD : va_D A (wM ca a z F K V P B S C N HK HV OF OK OV)) (hS : va_S A H0 H locs) {i : Nat} {x : Int32} (hi : i < 3) (d : decode cc pc = .ok (.iastore, 1)) (k : ∀ (H1 : Heap) (locs1 : List Loc), va_P D mCl (wM ca a z F K V P B S (upd C i x) N HK HV OF OK OV) H1 → va_D A (wM ca a z F K V P B S (upd C i x) N HK HV OF OK OV) → va_S A H0 H1 locs1 → W p l e R s m args below meth c H1 locs1 cells slots Q (F0 m (pc + 1) ls rest)) : W p l e R s m args below meth c H locs cells slots Q (F0 m pc ls (.int x :: .int (nI i) :: .ref (a 7) :: rest)) :=
  va_iast X.1 X.2.1 hK hP hD hS 7 6 rfl rfl (vp_in_nI hi (by decide)) d (by rw [nI_clamp (by omega)]; exact k)
theorem ml_HK (X : CallFix p m c cc nL s args wsA R_Mod) (hK : va_K D mCl (tyM ca) s) (hP : va_P D mCl (wM ca a z F K V P B S C N HK HV OF OK OV) H) {i : Nat} (hi : i < 129) (d : decode cc pc = .ok (.iaload, 1)) (k : W p l e R s m args below meth c H locs cells slots Q (F0 m (pc + 1) ls (.int (HK i) :: rest))) : W p l e R s m args below meth c H locs cells slots Q (F0 m pc ls (.int (nI i) :: .ref (a 8) :: rest)) :=
  va_iald X.1 X.2.1 hK hP 8 7 rfl rfl (vp_in_nI hi (by decide)) d (by rw [nI_clamp (by omega)]; exact k)
theorem ms_HK (X : CallFix p m c cc nL s args wsA R_Mod) (hK : va_K D mCl (tyM ca) s) (hP : va_P D mCl (wM ca a z F K V P B S C N HK HV OF OK OV) H) (hD : va_D A (wM ca a z F K V P B S C N HK HV OF OK OV)) (hS : va_S A H0 H locs) {i : Nat} {x : Int32} (hi : i < 129) (d : decode cc pc = .ok (.iastore, 1)) (k : ∀ (H1 : Heap) (locs1 : List Loc), va_P D mCl (wM ca a z F K V P B S C N (upd HK i x) HV OF OK OV) H1 → va_D A (wM ca a z F K V P B S C N (upd HK i x) HV OF OK OV) → va_S A H0 H1 locs1 → W p l e R s m args below meth c H1 locs1 cells slots Q (F0 m (pc + 1) ls rest)) : W p l e R s m args below meth c H locs cells slots Q (F0 m pc ls (.int x :: .int (nI i) :: .ref (a 8) :: rest)) :=
  va_iast X.1 X.2.1 hK hP hD hS 8 7 rfl rfl (vp_in_nI hi (by decide)) d (by rw [nI_clamp (by omega)]; exact k)
theorem ml_HV (X : CallFix p m c cc nL s args wsA R_Mod) (hK : va_K D mCl (tyM ca) s) (hP : va_P D mCl (wM ca a z F K V P B S C N HK HV OF OK OV) H) {i : Nat} (hi : i < 129) (d : decode cc pc = .ok (.iaload, 1)) (k : W p l e R s m args below meth c H locs cells slots Q (F0 m (pc + 1) ls (.int (HV i) :: rest))) : W p l e R s m args below meth c H locs cells slots Q (F0 m pc ls (.int (nI i) :: .ref (a 9) :: rest)) :=
  va_iald X.1 X.2.1 hK hP 9 8 rfl rfl (vp_in_nI hi (by decide)) d (by rw [nI_clamp (by omega)]; exact k)
theorem ms_HV (X : CallFix p m c cc nL s args wsA R_Mod) (hK : va_K D mCl (tyM ca) s) (hP : va_P D mCl (wM ca a z F K V P B S C N HK HV OF OK OV) H) (hD : va_D A (wM ca a z F K V P B S C N HK HV OF OK OV)) (hS : va_S A H0 H locs) {i : Nat} {x : Int32} (hi : i < 129) (d : decode cc pc = .ok (.iastore, 1)) (k : ∀ (H1 : Heap) (locs1 : List Loc), va_P D mCl (wM ca a z F K V P B S C N HK (upd HV i x) OF OK OV) H1 → va_D A (wM ca a z F K V P B S C N HK (upd HV i x) OF OK OV) → va_S A H0 H1 locs1 → W p l e R s m args below meth c H1 locs1 cells slots Q (F0 m (pc + 1) ls rest)) : W p l e R s m args below meth c H locs cells slots Q (F0 m pc ls (.int x :: .int (nI i) :: .ref (a 9) :: rest)) :=
  va_iast X.1 X.2.1 hK hP hD hS 9 8 rfl rfl (vp_in_nI hi (by decide)) d (by rw [nI_clamp (by omega)]; exact k)
theorem ml_OF (X : CallFix p m c cc nL s args wsA R_Mod) (hK : va_K D mCl (tyM ca) s) (hP : va_P D mCl (wM ca a z F K V P B S C N HK HV OF OK OV) H) {i : Nat} (hi : i < 128) (d : decode cc pc = .ok (.baload, 1)) (k : W p l e R s m args below meth c H locs cells slots Q (F0 m (pc + 1) ls (.int (bI (OF i)) :: rest))) : W p l e R s m args below meth c H locs cells slots Q (F0 m pc ls (.int (nI i) :: .ref (a 10) :: rest)) :=
  va_zald X.1 X.2.1 hK hP 10 9 rfl rfl (vp_in_nI hi (by decide)) d (by rw [nI_clamp (by omega)]; exact k)
theorem ms_OF (X : CallFix p m c cc nL s args wsA R_Mod) (hK : va_K D mCl (tyM ca) s) (hP : va_P D mCl (wM ca a z F K V P B S C N HK HV OF OK OV) H) (hD : va_D A (wM ca a z F K V P B S C N HK HV OF OK OV)) (hS : va_S A H0 H locs) {i : Nat} {x : Bool} (hi : i < 128) (d : decode cc pc = .ok (.bastore, 1)) (k : ∀ (H1 : Heap) (locs1 : List Loc), va_P D mCl (wM ca a z F K V P B S C N HK HV (va_up OF i x) OK OV) H1 → va_D A (wM ca a z F K V P B S C N HK HV (va_up OF i x) OK OV) → va_S A H0 H1 locs1 → W p l e R s m args below meth c H1 locs1 cells slots Q (F0 m (pc + 1) ls rest)) : W p l e R s m args below meth c H locs cells slots Q (F0 m pc ls (.int (bI x) :: .int (nI i) :: .ref (a 10) :: rest)) :=
  va_zast X.1 X.2.1 hK hP hD hS 10 9 rfl rfl (vp_in_nI hi (by decide)) d (by rw [nI_clamp (by omega), bI_nar, bI_upd]; exact k)
theorem ml_OK (X : CallFix p m c cc nL s args wsA R_Mod) (hK : va_K D mCl (tyM ca) s) (hP : va_P D mCl (wM ca a z F K V P B S C N HK HV OF OK OV) H) {i : Nat} (hi : i < 128) (d : decode cc pc = .ok (.iaload, 1)) (k : W p l e R s m args below meth c H locs cells slots Q (F0 m (pc + 1) ls (.int (OK i) :: rest))) : W p l e R s m args below meth c H locs cells slots Q (F0 m pc ls (.int (nI i) :: .ref (a 11) :: rest)) :=
  va_iald X.1 X.2.1 hK hP 11 10 rfl rfl (vp_in_nI hi (by decide)) d (by rw [nI_clamp (by omega)]; exact k)
theorem ms_OK (X : CallFix p m c cc nL s args wsA R_Mod) (hK : va_K D mCl (tyM ca) s) (hP : va_P D mCl (wM ca a z F K V P B S C N HK HV OF OK OV) H) (hD : va_D A (wM ca a z F K V P B S C N HK HV OF OK OV)) (hS : va_S A H0 H locs) {i : Nat} {x : Int32} (hi : i < 128) (d : decode cc pc = .ok (.iastore, 1)) (k : ∀ (H1 : Heap) (locs1 : List Loc), va_P D mCl (wM ca a z F K V P B S C N HK HV OF (upd OK i x) OV) H1 → va_D A (wM ca a z F K V P B S C N HK HV OF (upd OK i x) OV) → va_S A H0 H1 locs1 → W p l e R s m args below meth c H1 locs1 cells slots Q (F0 m (pc + 1) ls rest)) : W p l e R s m args below meth c H locs cells slots Q (F0 m pc ls (.int x :: .int (nI i) :: .ref (a 11) :: rest)) :=
  va_iast X.1 X.2.1 hK hP hD hS 11 10 rfl rfl (vp_in_nI hi (by decide)) d (by rw [nI_clamp (by omega)]; exact k)
theorem ml_OV (X : CallFix p m c cc nL s args wsA R_Mod) (hK : va_K D mCl (tyM ca) s) (hP : va_P D mCl (wM ca a z F K V P B S C N HK HV OF OK OV) H) {i : Nat} (hi : i < 128) (d : decode cc pc = .ok (.iaload, 1)) (k : W p l e R s m args below meth c H locs cells slots Q (F0 m (pc + 1) ls (.int (OV i) :: rest))) : W p l e R s m args below meth c H locs cells slots Q (F0 m pc ls (.int (nI i) :: .ref (a 12) :: rest)) :=
  va_iald X.1 X.2.1 hK hP 12 11 rfl rfl (vp_in_nI hi (by decide)) d (by rw [nI_clamp (by omega)]; exact k)
theorem ms_OV (X : CallFix p m c cc nL s args wsA R_Mod) (hK : va_K D mCl (tyM ca) s) (hP : va_P D mCl (wM ca a z F K V P B S C N HK HV OF OK OV) H) (hD : va_D A (wM ca a z F K V P B S C N HK HV OF OK OV)) (hS : va_S A H0 H locs) {i : Nat} {x : Int32} (hi : i < 128) (d : decode cc pc = .ok (.iastore, 1)) (k : ∀ (H1 : Heap) (locs1 : List Loc), va_P D mCl (wM ca a z F K V P B S C N HK HV OF OK (upd OV i x)) H1 → va_D A (wM ca a z F K V P B S C N HK HV OF OK (upd OV i x)) → va_S A H0 H1 locs1 → W p l e R s m args below meth c H1 locs1 cells slots Q (F0 m (pc + 1) ls rest)) : W p l e R s m args below meth c H locs cells slots Q (F0 m pc ls (.int x :: .int (nI i) :: .ref (a 12) :: rest)) :=
  va_iast X.1 X.2.1 hK hP hD hS 12 11 rfl rfl (vp_in_nI hi (by decide)) d (by rw [nI_clamp (by omega)]; exact k)
theorem mp_code (X : CallFix p m c cc nL s args wsA R_Mod) (hK : va_K D mCl (tyM ca) s) (hP : va_P D mCl (wM ca a z F K V P B S C N HK HV OF OK OV) H) (hD : va_D A (wM ca a z F K V P B S C N HK HV OF OK OV)) (hS : va_S A H0 H locs) {x : Int32} (d : decode cc pc = .ok (.putfield 47, 3)) (k : ∀ (H1 : Heap) (locs1 : List Loc), va_P D mCl (wM ca a x F K V P B S C N HK HV OF OK OV) H1 → va_D A (wM ca a x F K V P B S C N HK HV OF OK OV) → va_S A H0 H1 locs1 → W p l e R s m args below meth c H1 locs1 cells slots Q (F0 m (pc + 3) ls rest)) : W p l e R s m args below meth c H locs cells slots Q (F0 m pc ls (.int (x) :: .ref (a 0) :: rest)) :=
  va_put (D := D) (ci := 2) (v := .int (x)) (ty := .int) (C := R_Mod) (T := F_Mod) (N := 14) X.1 X.2.1 X.2.2.2.2 hin_Mod t_Mod t_Mod_ok n_Mod X.2.2.2.1 hK hP hD hS 0 rfl rfl 0 (by decide) (X.2.2.2.2 (.fieldLink R_Mod 47 "HopArenaModel" "code" "I") m_422) (fun _ h9 => h9) rfl (by decide +kernel) rfl rfl (Nat.le_of_ble_eq_true rfl) d k
theorem mp_held (X : CallFix p m c cc nL s args wsA R_Mod) (hK : va_K D mCl (tyM ca) s) (hP : va_P D mCl (wM ca a z F K V P B S C N HK HV OF OK OV) H) (hD : va_D A (wM ca a z F K V P B S C N HK HV OF OK OV)) (hS : va_S A H0 H locs) {x : Nat} (d : decode cc pc = .ok (.putfield 71, 3)) (k : ∀ (H1 : Heap) (locs1 : List Loc), va_P D mCl (wM ca a z F K V P B S C x HK HV OF OK OV) H1 → va_D A (wM ca a z F K V P B S C x HK HV OF OK OV) → va_S A H0 H1 locs1 → W p l e R s m args below meth c H1 locs1 cells slots Q (F0 m (pc + 3) ls rest)) : W p l e R s m args below meth c H locs cells slots Q (F0 m pc ls (.int (nI x) :: .ref (a 0) :: rest)) :=
  va_put (D := D) (ci := 2) (v := .int (nI x)) (ty := .int) (C := R_Mod) (T := F_Mod) (N := 14) X.1 X.2.1 X.2.2.2.2 hin_Mod t_Mod t_Mod_ok n_Mod X.2.2.2.1 hK hP hD hS 0 rfl rfl 8 (by decide) (X.2.2.2.2 (.fieldLink R_Mod 71 "HopArenaModel" "held" "I") m_430) (fun _ h9 => h9) rfl (by decide +kernel) rfl rfl (Nat.le_of_ble_eq_true rfl) d k
theorem hr_S {y : MethodName} {bytes : ByteArray} {maxL n index : Nat} {ret : Option FieldType} {wy : List Cond} {rm : Room} {Ts : List Cond} {own : String} {As : List Value} {cl : List vw_C} {wc : va_W} {tc : List (ClassId × FieldType)} {v : Option Value} (S9 : CallFix p m c cc nL s args Ts own) (hM : Met l y wy rm (va_Pc As (hb_R D cl wc tc)) (hq_R v) 0 0 hq_no) (cw : CallB R s args own index y bytes maxL ret wy rm 0 0 n ∧ (Cond.static y).before args s = true) (hP : va_P D cl wc H) (hK : va_K D cl tc s)
    (hn : As.length = n) (hsz : ls.size = nL) (hst : st0 = As.reverse ++ rest) (hrm : (rest.map fun v => v.category).sum ≤ 8) (hf : cells ≤ R.cells ∧ slots ≤ R.slots) (d : decode cc pc = .ok (.invokestatic index, 3)) (kk : W p l e R s m args below meth c H locs cells slots Q (F0 m (pc + 3) ls (v.toList ++ rest))) : W p l e R s m args below meth c H locs cells slots Q (F0 m pc ls st0) :=
  hr_call (va_runS (As := As) (rest := rest) S9 hM cw ⟨hb_blind, fun U hU hW => ⟨rfl, by rw [hU]; exact hP, va_K.moved hW.alike hK⟩⟩ rfl hn hsz hst (lv_room hrm) d hf) kk
end MWA
end
section
set_option maxHeartbeats 4000000 in
set_option maxRecDepth 100000 in
/-- within -/
theorem c_Mod_within (l : Launch) (D : va_G) (x lo hi : Int32) : Met l y_Mod_within w_Mod_within (rmD 0 0 0) (va_Pc [.int x, .int lo, .int hi] (hb_R D mCl [] [])) (hq_R (some (.int (bI (decide (lo ≤ x ∧ x ≤ hi)))))) 0 0 hq_no := by
  refine Met.ofW (cc := b_Mod_within) (maxL := 3) (ret := some .boolean) (by decide) rfl ?_
  intro p e s m0 args below meth c0 s₁ B0 hml hv
  obtain ⟨rfl, hP, hK⟩ := hv
  have hx := B0.exec
  have hb := B0.bytes
  have hr := B0.returns
  have hts := atoms_spec (ws := w_Mod_within) B0.pre
  have hown : s.vm.findClass R_Mod = some m0.cls := findClass_of_methodNamed B0.named
  have hlocks := B0.notSynchronized
  have hwA : ∀ w ∈ wsA, w.before ([.int x, .int lo, .int hi] : List Value).toArray s = true := fun w h => hts w (List.mem_cons_of_mem _ h)
  have X : CallFix p m0 c0 b_Mod_within 3 s ([.int x, .int lo, .int hi] : List Value).toArray wsA R_Mod := ⟨hx, hb, hml, hown, hwA⟩
  have hl := lv_entry ([.int x, .int lo, .int hi]) (n := 3) (Nat.le_of_ble_eq_true rfl)
  rw [lg_entry_eq]
  generalize (lg_sl ([.int x, .int lo, .int hi]) ++ List.replicate (3 - (lg_sl ([.int x, .int lo, .int hi])).length) Slot.unset).toArray = ls at hl ⊢
  have hl : lv_has ls 3 [(0, .int x), (1, .int lo), (2, .int hi)] := hl
  refine lv_iload_n hx hb d_Mod_within_0 rfl (lv_at hl 0 rfl) ?_
  refine lv_iload_n hx hb d_Mod_within_1 rfl (lv_at hl 1 rfl) ?_
  refine lv_icmp_lt (tgt := 14) hx hb d_Mod_within_2 (by decide) (fun h1 => ?_) (fun h1 => ?_)
  · refine lv_iconst (v := 0) hx hb d_Mod_within_14 (by decide) ?_
    exact W.zret (v := 0) hx hb hr rfl (fun t ht hW => ⟨by rw [decide_eq_false (fun z => absurd h1 (Int32.not_lt.mpr z.1))]; rfl, ht⟩) hq_nl d_Mod_within_15
  · refine lv_iload_n hx hb d_Mod_within_5 rfl (lv_at hl 0 rfl) ?_
    refine lv_iload_n hx hb d_Mod_within_6 rfl (lv_at hl 2 rfl) ?_
    refine lv_icmp_gt (tgt := 14) hx hb d_Mod_within_7 (by decide) (fun h2 => ?_) (fun h2 => ?_)
    · refine lv_iconst (v := 0) hx hb d_Mod_within_14 (by decide) ?_
      exact W.zret (v := 0) hx hb hr rfl (fun t ht hW => ⟨by rw [decide_eq_false (fun z => absurd h2 (Int32.not_lt.mpr z.2))]; rfl, ht⟩) hq_nl d_Mod_within_15
    · refine lv_iconst (v := 1) hx hb d_Mod_within_10 (by decide) ?_
      refine lv_goto (tgt := 15) hx hb d_Mod_within_11 (by decide) ?_
      exact W.zret (v := 1) hx hb hr rfl (fun t ht hW => ⟨by rw [decide_eq_true ⟨Int32.not_lt.mp h1, Int32.not_lt.mp h2⟩]; rfl, ht⟩) hq_nl d_Mod_within_15
set_option maxHeartbeats 4000000 in
set_option maxRecDepth 100000 in
/-- thrown -/
theorem c_Mod_thrown (l : Launch) (D : va_G) (ca a : Nat → Nat) (z : Int32) (F : BT) (K V : IT) (P B : Nat → Nat) (S C : IT) (N : Nat) (HK HV : IT) (OF : BT) (OK OV : IT)  : Met l y_Mod_thrown w_Mod_thrown (rmD 0 0 0) (va_Pc [.ref (a 0)] (hb_R D mCl (wM ca a z F K V P B S C N HK HV OF OK OV) (tyM ca))) (hq_R (some (.int z))) 0 0 hq_no := by
  refine Met.ofW (cc := b_Mod_thrown) (maxL := 1) (ret := some .int) (by decide) rfl ?_
  intro p e s m0 args below meth c0 s₁ B0 hml hv
  obtain ⟨rfl, hP, hK⟩ := hv
  have hx := B0.exec
  have hb := B0.bytes
  have hr := B0.returns
  have hts := atoms_spec (ws := w_Mod_thrown) B0.pre
  have hown : s.vm.findClass R_Mod = some m0.cls := findClass_of_methodNamed B0.named
  have hlocks := B0.notSynchronized
  have hwA : ∀ w ∈ wsA, w.before ([.ref (a 0)] : List Value).toArray s = true := fun w h => hts w (List.mem_cons_of_mem _ h)
  have X : CallFix p m0 c0 b_Mod_thrown 1 s ([.ref (a 0)] : List Value).toArray wsA R_Mod := ⟨hx, hb, hml, hown, hwA⟩
  have hl := lv_entry ([.ref (a 0)]) (n := 1) (Nat.le_of_ble_eq_true rfl)
  rw [lg_entry_eq]
  generalize (lg_sl ([.ref (a 0)]) ++ List.replicate (1 - (lg_sl ([.ref (a 0)])).length) Slot.unset).toArray = ls at hl ⊢
  have hl : lv_has ls 1 [(0, .ref (a 0))] := hl
  refine lv_aload_n hx hb d_Mod_thrown_0 rfl (lv_at hl 0 rfl) ?_
  refine mg_code X hK hP d_Mod_thrown_1 ?_
  exact W.iret (v := z) hx hb hr (fun t ht hW => ⟨rfl, ht⟩) hq_nl d_Mod_thrown_4
set_option maxHeartbeats 4000000 in
set_option maxRecDepth 100000 in
/-- homeOf -/
theorem c_Mod_homeOf (l : Launch) (D : va_G) (ca a : Nat → Nat) (z : Int32) (F : BT) (K V : IT) (P B : Nat → Nat) (S C : IT) (N : Nat) (HK HV : IT) (OF : BT) (OK OV : IT) (m : Nat) (hm : m < 3) (key : Int32) (hc : pw (P m)) : Met l y_Mod_homeOf w_Mod_homeOf (rmD 0 0 0) (va_Pc [.ref (a 0), .int (nI m), .int key] (hb_R D mCl (wM ca a z F K V P B S C N HK HV OF OK OV) (tyM ca))) (hq_R (some (.int (nI (hom key (S m) (P m)))))) 0 0 hq_no := by
  refine Met.ofW (cc := b_Mod_homeOf) (maxL := 3) (ret := some .int) (by decide) rfl ?_
  intro p e s m0 args below meth c0 s₁ B0 hml hv
  obtain ⟨rfl, hP, hK⟩ := hv
  have hx := B0.exec
  have hb := B0.bytes
  have hr := B0.returns
  have hts := atoms_spec (ws := w_Mod_homeOf) B0.pre
  have hown : s.vm.findClass R_Mod = some m0.cls := findClass_of_methodNamed B0.named
  have hlocks := B0.notSynchronized
  have hwA : ∀ w ∈ wsA, w.before ([.ref (a 0), .int (nI m), .int key] : List Value).toArray s = true := fun w h => hts w (List.mem_cons_of_mem _ h)
  have X : CallFix p m0 c0 b_Mod_homeOf 3 s ([.ref (a 0), .int (nI m), .int key] : List Value).toArray wsA R_Mod := ⟨hx, hb, hml, hown, hwA⟩
  have hl := lv_entry ([.ref (a 0), .int (nI m), .int key]) (n := 3) (Nat.le_of_ble_eq_true rfl)
  rw [lg_entry_eq]
  generalize (lg_sl ([.ref (a 0), .int (nI m), .int key]) ++ List.replicate (3 - (lg_sl ([.ref (a 0), .int (nI m), .int key])).length) Slot.unset).toArray = ls at hl ⊢
  have hl : lv_has ls 3 [(0, .ref (a 0)), (1, .int (nI m)), (2, .int key)] := hl
  refine lv_iload_n hx hb d_Mod_homeOf_0 rfl (lv_at hl 2 rfl) ?_
  refine lv_aload_n hx hb d_Mod_homeOf_1 rfl (lv_at hl 0 rfl) ?_
  refine mg_seed X hK hP d_Mod_homeOf_2 ?_
  refine lv_iload_n hx hb d_Mod_homeOf_5 rfl (lv_at hl 1 rfl) ?_
  refine ml_S X hK hP (i := m) (by omega) d_Mod_homeOf_6 ?_
  refine lv_ixor hx hb d_Mod_homeOf_7 ?_
  refine lv_ldc (v := -1640531535) hx hb hown (hwA (.constant R_Mod 55 (-1640531535)) m_492) d_Mod_homeOf_8 ?_
  refine lv_imul hx hb d_Mod_homeOf_10 ?_
  refine lv_bipush (v := 9) hx hb d_Mod_homeOf_11 (by decide) ?_
  refine lv_iushr (v := (((((key) ^^^ (S m)) * (-1640531535)) : Int32).toUInt32 >>> (((9) : Int32).toUInt32 &&& Int32.toUInt32 31)).toInt32) hx hb d_Mod_homeOf_13 rfl ?_
  refine lv_aload_n hx hb d_Mod_homeOf_14 rfl (lv_at hl 0 rfl) ?_
  refine mg_capacity X hK hP d_Mod_homeOf_15 ?_
  refine lv_iload_n hx hb d_Mod_homeOf_18 rfl (lv_at hl 1 rfl) ?_
  refine ml_P X hK hP (i := m) (by omega) d_Mod_homeOf_19 ?_
  refine lv_iconst (v := 1) hx hb d_Mod_homeOf_20 (by decide) ?_
  refine lv_isub hx hb d_Mod_homeOf_21 ?_
  refine lv_iand hx hb d_Mod_homeOf_22 ?_
  refine lv_tope (y := nI (hom key (S m) (P m))) (hom_eq hc key (S m)) ?_
  exact W.iret (v := nI (hom key (S m) (P m))) hx hb hr (fun t ht hW => ⟨rfl, ht⟩) hq_nl d_Mod_homeOf_23
set_option maxHeartbeats 4000000 in
set_option maxRecDepth 100000 in
/-- behind -/
theorem c_Mod_behind (l : Launch) (D : va_G) (ca a : Nat → Nat) (z : Int32) (F : BT) (K V : IT) (P B : Nat → Nat) (S C : IT) (N : Nat) (HK HV : IT) (OF : BT) (OK OV : IT) (m : Nat) (hm : m < 3) (x i : Nat) (hc : pw (P m)) (hx9 : x + i < 2 ^ 31) : Met l y_Mod_behind w_Mod_behind (rmD 0 0 0) (va_Pc [.ref (a 0), .int (nI m), .int (nI x), .int (nI i)] (hb_R D mCl (wM ca a z F K V P B S C N HK HV OF OK OV) (tyM ca))) (hq_R (some (.int (nI ((x + i) % P m))))) 0 0 hq_no := by
  refine Met.ofW (cc := b_Mod_behind) (maxL := 4) (ret := some .int) (by decide) rfl ?_
  intro p e s m0 args below meth c0 s₁ B0 hml hv
  obtain ⟨rfl, hP, hK⟩ := hv
  have hx := B0.exec
  have hb := B0.bytes
  have hr := B0.returns
  have hts := atoms_spec (ws := w_Mod_behind) B0.pre
  have hown : s.vm.findClass R_Mod = some m0.cls := findClass_of_methodNamed B0.named
  have hlocks := B0.notSynchronized
  have hwA : ∀ w ∈ wsA, w.before ([.ref (a 0), .int (nI m), .int (nI x), .int (nI i)] : List Value).toArray s = true := fun w h => hts w (List.mem_cons_of_mem _ h)
  have X : CallFix p m0 c0 b_Mod_behind 4 s ([.ref (a 0), .int (nI m), .int (nI x), .int (nI i)] : List Value).toArray wsA R_Mod := ⟨hx, hb, hml, hown, hwA⟩
  have hl := lv_entry ([.ref (a 0), .int (nI m), .int (nI x), .int (nI i)]) (n := 4) (Nat.le_of_ble_eq_true rfl)
  rw [lg_entry_eq]
  generalize (lg_sl ([.ref (a 0), .int (nI m), .int (nI x), .int (nI i)]) ++ List.replicate (4 - (lg_sl ([.ref (a 0), .int (nI m), .int (nI x), .int (nI i)])).length) Slot.unset).toArray = ls at hl ⊢
  have hl : lv_has ls 4 [(0, .ref (a 0)), (1, .int (nI m)), (2, .int (nI x)), (3, .int (nI i))] := hl
  refine lv_iload_n hx hb d_Mod_behind_0 rfl (lv_at hl 2 rfl) ?_
  refine lv_iload_n hx hb d_Mod_behind_1 rfl (lv_at hl 3 rfl) ?_
  refine lv_iadd hx hb d_Mod_behind_2 ?_
  refine lv_tope (y := nI (x + i)) (nI_add (x) (i)) ?_
  refine lv_aload_n hx hb d_Mod_behind_3 rfl (lv_at hl 0 rfl) ?_
  refine mg_capacity X hK hP d_Mod_behind_4 ?_
  refine lv_iload_n hx hb d_Mod_behind_7 rfl (lv_at hl 1 rfl) ?_
  refine ml_P X hK hP (i := m) (by omega) d_Mod_behind_8 ?_
  refine lv_iconst (v := 1) hx hb d_Mod_behind_9 (by decide) ?_
  refine lv_isub hx hb d_Mod_behind_10 ?_
  refine lv_iand hx hb d_Mod_behind_11 ?_
  refine lv_tope (y := nI ((x + i) % P m)) (pw_andN hc (by omega)) ?_
  exact W.iret (v := nI ((x + i) % P m)) hx hb hr (fun t ht hW => ⟨rfl, ht⟩) hq_nl d_Mod_behind_12
set_option maxHeartbeats 4000000 in
set_option maxRecDepth 100000 in
/-- behind -/
theorem c_Mod_behind_n (l : Launch) (D : va_G) (ca a : Nat → Nat) (z : Int32) (F : BT) (K V : IT) (P B : Nat → Nat) (S C : IT) (N : Nat) (HK HV : IT) (OF : BT) (OK OV : IT) (m : Nat) (hm : m < 3) (f d0 : Nat) (hc : pw (P m)) (hf9 : f < 2 ^ 30) (hd9 : d0 ≤ P m) : Met l y_Mod_behind w_Mod_behind (rmD 0 0 0) (va_Pc [.ref (a 0), .int (nI m), .int (nI f), .int (-(nI d0))] (hb_R D mCl (wM ca a z F K V P B S C N HK HV OF OK OV) (tyM ca))) (hq_R (some (.int (nI ((f + P m - d0) % P m))))) 0 0 hq_no := by
  refine Met.ofW (cc := b_Mod_behind) (maxL := 4) (ret := some .int) (by decide) rfl ?_
  intro p e s m0 args below meth c0 s₁ B0 hml hv
  obtain ⟨rfl, hP, hK⟩ := hv
  have hx := B0.exec
  have hb := B0.bytes
  have hr := B0.returns
  have hts := atoms_spec (ws := w_Mod_behind) B0.pre
  have hown : s.vm.findClass R_Mod = some m0.cls := findClass_of_methodNamed B0.named
  have hlocks := B0.notSynchronized
  have hwA : ∀ w ∈ wsA, w.before ([.ref (a 0), .int (nI m), .int (nI f), .int (-(nI d0))] : List Value).toArray s = true := fun w h => hts w (List.mem_cons_of_mem _ h)
  have X : CallFix p m0 c0 b_Mod_behind 4 s ([.ref (a 0), .int (nI m), .int (nI f), .int (-(nI d0))] : List Value).toArray wsA R_Mod := ⟨hx, hb, hml, hown, hwA⟩
  have hl := lv_entry ([.ref (a 0), .int (nI m), .int (nI f), .int (-(nI d0))]) (n := 4) (Nat.le_of_ble_eq_true rfl)
  rw [lg_entry_eq]
  generalize (lg_sl ([.ref (a 0), .int (nI m), .int (nI f), .int (-(nI d0))]) ++ List.replicate (4 - (lg_sl ([.ref (a 0), .int (nI m), .int (nI f), .int (-(nI d0))])).length) Slot.unset).toArray = ls at hl ⊢
  have hl : lv_has ls 4 [(0, .ref (a 0)), (1, .int (nI m)), (2, .int (nI f)), (3, .int (-(nI d0)))] := hl
  refine lv_iload_n hx hb d_Mod_behind_0 rfl (lv_at hl 2 rfl) ?_
  refine lv_iload_n hx hb d_Mod_behind_1 rfl (lv_at hl 3 rfl) ?_
  refine lv_iadd hx hb d_Mod_behind_2 ?_
  refine lv_aload_n hx hb d_Mod_behind_3 rfl (lv_at hl 0 rfl) ?_
  refine mg_capacity X hK hP d_Mod_behind_4 ?_
  refine lv_iload_n hx hb d_Mod_behind_7 rfl (lv_at hl 1 rfl) ?_
  refine ml_P X hK hP (i := m) (by omega) d_Mod_behind_8 ?_
  refine lv_iconst (v := 1) hx hb d_Mod_behind_9 (by decide) ?_
  refine lv_isub hx hb d_Mod_behind_10 ?_
  refine lv_iand hx hb d_Mod_behind_11 ?_
  refine lv_tope (y := nI ((f + P m - d0) % P m)) (by rw [nI_neg]; exact pw_subN hc hf9 hd9) ?_
  exact W.iret (v := nI ((f + P m - d0) % P m)) hx hb hr (fun t ht hW => ⟨rfl, ht⟩) hq_nl d_Mod_behind_12
set_option maxHeartbeats 4000000 in
set_option maxRecDepth 100000 in
/-- placeOf -/
theorem c_Mod_placeOf (l : Launch) (D : va_G) (ca a : Nat → Nat) (z : Int32) (F : BT) (K V : IT) (P B : Nat → Nat) (S C : IT) (N : Nat) (HK HV : IT) (OF : BT) (OK OV : IT) (m : Nat) (hm : m < 3) (key : Int32) (hp9 : P m ≤ 128) : Met l y_Mod_placeOf w_Mod_placeOf (rmD 0 0 0) (va_Pc [.ref (a 0), .int (nI m), .int key] (hb_R D mCl (wM ca a z F K V P B S C N HK HV OF OK OV) (tyM ca))) (hq_R (some (.int (oI (plF F K (128 * m) key (P m)))))) 0 0 hq_no := by
  refine Met.ofW (cc := b_Mod_placeOf) (maxL := 5) (ret := some .int) (by decide) rfl ?_
  intro p e s m0 args below meth c0 s₁ B0 hml hv
  obtain ⟨rfl, hP, hK⟩ := hv
  have hx := B0.exec
  have hb := B0.bytes
  have hr := B0.returns
  have hts := atoms_spec (ws := w_Mod_placeOf) B0.pre
  have hown : s.vm.findClass R_Mod = some m0.cls := findClass_of_methodNamed B0.named
  have hlocks := B0.notSynchronized
  have hwA : ∀ w ∈ wsA, w.before ([.ref (a 0), .int (nI m), .int key] : List Value).toArray s = true := fun w h => hts w (List.mem_cons_of_mem _ h)
  have X : CallFix p m0 c0 b_Mod_placeOf 5 s ([.ref (a 0), .int (nI m), .int key] : List Value).toArray wsA R_Mod := ⟨hx, hb, hml, hown, hwA⟩
  have hl := lv_entry ([.ref (a 0), .int (nI m), .int key]) (n := 5) (Nat.le_of_ble_eq_true rfl)
  rw [lg_entry_eq]
  generalize (lg_sl ([.ref (a 0), .int (nI m), .int key]) ++ List.replicate (5 - (lg_sl ([.ref (a 0), .int (nI m), .int key])).length) Slot.unset).toArray = ls at hl ⊢
  have hl : lv_has ls 5 [(0, .ref (a 0)), (1, .int (nI m)), (2, .int key)] := hl
  have loop : ∀ (n i : Nat) (ls : Array Slot), i + n = P m → lv_has ls 5 [(4, .int (nI i)), (3, .int (oI (plF F K (128 * m) key i))), (0, .ref (a 0)), (1, .int (nI m)), (2, .int key)] → W p l e (headSpec w_Mod_placeOf (rmD 0 0 0)).room s m0 ([.ref (a 0), .int (nI m), .int key] : List Value).toArray below meth c0 s.heap [] 0 0 (MQ below (hq_R (some (.int (oI (plF F K (128 * m) key (P m)))))) ([.ref (a 0), .int (nI m), .int key] : List Value).toArray s 0 0 hq_no) (F0 m0 5 ls []) := by
    intro n
    induction n with
    | zero =>
      intro i ls hi hl
      have hiP : i = P m := by omega
      refine lv_iload hx hb d_Mod_placeOf_5 (lv_at hl 0 rfl) ?_
      refine lv_aload_n hx hb d_Mod_placeOf_7 rfl (lv_at hl 2 rfl) ?_
      refine mg_capacity X hK hP d_Mod_placeOf_8 ?_
      refine lv_iload_n hx hb d_Mod_placeOf_11 rfl (lv_at hl 3 rfl) ?_
      refine ml_P X hK hP (i := m) (by omega) d_Mod_placeOf_12 ?_
      refine lvT_icmp_ge (tgt := 62) hx hb d_Mod_placeOf_13 (by decide) (nI_le (a := P m) (b := i) (by omega) (by omega)) ?_
      refine lv_iload_n hx hb d_Mod_placeOf_62 rfl (lv_at hl 1 rfl) ?_
      exact W.iret (v := oI (plF F K (128 * m) key i)) hx hb hr (fun t ht hW => ⟨by rw [hiP], ht⟩) hq_nl d_Mod_placeOf_63
    | succ n ih =>
      intro i ls hi hl
      refine lv_iload hx hb d_Mod_placeOf_5 (lv_at hl 0 rfl) ?_
      refine lv_aload_n hx hb d_Mod_placeOf_7 rfl (lv_at hl 2 rfl) ?_
      refine mg_capacity X hK hP d_Mod_placeOf_8 ?_
      refine lv_iload_n hx hb d_Mod_placeOf_11 rfl (lv_at hl 3 rfl) ?_
      refine ml_P X hK hP (i := m) (by omega) d_Mod_placeOf_12 ?_
      refine lvF_icmp_ge (tgt := 62) hx hb d_Mod_placeOf_13 (by decide) (nI_ge (a := i) (b := P m) (by omega) (by omega)) ?_
      refine lv_aload_n hx hb d_Mod_placeOf_16 rfl (lv_at hl 2 rfl) ?_
      refine mg_full X hK hP d_Mod_placeOf_17 ?_
      refine lv_sipush (v := 128) hx hb d_Mod_placeOf_20 (by decide) ?_
      refine lv_iload_n hx hb d_Mod_placeOf_23 rfl (lv_at hl 3 rfl) ?_
      refine lv_imul hx hb d_Mod_placeOf_24 ?_
      refine lv_tope (y := nI (128 * m)) (pk_mul (128) (m)) ?_
      refine lv_iload hx hb d_Mod_placeOf_25 (lv_at hl 0 rfl) ?_
      refine lv_iadd hx hb d_Mod_placeOf_27 ?_
      refine lv_tope (y := nI (128 * m + i)) (nI_add (128 * m) (i)) ?_
      refine ml_F X hK hP (i := 128 * m + i) (by omega) d_Mod_placeOf_28 ?_
      refine lv_if_eq (tgt := 54) hx hb d_Mod_placeOf_29 (by decide) (fun h1 => ?_) (fun h1 => ?_)
      · have e1 : plF F K (128 * m) key (i + 1) = plF F K (128 * m) key i := if_neg (fun z => by rw [bI_0.mp h1] at z; exact absurd z.1 (by decide))
        refine lv_iload_n hx hb d_Mod_placeOf_54 rfl (lv_at hl 1 rfl) ?_
        refine lv_istore_n (lv' := [(3, .int (oI (plF F K (128 * m) key i))), (4, .int (nI i)), (0, .ref (a 0)), (1, .int (nI m)), (2, .int key)]) hx hb d_Mod_placeOf_55 rfl hl (by decide) rfl (fun ls hl => ?_)
        refine lv_iinc (k := 1) (v := nI (i + 1)) (lv' := [(4, .int (nI (i + 1))), (3, .int (oI (plF F K (128 * m) key i))), (0, .ref (a 0)), (1, .int (nI m)), (2, .int key)]) hx hb d_Mod_placeOf_56 hl rfl (inc1 i) (by decide) rfl (fun ls hl => ?_)
        refine lv_goto (tgt := 5) hx hb d_Mod_placeOf_59 (by decide) ?_
        exact ih (i + 1) ls (by omega) (by rw [e1]; exact lv_sub hl [0, 1, 2, 3, 4] rfl)
      · refine lv_aload_n hx hb d_Mod_placeOf_32 rfl (lv_at hl 2 rfl) ?_
        refine mg_keys X hK hP d_Mod_placeOf_33 ?_
        refine lv_sipush (v := 128) hx hb d_Mod_placeOf_36 (by decide) ?_
        refine lv_iload_n hx hb d_Mod_placeOf_39 rfl (lv_at hl 3 rfl) ?_
        refine lv_imul hx hb d_Mod_placeOf_40 ?_
        refine lv_tope (y := nI (128 * m)) (pk_mul (128) (m)) ?_
        refine lv_iload hx hb d_Mod_placeOf_41 (lv_at hl 0 rfl) ?_
        refine lv_iadd hx hb d_Mod_placeOf_43 ?_
        refine lv_tope (y := nI (128 * m + i)) (nI_add (128 * m) (i)) ?_
        refine ml_K X hK hP (i := 128 * m + i) (by omega) d_Mod_placeOf_44 ?_
        refine lv_iload_n hx hb d_Mod_placeOf_45 rfl (lv_at hl 4 rfl) ?_
        refine lv_icmp_ne (tgt := 54) hx hb d_Mod_placeOf_46 (by decide) (fun h2 => ?_) (fun h2 => ?_)
        · have e1 : plF F K (128 * m) key (i + 1) = plF F K (128 * m) key i := if_neg (fun z => h2 z.2)
          refine lv_iload_n hx hb d_Mod_placeOf_54 rfl (lv_at hl 1 rfl) ?_
          refine lv_istore_n (lv' := [(3, .int (oI (plF F K (128 * m) key i))), (4, .int (nI i)), (0, .ref (a 0)), (1, .int (nI m)), (2, .int key)]) hx hb d_Mod_placeOf_55 rfl hl (by decide) rfl (fun ls hl => ?_)
          refine lv_iinc (k := 1) (v := nI (i + 1)) (lv' := [(4, .int (nI (i + 1))), (3, .int (oI (plF F K (128 * m) key i))), (0, .ref (a 0)), (1, .int (nI m)), (2, .int key)]) hx hb d_Mod_placeOf_56 hl rfl (inc1 i) (by decide) rfl (fun ls hl => ?_)
          refine lv_goto (tgt := 5) hx hb d_Mod_placeOf_59 (by decide) ?_
          exact ih (i + 1) ls (by omega) (by rw [e1]; exact lv_sub hl [0, 1, 2, 3, 4] rfl)
        · have e1 : plF F K (128 * m) key (i + 1) = some i := if_pos ⟨bI_n0.mp h1, h2⟩
          refine lv_iload hx hb d_Mod_placeOf_49 (lv_at hl 0 rfl) ?_
          refine lv_goto (tgt := 55) hx hb d_Mod_placeOf_51 (by decide) ?_
          refine lv_istore_n (lv' := [(3, .int (nI i)), (4, .int (nI i)), (0, .ref (a 0)), (1, .int (nI m)), (2, .int key)]) hx hb d_Mod_placeOf_55 rfl hl (by decide) rfl (fun ls hl => ?_)
          refine lv_iinc (k := 1) (v := nI (i + 1)) (lv' := [(4, .int (nI (i + 1))), (3, .int (nI i)), (0, .ref (a 0)), (1, .int (nI m)), (2, .int key)]) hx hb d_Mod_placeOf_56 hl rfl (inc1 i) (by decide) rfl (fun ls hl => ?_)
          refine lv_goto (tgt := 5) hx hb d_Mod_placeOf_59 (by decide) ?_
          exact ih (i + 1) ls (by omega) (by rw [e1]; exact lv_sub hl [0, 1, 2, 3, 4] rfl)
  refine lv_iconst (v := -1) hx hb d_Mod_placeOf_0 (by decide) ?_
  refine lv_istore_n (lv' := [(3, .int (-1)), (0, .ref (a 0)), (1, .int (nI m)), (2, .int key)]) hx hb d_Mod_placeOf_1 rfl hl (by decide) rfl (fun ls hl => ?_)
  refine lv_iconst (v := 0) hx hb d_Mod_placeOf_2 (by decide) ?_
  refine lv_istore (lv' := [(4, .int 0), (3, .int (-1)), (0, .ref (a 0)), (1, .int (nI m)), (2, .int key)]) hx hb d_Mod_placeOf_3 hl (by decide) rfl (fun ls hl => ?_)
  exact loop (P m) 0 ls (by omega) (lv_sub hl [0, 1, 2, 3, 4] rfl)
set_option maxHeartbeats 4000000 in
set_option maxRecDepth 100000 in
/-- sizeOf -/
theorem c_Mod_sizeOf (l : Launch) (D : va_G) (ca a : Nat → Nat) (z : Int32) (F : BT) (K V : IT) (P B : Nat → Nat) (S C : IT) (N : Nat) (HK HV : IT) (OF : BT) (OK OV : IT) (m : Nat) (hm : m < 3) (hp9 : P m ≤ 128) : Met l y_Mod_sizeOf w_Mod_sizeOf (rmD 0 0 0) (va_Pc [.ref (a 0), .int (nI m)] (hb_R D mCl (wM ca a z F K V P B S C N HK HV OF OK OV) (tyM ca))) (hq_R (some (.int (nI (cnt F (128 * m) (P m)))))) 0 0 hq_no := by
  refine Met.ofW (cc := b_Mod_sizeOf) (maxL := 4) (ret := some .int) (by decide) rfl ?_
  intro p e s m0 args below meth c0 s₁ B0 hml hv
  obtain ⟨rfl, hP, hK⟩ := hv
  have hx := B0.exec
  have hb := B0.bytes
  have hr := B0.returns
  have hts := atoms_spec (ws := w_Mod_sizeOf) B0.pre
  have hown : s.vm.findClass R_Mod = some m0.cls := findClass_of_methodNamed B0.named
  have hlocks := B0.notSynchronized
  have hwA : ∀ w ∈ wsA, w.before ([.ref (a 0), .int (nI m)] : List Value).toArray s = true := fun w h => hts w (List.mem_cons_of_mem _ h)
  have X : CallFix p m0 c0 b_Mod_sizeOf 4 s ([.ref (a 0), .int (nI m)] : List Value).toArray wsA R_Mod := ⟨hx, hb, hml, hown, hwA⟩
  have hl := lv_entry ([.ref (a 0), .int (nI m)]) (n := 4) (Nat.le_of_ble_eq_true rfl)
  rw [lg_entry_eq]
  generalize (lg_sl ([.ref (a 0), .int (nI m)]) ++ List.replicate (4 - (lg_sl ([.ref (a 0), .int (nI m)])).length) Slot.unset).toArray = ls at hl ⊢
  have hl : lv_has ls 4 [(0, .ref (a 0)), (1, .int (nI m))] := hl
  have loop : ∀ (n i : Nat) (ls : Array Slot), i + n = P m → lv_has ls 4 [(3, .int (nI i)), (2, .int (nI (cnt F (128 * m) i))), (0, .ref (a 0)), (1, .int (nI m))] → W p l e (headSpec w_Mod_sizeOf (rmD 0 0 0)).room s m0 ([.ref (a 0), .int (nI m)] : List Value).toArray below meth c0 s.heap [] 0 0 (MQ below (hq_R (some (.int (nI (cnt F (128 * m) (P m)))))) ([.ref (a 0), .int (nI m)] : List Value).toArray s 0 0 hq_no) (F0 m0 4 ls []) := by
    intro n
    induction n with
    | zero =>
      intro i ls hi hl
      have hiP : i = P m := by omega
      refine lv_iload_n hx hb d_Mod_sizeOf_4 rfl (lv_at hl 0 rfl) ?_
      refine lv_aload_n hx hb d_Mod_sizeOf_5 rfl (lv_at hl 2 rfl) ?_
      refine mg_capacity X hK hP d_Mod_sizeOf_6 ?_
      refine lv_iload_n hx hb d_Mod_sizeOf_9 rfl (lv_at hl 3 rfl) ?_
      refine ml_P X hK hP (i := m) (by omega) d_Mod_sizeOf_10 ?_
      refine lvT_icmp_ge (tgt := 43) hx hb d_Mod_sizeOf_11 (by decide) (nI_le (a := P m) (b := i) (by omega) (by omega)) ?_
      refine lv_iload_n hx hb d_Mod_sizeOf_43 rfl (lv_at hl 1 rfl) ?_
      exact W.iret (v := nI (cnt F (128 * m) i)) hx hb hr (fun t ht hW => ⟨by rw [hiP], ht⟩) hq_nl d_Mod_sizeOf_44
    | succ n ih =>
      intro i ls hi hl
      refine lv_iload_n hx hb d_Mod_sizeOf_4 rfl (lv_at hl 0 rfl) ?_
      refine lv_aload_n hx hb d_Mod_sizeOf_5 rfl (lv_at hl 2 rfl) ?_
      refine mg_capacity X hK hP d_Mod_sizeOf_6 ?_
      refine lv_iload_n hx hb d_Mod_sizeOf_9 rfl (lv_at hl 3 rfl) ?_
      refine ml_P X hK hP (i := m) (by omega) d_Mod_sizeOf_10 ?_
      refine lvF_icmp_ge (tgt := 43) hx hb d_Mod_sizeOf_11 (by decide) (nI_ge (a := i) (b := P m) (by omega) (by omega)) ?_
      refine lv_aload_n hx hb d_Mod_sizeOf_14 rfl (lv_at hl 2 rfl) ?_
      refine mg_full X hK hP d_Mod_sizeOf_15 ?_
      refine lv_sipush (v := 128) hx hb d_Mod_sizeOf_18 (by decide) ?_
      refine lv_iload_n hx hb d_Mod_sizeOf_21 rfl (lv_at hl 3 rfl) ?_
      refine lv_imul hx hb d_Mod_sizeOf_22 ?_
      refine lv_tope (y := nI (128 * m)) (pk_mul (128) (m)) ?_
      refine lv_iload_n hx hb d_Mod_sizeOf_23 rfl (lv_at hl 0 rfl) ?_
      refine lv_iadd hx hb d_Mod_sizeOf_24 ?_
      refine lv_tope (y := nI (128 * m + i)) (nI_add (128 * m) (i)) ?_
      refine ml_F X hK hP (i := 128 * m + i) (by omega) d_Mod_sizeOf_25 ?_
      refine lv_if_eq (tgt := 35) hx hb d_Mod_sizeOf_26 (by decide) (fun h1 => ?_) (fun h1 => ?_)
      · have e1 : cnt F (128 * m) (i + 1) = cnt F (128 * m) i := if_neg (by rw [bI_0.mp h1]; decide)
        refine lv_iload_n hx hb d_Mod_sizeOf_35 rfl (lv_at hl 1 rfl) ?_
        refine lv_istore_n (lv' := [(2, .int (nI (cnt F (128 * m) i))), (3, .int (nI i)), (0, .ref (a 0)), (1, .int (nI m))]) hx hb d_Mod_sizeOf_36 rfl hl (by decide) rfl (fun ls hl => ?_)
        refine lv_iinc (k := 1) (v := nI (i + 1)) (lv' := [(3, .int (nI (i + 1))), (2, .int (nI (cnt F (128 * m) i))), (0, .ref (a 0)), (1, .int (nI m))]) hx hb d_Mod_sizeOf_37 hl rfl (inc1 i) (by decide) rfl (fun ls hl => ?_)
        refine lv_goto (tgt := 4) hx hb d_Mod_sizeOf_40 (by decide) ?_
        exact ih (i + 1) ls (by omega) (by rw [e1]; exact lv_sub hl [0, 1, 2, 3] rfl)
      · have e1 : cnt F (128 * m) (i + 1) = cnt F (128 * m) i + 1 := if_pos (bI_n0.mp h1)
        refine lv_iload_n hx hb d_Mod_sizeOf_29 rfl (lv_at hl 1 rfl) ?_
        refine lv_iconst (v := 1) hx hb d_Mod_sizeOf_30 (by decide) ?_
        refine lv_iadd hx hb d_Mod_sizeOf_31 ?_
        refine lv_tope (y := nI (cnt F (128 * m) i + 1)) (nI_add (cnt F (128 * m) i) (1)) ?_
        refine lv_goto (tgt := 36) hx hb d_Mod_sizeOf_32 (by decide) ?_
        refine lv_istore_n (lv' := [(2, .int (nI (cnt F (128 * m) i + 1))), (3, .int (nI i)), (0, .ref (a 0)), (1, .int (nI m))]) hx hb d_Mod_sizeOf_36 rfl hl (by decide) rfl (fun ls hl => ?_)
        refine lv_iinc (k := 1) (v := nI (i + 1)) (lv' := [(3, .int (nI (i + 1))), (2, .int (nI (cnt F (128 * m) i + 1))), (0, .ref (a 0)), (1, .int (nI m))]) hx hb d_Mod_sizeOf_37 hl rfl (inc1 i) (by decide) rfl (fun ls hl => ?_)
        refine lv_goto (tgt := 4) hx hb d_Mod_sizeOf_40 (by decide) ?_
        exact ih (i + 1) ls (by omega) (by rw [e1]; exact lv_sub hl [0, 1, 2, 3] rfl)
  refine lv_iconst (v := 0) hx hb d_Mod_sizeOf_0 (by decide) ?_
  refine lv_istore_n (lv' := [(2, .int 0), (0, .ref (a 0)), (1, .int (nI m))]) hx hb d_Mod_sizeOf_1 rfl hl (by decide) rfl (fun ls hl => ?_)
  refine lv_iconst (v := 0) hx hb d_Mod_sizeOf_2 (by decide) ?_
  refine lv_istore_n (lv' := [(3, .int 0), (2, .int 0), (0, .ref (a 0)), (1, .int (nI m))]) hx hb d_Mod_sizeOf_3 rfl hl (by decide) rfl (fun ls hl => ?_)
  exact loop (P m) 0 ls (by omega) (lv_sub hl [0, 1, 2, 3] rfl)
section MKB
variable {p : Program} {l : Launch} {e : Env} {R : Room} {s : State} {m0 : MethodId} {args : Array Value} {below : List Frame} {meth : Method} {c : Code} {H : Heap} {locs : List Loc} {cells slots : Nat} {Q : State → Prop}
variable {cc : ByteArray} {pc nL : Nat} {ls : Array Slot} {rest st0 : List Value} {D : va_G} {A : Nat → Prop} {H0 : Heap} {tys : List (ClassId × FieldType)} {ca a : Nat → Nat} {z : Int32} {F : BT} {K V : IT} {P B : Nat → Nat} {S C : IT} {N : Nat} {HK HV : IT} {OF : BT} {OK OV : IT}
theorem km_homeOf (X : CallFix p m0 c cc nL s args wsA R_Mod) (hK : va_K D mCl (tyM ca) s) (hP : va_P D mCl (wM ca a z F K V P B S C N HK HV OF OK OV) H) (hsz : ls.size = nL) {m : Nat} {key : Int32} (hm : m < 3) (hc : pw (P m)) (hrm : (rest.map fun v => v.category).sum ≤ 8) (hf : cells ≤ R.cells ∧ slots ≤ R.slots) (hR : 1 ≤ R.frames ∧ 30 ≤ R.locals) (d : decode cc pc = .ok (.invokevirtual 56, 3)) (k : W p l e R s m0 args below meth c H locs cells slots Q (F0 m0 (pc + 3) ls (.int (nI (hom key (S m) (P m))) :: rest))) : W p l e R s m0 args below meth c H locs cells slots Q (F0 m0 pc ls (.int key :: .int (nI m) :: .ref (a 0) :: rest)) :=
  hr_V (As := [.int (nI m), .int key]) (v := some (.int (nI (hom key (S m) (P m))))) (C := R_Mod) X (c_Mod_homeOf l D ca a z F K V P B S C N HK HV OF OK OV m hm key hc) (cwV 2 X.2.2.2.2 g_Mod_homeOf rfl rfl rfl (by decide +kernel) ⟨by show 0 + 1 ≤ _; omega, by show 8 + (3 + 11) + 30 * 0 ≤ _; omega⟩) hP hK (va_recv (q0 := 0) (ci := 2) (q := (R_Mod, F_Mod, 14)) hK hP rfl rfl) rfl hsz rfl hrm hf d k
theorem km_behind (X : CallFix p m0 c cc nL s args wsA R_Mod) (hK : va_K D mCl (tyM ca) s) (hP : va_P D mCl (wM ca a z F K V P B S C N HK HV OF OK OV) H) (hsz : ls.size = nL) {m x i : Nat} (hm : m < 3) (hc : pw (P m)) (hx9 : x + i < 2 ^ 31) (hrm : (rest.map fun v => v.category).sum ≤ 8) (hf : cells ≤ R.cells ∧ slots ≤ R.slots) (hR : 1 ≤ R.frames ∧ 30 ≤ R.locals) (d : decode cc pc = .ok (.invokevirtual 60, 3)) (k : W p l e R s m0 args below meth c H locs cells slots Q (F0 m0 (pc + 3) ls (.int (nI ((x + i) % P m)) :: rest))) : W p l e R s m0 args below meth c H locs cells slots Q (F0 m0 pc ls (.int (nI i) :: .int (nI x) :: .int (nI m) :: .ref (a 0) :: rest)) :=
  hr_V (As := [.int (nI m), .int (nI x), .int (nI i)]) (v := some (.int (nI ((x + i) % P m)))) (C := R_Mod) X (c_Mod_behind l D ca a z F K V P B S C N HK HV OF OK OV m hm x i hc hx9) (cwV 3 X.2.2.2.2 g_Mod_behind rfl rfl rfl (by decide +kernel) ⟨by show 0 + 1 ≤ _; omega, by show 8 + (4 + 11) + 30 * 0 ≤ _; omega⟩) hP hK (va_recv (q0 := 0) (ci := 2) (q := (R_Mod, F_Mod, 14)) hK hP rfl rfl) rfl hsz rfl hrm hf d k
theorem km_behind_n (X : CallFix p m0 c cc nL s args wsA R_Mod) (hK : va_K D mCl (tyM ca) s) (hP : va_P D mCl (wM ca a z F K V P B S C N HK HV OF OK OV) H) (hsz : ls.size = nL) {m f d0 : Nat} (hm : m < 3) (hc : pw (P m)) (hf9 : f < 2 ^ 30) (hd9 : d0 ≤ P m) (hrm : (rest.map fun v => v.category).sum ≤ 8) (hf : cells ≤ R.cells ∧ slots ≤ R.slots) (hR : 1 ≤ R.frames ∧ 30 ≤ R.locals) (d : decode cc pc = .ok (.invokevirtual 60, 3)) (k : W p l e R s m0 args below meth c H locs cells slots Q (F0 m0 (pc + 3) ls (.int (nI ((f + P m - d0) % P m)) :: rest))) : W p l e R s m0 args below meth c H locs cells slots Q (F0 m0 pc ls (.int (-(nI d0)) :: .int (nI f) :: .int (nI m) :: .ref (a 0) :: rest)) :=
  hr_V (As := [.int (nI m), .int (nI f), .int (-(nI d0))]) (v := some (.int (nI ((f + P m - d0) % P m)))) (C := R_Mod) X (c_Mod_behind_n l D ca a z F K V P B S C N HK HV OF OK OV m hm f d0 hc hf9 hd9) (cwV 3 X.2.2.2.2 g_Mod_behind rfl rfl rfl (by decide +kernel) ⟨by show 0 + 1 ≤ _; omega, by show 8 + (4 + 11) + 30 * 0 ≤ _; omega⟩) hP hK (va_recv (q0 := 0) (ci := 2) (q := (R_Mod, F_Mod, 14)) hK hP rfl rfl) rfl hsz rfl hrm hf d k
theorem km_placeOf (X : CallFix p m0 c cc nL s args wsA R_Mod) (hK : va_K D mCl (tyM ca) s) (hP : va_P D mCl (wM ca a z F K V P B S C N HK HV OF OK OV) H) (hsz : ls.size = nL) {m : Nat} {key : Int32} (hm : m < 3) (hp9 : P m ≤ 128) (hrm : (rest.map fun v => v.category).sum ≤ 8) (hf : cells ≤ R.cells ∧ slots ≤ R.slots) (hR : 1 ≤ R.frames ∧ 30 ≤ R.locals) (d : decode cc pc = .ok (.invokevirtual 104, 3)) (k : W p l e R s m0 args below meth c H locs cells slots Q (F0 m0 (pc + 3) ls (.int (oI (plF F K (128 * m) key (P m))) :: rest))) : W p l e R s m0 args below meth c H locs cells slots Q (F0 m0 pc ls (.int key :: .int (nI m) :: .ref (a 0) :: rest)) :=
  hr_V (As := [.int (nI m), .int key]) (v := some (.int (oI (plF F K (128 * m) key (P m))))) (C := R_Mod) X (c_Mod_placeOf l D ca a z F K V P B S C N HK HV OF OK OV m hm key hp9) (cwV 2 X.2.2.2.2 g_Mod_placeOf rfl rfl rfl (by decide +kernel) ⟨by show 0 + 1 ≤ _; omega, by show 8 + (5 + 11) + 30 * 0 ≤ _; omega⟩) hP hK (va_recv (q0 := 0) (ci := 2) (q := (R_Mod, F_Mod, 14)) hK hP rfl rfl) rfl hsz rfl hrm hf d k
theorem km_sizeOf (X : CallFix p m0 c cc nL s args wsA R_Mod) (hK : va_K D mCl (tyM ca) s) (hP : va_P D mCl (wM ca a z F K V P B S C N HK HV OF OK OV) H) (hsz : ls.size = nL) {m : Nat} (hm : m < 3) (hp9 : P m ≤ 128) (hrm : (rest.map fun v => v.category).sum ≤ 8) (hf : cells ≤ R.cells ∧ slots ≤ R.slots) (hR : 1 ≤ R.frames ∧ 30 ≤ R.locals) (d : decode cc pc = .ok (.invokevirtual 116, 3)) (k : W p l e R s m0 args below meth c H locs cells slots Q (F0 m0 (pc + 3) ls (.int (nI (cnt F (128 * m) (P m))) :: rest))) : W p l e R s m0 args below meth c H locs cells slots Q (F0 m0 pc ls (.int (nI m) :: .ref (a 0) :: rest)) :=
  hr_V (As := [.int (nI m)]) (v := some (.int (nI (cnt F (128 * m) (P m))))) (C := R_Mod) X (c_Mod_sizeOf l D ca a z F K V P B S C N HK HV OF OK OV m hm hp9) (cwV 1 X.2.2.2.2 g_Mod_sizeOf rfl rfl rfl (by decide +kernel) ⟨by show 0 + 1 ≤ _; omega, by show 8 + (4 + 11) + 30 * 0 ≤ _; omega⟩) hP hK (va_recv (q0 := 0) (ci := 2) (q := (R_Mod, F_Mod, 14)) hK hP rfl rfl) rfl hsz rfl hrm hf d k
theorem km_within (X : CallFix p m0 c cc nL s args wsA R_Mod) (hK : va_K D mCl tys s) (hsz : ls.size = nL) {x lo hi : Int32} (hrm : (rest.map fun v => v.category).sum ≤ 8) (hf : cells ≤ R.cells ∧ slots ≤ R.slots) (hR : 1 ≤ R.frames ∧ 30 ≤ R.locals) (d : decode cc pc = .ok (.invokestatic 51, 3)) (k : W p l e R s m0 args below meth c H locs cells slots Q (F0 m0 (pc + 3) ls (.int (bI (decide (lo ≤ x ∧ x ≤ hi))) :: rest))) : W p l e R s m0 args below meth c H locs cells slots Q (F0 m0 pc ls (.int hi :: .int lo :: .int x :: rest)) :=
  hr_S (As := [.int x, .int lo, .int hi]) (v := some (.int (bI (decide (lo ≤ x ∧ x ≤ hi))))) X (c_Mod_within l D x lo hi) (cwS 3 X.2.2.2.2 g_Mod_within rfl rfl rfl (by decide +kernel) ⟨by show 0 + 1 ≤ _; omega, by show 8 + (3 + 11) + 30 * 0 ≤ _; omega⟩) (wc := []) (fun k q h => by cases h) (hK.sub [] rfl) rfl hsz rfl hrm hf d k
end MKB
end
