set_option maxHeartbeats 4000000 in
set_option maxRecDepth 100000 in
/-- around: a place, taken around -/
theorem c_Part_around (l : Launch) (D : va_G) (h b c : Nat) (sd : Int32) (x : Nat) (hc : pw c) (hx9 : x < 2 ^ 31) : Met l y_Part_around w_Part_around (rmD 0 0 0) (va_Pc [.ref h, .int (nI x)] (hb_R D hCl [(h, pt b c sd)] [])) (hq_R (some (.int (nI (x % c))))) 0 0 hq_no := by
  refine Met.ofW (cc := b_Part_around) (maxL := 2) (ret := some .int) (by decide) rfl ?_
  intro p e s m args below meth c0 s₁ B0 hml hv
  obtain ⟨rfl, hP, hK⟩ := hv
  have hx := B0.exec
  have hb := B0.bytes
  have hr := B0.returns
  have hts := atoms_spec (ws := w_Part_around) B0.pre
  have hown : s.vm.findClass R_Part = some m.cls := findClass_of_methodNamed B0.named
  have hlocks := B0.notSynchronized
  have hwA : ∀ w ∈ wsA, w.before ([.ref h, .int (nI x)] : List Value).toArray s = true := fun w h => hts w (List.mem_cons_of_mem _ h)
  have X : CallFix p m c0 b_Part_around 2 s ([.ref h, .int (nI x)] : List Value).toArray wsA R_Part := ⟨hx, hb, hml, hown, hwA⟩
  have hl := lv_entry ([.ref h, .int (nI x)]) (n := 2) (Nat.le_of_ble_eq_true rfl)
  rw [lg_entry_eq]
  generalize (lg_sl ([.ref h, .int (nI x)]) ++ List.replicate (2 - (lg_sl ([.ref h, .int (nI x)])).length) Slot.unset).toArray = ls at hl ⊢
  have hl : lv_has ls 2 [(0, .ref h), (1, .int (nI x))] := hl
  refine lv_iload_n hx hb d_Part_around_0 rfl (lv_at hl 1 rfl) ?_
  refine lv_aload_n hx hb d_Part_around_1 rfl (lv_at hl 0 rfl) ?_
  refine va_get (D := D) (ci := 1) (v := .int (nI c)) (C := R_Part) (T := F_Part) (N := 3) hx hb hwA hin_Part hown hK hP 0 rfl rfl 1 (by decide) (hwA (.fieldLink R_Part 13 "HopArena$Part" "capacity" "I") m_68) (fun _ h9 => h9) rfl d_Part_around_2 ?_
  refine lv_iconst (v := 1) hx hb d_Part_around_5 (by decide) ?_
  refine lv_isub hx hb d_Part_around_6 ?_
  refine lv_iand hx hb d_Part_around_7 ?_
  refine lv_tope (y := nI (x % c)) (pw_andN hc hx9) ?_
  exact W.iret (v := nI (x % c)) hx hb hr (fun t ht hW => ⟨rfl, ht⟩) hq_nl d_Part_around_8
set_option maxHeartbeats 4000000 in
set_option maxRecDepth 100000 in
/-- slotOf: the slot of a place -/
theorem c_Part_slotOf (l : Launch) (D : va_G) (h b c : Nat) (sd : Int32) (x : Nat) (hc : pw c) (hx9 : x < 2 ^ 31) : Met l y_Part_slotOf w_Part_slotOf (rmD 0 0 0) (va_Pc [.ref h, .int (nI x)] (hb_R D hCl [(h, pt b c sd)] [])) (hq_R (some (.int (nI (b + x % c))))) 0 0 hq_no := by
  refine Met.ofW (cc := b_Part_slotOf) (maxL := 2) (ret := some .int) (by decide) rfl ?_
  intro p e s m args below meth c0 s₁ B0 hml hv
  obtain ⟨rfl, hP, hK⟩ := hv
  have hx := B0.exec
  have hb := B0.bytes
  have hr := B0.returns
  have hts := atoms_spec (ws := w_Part_slotOf) B0.pre
  have hown : s.vm.findClass R_Part = some m.cls := findClass_of_methodNamed B0.named
  have hlocks := B0.notSynchronized
  have hwA : ∀ w ∈ wsA, w.before ([.ref h, .int (nI x)] : List Value).toArray s = true := fun w h => hts w (List.mem_cons_of_mem _ h)
  have X : CallFix p m c0 b_Part_slotOf 2 s ([.ref h, .int (nI x)] : List Value).toArray wsA R_Part := ⟨hx, hb, hml, hown, hwA⟩
  have hl := lv_entry ([.ref h, .int (nI x)]) (n := 2) (Nat.le_of_ble_eq_true rfl)
  rw [lg_entry_eq]
  generalize (lg_sl ([.ref h, .int (nI x)]) ++ List.replicate (2 - (lg_sl ([.ref h, .int (nI x)])).length) Slot.unset).toArray = ls at hl ⊢
  have hl : lv_has ls 2 [(0, .ref h), (1, .int (nI x))] := hl
  refine lv_aload_n hx hb d_Part_slotOf_0 rfl (lv_at hl 0 rfl) ?_
  refine va_get (D := D) (ci := 1) (v := .int (nI b)) (C := R_Part) (T := F_Part) (N := 3) hx hb hwA hin_Part hown hK hP 0 rfl rfl 0 (by decide) (hwA (.fieldLink R_Part 7 "HopArena$Part" "base" "I") m_66) (fun _ h9 => h9) rfl d_Part_slotOf_1 ?_
  refine lv_iload_n hx hb d_Part_slotOf_4 rfl (lv_at hl 1 rfl) ?_
  refine lv_aload_n hx hb d_Part_slotOf_5 rfl (lv_at hl 0 rfl) ?_
  refine va_get (D := D) (ci := 1) (v := .int (nI c)) (C := R_Part) (T := F_Part) (N := 3) hx hb hwA hin_Part hown hK hP 0 rfl rfl 1 (by decide) (hwA (.fieldLink R_Part 13 "HopArena$Part" "capacity" "I") m_68) (fun _ h9 => h9) rfl d_Part_slotOf_6 ?_
  refine lv_iconst (v := 1) hx hb d_Part_slotOf_9 (by decide) ?_
  refine lv_isub hx hb d_Part_slotOf_10 ?_
  refine lv_iand hx hb d_Part_slotOf_11 ?_
  refine lv_tope (y := nI (x % c)) (pw_andN hc hx9) ?_
  refine lv_iadd hx hb d_Part_slotOf_12 ?_
  refine lv_tope (y := nI (b + x % c)) (nI_add _ _) ?_
  exact W.iret (v := nI (b + x % c)) hx hb hr (fun t ht hW => ⟨rfl, ht⟩) hq_nl d_Part_slotOf_13
set_option maxHeartbeats 4000000 in
set_option maxRecDepth 100000 in
/-- homeOf: the home of a key -/
theorem c_Part_homeOf (l : Launch) (D : va_G) (h b c : Nat) (sd : Int32) (key : Int32) (hc : pw c) : Met l y_Part_homeOf w_Part_homeOf (rmD 0 0 0) (va_Pc [.ref h, .int key] (hb_R D hCl [(h, pt b c sd)] [])) (hq_R (some (.int (nI (hom key sd c))))) 0 0 hq_no := by
  refine Met.ofW (cc := b_Part_homeOf) (maxL := 2) (ret := some .int) (by decide) rfl ?_
  intro p e s m args below meth c0 s₁ B0 hml hv
  obtain ⟨rfl, hP, hK⟩ := hv
  have hx := B0.exec
  have hb := B0.bytes
  have hr := B0.returns
  have hts := atoms_spec (ws := w_Part_homeOf) B0.pre
  have hown : s.vm.findClass R_Part = some m.cls := findClass_of_methodNamed B0.named
  have hlocks := B0.notSynchronized
  have hwA : ∀ w ∈ wsA, w.before ([.ref h, .int key] : List Value).toArray s = true := fun w h => hts w (List.mem_cons_of_mem _ h)
  have X : CallFix p m c0 b_Part_homeOf 2 s ([.ref h, .int key] : List Value).toArray wsA R_Part := ⟨hx, hb, hml, hown, hwA⟩
  have hl := lv_entry ([.ref h, .int key]) (n := 2) (Nat.le_of_ble_eq_true rfl)
  rw [lg_entry_eq]
  generalize (lg_sl ([.ref h, .int key]) ++ List.replicate (2 - (lg_sl ([.ref h, .int key])).length) Slot.unset).toArray = ls at hl ⊢
  have hl : lv_has ls 2 [(0, .ref h), (1, .int key)] := hl
  refine lv_iload_n hx hb d_Part_homeOf_0 rfl (lv_at hl 1 rfl) ?_
  refine lv_aload_n hx hb d_Part_homeOf_1 rfl (lv_at hl 0 rfl) ?_
  refine va_get (D := D) (ci := 1) (v := .int (sd)) (C := R_Part) (T := F_Part) (N := 3) hx hb hwA hin_Part hown hK hP 0 rfl rfl 2 (by decide) (hwA (.fieldLink R_Part 16 "HopArena$Part" "seed" "I") m_70) (fun _ h9 => h9) rfl d_Part_homeOf_2 ?_
  refine lv_ixor hx hb d_Part_homeOf_5 ?_
  refine lv_ldc (v := -1640531535) hx hb hown (hwA (.constant R_Part 19 (-1640531535)) m_190) d_Part_homeOf_6 ?_
  refine lv_imul hx hb d_Part_homeOf_8 ?_
  refine lv_bipush (v := 9) hx hb d_Part_homeOf_9 (by decide) ?_
  refine lv_iushr (v := (((((key) ^^^ (sd)) * (-1640531535)) : Int32).toUInt32 >>> (((9) : Int32).toUInt32 &&& Int32.toUInt32 31)).toInt32) hx hb d_Part_homeOf_11 rfl ?_
  refine lv_aload_n hx hb d_Part_homeOf_12 rfl (lv_at hl 0 rfl) ?_
  refine va_get (D := D) (ci := 1) (v := .int (nI c)) (C := R_Part) (T := F_Part) (N := 3) hx hb hwA hin_Part hown hK hP 0 rfl rfl 1 (by decide) (hwA (.fieldLink R_Part 13 "HopArena$Part" "capacity" "I") m_68) (fun _ h9 => h9) rfl d_Part_homeOf_13 ?_
  refine lv_iconst (v := 1) hx hb d_Part_homeOf_16 (by decide) ?_
  refine lv_isub hx hb d_Part_homeOf_17 ?_
  refine lv_iand hx hb d_Part_homeOf_18 ?_
  refine lv_tope (y := nI (hom key sd c)) (hom_eq hc key sd) ?_
  exact W.iret (v := nI (hom key sd c)) hx hb hr (fun t ht hW => ⟨rfl, ht⟩) hq_nl d_Part_homeOf_19
set_option maxHeartbeats 4000000 in
set_option maxRecDepth 100000 in
/-- end: where the part ends -/
theorem c_Part_end (l : Launch) (D : va_G) (h b c : Nat) (sd : Int32)  : Met l y_Part_end w_Part_end (rmD 0 0 0) (va_Pc [.ref h] (hb_R D hCl [(h, pt b c sd)] [])) (hq_R (some (.int (nI (b + c))))) 0 0 hq_no := by
  refine Met.ofW (cc := b_Part_end) (maxL := 1) (ret := some .int) (by decide) rfl ?_
  intro p e s m args below meth c0 s₁ B0 hml hv
  obtain ⟨rfl, hP, hK⟩ := hv
  have hx := B0.exec
  have hb := B0.bytes
  have hr := B0.returns
  have hts := atoms_spec (ws := w_Part_end) B0.pre
  have hown : s.vm.findClass R_Part = some m.cls := findClass_of_methodNamed B0.named
  have hlocks := B0.notSynchronized
  have hwA : ∀ w ∈ wsA, w.before ([.ref h] : List Value).toArray s = true := fun w h => hts w (List.mem_cons_of_mem _ h)
  have X : CallFix p m c0 b_Part_end 1 s ([.ref h] : List Value).toArray wsA R_Part := ⟨hx, hb, hml, hown, hwA⟩
  have hl := lv_entry ([.ref h]) (n := 1) (Nat.le_of_ble_eq_true rfl)
  rw [lg_entry_eq]
  generalize (lg_sl ([.ref h]) ++ List.replicate (1 - (lg_sl ([.ref h])).length) Slot.unset).toArray = ls at hl ⊢
  have hl : lv_has ls 1 [(0, .ref h)] := hl
  refine lv_aload_n hx hb d_Part_end_0 rfl (lv_at hl 0 rfl) ?_
  refine va_get (D := D) (ci := 1) (v := .int (nI b)) (C := R_Part) (T := F_Part) (N := 3) hx hb hwA hin_Part hown hK hP 0 rfl rfl 0 (by decide) (hwA (.fieldLink R_Part 7 "HopArena$Part" "base" "I") m_66) (fun _ h9 => h9) rfl d_Part_end_1 ?_
  refine lv_aload_n hx hb d_Part_end_4 rfl (lv_at hl 0 rfl) ?_
  refine va_get (D := D) (ci := 1) (v := .int (nI c)) (C := R_Part) (T := F_Part) (N := 3) hx hb hwA hin_Part hown hK hP 0 rfl rfl 1 (by decide) (hwA (.fieldLink R_Part 13 "HopArena$Part" "capacity" "I") m_68) (fun _ h9 => h9) rfl d_Part_end_5 ?_
  refine lv_iadd hx hb d_Part_end_8 ?_
  refine lv_tope (y := nI (b + c)) (nI_add _ _) ?_
  exact W.iret (v := nI (b + c)) hx hb hr (fun t ht hW => ⟨rfl, ht⟩) hq_nl d_Part_end_9
set_option maxHeartbeats 4000000 in
set_option maxRecDepth 100000 in
/-- isPlace -/
theorem c_Part_isPlace (l : Launch) (D : va_G) (h b c : Nat) (sd : Int32) (x : Int32) (hc : c < 2 ^ 31) : Met l y_Part_isPlace w_Part_isPlace (rmD 0 0 0) (va_Pc [.ref h, .int x] (hb_R D hCl [(h, pt b c sd)] [])) (hq_R (some (.int (bI (decide (0 ≤ x ∧ x < nI c)))))) 0 0 hq_no := by
  refine Met.ofW (cc := b_Part_isPlace) (maxL := 2) (ret := some .boolean) (by decide) rfl ?_
  intro p e s m args below meth c0 s₁ B0 hml hv
  obtain ⟨rfl, hP, hK⟩ := hv
  have hx := B0.exec
  have hb := B0.bytes
  have hr := B0.returns
  have hts := atoms_spec (ws := w_Part_isPlace) B0.pre
  have hown : s.vm.findClass R_Part = some m.cls := findClass_of_methodNamed B0.named
  have hlocks := B0.notSynchronized
  have hwA : ∀ w ∈ wsA, w.before ([.ref h, .int x] : List Value).toArray s = true := fun w h => hts w (List.mem_cons_of_mem _ h)
  have X : CallFix p m c0 b_Part_isPlace 2 s ([.ref h, .int x] : List Value).toArray wsA R_Part := ⟨hx, hb, hml, hown, hwA⟩
  have hl := lv_entry ([.ref h, .int x]) (n := 2) (Nat.le_of_ble_eq_true rfl)
  rw [lg_entry_eq]
  generalize (lg_sl ([.ref h, .int x]) ++ List.replicate (2 - (lg_sl ([.ref h, .int x])).length) Slot.unset).toArray = ls at hl ⊢
  have hl : lv_has ls 2 [(0, .ref h), (1, .int x)] := hl
  refine lv_iload_n hx hb d_Part_isPlace_0 rfl (lv_at hl 1 rfl) ?_
  refine lv_if_lt (tgt := 16) hx hb d_Part_isPlace_1 (by decide) (fun h1 => ?_) (fun h1 => ?_)
  · refine lv_iconst (v := 0) hx hb d_Part_isPlace_16 (by decide) ?_
    exact W.zret (v := 0) hx hb hr rfl (fun t ht hW => ⟨by rw [decide_eq_false (fun z => absurd h1 (Int32.not_lt.mpr z.1))]; rfl, ht⟩) hq_nl d_Part_isPlace_17
  · refine lv_iload_n hx hb d_Part_isPlace_4 rfl (lv_at hl 1 rfl) ?_
    refine lv_aload_n hx hb d_Part_isPlace_5 rfl (lv_at hl 0 rfl) ?_
    refine va_get (D := D) (ci := 1) (v := .int (nI c)) (C := R_Part) (T := F_Part) (N := 3) hx hb hwA hin_Part hown hK hP 0 rfl rfl 1 (by decide) (hwA (.fieldLink R_Part 13 "HopArena$Part" "capacity" "I") m_68) (fun _ h9 => h9) rfl d_Part_isPlace_6 ?_
    refine lv_icmp_ge (tgt := 16) hx hb d_Part_isPlace_9 (by decide) (fun h2 => ?_) (fun h2 => ?_)
    · refine lv_iconst (v := 0) hx hb d_Part_isPlace_16 (by decide) ?_
      exact W.zret (v := 0) hx hb hr rfl (fun t ht hW => ⟨by rw [decide_eq_false (fun z => absurd z.2 (Int32.not_lt.mpr h2))]; rfl, ht⟩) hq_nl d_Part_isPlace_17
    · refine lv_iconst (v := 1) hx hb d_Part_isPlace_12 (by decide) ?_
      refine lv_goto (tgt := 17) hx hb d_Part_isPlace_13 (by decide) ?_
      exact W.zret (v := 1) hx hb hr rfl (fun t ht hW => ⟨by rw [decide_eq_true ⟨Int32.not_lt.mp h1, Int32.not_le.mp h2⟩]; rfl, ht⟩) hq_nl d_Part_isPlace_17
