set_option maxHeartbeats 4000000 in
set_option maxRecDepth 100000 in
/-- within -/
theorem c_Mod_within (l : Launch) (D : va_G) (x lo hi : Int32) : Met l y_Mod_within w_Mod_within (rmD 0 0 0) (va_Pc [.int x, .int lo, .int hi] (hb_R D mCl [] [])) (hq_R (some (.int (bI (decide (lo ≤ x ∧ x ≤ hi)))))) 0 0 hq_no := by
  refine Met.ofW (cc := b_Mod_within) (maxL := 3) (ret := some .boolean) (by decide) rfl ?_
  intro p e s m0 args below meth c0 s₁ B0 hml hv
  obtain ⟨rfl, hP, hK⟩ := hv
  have hx := B0.exec
  have hb := B0.bytes
  have hr := B0.returns
  have hts := atoms_spec (ws := w_Mod_within) B0.pre
  have hown : s.vm.findClass R_Mod = some m0.cls := findClass_of_methodNamed B0.named
  have hlocks := B0.notSynchronized
  have hwA : ∀ w ∈ wsA, w.before ([.int x, .int lo, .int hi] : List Value).toArray s = true := fun w h => hts w (List.mem_cons_of_mem _ h)
  have X : CallFix p m0 c0 b_Mod_within 3 s ([.int x, .int lo, .int hi] : List Value).toArray wsA R_Mod := ⟨hx, hb, hml, hown, hwA⟩
  have hl := lv_entry ([.int x, .int lo, .int hi]) (n := 3) (Nat.le_of_ble_eq_true rfl)
  rw [lg_entry_eq]
  generalize (lg_sl ([.int x, .int lo, .int hi]) ++ List.replicate (3 - (lg_sl ([.int x, .int lo, .int hi])).length) Slot.unset).toArray = ls at hl ⊢
  have hl : lv_has ls 3 [(0, .int x), (1, .int lo), (2, .int hi)] := hl
  refine lv_iload_n hx hb d_Mod_within_0 rfl (lv_at hl 0 rfl) ?_
  refine lv_iload_n hx hb d_Mod_within_1 rfl (lv_at hl 1 rfl) ?_
  refine lv_icmp_lt (tgt := 14) hx hb d_Mod_within_2 (by decide) (fun h1 => ?_) (fun h1 => ?_)
  · refine lv_iconst (v := 0) hx hb d_Mod_within_14 (by decide) ?_
    exact W.zret (v := 0) hx hb hr rfl (fun t ht hW => ⟨by rw [decide_eq_false (fun z => absurd h1 (Int32.not_lt.mpr z.1))]; rfl, ht⟩) hq_nl d_Mod_within_15
  · refine lv_iload_n hx hb d_Mod_within_5 rfl (lv_at hl 0 rfl) ?_
    refine lv_iload_n hx hb d_Mod_within_6 rfl (lv_at hl 2 rfl) ?_
    refine lv_icmp_gt (tgt := 14) hx hb d_Mod_within_7 (by decide) (fun h2 => ?_) (fun h2 => ?_)
    · refine lv_iconst (v := 0) hx hb d_Mod_within_14 (by decide) ?_
      exact W.zret (v := 0) hx hb hr rfl (fun t ht hW => ⟨by rw [decide_eq_false (fun z => absurd h2 (Int32.not_lt.mpr z.2))]; rfl, ht⟩) hq_nl d_Mod_within_15
    · refine lv_iconst (v := 1) hx hb d_Mod_within_10 (by decide) ?_
      refine lv_goto (tgt := 15) hx hb d_Mod_within_11 (by decide) ?_
      exact W.zret (v := 1) hx hb hr rfl (fun t ht hW => ⟨by rw [decide_eq_true ⟨Int32.not_lt.mp h1, Int32.not_lt.mp h2⟩]; rfl, ht⟩) hq_nl d_Mod_within_15
set_option maxHeartbeats 4000000 in
set_option maxRecDepth 100000 in
/-- thrown -/
theorem c_Mod_thrown (l : Launch) (D : va_G) (ca a : Nat → Nat) (z : Int32) (F : BT) (K V : IT) (P B : Nat → Nat) (S C : IT) (N : Nat) (HK HV : IT) (OF : BT) (OK OV : IT)  : Met l y_Mod_thrown w_Mod_thrown (rmD 0 0 0) (va_Pc [.ref (a 0)] (hb_R D mCl (wM ca a z F K V P B S C N HK HV OF OK OV) (tyM ca))) (hq_R (some (.int z))) 0 0 hq_no := by
  refine Met.ofW (cc := b_Mod_thrown) (maxL := 1) (ret := some .int) (by decide) rfl ?_
  intro p e s m0 args below meth c0 s₁ B0 hml hv
  obtain ⟨rfl, hP, hK⟩ := hv
  have hx := B0.exec
  have hb := B0.bytes
  have hr := B0.returns
  have hts := atoms_spec (ws := w_Mod_thrown) B0.pre
  have hown : s.vm.findClass R_Mod = some m0.cls := findClass_of_methodNamed B0.named
  have hlocks := B0.notSynchronized
  have hwA : ∀ w ∈ wsA, w.before ([.ref (a 0)] : List Value).toArray s = true := fun w h => hts w (List.mem_cons_of_mem _ h)
  have X : CallFix p m0 c0 b_Mod_thrown 1 s ([.ref (a 0)] : List Value).toArray wsA R_Mod := ⟨hx, hb, hml, hown, hwA⟩
  have hl := lv_entry ([.ref (a 0)]) (n := 1) (Nat.le_of_ble_eq_true rfl)
  rw [lg_entry_eq]
  generalize (lg_sl ([.ref (a 0)]) ++ List.replicate (1 - (lg_sl ([.ref (a 0)])).length) Slot.unset).toArray = ls at hl ⊢
  have hl : lv_has ls 1 [(0, .ref (a 0))] := hl
  refine lv_aload_n hx hb d_Mod_thrown_0 rfl (lv_at hl 0 rfl) ?_
  refine mg_code X hK hP d_Mod_thrown_1 ?_
  exact W.iret (v := z) hx hb hr (fun t ht hW => ⟨rfl, ht⟩) hq_nl d_Mod_thrown_4
set_option maxHeartbeats 4000000 in
set_option maxRecDepth 100000 in
/-- homeOf -/
theorem c_Mod_homeOf (l : Launch) (D : va_G) (ca a : Nat → Nat) (z : Int32) (F : BT) (K V : IT) (P B : Nat → Nat) (S C : IT) (N : Nat) (HK HV : IT) (OF : BT) (OK OV : IT) (m : Nat) (hm : m < 3) (key : Int32) (hc : pw (P m)) : Met l y_Mod_homeOf w_Mod_homeOf (rmD 0 0 0) (va_Pc [.ref (a 0), .int (nI m), .int key] (hb_R D mCl (wM ca a z F K V P B S C N HK HV OF OK OV) (tyM ca))) (hq_R (some (.int (nI (hom key (S m) (P m)))))) 0 0 hq_no := by
  refine Met.ofW (cc := b_Mod_homeOf) (maxL := 3) (ret := some .int) (by decide) rfl ?_
  intro p e s m0 args below meth c0 s₁ B0 hml hv
  obtain ⟨rfl, hP, hK⟩ := hv
  have hx := B0.exec
  have hb := B0.bytes
  have hr := B0.returns
  have hts := atoms_spec (ws := w_Mod_homeOf) B0.pre
  have hown : s.vm.findClass R_Mod = some m0.cls := findClass_of_methodNamed B0.named
  have hlocks := B0.notSynchronized
  have hwA : ∀ w ∈ wsA, w.before ([.ref (a 0), .int (nI m), .int key] : List Value).toArray s = true := fun w h => hts w (List.mem_cons_of_mem _ h)
  have X : CallFix p m0 c0 b_Mod_homeOf 3 s ([.ref (a 0), .int (nI m), .int key] : List Value).toArray wsA R_Mod := ⟨hx, hb, hml, hown, hwA⟩
  have hl := lv_entry ([.ref (a 0), .int (nI m), .int key]) (n := 3) (Nat.le_of_ble_eq_true rfl)
  rw [lg_entry_eq]
  generalize (lg_sl ([.ref (a 0), .int (nI m), .int key]) ++ List.replicate (3 - (lg_sl ([.ref (a 0), .int (nI m), .int key])).length) Slot.unset).toArray = ls at hl ⊢
  have hl : lv_has ls 3 [(0, .ref (a 0)), (1, .int (nI m)), (2, .int key)] := hl
  refine lv_iload_n hx hb d_Mod_homeOf_0 rfl (lv_at hl 2 rfl) ?_
  refine lv_aload_n hx hb d_Mod_homeOf_1 rfl (lv_at hl 0 rfl) ?_
  refine mg_seed X hK hP d_Mod_homeOf_2 ?_
  refine lv_iload_n hx hb d_Mod_homeOf_5 rfl (lv_at hl 1 rfl) ?_
  refine ml_S X hK hP (i := m) (by omega) d_Mod_homeOf_6 ?_
  refine lv_ixor hx hb d_Mod_homeOf_7 ?_
  refine lv_ldc (v := -1640531535) hx hb hown (hwA (.constant R_Mod 55 (-1640531535)) m_492) d_Mod_homeOf_8 ?_
  refine lv_imul hx hb d_Mod_homeOf_10 ?_
  refine lv_bipush (v := 9) hx hb d_Mod_homeOf_11 (by decide) ?_
  refine lv_iushr (v := (((((key) ^^^ (S m)) * (-1640531535)) : Int32).toUInt32 >>> (((9) : Int32).toUInt32 &&& Int32.toUInt32 31)).toInt32) hx hb d_Mod_homeOf_13 rfl ?_
  refine lv_aload_n hx hb d_Mod_homeOf_14 rfl (lv_at hl 0 rfl) ?_
  refine mg_capacity X hK hP d_Mod_homeOf_15 ?_
  refine lv_iload_n hx hb d_Mod_homeOf_18 rfl (lv_at hl 1 rfl) ?_
  refine ml_P X hK hP (i := m) (by omega) d_Mod_homeOf_19 ?_
  refine lv_iconst (v := 1) hx hb d_Mod_homeOf_20 (by decide) ?_
  refine lv_isub hx hb d_Mod_homeOf_21 ?_
  refine lv_iand hx hb d_Mod_homeOf_22 ?_
  refine lv_tope (y := nI (hom key (S m) (P m))) (hom_eq hc key (S m)) ?_
  exact W.iret (v := nI (hom key (S m) (P m))) hx hb hr (fun t ht hW => ⟨rfl, ht⟩) hq_nl d_Mod_homeOf_23
set_option maxHeartbeats 4000000 in
set_option maxRecDepth 100000 in
/-- behind -/
theorem c_Mod_behind (l : Launch) (D : va_G) (ca a : Nat → Nat) (z : Int32) (F : BT) (K V : IT) (P B : Nat → Nat) (S C : IT) (N : Nat) (HK HV : IT) (OF : BT) (OK OV : IT) (m : Nat) (hm : m < 3) (x i : Nat) (hc : pw (P m)) (hx9 : x + i < 2 ^ 31) : Met l y_Mod_behind w_Mod_behind (rmD 0 0 0) (va_Pc [.ref (a 0), .int (nI m), .int (nI x), .int (nI i)] (hb_R D mCl (wM ca a z F K V P B S C N HK HV OF OK OV) (tyM ca))) (hq_R (some (.int (nI ((x + i) % P m))))) 0 0 hq_no := by
  refine Met.ofW (cc := b_Mod_behind) (maxL := 4) (ret := some .int) (by decide) rfl ?_
  intro p e s m0 args below meth c0 s₁ B0 hml hv
  obtain ⟨rfl, hP, hK⟩ := hv
  have hx := B0.exec
  have hb := B0.bytes
  have hr := B0.returns
  have hts := atoms_spec (ws := w_Mod_behind) B0.pre
  have hown : s.vm.findClass R_Mod = some m0.cls := findClass_of_methodNamed B0.named
  have hlocks := B0.notSynchronized
  have hwA : ∀ w ∈ wsA, w.before ([.ref (a 0), .int (nI m), .int (nI x), .int (nI i)] : List Value).toArray s = true := fun w h => hts w (List.mem_cons_of_mem _ h)
  have X : CallFix p m0 c0 b_Mod_behind 4 s ([.ref (a 0), .int (nI m), .int (nI x), .int (nI i)] : List Value).toArray wsA R_Mod := ⟨hx, hb, hml, hown, hwA⟩
  have hl := lv_entry ([.ref (a 0), .int (nI m), .int (nI x), .int (nI i)]) (n := 4) (Nat.le_of_ble_eq_true rfl)
  rw [lg_entry_eq]
  generalize (lg_sl ([.ref (a 0), .int (nI m), .int (nI x), .int (nI i)]) ++ List.replicate (4 - (lg_sl ([.ref (a 0), .int (nI m), .int (nI x), .int (nI i)])).length) Slot.unset).toArray = ls at hl ⊢
  have hl : lv_has ls 4 [(0, .ref (a 0)), (1, .int (nI m)), (2, .int (nI x)), (3, .int (nI i))] := hl
  refine lv_iload_n hx hb d_Mod_behind_0 rfl (lv_at hl 2 rfl) ?_
  refine lv_iload_n hx hb d_Mod_behind_1 rfl (lv_at hl 3 rfl) ?_
  refine lv_iadd hx hb d_Mod_behind_2 ?_
  refine lv_tope (y := nI (x + i)) (nI_add (x) (i)) ?_
  refine lv_aload_n hx hb d_Mod_behind_3 rfl (lv_at hl 0 rfl) ?_
  refine mg_capacity X hK hP d_Mod_behind_4 ?_
  refine lv_iload_n hx hb d_Mod_behind_7 rfl (lv_at hl 1 rfl) ?_
  refine ml_P X hK hP (i := m) (by omega) d_Mod_behind_8 ?_
  refine lv_iconst (v := 1) hx hb d_Mod_behind_9 (by decide) ?_
  refine lv_isub hx hb d_Mod_behind_10 ?_
  refine lv_iand hx hb d_Mod_behind_11 ?_
  refine lv_tope (y := nI ((x + i) % P m)) (pw_andN hc (by omega)) ?_
  exact W.iret (v := nI ((x + i) % P m)) hx hb hr (fun t ht hW => ⟨rfl, ht⟩) hq_nl d_Mod_behind_12
set_option maxHeartbeats 4000000 in
set_option maxRecDepth 100000 in
/-- behind -/
theorem c_Mod_behind_n (l : Launch) (D : va_G) (ca a : Nat → Nat) (z : Int32) (F : BT) (K V : IT) (P B : Nat → Nat) (S C : IT) (N : Nat) (HK HV : IT) (OF : BT) (OK OV : IT) (m : Nat) (hm : m < 3) (f d0 : Nat) (hc : pw (P m)) (hf9 : f < 2 ^ 30) (hd9 : d0 ≤ P m) : Met l y_Mod_behind w_Mod_behind (rmD 0 0 0) (va_Pc [.ref (a 0), .int (nI m), .int (nI f), .int (-(nI d0))] (hb_R D mCl (wM ca a z F K V P B S C N HK HV OF OK OV) (tyM ca))) (hq_R (some (.int (nI ((f + P m - d0) % P m))))) 0 0 hq_no := by
  refine Met.ofW (cc := b_Mod_behind) (maxL := 4) (ret := some .int) (by decide) rfl ?_
  intro p e s m0 args below meth c0 s₁ B0 hml hv
  obtain ⟨rfl, hP, hK⟩ := hv
  have hx := B0.exec
  have hb := B0.bytes
  have hr := B0.returns
  have hts := atoms_spec (ws := w_Mod_behind) B0.pre
  have hown : s.vm.findClass R_Mod = some m0.cls := findClass_of_methodNamed B0.named
  have hlocks := B0.notSynchronized
  have hwA : ∀ w ∈ wsA, w.before ([.ref (a 0), .int (nI m), .int (nI f), .int (-(nI d0))] : List Value).toArray s = true := fun w h => hts w (List.mem_cons_of_mem _ h)
  have X : CallFix p m0 c0 b_Mod_behind 4 s ([.ref (a 0), .int (nI m), .int (nI f), .int (-(nI d0))] : List Value).toArray wsA R_Mod := ⟨hx, hb, hml, hown, hwA⟩
  have hl := lv_entry ([.ref (a 0), .int (nI m), .int (nI f), .int (-(nI d0))]) (n := 4) (Nat.le_of_ble_eq_true rfl)
  rw [lg_entry_eq]
  generalize (lg_sl ([.ref (a 0), .int (nI m), .int (nI f), .int (-(nI d0))]) ++ List.replicate (4 - (lg_sl ([.ref (a 0), .int (nI m), .int (nI f), .int (-(nI d0))])).length) Slot.unset).toArray = ls at hl ⊢
  have hl : lv_has ls 4 [(0, .ref (a 0)), (1, .int (nI m)), (2, .int (nI f)), (3, .int (-(nI d0)))] := hl
  refine lv_iload_n hx hb d_Mod_behind_0 rfl (lv_at hl 2 rfl) ?_
  refine lv_iload_n hx hb d_Mod_behind_1 rfl (lv_at hl 3 rfl) ?_
  refine lv_iadd hx hb d_Mod_behind_2 ?_
  refine lv_aload_n hx hb d_Mod_behind_3 rfl (lv_at hl 0 rfl) ?_
  refine mg_capacity X hK hP d_Mod_behind_4 ?_
  refine lv_iload_n hx hb d_Mod_behind_7 rfl (lv_at hl 1 rfl) ?_
  refine ml_P X hK hP (i := m) (by omega) d_Mod_behind_8 ?_
  refine lv_iconst (v := 1) hx hb d_Mod_behind_9 (by decide) ?_
  refine lv_isub hx hb d_Mod_behind_10 ?_
  refine lv_iand hx hb d_Mod_behind_11 ?_
  refine lv_tope (y := nI ((f + P m - d0) % P m)) (by rw [nI_neg]; exact pw_subN hc hf9 hd9) ?_
  exact W.iret (v := nI ((f + P m - d0) % P m)) hx hb hr (fun t ht hW => ⟨rfl, ht⟩) hq_nl d_Mod_behind_12
set_option maxHeartbeats 4000000 in
set_option maxRecDepth 100000 in
/-- placeOf -/
theorem c_Mod_placeOf (l : Launch) (D : va_G) (ca a : Nat → Nat) (z : Int32) (F : BT) (K V : IT) (P B : Nat → Nat) (S C : IT) (N : Nat) (HK HV : IT) (OF : BT) (OK OV : IT) (m : Nat) (hm : m < 3) (key : Int32) (hp9 : P m ≤ 128) : Met l y_Mod_placeOf w_Mod_placeOf (rmD 0 0 0) (va_Pc [.ref (a 0), .int (nI m), .int key] (hb_R D mCl (wM ca a z F K V P B S C N HK HV OF OK OV) (tyM ca))) (hq_R (some (.int (oI (plF F K (128 * m) key (P m)))))) 0 0 hq_no := by
  refine Met.ofW (cc := b_Mod_placeOf) (maxL := 5) (ret := some .int) (by decide) rfl ?_
  intro p e s m0 args below meth c0 s₁ B0 hml hv
  obtain ⟨rfl, hP, hK⟩ := hv
  have hx := B0.exec
  have hb := B0.bytes
  have hr := B0.returns
  have hts := atoms_spec (ws := w_Mod_placeOf) B0.pre
  have hown : s.vm.findClass R_Mod = some m0.cls := findClass_of_methodNamed B0.named
  have hlocks := B0.notSynchronized
  have hwA : ∀ w ∈ wsA, w.before ([.ref (a 0), .int (nI m), .int key] : List Value).toArray s = true := fun w h => hts w (List.mem_cons_of_mem _ h)
  have X : CallFix p m0 c0 b_Mod_placeOf 5 s ([.ref (a 0), .int (nI m), .int key] : List Value).toArray wsA R_Mod := ⟨hx, hb, hml, hown, hwA⟩
  have hl := lv_entry ([.ref (a 0), .int (nI m), .int key]) (n := 5) (Nat.le_of_ble_eq_true rfl)
  rw [lg_entry_eq]
  generalize (lg_sl ([.ref (a 0), .int (nI m), .int key]) ++ List.replicate (5 - (lg_sl ([.ref (a 0), .int (nI m), .int key])).length) Slot.unset).toArray = ls at hl ⊢
  have hl : lv_has ls 5 [(0, .ref (a 0)), (1, .int (nI m)), (2, .int key)] := hl
  have loop : ∀ (n i : Nat) (ls : Array Slot), i + n = P m → lv_has ls 5 [(4, .int (nI i)), (3, .int (oI (plF F K (128 * m) key i))), (0, .ref (a 0)), (1, .int (nI m)), (2, .int key)] → W p l e (headSpec w_Mod_placeOf (rmD 0 0 0)).room s m0 ([.ref (a 0), .int (nI m), .int key] : List Value).toArray below meth c0 s.heap [] 0 0 (MQ below (hq_R (some (.int (oI (plF F K (128 * m) key (P m)))))) ([.ref (a 0), .int (nI m), .int key] : List Value).toArray s 0 0 hq_no) (F0 m0 5 ls []) := by
    intro n
    induction n with
    | zero =>
      intro i ls hi hl
      have hiP : i = P m := by omega
      refine lv_iload hx hb d_Mod_placeOf_5 (lv_at hl 0 rfl) ?_
      refine lv_aload_n hx hb d_Mod_placeOf_7 rfl (lv_at hl 2 rfl) ?_
      refine mg_capacity X hK hP d_Mod_placeOf_8 ?_
      refine lv_iload_n hx hb d_Mod_placeOf_11 rfl (lv_at hl 3 rfl) ?_
      refine ml_P X hK hP (i := m) (by omega) d_Mod_placeOf_12 ?_
      refine lvT_icmp_ge (tgt := 62) hx hb d_Mod_placeOf_13 (by decide) (nI_le (a := P m) (b := i) (by omega) (by omega)) ?_
      refine lv_iload_n hx hb d_Mod_placeOf_62 rfl (lv_at hl 1 rfl) ?_
      exact W.iret (v := oI (plF F K (128 * m) key i)) hx hb hr (fun t ht hW => ⟨by rw [hiP], ht⟩) hq_nl d_Mod_placeOf_63
    | succ n ih =>
      intro i ls hi hl
      refine lv_iload hx hb d_Mod_placeOf_5 (lv_at hl 0 rfl) ?_
      refine lv_aload_n hx hb d_Mod_placeOf_7 rfl (lv_at hl 2 rfl) ?_
      refine mg_capacity X hK hP d_Mod_placeOf_8 ?_
      refine lv_iload_n hx hb d_Mod_placeOf_11 rfl (lv_at hl 3 rfl) ?_
      refine ml_P X hK hP (i := m) (by omega) d_Mod_placeOf_12 ?_
      refine lvF_icmp_ge (tgt := 62) hx hb d_Mod_placeOf_13 (by decide) (nI_ge (a := i) (b := P m) (by omega) (by omega)) ?_
      refine lv_aload_n hx hb d_Mod_placeOf_16 rfl (lv_at hl 2 rfl) ?_
      refine mg_full X hK hP d_Mod_placeOf_17 ?_
      refine lv_sipush (v := 128) hx hb d_Mod_placeOf_20 (by decide) ?_
      refine lv_iload_n hx hb d_Mod_placeOf_23 rfl (lv_at hl 3 rfl) ?_
      refine lv_imul hx hb d_Mod_placeOf_24 ?_
      refine lv_tope (y := nI (128 * m)) (pk_mul (128) (m)) ?_
      refine lv_iload hx hb d_Mod_placeOf_25 (lv_at hl 0 rfl) ?_
      refine lv_iadd hx hb d_Mod_placeOf_27 ?_
      refine lv_tope (y := nI (128 * m + i)) (nI_add (128 * m) (i)) ?_
      refine ml_F X hK hP (i := 128 * m + i) (by omega) d_Mod_placeOf_28 ?_
      refine lv_if_eq (tgt := 54) hx hb d_Mod_placeOf_29 (by decide) (fun h1 => ?_) (fun h1 => ?_)
      · have e1 : plF F K (128 * m) key (i + 1) = plF F K (128 * m) key i := if_neg (fun z => by rw [bI_0.mp h1] at z; exact absurd z.1 (by decide))
        refine lv_iload_n hx hb d_Mod_placeOf_54 rfl (lv_at hl 1 rfl) ?_
        refine lv_istore_n (lv' := [(3, .int (oI (plF F K (128 * m) key i))), (4, .int (nI i)), (0, .ref (a 0)), (1, .int (nI m)), (2, .int key)]) hx hb d_Mod_placeOf_55 rfl hl (by decide) rfl (fun ls hl => ?_)
        refine lv_iinc (k := 1) (v := nI (i + 1)) (lv' := [(4, .int (nI (i + 1))), (3, .int (oI (plF F K (128 * m) key i))), (0, .ref (a 0)), (1, .int (nI m)), (2, .int key)]) hx hb d_Mod_placeOf_56 hl rfl (inc1 i) (by decide) rfl (fun ls hl => ?_)
        refine lv_goto (tgt := 5) hx hb d_Mod_placeOf_59 (by decide) ?_
        exact ih (i + 1) ls (by omega) (by rw [e1]; exact lv_sub hl [0, 1, 2, 3, 4] rfl)
      · refine lv_aload_n hx hb d_Mod_placeOf_32 rfl (lv_at hl 2 rfl) ?_
        refine mg_keys X hK hP d_Mod_placeOf_33 ?_
        refine lv_sipush (v := 128) hx hb d_Mod_placeOf_36 (by decide) ?_
        refine lv_iload_n hx hb d_Mod_placeOf_39 rfl (lv_at hl 3 rfl) ?_
        refine lv_imul hx hb d_Mod_placeOf_40 ?_
        refine lv_tope (y := nI (128 * m)) (pk_mul (128) (m)) ?_
        refine lv_iload hx hb d_Mod_placeOf_41 (lv_at hl 0 rfl) ?_
        refine lv_iadd hx hb d_Mod_placeOf_43 ?_
        refine lv_tope (y := nI (128 * m + i)) (nI_add (128 * m) (i)) ?_
        refine ml_K X hK hP (i := 128 * m + i) (by omega) d_Mod_placeOf_44 ?_
        refine lv_iload_n hx hb d_Mod_placeOf_45 rfl (lv_at hl 4 rfl) ?_
        refine lv_icmp_ne (tgt := 54) hx hb d_Mod_placeOf_46 (by decide) (fun h2 => ?_) (fun h2 => ?_)
        · have e1 : plF F K (128 * m) key (i + 1) = plF F K (128 * m) key i := if_neg (fun z => h2 z.2)
          refine lv_iload_n hx hb d_Mod_placeOf_54 rfl (lv_at hl 1 rfl) ?_
          refine lv_istore_n (lv' := [(3, .int (oI (plF F K (128 * m) key i))), (4, .int (nI i)), (0, .ref (a 0)), (1, .int (nI m)), (2, .int key)]) hx hb d_Mod_placeOf_55 rfl hl (by decide) rfl (fun ls hl => ?_)
          refine lv_iinc (k := 1) (v := nI (i + 1)) (lv' := [(4, .int (nI (i + 1))), (3, .int (oI (plF F K (128 * m) key i))), (0, .ref (a 0)), (1, .int (nI m)), (2, .int key)]) hx hb d_Mod_placeOf_56 hl rfl (inc1 i) (by decide) rfl (fun ls hl => ?_)
          refine lv_goto (tgt := 5) hx hb d_Mod_placeOf_59 (by decide) ?_
          exact ih (i + 1) ls (by omega) (by rw [e1]; exact lv_sub hl [0, 1, 2, 3, 4] rfl)
        · have e1 : plF F K (128 * m) key (i + 1) = some i := if_pos ⟨bI_n0.mp h1, h2⟩
          refine lv_iload hx hb d_Mod_placeOf_49 (lv_at hl 0 rfl) ?_
          refine lv_goto (tgt := 55) hx hb d_Mod_placeOf_51 (by decide) ?_
          refine lv_istore_n (lv' := [(3, .int (nI i)), (4, .int (nI i)), (0, .ref (a 0)), (1, .int (nI m)), (2, .int key)]) hx hb d_Mod_placeOf_55 rfl hl (by decide) rfl (fun ls hl => ?_)
          refine lv_iinc (k := 1) (v := nI (i + 1)) (lv' := [(4, .int (nI (i + 1))), (3, .int (nI i)), (0, .ref (a 0)), (1, .int (nI m)), (2, .int key)]) hx hb d_Mod_placeOf_56 hl rfl (inc1 i) (by decide) rfl (fun ls hl => ?_)
          refine lv_goto (tgt := 5) hx hb d_Mod_placeOf_59 (by decide) ?_
          exact ih (i + 1) ls (by omega) (by rw [e1]; exact lv_sub hl [0, 1, 2, 3, 4] rfl)
  refine lv_iconst (v := -1) hx hb d_Mod_placeOf_0 (by decide) ?_
  refine lv_istore_n (lv' := [(3, .int (-1)), (0, .ref (a 0)), (1, .int (nI m)), (2, .int key)]) hx hb d_Mod_placeOf_1 rfl hl (by decide) rfl (fun ls hl => ?_)
  refine lv_iconst (v := 0) hx hb d_Mod_placeOf_2 (by decide) ?_
  refine lv_istore (lv' := [(4, .int 0), (3, .int (-1)), (0, .ref (a 0)), (1, .int (nI m)), (2, .int key)]) hx hb d_Mod_placeOf_3 hl (by decide) rfl (fun ls hl => ?_)
  exact loop (P m) 0 ls (by omega) (lv_sub hl [0, 1, 2, 3, 4] rfl)
set_option maxHeartbeats 4000000 in
set_option maxRecDepth 100000 in
/-- sizeOf -/
theorem c_Mod_sizeOf (l : Launch) (D : va_G) (ca a : Nat → Nat) (z : Int32) (F : BT) (K V : IT) (P B : Nat → Nat) (S C : IT) (N : Nat) (HK HV : IT) (OF : BT) (OK OV : IT) (m : Nat) (hm : m < 3) (hp9 : P m ≤ 128) : Met l y_Mod_sizeOf w_Mod_sizeOf (rmD 0 0 0) (va_Pc [.ref (a 0), .int (nI m)] (hb_R D mCl (wM ca a z F K V P B S C N HK HV OF OK OV) (tyM ca))) (hq_R (some (.int (nI (cnt F (128 * m) (P m)))))) 0 0 hq_no := by
  refine Met.ofW (cc := b_Mod_sizeOf) (maxL := 4) (ret := some .int) (by decide) rfl ?_
  intro p e s m0 args below meth c0 s₁ B0 hml hv
  obtain ⟨rfl, hP, hK⟩ := hv
  have hx := B0.exec
  have hb := B0.bytes
  have hr := B0.returns
  have hts := atoms_spec (ws := w_Mod_sizeOf) B0.pre
  have hown : s.vm.findClass R_Mod = some m0.cls := findClass_of_methodNamed B0.named
  have hlocks := B0.notSynchronized
  have hwA : ∀ w ∈ wsA, w.before ([.ref (a 0), .int (nI m)] : List Value).toArray s = true := fun w h => hts w (List.mem_cons_of_mem _ h)
  have X : CallFix p m0 c0 b_Mod_sizeOf 4 s ([.ref (a 0), .int (nI m)] : List Value).toArray wsA R_Mod := ⟨hx, hb, hml, hown, hwA⟩
  have hl := lv_entry ([.ref (a 0), .int (nI m)]) (n := 4) (Nat.le_of_ble_eq_true rfl)
  rw [lg_entry_eq]
  generalize (lg_sl ([.ref (a 0), .int (nI m)]) ++ List.replicate (4 - (lg_sl ([.ref (a 0), .int (nI m)])).length) Slot.unset).toArray = ls at hl ⊢
  have hl : lv_has ls 4 [(0, .ref (a 0)), (1, .int (nI m))] := hl
  have loop : ∀ (n i : Nat) (ls : Array Slot), i + n = P m → lv_has ls 4 [(3, .int (nI i)), (2, .int (nI (cnt F (128 * m) i))), (0, .ref (a 0)), (1, .int (nI m))] → W p l e (headSpec w_Mod_sizeOf (rmD 0 0 0)).room s m0 ([.ref (a 0), .int (nI m)] : List Value).toArray below meth c0 s.heap [] 0 0 (MQ below (hq_R (some (.int (nI (cnt F (128 * m) (P m)))))) ([.ref (a 0), .int (nI m)] : List Value).toArray s 0 0 hq_no) (F0 m0 4 ls []) := by
    intro n
    induction n with
    | zero =>
      intro i ls hi hl
      have hiP : i = P m := by omega
      refine lv_iload_n hx hb d_Mod_sizeOf_4 rfl (lv_at hl 0 rfl) ?_
      refine lv_aload_n hx hb d_Mod_sizeOf_5 rfl (lv_at hl 2 rfl) ?_
      refine mg_capacity X hK hP d_Mod_sizeOf_6 ?_
      refine lv_iload_n hx hb d_Mod_sizeOf_9 rfl (lv_at hl 3 rfl) ?_
      refine ml_P X hK hP (i := m) (by omega) d_Mod_sizeOf_10 ?_
      refine lvT_icmp_ge (tgt := 43) hx hb d_Mod_sizeOf_11 (by decide) (nI_le (a := P m) (b := i) (by omega) (by omega)) ?_
      refine lv_iload_n hx hb d_Mod_sizeOf_43 rfl (lv_at hl 1 rfl) ?_
      exact W.iret (v := nI (cnt F (128 * m) i)) hx hb hr (fun t ht hW => ⟨by rw [hiP], ht⟩) hq_nl d_Mod_sizeOf_44
    | succ n ih =>
      intro i ls hi hl
      refine lv_iload_n hx hb d_Mod_sizeOf_4 rfl (lv_at hl 0 rfl) ?_
      refine lv_aload_n hx hb d_Mod_sizeOf_5 rfl (lv_at hl 2 rfl) ?_
      refine mg_capacity X hK hP d_Mod_sizeOf_6 ?_
      refine lv_iload_n hx hb d_Mod_sizeOf_9 rfl (lv_at hl 3 rfl) ?_
      refine ml_P X hK hP (i := m) (by omega) d_Mod_sizeOf_10 ?_
      refine lvF_icmp_ge (tgt := 43) hx hb d_Mod_sizeOf_11 (by decide) (nI_ge (a := i) (b := P m) (by omega) (by omega)) ?_
      refine lv_aload_n hx hb d_Mod_sizeOf_14 rfl (lv_at hl 2 rfl) ?_
      refine mg_full X hK hP d_Mod_sizeOf_15 ?_
      refine lv_sipush (v := 128) hx hb d_Mod_sizeOf_18 (by decide) ?_
      refine lv_iload_n hx hb d_Mod_sizeOf_21 rfl (lv_at hl 3 rfl) ?_
      refine lv_imul hx hb d_Mod_sizeOf_22 ?_
      refine lv_tope (y := nI (128 * m)) (pk_mul (128) (m)) ?_
      refine lv_iload_n hx hb d_Mod_sizeOf_23 rfl (lv_at hl 0 rfl) ?_
      refine lv_iadd hx hb d_Mod_sizeOf_24 ?_
      refine lv_tope (y := nI (128 * m + i)) (nI_add (128 * m) (i)) ?_
      refine ml_F X hK hP (i := 128 * m + i) (by omega) d_Mod_sizeOf_25 ?_
      refine lv_if_eq (tgt := 35) hx hb d_Mod_sizeOf_26 (by decide) (fun h1 => ?_) (fun h1 => ?_)
      · have e1 : cnt F (128 * m) (i + 1) = cnt F (128 * m) i := if_neg (by rw [bI_0.mp h1]; decide)
        refine lv_iload_n hx hb d_Mod_sizeOf_35 rfl (lv_at hl 1 rfl) ?_
        refine lv_istore_n (lv' := [(2, .int (nI (cnt F (128 * m) i))), (3, .int (nI i)), (0, .ref (a 0)), (1, .int (nI m))]) hx hb d_Mod_sizeOf_36 rfl hl (by decide) rfl (fun ls hl => ?_)
        refine lv_iinc (k := 1) (v := nI (i + 1)) (lv' := [(3, .int (nI (i + 1))), (2, .int (nI (cnt F (128 * m) i))), (0, .ref (a 0)), (1, .int (nI m))]) hx hb d_Mod_sizeOf_37 hl rfl (inc1 i) (by decide) rfl (fun ls hl => ?_)
        refine lv_goto (tgt := 4) hx hb d_Mod_sizeOf_40 (by decide) ?_
        exact ih (i + 1) ls (by omega) (by rw [e1]; exact lv_sub hl [0, 1, 2, 3] rfl)
      · have e1 : cnt F (128 * m) (i + 1) = cnt F (128 * m) i + 1 := if_pos (bI_n0.mp h1)
        refine lv_iload_n hx hb d_Mod_sizeOf_29 rfl (lv_at hl 1 rfl) ?_
        refine lv_iconst (v := 1) hx hb d_Mod_sizeOf_30 (by decide) ?_
        refine lv_iadd hx hb d_Mod_sizeOf_31 ?_
        refine lv_tope (y := nI (cnt F (128 * m) i + 1)) (nI_add (cnt F (128 * m) i) (1)) ?_
        refine lv_goto (tgt := 36) hx hb d_Mod_sizeOf_32 (by decide) ?_
        refine lv_istore_n (lv' := [(2, .int (nI (cnt F (128 * m) i + 1))), (3, .int (nI i)), (0, .ref (a 0)), (1, .int (nI m))]) hx hb d_Mod_sizeOf_36 rfl hl (by decide) rfl (fun ls hl => ?_)
        refine lv_iinc (k := 1) (v := nI (i + 1)) (lv' := [(3, .int (nI (i + 1))), (2, .int (nI (cnt F (128 * m) i + 1))), (0, .ref (a 0)), (1, .int (nI m))]) hx hb d_Mod_sizeOf_37 hl rfl (inc1 i) (by decide) rfl (fun ls hl => ?_)
        refine lv_goto (tgt := 4) hx hb d_Mod_sizeOf_40 (by decide) ?_
        exact ih (i + 1) ls (by omega) (by rw [e1]; exact lv_sub hl [0, 1, 2, 3] rfl)
  refine lv_iconst (v := 0) hx hb d_Mod_sizeOf_0 (by decide) ?_
  refine lv_istore_n (lv' := [(2, .int 0), (0, .ref (a 0)), (1, .int (nI m))]) hx hb d_Mod_sizeOf_1 rfl hl (by decide) rfl (fun ls hl => ?_)
  refine lv_iconst (v := 0) hx hb d_Mod_sizeOf_2 (by decide) ?_
  refine lv_istore_n (lv' := [(3, .int 0), (2, .int 0), (0, .ref (a 0)), (1, .int (nI m))]) hx hb d_Mod_sizeOf_3 rfl hl (by decide) rfl (fun ls hl => ?_)
  exact loop (P m) 0 ls (by omega) (lv_sub hl [0, 1, 2, 3] rfl)
section MKB
variable {p : Program} {l : Launch} {e : Env} {R : Room} {s : State} {m0 : MethodId} {args : Array Value} {below : List Frame} {meth : Method} {c : Code} {H : Heap} {locs : List Loc} {cells slots : Nat} {Q : State → Prop}
variable {cc : ByteArray} {pc nL : Nat} {ls : Array Slot} {rest st0 : List Value} {D : va_G} {A : Nat → Prop} {H0 : Heap} {tys : List (ClassId × FieldType)} {ca a : Nat → Nat} {z : Int32} {F : BT} {K V : IT} {P B : Nat → Nat} {S C : IT} {N : Nat} {HK HV : IT} {OF : BT} {OK OV : IT}
theorem km_homeOf (X : CallFix p m0 c cc nL s args wsA R_Mod) (hK : va_K D mCl (tyM ca) s) (hP : va_P D mCl (wM ca a z F K V P B S C N HK HV OF OK OV) H) (hsz : ls.size = nL) {m : Nat} {key : Int32} (hm : m < 3) (hc : pw (P m)) (hrm : (rest.map fun v => v.category).sum ≤ 8) (hf : cells ≤ R.cells ∧ slots ≤ R.slots) (hR : 1 ≤ R.frames ∧ 30 ≤ R.locals) (d : decode cc pc = .ok (.invokevirtual 56, 3)) (kk9 : W p l e R s m0 args below meth c H locs cells slots Q (F0 m0 (pc + 3) ls (.int (nI (hom key (S m) (P m))) :: rest))) : W p l e R s m0 args below meth c H locs cells slots Q (F0 m0 pc ls (.int key :: .int (nI m) :: .ref (a 0) :: rest)) :=
  hr_V (As := [.int (nI m), .int key]) (v := some (.int (nI (hom key (S m) (P m))))) (C := R_Mod) X (c_Mod_homeOf l D ca a z F K V P B S C N HK HV OF OK OV m hm key hc) (cwV 2 X.2.2.2.2 g_Mod_homeOf rfl rfl rfl (by decide +kernel) ⟨by show 0 + 1 ≤ _; omega, by show 8 + (3 + 11) + 30 * 0 ≤ _; omega⟩) hP hK (va_recv (q0 := 0) (ci := 2) (q := (R_Mod, F_Mod, 14)) hK hP rfl rfl) rfl hsz rfl hrm hf d kk9
theorem km_behind (X : CallFix p m0 c cc nL s args wsA R_Mod) (hK : va_K D mCl (tyM ca) s) (hP : va_P D mCl (wM ca a z F K V P B S C N HK HV OF OK OV) H) (hsz : ls.size = nL) {m x i : Nat} (hm : m < 3) (hc : pw (P m)) (hx9 : x + i < 2 ^ 31) (hrm : (rest.map fun v => v.category).sum ≤ 8) (hf : cells ≤ R.cells ∧ slots ≤ R.slots) (hR : 1 ≤ R.frames ∧ 30 ≤ R.locals) (d : decode cc pc = .ok (.invokevirtual 60, 3)) (kk9 : W p l e R s m0 args below meth c H locs cells slots Q (F0 m0 (pc + 3) ls (.int (nI ((x + i) % P m)) :: rest))) : W p l e R s m0 args below meth c H locs cells slots Q (F0 m0 pc ls (.int (nI i) :: .int (nI x) :: .int (nI m) :: .ref (a 0) :: rest)) :=
  hr_V (As := [.int (nI m), .int (nI x), .int (nI i)]) (v := some (.int (nI ((x + i) % P m)))) (C := R_Mod) X (c_Mod_behind l D ca a z F K V P B S C N HK HV OF OK OV m hm x i hc hx9) (cwV 3 X.2.2.2.2 g_Mod_behind rfl rfl rfl (by decide +kernel) ⟨by show 0 + 1 ≤ _; omega, by show 8 + (4 + 11) + 30 * 0 ≤ _; omega⟩) hP hK (va_recv (q0 := 0) (ci := 2) (q := (R_Mod, F_Mod, 14)) hK hP rfl rfl) rfl hsz rfl hrm hf d kk9
theorem km_behind_n (X : CallFix p m0 c cc nL s args wsA R_Mod) (hK : va_K D mCl (tyM ca) s) (hP : va_P D mCl (wM ca a z F K V P B S C N HK HV OF OK OV) H) (hsz : ls.size = nL) {m f d0 : Nat} (hm : m < 3) (hc : pw (P m)) (hf9 : f < 2 ^ 30) (hd9 : d0 ≤ P m) (hrm : (rest.map fun v => v.category).sum ≤ 8) (hf : cells ≤ R.cells ∧ slots ≤ R.slots) (hR : 1 ≤ R.frames ∧ 30 ≤ R.locals) (d : decode cc pc = .ok (.invokevirtual 60, 3)) (kk9 : W p l e R s m0 args below meth c H locs cells slots Q (F0 m0 (pc + 3) ls (.int (nI ((f + P m - d0) % P m)) :: rest))) : W p l e R s m0 args below meth c H locs cells slots Q (F0 m0 pc ls (.int (-(nI d0)) :: .int (nI f) :: .int (nI m) :: .ref (a 0) :: rest)) :=
  hr_V (As := [.int (nI m), .int (nI f), .int (-(nI d0))]) (v := some (.int (nI ((f + P m - d0) % P m)))) (C := R_Mod) X (c_Mod_behind_n l D ca a z F K V P B S C N HK HV OF OK OV m hm f d0 hc hf9 hd9) (cwV 3 X.2.2.2.2 g_Mod_behind rfl rfl rfl (by decide +kernel) ⟨by show 0 + 1 ≤ _; omega, by show 8 + (4 + 11) + 30 * 0 ≤ _; omega⟩) hP hK (va_recv (q0 := 0) (ci := 2) (q := (R_Mod, F_Mod, 14)) hK hP rfl rfl) rfl hsz rfl hrm hf d kk9
theorem km_placeOf (X : CallFix p m0 c cc nL s args wsA R_Mod) (hK : va_K D mCl (tyM ca) s) (hP : va_P D mCl (wM ca a z F K V P B S C N HK HV OF OK OV) H) (hsz : ls.size = nL) {m : Nat} {key : Int32} (hm : m < 3) (hp9 : P m ≤ 128) (hrm : (rest.map fun v => v.category).sum ≤ 8) (hf : cells ≤ R.cells ∧ slots ≤ R.slots) (hR : 1 ≤ R.frames ∧ 30 ≤ R.locals) (d : decode cc pc = .ok (.invokevirtual 104, 3)) (kk9 : W p l e R s m0 args below meth c H locs cells slots Q (F0 m0 (pc + 3) ls (.int (oI (plF F K (128 * m) key (P m))) :: rest))) : W p l e R s m0 args below meth c H locs cells slots Q (F0 m0 pc ls (.int key :: .int (nI m) :: .ref (a 0) :: rest)) :=
  hr_V (As := [.int (nI m), .int key]) (v := some (.int (oI (plF F K (128 * m) key (P m))))) (C := R_Mod) X (c_Mod_placeOf l D ca a z F K V P B S C N HK HV OF OK OV m hm key hp9) (cwV 2 X.2.2.2.2 g_Mod_placeOf rfl rfl rfl (by decide +kernel) ⟨by show 0 + 1 ≤ _; omega, by show 8 + (5 + 11) + 30 * 0 ≤ _; omega⟩) hP hK (va_recv (q0 := 0) (ci := 2) (q := (R_Mod, F_Mod, 14)) hK hP rfl rfl) rfl hsz rfl hrm hf d kk9
theorem km_sizeOf (X : CallFix p m0 c cc nL s args wsA R_Mod) (hK : va_K D mCl (tyM ca) s) (hP : va_P D mCl (wM ca a z F K V P B S C N HK HV OF OK OV) H) (hsz : ls.size = nL) {m : Nat} (hm : m < 3) (hp9 : P m ≤ 128) (hrm : (rest.map fun v => v.category).sum ≤ 8) (hf : cells ≤ R.cells ∧ slots ≤ R.slots) (hR : 1 ≤ R.frames ∧ 30 ≤ R.locals) (d : decode cc pc = .ok (.invokevirtual 116, 3)) (kk9 : W p l e R s m0 args below meth c H locs cells slots Q (F0 m0 (pc + 3) ls (.int (nI (cnt F (128 * m) (P m))) :: rest))) : W p l e R s m0 args below meth c H locs cells slots Q (F0 m0 pc ls (.int (nI m) :: .ref (a 0) :: rest)) :=
  hr_V (As := [.int (nI m)]) (v := some (.int (nI (cnt F (128 * m) (P m))))) (C := R_Mod) X (c_Mod_sizeOf l D ca a z F K V P B S C N HK HV OF OK OV m hm hp9) (cwV 1 X.2.2.2.2 g_Mod_sizeOf rfl rfl rfl (by decide +kernel) ⟨by show 0 + 1 ≤ _; omega, by show 8 + (4 + 11) + 30 * 0 ≤ _; omega⟩) hP hK (va_recv (q0 := 0) (ci := 2) (q := (R_Mod, F_Mod, 14)) hK hP rfl rfl) rfl hsz rfl hrm hf d kk9
theorem km_within (X : CallFix p m0 c cc nL s args wsA R_Mod) (hK : va_K D mCl tys s) (hsz : ls.size = nL) {x lo hi : Int32} (hrm : (rest.map fun v => v.category).sum ≤ 8) (hf : cells ≤ R.cells ∧ slots ≤ R.slots) (hR : 1 ≤ R.frames ∧ 30 ≤ R.locals) (d : decode cc pc = .ok (.invokestatic 51, 3)) (k : W p l e R s m0 args below meth c H locs cells slots Q (F0 m0 (pc + 3) ls (.int (bI (decide (lo ≤ x ∧ x ≤ hi))) :: rest))) : W p l e R s m0 args below meth c H locs cells slots Q (F0 m0 pc ls (.int hi :: .int lo :: .int x :: rest)) :=
  hr_S (As := [.int x, .int lo, .int hi]) (v := some (.int (bI (decide (lo ≤ x ∧ x ≤ hi))))) X (c_Mod_within l D x lo hi) (cwS 3 X.2.2.2.2 g_Mod_within rfl rfl rfl (by decide +kernel) ⟨by show 0 + 1 ≤ _; omega, by show 8 + (3 + 11) + 30 * 0 ≤ _; omega⟩) (wc := []) (fun k q h => by cases h) (hK.sub [] rfl) rfl hsz rfl hrm hf d k
end MKB
