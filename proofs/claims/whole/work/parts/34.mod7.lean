theorem wn_t {m c : Nat} (h : m < c) (hc : c < 2 ^ 31) : bI (decide ((0 : Int32) ≤ nI m ∧ nI m ≤ nI (c - 1))) = 1 := by
  rw [decide_eq_true ⟨nI_le (a := 0) (b := m) (by omega) (by omega), nI_le (a := m) (b := c - 1) (by omega) (by omega)⟩]
  rfl
theorem le_lt_c {x : Int32} {c : Nat} (h0 : 0 < c) (hc : c < 2 ^ 31) : x ≤ nI (c - 1) ↔ x < nI c := by
  rw [Int32.le_iff_toInt_le, Int32.lt_iff_toInt_lt, nI_toInt hc, nI_toInt (by omega)]
  omega
theorem wn_f {x : Int32} {c : Nat} (h : ¬ (0 ≤ x ∧ x < nI c)) (h0 : 0 < c) (hc : c < 2 ^ 31) : bI (decide ((0 : Int32) ≤ x ∧ x ≤ nI (c - 1))) = 0 := by
  rw [decide_eq_false (fun z => h ⟨z.1, (le_lt_c h0 hc).mp z.2⟩)]
  rfl
theorem bad3 {x : Int32} (h : x < 0 ∨ nI 3 ≤ x) : ¬ (0 ≤ x ∧ x < nI 3) := fun z => by
  rcases h with h | h
  · exact absurd h (Int32.not_lt.mpr z.1)
  · exact absurd z.2 (Int32.not_lt.mpr h)
set_option maxHeartbeats 4000000 in
set_option maxRecDepth 100000 in
/-- isMap -/
theorem c_Mod_isMap (l : Launch) (D : va_G) (ca a : Nat → Nat) (z : Int32) (F : BT) (K V : IT) (P B : Nat → Nat) (S C : IT) (N : Nat) (HK HV : IT) (OF : BT) (OK OV : IT) (m : Nat) (hm : m < 3)  : Met l y_Mod_isMap w_Mod_isMap (rmD 1 0 0) (va_Pc [.ref (a 0), .int (nI m)] (hb_W D mCl (wM ca a z F K V P B S C N HK HV OF OK OV) (tyM ca))) (hq_W (some (.int 1)) D mCl (wM ca a 0 F K V P B S C N HK HV OF OK OV) (hA (wM ca a z F K V P B S C N HK HV OF OK OV))) 0 0 (hA (wM ca a z F K V P B S C N HK HV OF OK OV)) := by
  refine Met.ofW (cc := b_Mod_isMap) (maxL := 2) (ret := some .boolean) (by decide) rfl ?_
  intro p e s m0 args below meth c0 s₁ B0 hml hv
  obtain ⟨rfl, hP, hK, hD0⟩ := hv
  have hx := B0.exec
  have hb := B0.bytes
  have hr := B0.returns
  have hts := atoms_spec (ws := w_Mod_isMap) B0.pre
  have hown : s.vm.findClass R_Mod = some m0.cls := findClass_of_methodNamed B0.named
  have hlocks := B0.notSynchronized
  have hwA : ∀ w ∈ wsA, w.before ([.ref (a 0), .int (nI m)] : List Value).toArray s = true := fun w h => hts w (List.mem_cons_of_mem _ h)
  have X : CallFix p m0 c0 b_Mod_isMap 2 s ([.ref (a 0), .int (nI m)] : List Value).toArray wsA R_Mod := ⟨hx, hb, hml, hown, hwA⟩
  have hD := hA_D hD0
  have hS : va_S (hA (wM ca a z F K V P B S C N HK HV OF OK OV)) s.heap s.heap [] := va_S.rf
  have hl := lv_entry ([.ref (a 0), .int (nI m)]) (n := 2) (Nat.le_of_ble_eq_true rfl)
  rw [lg_entry_eq]
  generalize (lg_sl ([.ref (a 0), .int (nI m)]) ++ List.replicate (2 - (lg_sl ([.ref (a 0), .int (nI m)])).length) Slot.unset).toArray = ls at hl ⊢
  have hl : lv_has ls 2 [(0, .ref (a 0)), (1, .int (nI m))] := hl
  refine lv_aload_n hx hb d_Mod_isMap_0 rfl (lv_at hl 0 rfl) ?_
  refine lv_iload_n hx hb d_Mod_isMap_1 rfl (lv_at hl 1 rfl) ?_
  refine lv_iconst (v := 0) hx hb d_Mod_isMap_2 (by decide) ?_
  refine lv_iconst (v := 2) hx hb d_Mod_isMap_3 (by decide) ?_
  refine km_within X hK hl.1 (x := nI m) (lo := 0) (hi := 2) (Nat.le_of_ble_eq_true rfl) ⟨Nat.zero_le _, Nat.zero_le _⟩ ⟨Nat.le_of_ble_eq_true rfl, Nat.le_of_ble_eq_true rfl⟩ d_Mod_isMap_4 ?_
  refine lv_tope (y := 1) (wn_t (c := 3) hm (by decide)) ?_
  refine lvF_if_eq (tgt := 14) hx hb d_Mod_isMap_7 (by decide) (by decide) ?_
  refine lv_iconst (v := 0) hx hb d_Mod_isMap_10 (by decide) ?_
  refine lv_goto (tgt := 15) hx hb d_Mod_isMap_11 (by decide) ?_
  refine mp_code X hK hP hD hS (x := 0) d_Mod_isMap_15 (fun H locs hP hD hS => ?_)
  refine lv_aload_n hx hb d_Mod_isMap_18 rfl (lv_at hl 0 rfl) ?_
  refine mg_code X hK hP d_Mod_isMap_19 ?_
  refine lvF_if_ne (tgt := 29) hx hb d_Mod_isMap_22 (by decide) (rfl) ?_
  refine lv_iconst (v := 1) hx hb d_Mod_isMap_25 (by decide) ?_
  refine lv_goto (tgt := 30) hx hb d_Mod_isMap_26 (by decide) ?_
  exact W.zret (v := 1) hx hb hr rfl (fun t ht hW => ⟨rfl, by rw [ht]; exact hP, hS.F ht⟩) hS.2.2 d_Mod_isMap_30
set_option maxHeartbeats 4000000 in
set_option maxRecDepth 100000 in
/-- isMap -/
theorem c_Mod_isMap_bad (l : Launch) (D : va_G) (ca a : Nat → Nat) (z : Int32) (F : BT) (K V : IT) (P B : Nat → Nat) (S C : IT) (N : Nat) (HK HV : IT) (OF : BT) (OK OV : IT) (mm : Int32) (hm : mm < 0 ∨ nI 3 ≤ mm)  : Met l y_Mod_isMap w_Mod_isMap (rmD 1 0 0) (va_Pc [.ref (a 0), .int mm] (hb_W D mCl (wM ca a z F K V P B S C N HK HV OF OK OV) (tyM ca))) (hq_W (some (.int 0)) D mCl (wM ca a 1 F K V P B S C N HK HV OF OK OV) (hA (wM ca a z F K V P B S C N HK HV OF OK OV))) 0 0 (hA (wM ca a z F K V P B S C N HK HV OF OK OV)) := by
  refine Met.ofW (cc := b_Mod_isMap) (maxL := 2) (ret := some .boolean) (by decide) rfl ?_
  intro p e s m0 args below meth c0 s₁ B0 hml hv
  obtain ⟨rfl, hP, hK, hD0⟩ := hv
  have hx := B0.exec
  have hb := B0.bytes
  have hr := B0.returns
  have hts := atoms_spec (ws := w_Mod_isMap) B0.pre
  have hown : s.vm.findClass R_Mod = some m0.cls := findClass_of_methodNamed B0.named
  have hlocks := B0.notSynchronized
  have hwA : ∀ w ∈ wsA, w.before ([.ref (a 0), .int mm] : List Value).toArray s = true := fun w h => hts w (List.mem_cons_of_mem _ h)
  have X : CallFix p m0 c0 b_Mod_isMap 2 s ([.ref (a 0), .int mm] : List Value).toArray wsA R_Mod := ⟨hx, hb, hml, hown, hwA⟩
  have hD := hA_D hD0
  have hS : va_S (hA (wM ca a z F K V P B S C N HK HV OF OK OV)) s.heap s.heap [] := va_S.rf
  have hl := lv_entry ([.ref (a 0), .int mm]) (n := 2) (Nat.le_of_ble_eq_true rfl)
  rw [lg_entry_eq]
  generalize (lg_sl ([.ref (a 0), .int mm]) ++ List.replicate (2 - (lg_sl ([.ref (a 0), .int mm])).length) Slot.unset).toArray = ls at hl ⊢
  have hl : lv_has ls 2 [(0, .ref (a 0)), (1, .int mm)] := hl
  refine lv_aload_n hx hb d_Mod_isMap_0 rfl (lv_at hl 0 rfl) ?_
  refine lv_iload_n hx hb d_Mod_isMap_1 rfl (lv_at hl 1 rfl) ?_
  refine lv_iconst (v := 0) hx hb d_Mod_isMap_2 (by decide) ?_
  refine lv_iconst (v := 2) hx hb d_Mod_isMap_3 (by decide) ?_
  refine km_within X hK hl.1 (x := mm) (lo := 0) (hi := 2) (Nat.le_of_ble_eq_true rfl) ⟨Nat.zero_le _, Nat.zero_le _⟩ ⟨Nat.le_of_ble_eq_true rfl, Nat.le_of_ble_eq_true rfl⟩ d_Mod_isMap_4 ?_
  refine lv_tope (y := 0) (wn_f (c := 3) (bad3 hm) (by decide) (by decide)) ?_
  refine lvT_if_eq (tgt := 14) hx hb d_Mod_isMap_7 (by decide) (rfl) ?_
  refine lv_iconst (v := 1) hx hb d_Mod_isMap_14 (by decide) ?_
  refine mp_code X hK hP hD hS (x := 1) d_Mod_isMap_15 (fun H locs hP hD hS => ?_)
  refine lv_aload_n hx hb d_Mod_isMap_18 rfl (lv_at hl 0 rfl) ?_
  refine mg_code X hK hP d_Mod_isMap_19 ?_
  refine lvT_if_ne (tgt := 29) hx hb d_Mod_isMap_22 (by decide) (by decide) ?_
  refine lv_iconst (v := 0) hx hb d_Mod_isMap_29 (by decide) ?_
  exact W.zret (v := 0) hx hb hr rfl (fun t ht hW => ⟨rfl, by rw [ht]; exact hP, hS.F ht⟩) hS.2.2 d_Mod_isMap_30
section MKB
variable {p : Program} {l : Launch} {e : Env} {R : Room} {s : State} {m0 : MethodId} {args : Array Value} {below : List Frame} {meth : Method} {c : Code} {H : Heap} {locs : List Loc} {cells slots : Nat} {Q : State → Prop}
variable {cc : ByteArray} {pc nL : Nat} {ls : Array Slot} {rest st0 : List Value} {D : va_G} {A : Nat → Prop} {H0 : Heap} {tys : List (ClassId × FieldType)} {ca a : Nat → Nat} {z : Int32} {F : BT} {K V : IT} {P B : Nat → Nat} {S C : IT} {N : Nat} {HK HV : IT} {OF : BT} {OK OV : IT}
theorem km_isMap (X : CallFix p m0 c cc nL s args wsA R_Mod) (hK : va_K D mCl (tyM ca) s) (hP : va_P D mCl (wM ca a z F K V P B S C N HK HV OF OK OV) H) (hD : va_D A (wM ca a z F K V P B S C N HK HV OF OK OV)) (hS : va_S A H0 H locs) (hsz : ls.size = nL) {m : Nat} (hm : m < 3) (hrm : (rest.map fun v => v.category).sum ≤ 8) (hf : cells ≤ R.cells ∧ slots ≤ R.slots) (hR : 2 ≤ R.frames ∧ 60 ≤ R.locals) (d : decode cc pc = .ok (.invokevirtual 100, 3)) (kk9 : ∀ (H1 : Heap) (locs1 : List Loc), va_P D mCl (wM ca a 0 F K V P B S C N HK HV OF OK OV) H1 → va_D A (wM ca a 0 F K V P B S C N HK HV OF OK OV) → va_S A H0 H1 locs1 → W p l e R s m0 args below meth c H1 locs1 cells slots Q (F0 m0 (pc + 3) ls (.int 1 :: rest))) : W p l e R s m0 args below meth c H locs cells slots Q (F0 m0 pc ls (.int (nI m) :: .ref (a 0) :: rest)) :=
  hw_V (As := [.int (nI m)]) (v := some (.int 1)) (C := R_Mod) X (c_Mod_isMap l D ca a z F K V P B S C N HK HV OF OK OV m hm) (cwV 1 X.2.2.2.2 g_Mod_isMap rfl rfl rfl (by decide +kernel) ⟨by show 1 + 1 ≤ _; omega, by show 8 + (2 + 11) + 30 * 1 ≤ _; omega⟩) hP hK hD hS wM_a (va_recv (q0 := 0) (ci := 2) (q := (R_Mod, F_Mod, 14)) hK hP rfl rfl) rfl hsz rfl hrm hf d kk9
theorem km_isMap_bad (X : CallFix p m0 c cc nL s args wsA R_Mod) (hK : va_K D mCl (tyM ca) s) (hP : va_P D mCl (wM ca a z F K V P B S C N HK HV OF OK OV) H) (hD : va_D A (wM ca a z F K V P B S C N HK HV OF OK OV)) (hS : va_S A H0 H locs) (hsz : ls.size = nL) {mm : Int32} (hm : mm < 0 ∨ nI 3 ≤ mm) (hrm : (rest.map fun v => v.category).sum ≤ 8) (hf : cells ≤ R.cells ∧ slots ≤ R.slots) (hR : 2 ≤ R.frames ∧ 60 ≤ R.locals) (d : decode cc pc = .ok (.invokevirtual 100, 3)) (kk9 : ∀ (H1 : Heap) (locs1 : List Loc), va_P D mCl (wM ca a 1 F K V P B S C N HK HV OF OK OV) H1 → va_D A (wM ca a 1 F K V P B S C N HK HV OF OK OV) → va_S A H0 H1 locs1 → W p l e R s m0 args below meth c H1 locs1 cells slots Q (F0 m0 (pc + 3) ls (.int 0 :: rest))) : W p l e R s m0 args below meth c H locs cells slots Q (F0 m0 pc ls (.int mm :: .ref (a 0) :: rest)) :=
  hw_V (As := [.int mm]) (v := some (.int 0)) (C := R_Mod) X (c_Mod_isMap_bad l D ca a z F K V P B S C N HK HV OF OK OV mm hm) (cwV 1 X.2.2.2.2 g_Mod_isMap rfl rfl rfl (by decide +kernel) ⟨by show 1 + 1 ≤ _; omega, by show 8 + (2 + 11) + 30 * 1 ≤ _; omega⟩) hP hK hD hS wM_a (va_recv (q0 := 0) (ci := 2) (q := (R_Mod, F_Mod, 14)) hK hP rfl rfl) rfl hsz rfl hrm hf d kk9
end MKB
set_option maxHeartbeats 4000000 in
set_option maxRecDepth 100000 in
/-- find -/
theorem c_Mod_find (l : Launch) (D : va_G) (ca a : Nat → Nat) (z : Int32) (F : BT) (K V : IT) (P B : Nat → Nat) (S C : IT) (N : Nat) (HK HV : IT) (OF : BT) (OK OV : IT) (m : Nat) (hm : m < 3) (hc : pw (P m)) (key : Int32) (k : Nat) (hfd : plF F K (128 * m) key (P m) = some k)  : Met l y_Mod_find w_Mod_find (rmD 2 0 0) (va_Pc [.ref (a 0), .int (nI m), .int key] (hb_W D mCl (wM ca a z F K V P B S C N HK HV OF OK OV) (tyM ca))) (hq_W (some (.int (nI k))) D mCl (wM ca a 0 F K V P B S C N HK HV OF OK OV) (hA (wM ca a z F K V P B S C N HK HV OF OK OV))) 0 0 (hA (wM ca a z F K V P B S C N HK HV OF OK OV)) := by
  refine Met.ofW (cc := b_Mod_find) (maxL := 4) (ret := some .int) (by decide) rfl ?_
  intro p e s m0 args below meth c0 s₁ B0 hml hv
  obtain ⟨rfl, hP, hK, hD0⟩ := hv
  have hx := B0.exec
  have hb := B0.bytes
  have hr := B0.returns
  have hts := atoms_spec (ws := w_Mod_find) B0.pre
  have hown : s.vm.findClass R_Mod = some m0.cls := findClass_of_methodNamed B0.named
  have hlocks := B0.notSynchronized
  have hwA : ∀ w ∈ wsA, w.before ([.ref (a 0), .int (nI m), .int key] : List Value).toArray s = true := fun w h => hts w (List.mem_cons_of_mem _ h)
  have X : CallFix p m0 c0 b_Mod_find 4 s ([.ref (a 0), .int (nI m), .int key] : List Value).toArray wsA R_Mod := ⟨hx, hb, hml, hown, hwA⟩
  have hD := hA_D hD0
  have hS : va_S (hA (wM ca a z F K V P B S C N HK HV OF OK OV)) s.heap s.heap [] := va_S.rf
  have hl := lv_entry ([.ref (a 0), .int (nI m), .int key]) (n := 4) (Nat.le_of_ble_eq_true rfl)
  rw [lg_entry_eq]
  generalize (lg_sl ([.ref (a 0), .int (nI m), .int key]) ++ List.replicate (4 - (lg_sl ([.ref (a 0), .int (nI m), .int key])).length) Slot.unset).toArray = ls at hl ⊢
  have hl : lv_has ls 4 [(0, .ref (a 0)), (1, .int (nI m)), (2, .int key)] := hl
  have hp9 := pw_le hc
  have hkl := plF_lt _ _ hfd
  refine lv_aload_n hx hb d_Mod_find_0 rfl (lv_at hl 0 rfl) ?_
  refine lv_iload_n hx hb d_Mod_find_1 rfl (lv_at hl 1 rfl) ?_
  refine km_isMap X hK hP hD hS hl.1 (m := m) hm (Nat.le_of_ble_eq_true rfl) ⟨Nat.zero_le _, Nat.zero_le _⟩ ⟨Nat.le_of_ble_eq_true rfl, Nat.le_of_ble_eq_true rfl⟩ d_Mod_find_2 (fun H locs hP hD hS => ?_)
  refine lvF_if_eq (tgt := 17) hx hb d_Mod_find_5 (by decide) (by decide) ?_
  refine lv_aload_n hx hb d_Mod_find_8 rfl (lv_at hl 0 rfl) ?_
  refine lv_iload_n hx hb d_Mod_find_9 rfl (lv_at hl 1 rfl) ?_
  refine lv_iload_n hx hb d_Mod_find_10 rfl (lv_at hl 2 rfl) ?_
  refine km_placeOf X hK hP hl.1 (m := m) (key := key) hm hp9 (Nat.le_of_ble_eq_true rfl) ⟨Nat.zero_le _, Nat.zero_le _⟩ ⟨Nat.le_of_ble_eq_true rfl, Nat.le_of_ble_eq_true rfl⟩ d_Mod_find_11 ?_
  refine lv_tope (y := nI k) (by rw [hfd]; rfl) ?_
  refine lv_goto (tgt := 18) hx hb d_Mod_find_14 (by decide) ?_
  refine lv_istore_n (lv' := [(3, .int (nI k)), (0, .ref (a 0)), (1, .int (nI m)), (2, .int key)]) hx hb d_Mod_find_18 rfl hl (by decide) rfl (fun ls hl => ?_)
  refine lv_aload_n hx hb d_Mod_find_19 rfl (lv_at hl 1 rfl) ?_
  refine lv_aload_n hx hb d_Mod_find_20 rfl (lv_at hl 1 rfl) ?_
  refine mg_code X hK hP d_Mod_find_21 ?_
  refine lvF_if_ne (tgt := 36) hx hb d_Mod_find_24 (by decide) (rfl) ?_
  refine lv_iload_n hx hb d_Mod_find_27 rfl (lv_at hl 0 rfl) ?_
  refine lv_iconst (v := -1) hx hb d_Mod_find_28 (by decide) ?_
  refine lvT_icmp_ne (tgt := 36) hx hb d_Mod_find_29 (by decide) (nI_m1 (by omega)) ?_
  refine lv_aload_n hx hb d_Mod_find_36 rfl (lv_at hl 1 rfl) ?_
  refine mg_code X hK hP d_Mod_find_37 ?_
  refine mp_code X hK hP hD hS (x := 0) d_Mod_find_40 (fun H locs hP hD hS => ?_)
  refine lv_iload_n hx hb d_Mod_find_43 rfl (lv_at hl 0 rfl) ?_
  exact W.iret (v := nI k) hx hb hr (fun t ht hW => ⟨rfl, by rw [ht]; exact hP, hS.F ht⟩) hS.2.2 d_Mod_find_44
set_option maxHeartbeats 4000000 in
set_option maxRecDepth 100000 in
/-- find -/
theorem c_Mod_find_no (l : Launch) (D : va_G) (ca a : Nat → Nat) (z : Int32) (F : BT) (K V : IT) (P B : Nat → Nat) (S C : IT) (N : Nat) (HK HV : IT) (OF : BT) (OK OV : IT) (m : Nat) (hm : m < 3) (hc : pw (P m)) (key : Int32) (hfd : plF F K (128 * m) key (P m) = none)  : Met l y_Mod_find w_Mod_find (rmD 2 0 0) (va_Pc [.ref (a 0), .int (nI m), .int key] (hb_W D mCl (wM ca a z F K V P B S C N HK HV OF OK OV) (tyM ca))) (hq_W (some (.int (-1))) D mCl (wM ca a 2 F K V P B S C N HK HV OF OK OV) (hA (wM ca a z F K V P B S C N HK HV OF OK OV))) 0 0 (hA (wM ca a z F K V P B S C N HK HV OF OK OV)) := by
  refine Met.ofW (cc := b_Mod_find) (maxL := 4) (ret := some .int) (by decide) rfl ?_
  intro p e s m0 args below meth c0 s₁ B0 hml hv
  obtain ⟨rfl, hP, hK, hD0⟩ := hv
  have hx := B0.exec
  have hb := B0.bytes
  have hr := B0.returns
  have hts := atoms_spec (ws := w_Mod_find) B0.pre
  have hown : s.vm.findClass R_Mod = some m0.cls := findClass_of_methodNamed B0.named
  have hlocks := B0.notSynchronized
  have hwA : ∀ w ∈ wsA, w.before ([.ref (a 0), .int (nI m), .int key] : List Value).toArray s = true := fun w h => hts w (List.mem_cons_of_mem _ h)
  have X : CallFix p m0 c0 b_Mod_find 4 s ([.ref (a 0), .int (nI m), .int key] : List Value).toArray wsA R_Mod := ⟨hx, hb, hml, hown, hwA⟩
  have hD := hA_D hD0
  have hS : va_S (hA (wM ca a z F K V P B S C N HK HV OF OK OV)) s.heap s.heap [] := va_S.rf
  have hl := lv_entry ([.ref (a 0), .int (nI m), .int key]) (n := 4) (Nat.le_of_ble_eq_true rfl)
  rw [lg_entry_eq]
  generalize (lg_sl ([.ref (a 0), .int (nI m), .int key]) ++ List.replicate (4 - (lg_sl ([.ref (a 0), .int (nI m), .int key])).length) Slot.unset).toArray = ls at hl ⊢
  have hl : lv_has ls 4 [(0, .ref (a 0)), (1, .int (nI m)), (2, .int key)] := hl
  have hp9 := pw_le hc
  refine lv_aload_n hx hb d_Mod_find_0 rfl (lv_at hl 0 rfl) ?_
  refine lv_iload_n hx hb d_Mod_find_1 rfl (lv_at hl 1 rfl) ?_
  refine km_isMap X hK hP hD hS hl.1 (m := m) hm (Nat.le_of_ble_eq_true rfl) ⟨Nat.zero_le _, Nat.zero_le _⟩ ⟨Nat.le_of_ble_eq_true rfl, Nat.le_of_ble_eq_true rfl⟩ d_Mod_find_2 (fun H locs hP hD hS => ?_)
  refine lvF_if_eq (tgt := 17) hx hb d_Mod_find_5 (by decide) (by decide) ?_
  refine lv_aload_n hx hb d_Mod_find_8 rfl (lv_at hl 0 rfl) ?_
  refine lv_iload_n hx hb d_Mod_find_9 rfl (lv_at hl 1 rfl) ?_
  refine lv_iload_n hx hb d_Mod_find_10 rfl (lv_at hl 2 rfl) ?_
  refine km_placeOf X hK hP hl.1 (m := m) (key := key) hm hp9 (Nat.le_of_ble_eq_true rfl) ⟨Nat.zero_le _, Nat.zero_le _⟩ ⟨Nat.le_of_ble_eq_true rfl, Nat.le_of_ble_eq_true rfl⟩ d_Mod_find_11 ?_
  refine lv_tope (y := -1) (by rw [hfd]; rfl) ?_
  refine lv_goto (tgt := 18) hx hb d_Mod_find_14 (by decide) ?_
  refine lv_istore_n (lv' := [(3, .int (-1)), (0, .ref (a 0)), (1, .int (nI m)), (2, .int key)]) hx hb d_Mod_find_18 rfl hl (by decide) rfl (fun ls hl => ?_)
  refine lv_aload_n hx hb d_Mod_find_19 rfl (lv_at hl 1 rfl) ?_
  refine lv_aload_n hx hb d_Mod_find_20 rfl (lv_at hl 1 rfl) ?_
  refine mg_code X hK hP d_Mod_find_21 ?_
  refine lvF_if_ne (tgt := 36) hx hb d_Mod_find_24 (by decide) (rfl) ?_
  refine lv_iload_n hx hb d_Mod_find_27 rfl (lv_at hl 0 rfl) ?_
  refine lv_iconst (v := -1) hx hb d_Mod_find_28 (by decide) ?_
  refine lvF_icmp_ne (tgt := 36) hx hb d_Mod_find_29 (by decide) (rfl) ?_
  refine lv_iconst (v := 2) hx hb d_Mod_find_32 (by decide) ?_
  refine lv_goto (tgt := 40) hx hb d_Mod_find_33 (by decide) ?_
  refine mp_code X hK hP hD hS (x := 2) d_Mod_find_40 (fun H locs hP hD hS => ?_)
  refine lv_iload_n hx hb d_Mod_find_43 rfl (lv_at hl 0 rfl) ?_
  exact W.iret (v := -1) hx hb hr (fun t ht hW => ⟨rfl, by rw [ht]; exact hP, hS.F ht⟩) hS.2.2 d_Mod_find_44
set_option maxHeartbeats 4000000 in
set_option maxRecDepth 100000 in
/-- find -/
theorem c_Mod_find_bad (l : Launch) (D : va_G) (ca a : Nat → Nat) (z : Int32) (F : BT) (K V : IT) (P B : Nat → Nat) (S C : IT) (N : Nat) (HK HV : IT) (OF : BT) (OK OV : IT) (mm : Int32) (hm : mm < 0 ∨ nI 3 ≤ mm) (key : Int32)  : Met l y_Mod_find w_Mod_find (rmD 2 0 0) (va_Pc [.ref (a 0), .int mm, .int key] (hb_W D mCl (wM ca a z F K V P B S C N HK HV OF OK OV) (tyM ca))) (hq_W (some (.int (-1))) D mCl (wM ca a 1 F K V P B S C N HK HV OF OK OV) (hA (wM ca a z F K V P B S C N HK HV OF OK OV))) 0 0 (hA (wM ca a z F K V P B S C N HK HV OF OK OV)) := by
  refine Met.ofW (cc := b_Mod_find) (maxL := 4) (ret := some .int) (by decide) rfl ?_
  intro p e s m0 args below meth c0 s₁ B0 hml hv
  obtain ⟨rfl, hP, hK, hD0⟩ := hv
  have hx := B0.exec
  have hb := B0.bytes
  have hr := B0.returns
  have hts := atoms_spec (ws := w_Mod_find) B0.pre
  have hown : s.vm.findClass R_Mod = some m0.cls := findClass_of_methodNamed B0.named
  have hlocks := B0.notSynchronized
  have hwA : ∀ w ∈ wsA, w.before ([.ref (a 0), .int mm, .int key] : List Value).toArray s = true := fun w h => hts w (List.mem_cons_of_mem _ h)
  have X : CallFix p m0 c0 b_Mod_find 4 s ([.ref (a 0), .int mm, .int key] : List Value).toArray wsA R_Mod := ⟨hx, hb, hml, hown, hwA⟩
  have hD := hA_D hD0
  have hS : va_S (hA (wM ca a z F K V P B S C N HK HV OF OK OV)) s.heap s.heap [] := va_S.rf
  have hl := lv_entry ([.ref (a 0), .int mm, .int key]) (n := 4) (Nat.le_of_ble_eq_true rfl)
  rw [lg_entry_eq]
  generalize (lg_sl ([.ref (a 0), .int mm, .int key]) ++ List.replicate (4 - (lg_sl ([.ref (a 0), .int mm, .int key])).length) Slot.unset).toArray = ls at hl ⊢
  have hl : lv_has ls 4 [(0, .ref (a 0)), (1, .int mm), (2, .int key)] := hl
  refine lv_aload_n hx hb d_Mod_find_0 rfl (lv_at hl 0 rfl) ?_
  refine lv_iload_n hx hb d_Mod_find_1 rfl (lv_at hl 1 rfl) ?_
  refine km_isMap_bad X hK hP hD hS hl.1 (mm := mm) hm (Nat.le_of_ble_eq_true rfl) ⟨Nat.zero_le _, Nat.zero_le _⟩ ⟨Nat.le_of_ble_eq_true rfl, Nat.le_of_ble_eq_true rfl⟩ d_Mod_find_2 (fun H locs hP hD hS => ?_)
  refine lvT_if_eq (tgt := 17) hx hb d_Mod_find_5 (by decide) (rfl) ?_
  refine lv_iconst (v := -1) hx hb d_Mod_find_17 (by decide) ?_
  refine lv_istore_n (lv' := [(3, .int (-1)), (0, .ref (a 0)), (1, .int mm), (2, .int key)]) hx hb d_Mod_find_18 rfl hl (by decide) rfl (fun ls hl => ?_)
  refine lv_aload_n hx hb d_Mod_find_19 rfl (lv_at hl 1 rfl) ?_
  refine lv_aload_n hx hb d_Mod_find_20 rfl (lv_at hl 1 rfl) ?_
  refine mg_code X hK hP d_Mod_find_21 ?_
  refine lvT_if_ne (tgt := 36) hx hb d_Mod_find_24 (by decide) (by decide) ?_
  refine lv_aload_n hx hb d_Mod_find_36 rfl (lv_at hl 1 rfl) ?_
  refine mg_code X hK hP d_Mod_find_37 ?_
  refine mp_code X hK hP hD hS (x := 1) d_Mod_find_40 (fun H locs hP hD hS => ?_)
  refine lv_iload_n hx hb d_Mod_find_43 rfl (lv_at hl 0 rfl) ?_
  exact W.iret (v := -1) hx hb hr (fun t ht hW => ⟨rfl, by rw [ht]; exact hP, hS.F ht⟩) hS.2.2 d_Mod_find_44
section MKB
variable {p : Program} {l : Launch} {e : Env} {R : Room} {s : State} {m0 : MethodId} {args : Array Value} {below : List Frame} {meth : Method} {c : Code} {H : Heap} {locs : List Loc} {cells slots : Nat} {Q : State → Prop}
variable {cc : ByteArray} {pc nL : Nat} {ls : Array Slot} {rest st0 : List Value} {D : va_G} {A : Nat → Prop} {H0 : Heap} {tys : List (ClassId × FieldType)} {ca a : Nat → Nat} {z : Int32} {F : BT} {K V : IT} {P B : Nat → Nat} {S C : IT} {N : Nat} {HK HV : IT} {OF : BT} {OK OV : IT}
theorem km_find (X : CallFix p m0 c cc nL s args wsA R_Mod) (hK : va_K D mCl (tyM ca) s) (hP : va_P D mCl (wM ca a z F K V P B S C N HK HV OF OK OV) H) (hD : va_D A (wM ca a z F K V P B S C N HK HV OF OK OV)) (hS : va_S A H0 H locs) (hsz : ls.size = nL) {m : Nat} (hm : m < 3) (hc : pw (P m)) {key : Int32} {k : Nat} (hfd : plF F K (128 * m) key (P m) = some k)  (hrm : (rest.map fun v => v.category).sum ≤ 8) (hf : cells ≤ R.cells ∧ slots ≤ R.slots) (hR : 3 ≤ R.frames ∧ 90 ≤ R.locals) (d : decode cc pc = .ok (.invokevirtual 113, 3)) (kk9 : ∀ (H1 : Heap) (locs1 : List Loc), va_P D mCl (wM ca a 0 F K V P B S C N HK HV OF OK OV) H1 → va_D A (wM ca a 0 F K V P B S C N HK HV OF OK OV) → va_S A H0 H1 locs1 → W p l e R s m0 args below meth c H1 locs1 cells slots Q (F0 m0 (pc + 3) ls (.int (nI k) :: rest))) : W p l e R s m0 args below meth c H locs cells slots Q (F0 m0 pc ls (.int key :: .int (nI m) :: .ref (a 0) :: rest)) :=
  hw_V (As := [.int (nI m), .int key]) (v := some (.int (nI k))) (C := R_Mod) X (c_Mod_find l D ca a z F K V P B S C N HK HV OF OK OV m hm hc key k hfd) (cwV 2 X.2.2.2.2 g_Mod_find rfl rfl rfl (by decide +kernel) ⟨by show 2 + 1 ≤ _; omega, by show 8 + (4 + 11) + 30 * 2 ≤ _; omega⟩) hP hK hD hS wM_a (va_recv (q0 := 0) (ci := 2) (q := (R_Mod, F_Mod, 14)) hK hP rfl rfl) rfl hsz rfl hrm hf d kk9
theorem km_find_no (X : CallFix p m0 c cc nL s args wsA R_Mod) (hK : va_K D mCl (tyM ca) s) (hP : va_P D mCl (wM ca a z F K V P B S C N HK HV OF OK OV) H) (hD : va_D A (wM ca a z F K V P B S C N HK HV OF OK OV)) (hS : va_S A H0 H locs) (hsz : ls.size = nL) {m : Nat} (hm : m < 3) (hc : pw (P m)) {key : Int32} (hfd : plF F K (128 * m) key (P m) = none)  (hrm : (rest.map fun v => v.category).sum ≤ 8) (hf : cells ≤ R.cells ∧ slots ≤ R.slots) (hR : 3 ≤ R.frames ∧ 90 ≤ R.locals) (d : decode cc pc = .ok (.invokevirtual 113, 3)) (kk9 : ∀ (H1 : Heap) (locs1 : List Loc), va_P D mCl (wM ca a 2 F K V P B S C N HK HV OF OK OV) H1 → va_D A (wM ca a 2 F K V P B S C N HK HV OF OK OV) → va_S A H0 H1 locs1 → W p l e R s m0 args below meth c H1 locs1 cells slots Q (F0 m0 (pc + 3) ls (.int (-1) :: rest))) : W p l e R s m0 args below meth c H locs cells slots Q (F0 m0 pc ls (.int key :: .int (nI m) :: .ref (a 0) :: rest)) :=
  hw_V (As := [.int (nI m), .int key]) (v := some (.int (-1))) (C := R_Mod) X (c_Mod_find_no l D ca a z F K V P B S C N HK HV OF OK OV m hm hc key hfd) (cwV 2 X.2.2.2.2 g_Mod_find rfl rfl rfl (by decide +kernel) ⟨by show 2 + 1 ≤ _; omega, by show 8 + (4 + 11) + 30 * 2 ≤ _; omega⟩) hP hK hD hS wM_a (va_recv (q0 := 0) (ci := 2) (q := (R_Mod, F_Mod, 14)) hK hP rfl rfl) rfl hsz rfl hrm hf d kk9
theorem km_find_bad (X : CallFix p m0 c cc nL s args wsA R_Mod) (hK : va_K D mCl (tyM ca) s) (hP : va_P D mCl (wM ca a z F K V P B S C N HK HV OF OK OV) H) (hD : va_D A (wM ca a z F K V P B S C N HK HV OF OK OV)) (hS : va_S A H0 H locs) (hsz : ls.size = nL) {mm : Int32} (hm : mm < 0 ∨ nI 3 ≤ mm) {key : Int32}  (hrm : (rest.map fun v => v.category).sum ≤ 8) (hf : cells ≤ R.cells ∧ slots ≤ R.slots) (hR : 3 ≤ R.frames ∧ 90 ≤ R.locals) (d : decode cc pc = .ok (.invokevirtual 113, 3)) (kk9 : ∀ (H1 : Heap) (locs1 : List Loc), va_P D mCl (wM ca a 1 F K V P B S C N HK HV OF OK OV) H1 → va_D A (wM ca a 1 F K V P B S C N HK HV OF OK OV) → va_S A H0 H1 locs1 → W p l e R s m0 args below meth c H1 locs1 cells slots Q (F0 m0 (pc + 3) ls (.int (-1) :: rest))) : W p l e R s m0 args below meth c H locs cells slots Q (F0 m0 pc ls (.int key :: .int mm :: .ref (a 0) :: rest)) :=
  hw_V (As := [.int mm, .int key]) (v := some (.int (-1))) (C := R_Mod) X (c_Mod_find_bad l D ca a z F K V P B S C N HK HV OF OK OV mm hm key) (cwV 2 X.2.2.2.2 g_Mod_find rfl rfl rfl (by decide +kernel) ⟨by show 2 + 1 ≤ _; omega, by show 8 + (4 + 11) + 30 * 2 ≤ _; omega⟩) hP hK hD hS wM_a (va_recv (q0 := 0) (ci := 2) (q := (R_Mod, F_Mod, 14)) hK hP rfl rfl) rfl hsz rfl hrm hf d kk9
end MKB
set_option maxHeartbeats 4000000 in
set_option maxRecDepth 100000 in
/-- get -/
theorem c_Mod_get (l : Launch) (D : va_G) (ca a : Nat → Nat) (z : Int32) (F : BT) (K V : IT) (P B : Nat → Nat) (S C : IT) (N : Nat) (HK HV : IT) (OF : BT) (OK OV : IT) (m : Nat) (hm : m < 3) (hc : pw (P m)) (key : Int32) (k : Nat) (hfd : plF F K (128 * m) key (P m) = some k)  : Met l y_Mod_get w_Mod_get (rmD 3 0 0) (va_Pc [.ref (a 0), .int (nI m), .int key] (hb_W D mCl (wM ca a z F K V P B S C N HK HV OF OK OV) (tyM ca))) (hq_W (some (.int (V (128 * m + k)))) D mCl (wM ca a 0 F K V P B S C N HK HV OF OK OV) (hA (wM ca a z F K V P B S C N HK HV OF OK OV))) 0 0 (hA (wM ca a z F K V P B S C N HK HV OF OK OV)) := by
  refine Met.ofW (cc := b_Mod_get) (maxL := 4) (ret := some .int) (by decide) rfl ?_
  intro p e s m0 args below meth c0 s₁ B0 hml hv
  obtain ⟨rfl, hP, hK, hD0⟩ := hv
  have hx := B0.exec
  have hb := B0.bytes
  have hr := B0.returns
  have hts := atoms_spec (ws := w_Mod_get) B0.pre
  have hown : s.vm.findClass R_Mod = some m0.cls := findClass_of_methodNamed B0.named
  have hlocks := B0.notSynchronized
  have hwA : ∀ w ∈ wsA, w.before ([.ref (a 0), .int (nI m), .int key] : List Value).toArray s = true := fun w h => hts w (List.mem_cons_of_mem _ h)
  have X : CallFix p m0 c0 b_Mod_get 4 s ([.ref (a 0), .int (nI m), .int key] : List Value).toArray wsA R_Mod := ⟨hx, hb, hml, hown, hwA⟩
  have hD := hA_D hD0
  have hS : va_S (hA (wM ca a z F K V P B S C N HK HV OF OK OV)) s.heap s.heap [] := va_S.rf
  have hl := lv_entry ([.ref (a 0), .int (nI m), .int key]) (n := 4) (Nat.le_of_ble_eq_true rfl)
  rw [lg_entry_eq]
  generalize (lg_sl ([.ref (a 0), .int (nI m), .int key]) ++ List.replicate (4 - (lg_sl ([.ref (a 0), .int (nI m), .int key])).length) Slot.unset).toArray = ls at hl ⊢
  have hl : lv_has ls 4 [(0, .ref (a 0)), (1, .int (nI m)), (2, .int key)] := hl
  have hp9 := pw_le hc
  have hkl := plF_lt _ _ hfd
  refine lv_aload_n hx hb d_Mod_get_0 rfl (lv_at hl 0 rfl) ?_
  refine lv_iload_n hx hb d_Mod_get_1 rfl (lv_at hl 1 rfl) ?_
  refine lv_iload_n hx hb d_Mod_get_2 rfl (lv_at hl 2 rfl) ?_
  refine km_find X hK hP hD hS hl.1 (m := m) (key := key) (k := k) hm hc hfd (Nat.le_of_ble_eq_true rfl) ⟨Nat.zero_le _, Nat.zero_le _⟩ ⟨Nat.le_of_ble_eq_true rfl, Nat.le_of_ble_eq_true rfl⟩ d_Mod_get_3 (fun H locs hP hD hS => ?_)
  refine lv_istore_n (lv' := [(3, .int (nI k)), (0, .ref (a 0)), (1, .int (nI m)), (2, .int key)]) hx hb d_Mod_get_6 rfl hl (by decide) rfl (fun ls hl => ?_)
  refine lv_iload_n hx hb d_Mod_get_7 rfl (lv_at hl 0 rfl) ?_
  refine lv_iconst (v := -1) hx hb d_Mod_get_8 (by decide) ?_
  refine lvT_icmp_ne (tgt := 16) hx hb d_Mod_get_9 (by decide) (nI_m1 (by omega)) ?_
  refine lv_aload_n hx hb d_Mod_get_16 rfl (lv_at hl 1 rfl) ?_
  refine mg_values X hK hP d_Mod_get_17 ?_
  refine lv_sipush (v := 128) hx hb d_Mod_get_20 (by decide) ?_
  refine lv_iload_n hx hb d_Mod_get_23 rfl (lv_at hl 2 rfl) ?_
  refine lv_imul hx hb d_Mod_get_24 ?_
  refine lv_tope (y := nI (128 * m)) (pk_mul (128) (m)) ?_
  refine lv_iload_n hx hb d_Mod_get_25 rfl (lv_at hl 0 rfl) ?_
  refine lv_iadd hx hb d_Mod_get_26 ?_
  refine lv_tope (y := nI (128 * m + k)) (nI_add (128 * m) (k)) ?_
  refine ml_V X hK hP (i := 128 * m + k) (by omega) d_Mod_get_27 ?_
  exact W.iret (v := V (128 * m + k)) hx hb hr (fun t ht hW => ⟨rfl, by rw [ht]; exact hP, hS.F ht⟩) hS.2.2 d_Mod_get_28
set_option maxHeartbeats 4000000 in
set_option maxRecDepth 100000 in
/-- get -/
theorem c_Mod_get_no (l : Launch) (D : va_G) (ca a : Nat → Nat) (z : Int32) (F : BT) (K V : IT) (P B : Nat → Nat) (S C : IT) (N : Nat) (HK HV : IT) (OF : BT) (OK OV : IT) (m : Nat) (hm : m < 3) (hc : pw (P m)) (key : Int32) (hfd : plF F K (128 * m) key (P m) = none)  : Met l y_Mod_get w_Mod_get (rmD 3 0 0) (va_Pc [.ref (a 0), .int (nI m), .int key] (hb_W D mCl (wM ca a z F K V P B S C N HK HV OF OK OV) (tyM ca))) (hq_W (some (.int 0)) D mCl (wM ca a 2 F K V P B S C N HK HV OF OK OV) (hA (wM ca a z F K V P B S C N HK HV OF OK OV))) 0 0 (hA (wM ca a z F K V P B S C N HK HV OF OK OV)) := by
  refine Met.ofW (cc := b_Mod_get) (maxL := 4) (ret := some .int) (by decide) rfl ?_
  intro p e s m0 args below meth c0 s₁ B0 hml hv
  obtain ⟨rfl, hP, hK, hD0⟩ := hv
  have hx := B0.exec
  have hb := B0.bytes
  have hr := B0.returns
  have hts := atoms_spec (ws := w_Mod_get) B0.pre
  have hown : s.vm.findClass R_Mod = some m0.cls := findClass_of_methodNamed B0.named
  have hlocks := B0.notSynchronized
  have hwA : ∀ w ∈ wsA, w.before ([.ref (a 0), .int (nI m), .int key] : List Value).toArray s = true := fun w h => hts w (List.mem_cons_of_mem _ h)
  have X : CallFix p m0 c0 b_Mod_get 4 s ([.ref (a 0), .int (nI m), .int key] : List Value).toArray wsA R_Mod := ⟨hx, hb, hml, hown, hwA⟩
  have hD := hA_D hD0
  have hS : va_S (hA (wM ca a z F K V P B S C N HK HV OF OK OV)) s.heap s.heap [] := va_S.rf
  have hl := lv_entry ([.ref (a 0), .int (nI m), .int key]) (n := 4) (Nat.le_of_ble_eq_true rfl)
  rw [lg_entry_eq]
  generalize (lg_sl ([.ref (a 0), .int (nI m), .int key]) ++ List.replicate (4 - (lg_sl ([.ref (a 0), .int (nI m), .int key])).length) Slot.unset).toArray = ls at hl ⊢
  have hl : lv_has ls 4 [(0, .ref (a 0)), (1, .int (nI m)), (2, .int key)] := hl
  refine lv_aload_n hx hb d_Mod_get_0 rfl (lv_at hl 0 rfl) ?_
  refine lv_iload_n hx hb d_Mod_get_1 rfl (lv_at hl 1 rfl) ?_
  refine lv_iload_n hx hb d_Mod_get_2 rfl (lv_at hl 2 rfl) ?_
  refine km_find_no X hK hP hD hS hl.1 (m := m) (key := key) hm hc hfd (Nat.le_of_ble_eq_true rfl) ⟨Nat.zero_le _, Nat.zero_le _⟩ ⟨Nat.le_of_ble_eq_true rfl, Nat.le_of_ble_eq_true rfl⟩ d_Mod_get_3 (fun H locs hP hD hS => ?_)
  refine lv_istore_n (lv' := [(3, .int (-1)), (0, .ref (a 0)), (1, .int (nI m)), (2, .int key)]) hx hb d_Mod_get_6 rfl hl (by decide) rfl (fun ls hl => ?_)
  refine lv_iload_n hx hb d_Mod_get_7 rfl (lv_at hl 0 rfl) ?_
  refine lv_iconst (v := -1) hx hb d_Mod_get_8 (by decide) ?_
  refine lvF_icmp_ne (tgt := 16) hx hb d_Mod_get_9 (by decide) (rfl) ?_
  refine lv_iconst (v := 0) hx hb d_Mod_get_12 (by decide) ?_
  refine lv_goto (tgt := 28) hx hb d_Mod_get_13 (by decide) ?_
  exact W.iret (v := 0) hx hb hr (fun t ht hW => ⟨rfl, by rw [ht]; exact hP, hS.F ht⟩) hS.2.2 d_Mod_get_28
set_option maxHeartbeats 4000000 in
set_option maxRecDepth 100000 in
/-- get -/
theorem c_Mod_get_bad (l : Launch) (D : va_G) (ca a : Nat → Nat) (z : Int32) (F : BT) (K V : IT) (P B : Nat → Nat) (S C : IT) (N : Nat) (HK HV : IT) (OF : BT) (OK OV : IT) (mm : Int32) (hm : mm < 0 ∨ nI 3 ≤ mm) (key : Int32)  : Met l y_Mod_get w_Mod_get (rmD 3 0 0) (va_Pc [.ref (a 0), .int mm, .int key] (hb_W D mCl (wM ca a z F K V P B S C N HK HV OF OK OV) (tyM ca))) (hq_W (some (.int 0)) D mCl (wM ca a 1 F K V P B S C N HK HV OF OK OV) (hA (wM ca a z F K V P B S C N HK HV OF OK OV))) 0 0 (hA (wM ca a z F K V P B S C N HK HV OF OK OV)) := by
  refine Met.ofW (cc := b_Mod_get) (maxL := 4) (ret := some .int) (by decide) rfl ?_
  intro p e s m0 args below meth c0 s₁ B0 hml hv
  obtain ⟨rfl, hP, hK, hD0⟩ := hv
  have hx := B0.exec
  have hb := B0.bytes
  have hr := B0.returns
  have hts := atoms_spec (ws := w_Mod_get) B0.pre
  have hown : s.vm.findClass R_Mod = some m0.cls := findClass_of_methodNamed B0.named
  have hlocks := B0.notSynchronized
  have hwA : ∀ w ∈ wsA, w.before ([.ref (a 0), .int mm, .int key] : List Value).toArray s = true := fun w h => hts w (List.mem_cons_of_mem _ h)
  have X : CallFix p m0 c0 b_Mod_get 4 s ([.ref (a 0), .int mm, .int key] : List Value).toArray wsA R_Mod := ⟨hx, hb, hml, hown, hwA⟩
  have hD := hA_D hD0
  have hS : va_S (hA (wM ca a z F K V P B S C N HK HV OF OK OV)) s.heap s.heap [] := va_S.rf
  have hl := lv_entry ([.ref (a 0), .int mm, .int key]) (n := 4) (Nat.le_of_ble_eq_true rfl)
  rw [lg_entry_eq]
  generalize (lg_sl ([.ref (a 0), .int mm, .int key]) ++ List.replicate (4 - (lg_sl ([.ref (a 0), .int mm, .int key])).length) Slot.unset).toArray = ls at hl ⊢
  have hl : lv_has ls 4 [(0, .ref (a 0)), (1, .int mm), (2, .int key)] := hl
  refine lv_aload_n hx hb d_Mod_get_0 rfl (lv_at hl 0 rfl) ?_
  refine lv_iload_n hx hb d_Mod_get_1 rfl (lv_at hl 1 rfl) ?_
  refine lv_iload_n hx hb d_Mod_get_2 rfl (lv_at hl 2 rfl) ?_
  refine km_find_bad X hK hP hD hS hl.1 (mm := mm) (key := key) hm (Nat.le_of_ble_eq_true rfl) ⟨Nat.zero_le _, Nat.zero_le _⟩ ⟨Nat.le_of_ble_eq_true rfl, Nat.le_of_ble_eq_true rfl⟩ d_Mod_get_3 (fun H locs hP hD hS => ?_)
  refine lv_istore_n (lv' := [(3, .int (-1)), (0, .ref (a 0)), (1, .int mm), (2, .int key)]) hx hb d_Mod_get_6 rfl hl (by decide) rfl (fun ls hl => ?_)
  refine lv_iload_n hx hb d_Mod_get_7 rfl (lv_at hl 0 rfl) ?_
  refine lv_iconst (v := -1) hx hb d_Mod_get_8 (by decide) ?_
  refine lvF_icmp_ne (tgt := 16) hx hb d_Mod_get_9 (by decide) (rfl) ?_
  refine lv_iconst (v := 0) hx hb d_Mod_get_12 (by decide) ?_
  refine lv_goto (tgt := 28) hx hb d_Mod_get_13 (by decide) ?_
  exact W.iret (v := 0) hx hb hr (fun t ht hW => ⟨rfl, by rw [ht]; exact hP, hS.F ht⟩) hS.2.2 d_Mod_get_28
set_option maxHeartbeats 4000000 in
set_option maxRecDepth 100000 in
/-- remove -/
theorem c_Mod_remove (l : Launch) (D : va_G) (ca a : Nat → Nat) (z : Int32) (F : BT) (K V : IT) (P B : Nat → Nat) (S C : IT) (N : Nat) (HK HV : IT) (OF : BT) (OK OV : IT) (m : Nat) (hm : m < 3) (hc : pw (P m)) (key : Int32) (k : Nat) (hfd : plF F K (128 * m) key (P m) = some k)  : Met l y_Mod_remove w_Mod_remove (rmD 3 0 0) (va_Pc [.ref (a 0), .int (nI m), .int key] (hb_W D mCl (wM ca a z F K V P B S C N HK HV OF OK OV) (tyM ca))) (hq_W (some (.int (V (128 * m + k)))) D mCl (wM ca a 0 (va_up F (128 * m + k) false) K V P B S C N HK HV OF OK OV) (hA (wM ca a z F K V P B S C N HK HV OF OK OV))) 0 0 (hA (wM ca a z F K V P B S C N HK HV OF OK OV)) := by
  refine Met.ofW (cc := b_Mod_remove) (maxL := 4) (ret := some .int) (by decide) rfl ?_
  intro p e s m0 args below meth c0 s₁ B0 hml hv
  obtain ⟨rfl, hP, hK, hD0⟩ := hv
  have hx := B0.exec
  have hb := B0.bytes
  have hr := B0.returns
  have hts := atoms_spec (ws := w_Mod_remove) B0.pre
  have hown : s.vm.findClass R_Mod = some m0.cls := findClass_of_methodNamed B0.named
  have hlocks := B0.notSynchronized
  have hwA : ∀ w ∈ wsA, w.before ([.ref (a 0), .int (nI m), .int key] : List Value).toArray s = true := fun w h => hts w (List.mem_cons_of_mem _ h)
  have X : CallFix p m0 c0 b_Mod_remove 4 s ([.ref (a 0), .int (nI m), .int key] : List Value).toArray wsA R_Mod := ⟨hx, hb, hml, hown, hwA⟩
  have hD := hA_D hD0
  have hS : va_S (hA (wM ca a z F K V P B S C N HK HV OF OK OV)) s.heap s.heap [] := va_S.rf
  have hl := lv_entry ([.ref (a 0), .int (nI m), .int key]) (n := 4) (Nat.le_of_ble_eq_true rfl)
  rw [lg_entry_eq]
  generalize (lg_sl ([.ref (a 0), .int (nI m), .int key]) ++ List.replicate (4 - (lg_sl ([.ref (a 0), .int (nI m), .int key])).length) Slot.unset).toArray = ls at hl ⊢
  have hl : lv_has ls 4 [(0, .ref (a 0)), (1, .int (nI m)), (2, .int key)] := hl
  have hp9 := pw_le hc
  have hkl := plF_lt _ _ hfd
  refine lv_aload_n hx hb d_Mod_remove_0 rfl (lv_at hl 0 rfl) ?_
  refine lv_iload_n hx hb d_Mod_remove_1 rfl (lv_at hl 1 rfl) ?_
  refine lv_iload_n hx hb d_Mod_remove_2 rfl (lv_at hl 2 rfl) ?_
  refine km_find X hK hP hD hS hl.1 (m := m) (key := key) (k := k) hm hc hfd (Nat.le_of_ble_eq_true rfl) ⟨Nat.zero_le _, Nat.zero_le _⟩ ⟨Nat.le_of_ble_eq_true rfl, Nat.le_of_ble_eq_true rfl⟩ d_Mod_remove_3 (fun H locs hP hD hS => ?_)
  refine lv_istore_n (lv' := [(3, .int (nI k)), (0, .ref (a 0)), (1, .int (nI m)), (2, .int key)]) hx hb d_Mod_remove_6 rfl hl (by decide) rfl (fun ls hl => ?_)
  refine lv_iload_n hx hb d_Mod_remove_7 rfl (lv_at hl 0 rfl) ?_
  refine lv_iconst (v := -1) hx hb d_Mod_remove_8 (by decide) ?_
  refine lvT_icmp_ne (tgt := 14) hx hb d_Mod_remove_9 (by decide) (nI_m1 (by omega)) ?_
  refine lv_aload_n hx hb d_Mod_remove_14 rfl (lv_at hl 1 rfl) ?_
  refine mg_full X hK hP d_Mod_remove_15 ?_
  refine lv_sipush (v := 128) hx hb d_Mod_remove_18 (by decide) ?_
  refine lv_iload_n hx hb d_Mod_remove_21 rfl (lv_at hl 2 rfl) ?_
  refine lv_imul hx hb d_Mod_remove_22 ?_
  refine lv_tope (y := nI (128 * m)) (pk_mul (128) (m)) ?_
  refine lv_iload_n hx hb d_Mod_remove_23 rfl (lv_at hl 0 rfl) ?_
  refine lv_iadd hx hb d_Mod_remove_24 ?_
  refine lv_tope (y := nI (128 * m + k)) (nI_add (128 * m) (k)) ?_
  refine lv_iconst (v := 0) hx hb d_Mod_remove_25 (by decide) ?_
  refine ms_F X hK hP hD hS (i := 128 * m + k) (x := false) (by omega) d_Mod_remove_26 (fun H locs hP hD hS => ?_)
  refine lv_aload_n hx hb d_Mod_remove_27 rfl (lv_at hl 1 rfl) ?_
  refine mg_values X hK hP d_Mod_remove_28 ?_
  refine lv_sipush (v := 128) hx hb d_Mod_remove_31 (by decide) ?_
  refine lv_iload_n hx hb d_Mod_remove_34 rfl (lv_at hl 2 rfl) ?_
  refine lv_imul hx hb d_Mod_remove_35 ?_
  refine lv_tope (y := nI (128 * m)) (pk_mul (128) (m)) ?_
  refine lv_iload_n hx hb d_Mod_remove_36 rfl (lv_at hl 0 rfl) ?_
  refine lv_iadd hx hb d_Mod_remove_37 ?_
  refine lv_tope (y := nI (128 * m + k)) (nI_add (128 * m) (k)) ?_
  refine ml_V X hK hP (i := 128 * m + k) (by omega) d_Mod_remove_38 ?_
  exact W.iret (v := V (128 * m + k)) hx hb hr (fun t ht hW => ⟨rfl, by rw [ht]; exact hP, hS.F ht⟩) hS.2.2 d_Mod_remove_39
set_option maxHeartbeats 4000000 in
set_option maxRecDepth 100000 in
/-- remove -/
theorem c_Mod_remove_no (l : Launch) (D : va_G) (ca a : Nat → Nat) (z : Int32) (F : BT) (K V : IT) (P B : Nat → Nat) (S C : IT) (N : Nat) (HK HV : IT) (OF : BT) (OK OV : IT) (m : Nat) (hm : m < 3) (hc : pw (P m)) (key : Int32) (hfd : plF F K (128 * m) key (P m) = none)  : Met l y_Mod_remove w_Mod_remove (rmD 3 0 0) (va_Pc [.ref (a 0), .int (nI m), .int key] (hb_W D mCl (wM ca a z F K V P B S C N HK HV OF OK OV) (tyM ca))) (hq_W (some (.int 0)) D mCl (wM ca a 2 F K V P B S C N HK HV OF OK OV) (hA (wM ca a z F K V P B S C N HK HV OF OK OV))) 0 0 (hA (wM ca a z F K V P B S C N HK HV OF OK OV)) := by
  refine Met.ofW (cc := b_Mod_remove) (maxL := 4) (ret := some .int) (by decide) rfl ?_
  intro p e s m0 args below meth c0 s₁ B0 hml hv
  obtain ⟨rfl, hP, hK, hD0⟩ := hv
  have hx := B0.exec
  have hb := B0.bytes
  have hr := B0.returns
  have hts := atoms_spec (ws := w_Mod_remove) B0.pre
  have hown : s.vm.findClass R_Mod = some m0.cls := findClass_of_methodNamed B0.named
  have hlocks := B0.notSynchronized
  have hwA : ∀ w ∈ wsA, w.before ([.ref (a 0), .int (nI m), .int key] : List Value).toArray s = true := fun w h => hts w (List.mem_cons_of_mem _ h)
  have X : CallFix p m0 c0 b_Mod_remove 4 s ([.ref (a 0), .int (nI m), .int key] : List Value).toArray wsA R_Mod := ⟨hx, hb, hml, hown, hwA⟩
  have hD := hA_D hD0
  have hS : va_S (hA (wM ca a z F K V P B S C N HK HV OF OK OV)) s.heap s.heap [] := va_S.rf
  have hl := lv_entry ([.ref (a 0), .int (nI m), .int key]) (n := 4) (Nat.le_of_ble_eq_true rfl)
  rw [lg_entry_eq]
  generalize (lg_sl ([.ref (a 0), .int (nI m), .int key]) ++ List.replicate (4 - (lg_sl ([.ref (a 0), .int (nI m), .int key])).length) Slot.unset).toArray = ls at hl ⊢
  have hl : lv_has ls 4 [(0, .ref (a 0)), (1, .int (nI m)), (2, .int key)] := hl
  refine lv_aload_n hx hb d_Mod_remove_0 rfl (lv_at hl 0 rfl) ?_
  refine lv_iload_n hx hb d_Mod_remove_1 rfl (lv_at hl 1 rfl) ?_
  refine lv_iload_n hx hb d_Mod_remove_2 rfl (lv_at hl 2 rfl) ?_
  refine km_find_no X hK hP hD hS hl.1 (m := m) (key := key) hm hc hfd (Nat.le_of_ble_eq_true rfl) ⟨Nat.zero_le _, Nat.zero_le _⟩ ⟨Nat.le_of_ble_eq_true rfl, Nat.le_of_ble_eq_true rfl⟩ d_Mod_remove_3 (fun H locs hP hD hS => ?_)
  refine lv_istore_n (lv' := [(3, .int (-1)), (0, .ref (a 0)), (1, .int (nI m)), (2, .int key)]) hx hb d_Mod_remove_6 rfl hl (by decide) rfl (fun ls hl => ?_)
  refine lv_iload_n hx hb d_Mod_remove_7 rfl (lv_at hl 0 rfl) ?_
  refine lv_iconst (v := -1) hx hb d_Mod_remove_8 (by decide) ?_
  refine lvF_icmp_ne (tgt := 14) hx hb d_Mod_remove_9 (by decide) (rfl) ?_
  refine lv_iconst (v := 0) hx hb d_Mod_remove_12 (by decide) ?_
  exact W.iret (v := 0) hx hb hr (fun t ht hW => ⟨rfl, by rw [ht]; exact hP, hS.F ht⟩) hS.2.2 d_Mod_remove_13
set_option maxHeartbeats 4000000 in
set_option maxRecDepth 100000 in
/-- remove -/
theorem c_Mod_remove_bad (l : Launch) (D : va_G) (ca a : Nat → Nat) (z : Int32) (F : BT) (K V : IT) (P B : Nat → Nat) (S C : IT) (N : Nat) (HK HV : IT) (OF : BT) (OK OV : IT) (mm : Int32) (hm : mm < 0 ∨ nI 3 ≤ mm) (key : Int32)  : Met l y_Mod_remove w_Mod_remove (rmD 3 0 0) (va_Pc [.ref (a 0), .int mm, .int key] (hb_W D mCl (wM ca a z F K V P B S C N HK HV OF OK OV) (tyM ca))) (hq_W (some (.int 0)) D mCl (wM ca a 1 F K V P B S C N HK HV OF OK OV) (hA (wM ca a z F K V P B S C N HK HV OF OK OV))) 0 0 (hA (wM ca a z F K V P B S C N HK HV OF OK OV)) := by
  refine Met.ofW (cc := b_Mod_remove) (maxL := 4) (ret := some .int) (by decide) rfl ?_
  intro p e s m0 args below meth c0 s₁ B0 hml hv
  obtain ⟨rfl, hP, hK, hD0⟩ := hv
  have hx := B0.exec
  have hb := B0.bytes
  have hr := B0.returns
  have hts := atoms_spec (ws := w_Mod_remove) B0.pre
  have hown : s.vm.findClass R_Mod = some m0.cls := findClass_of_methodNamed B0.named
  have hlocks := B0.notSynchronized
  have hwA : ∀ w ∈ wsA, w.before ([.ref (a 0), .int mm, .int key] : List Value).toArray s = true := fun w h => hts w (List.mem_cons_of_mem _ h)
  have X : CallFix p m0 c0 b_Mod_remove 4 s ([.ref (a 0), .int mm, .int key] : List Value).toArray wsA R_Mod := ⟨hx, hb, hml, hown, hwA⟩
  have hD := hA_D hD0
  have hS : va_S (hA (wM ca a z F K V P B S C N HK HV OF OK OV)) s.heap s.heap [] := va_S.rf
  have hl := lv_entry ([.ref (a 0), .int mm, .int key]) (n := 4) (Nat.le_of_ble_eq_true rfl)
  rw [lg_entry_eq]
  generalize (lg_sl ([.ref (a 0), .int mm, .int key]) ++ List.replicate (4 - (lg_sl ([.ref (a 0), .int mm, .int key])).length) Slot.unset).toArray = ls at hl ⊢
  have hl : lv_has ls 4 [(0, .ref (a 0)), (1, .int mm), (2, .int key)] := hl
  refine lv_aload_n hx hb d_Mod_remove_0 rfl (lv_at hl 0 rfl) ?_
  refine lv_iload_n hx hb d_Mod_remove_1 rfl (lv_at hl 1 rfl) ?_
  refine lv_iload_n hx hb d_Mod_remove_2 rfl (lv_at hl 2 rfl) ?_
  refine km_find_bad X hK hP hD hS hl.1 (mm := mm) (key := key) hm (Nat.le_of_ble_eq_true rfl) ⟨Nat.zero_le _, Nat.zero_le _⟩ ⟨Nat.le_of_ble_eq_true rfl, Nat.le_of_ble_eq_true rfl⟩ d_Mod_remove_3 (fun H locs hP hD hS => ?_)
  refine lv_istore_n (lv' := [(3, .int (-1)), (0, .ref (a 0)), (1, .int mm), (2, .int key)]) hx hb d_Mod_remove_6 rfl hl (by decide) rfl (fun ls hl => ?_)
  refine lv_iload_n hx hb d_Mod_remove_7 rfl (lv_at hl 0 rfl) ?_
  refine lv_iconst (v := -1) hx hb d_Mod_remove_8 (by decide) ?_
  refine lvF_icmp_ne (tgt := 14) hx hb d_Mod_remove_9 (by decide) (rfl) ?_
  refine lv_iconst (v := 0) hx hb d_Mod_remove_12 (by decide) ?_
  exact W.iret (v := 0) hx hb hr (fun t ht hW => ⟨rfl, by rw [ht]; exact hP, hS.F ht⟩) hS.2.2 d_Mod_remove_13
set_option maxHeartbeats 4000000 in
set_option maxRecDepth 100000 in
/-- distance -/
theorem c_Mod_distance (l : Launch) (D : va_G) (ca a : Nat → Nat) (z : Int32) (F : BT) (K V : IT) (P B : Nat → Nat) (S C : IT) (N : Nat) (HK HV : IT) (OF : BT) (OK OV : IT) (m : Nat) (hm : m < 3) (hc : pw (P m)) (key : Int32) (k : Nat) (hfd : plF F K (128 * m) key (P m) = some k)  : Met l y_Mod_distance w_Mod_distance (rmD 3 0 0) (va_Pc [.ref (a 0), .int (nI m), .int key] (hb_W D mCl (wM ca a z F K V P B S C N HK HV OF OK OV) (tyM ca))) (hq_W (some (.int (nI ((k + P m - hom (K (128 * m + k)) (S m) (P m)) % P m)))) D mCl (wM ca a 0 F K V P B S C N HK HV OF OK OV) (hA (wM ca a z F K V P B S C N HK HV OF OK OV))) 0 0 (hA (wM ca a z F K V P B S C N HK HV OF OK OV)) := by
  refine Met.ofW (cc := b_Mod_distance) (maxL := 4) (ret := some .int) (by decide) rfl ?_
  intro p e s m0 args below meth c0 s₁ B0 hml hv
  obtain ⟨rfl, hP, hK, hD0⟩ := hv
  have hx := B0.exec
  have hb := B0.bytes
  have hr := B0.returns
  have hts := atoms_spec (ws := w_Mod_distance) B0.pre
  have hown : s.vm.findClass R_Mod = some m0.cls := findClass_of_methodNamed B0.named
  have hlocks := B0.notSynchronized
  have hwA : ∀ w ∈ wsA, w.before ([.ref (a 0), .int (nI m), .int key] : List Value).toArray s = true := fun w h => hts w (List.mem_cons_of_mem _ h)
  have X : CallFix p m0 c0 b_Mod_distance 4 s ([.ref (a 0), .int (nI m), .int key] : List Value).toArray wsA R_Mod := ⟨hx, hb, hml, hown, hwA⟩
  have hD := hA_D hD0
  have hS : va_S (hA (wM ca a z F K V P B S C N HK HV OF OK OV)) s.heap s.heap [] := va_S.rf
  have hl := lv_entry ([.ref (a 0), .int (nI m), .int key]) (n := 4) (Nat.le_of_ble_eq_true rfl)
  rw [lg_entry_eq]
  generalize (lg_sl ([.ref (a 0), .int (nI m), .int key]) ++ List.replicate (4 - (lg_sl ([.ref (a 0), .int (nI m), .int key])).length) Slot.unset).toArray = ls at hl ⊢
  have hl : lv_has ls 4 [(0, .ref (a 0)), (1, .int (nI m)), (2, .int key)] := hl
  have hp9 := pw_le hc
  have hkl := plF_lt _ _ hfd
  refine lv_aload_n hx hb d_Mod_distance_0 rfl (lv_at hl 0 rfl) ?_
  refine lv_iload_n hx hb d_Mod_distance_1 rfl (lv_at hl 1 rfl) ?_
  refine lv_iload_n hx hb d_Mod_distance_2 rfl (lv_at hl 2 rfl) ?_
  refine km_find X hK hP hD hS hl.1 (m := m) (key := key) (k := k) hm hc hfd (Nat.le_of_ble_eq_true rfl) ⟨Nat.zero_le _, Nat.zero_le _⟩ ⟨Nat.le_of_ble_eq_true rfl, Nat.le_of_ble_eq_true rfl⟩ d_Mod_distance_3 (fun H locs hP hD hS => ?_)
  refine lv_istore_n (lv' := [(3, .int (nI k)), (0, .ref (a 0)), (1, .int (nI m)), (2, .int key)]) hx hb d_Mod_distance_6 rfl hl (by decide) rfl (fun ls hl => ?_)
  refine lv_iload_n hx hb d_Mod_distance_7 rfl (lv_at hl 0 rfl) ?_
  refine lv_iconst (v := -1) hx hb d_Mod_distance_8 (by decide) ?_
  refine lvT_icmp_ne (tgt := 16) hx hb d_Mod_distance_9 (by decide) (nI_m1 (by omega)) ?_
  refine lv_aload_n hx hb d_Mod_distance_16 rfl (lv_at hl 1 rfl) ?_
  refine lv_iload_n hx hb d_Mod_distance_17 rfl (lv_at hl 2 rfl) ?_
  refine lv_iload_n hx hb d_Mod_distance_18 rfl (lv_at hl 0 rfl) ?_
  refine km_distanceAt X hK hP hl.1 (m := m) (x := k) hm hc (by omega) (Nat.le_of_ble_eq_true rfl) ⟨Nat.zero_le _, Nat.zero_le _⟩ ⟨Nat.le_of_ble_eq_true rfl, Nat.le_of_ble_eq_true rfl⟩ d_Mod_distance_19 ?_
  exact W.iret (v := nI ((k + P m - hom (K (128 * m + k)) (S m) (P m)) % P m)) hx hb hr (fun t ht hW => ⟨rfl, by rw [ht]; exact hP, hS.F ht⟩) hS.2.2 d_Mod_distance_22
set_option maxHeartbeats 4000000 in
set_option maxRecDepth 100000 in
/-- distance -/
theorem c_Mod_distance_no (l : Launch) (D : va_G) (ca a : Nat → Nat) (z : Int32) (F : BT) (K V : IT) (P B : Nat → Nat) (S C : IT) (N : Nat) (HK HV : IT) (OF : BT) (OK OV : IT) (m : Nat) (hm : m < 3) (hc : pw (P m)) (key : Int32) (hfd : plF F K (128 * m) key (P m) = none)  : Met l y_Mod_distance w_Mod_distance (rmD 3 0 0) (va_Pc [.ref (a 0), .int (nI m), .int key] (hb_W D mCl (wM ca a z F K V P B S C N HK HV OF OK OV) (tyM ca))) (hq_W (some (.int 0)) D mCl (wM ca a 2 F K V P B S C N HK HV OF OK OV) (hA (wM ca a z F K V P B S C N HK HV OF OK OV))) 0 0 (hA (wM ca a z F K V P B S C N HK HV OF OK OV)) := by
  refine Met.ofW (cc := b_Mod_distance) (maxL := 4) (ret := some .int) (by decide) rfl ?_
  intro p e s m0 args below meth c0 s₁ B0 hml hv
  obtain ⟨rfl, hP, hK, hD0⟩ := hv
  have hx := B0.exec
  have hb := B0.bytes
  have hr := B0.returns
  have hts := atoms_spec (ws := w_Mod_distance) B0.pre
  have hown : s.vm.findClass R_Mod = some m0.cls := findClass_of_methodNamed B0.named
  have hlocks := B0.notSynchronized
  have hwA : ∀ w ∈ wsA, w.before ([.ref (a 0), .int (nI m), .int key] : List Value).toArray s = true := fun w h => hts w (List.mem_cons_of_mem _ h)
  have X : CallFix p m0 c0 b_Mod_distance 4 s ([.ref (a 0), .int (nI m), .int key] : List Value).toArray wsA R_Mod := ⟨hx, hb, hml, hown, hwA⟩
  have hD := hA_D hD0
  have hS : va_S (hA (wM ca a z F K V P B S C N HK HV OF OK OV)) s.heap s.heap [] := va_S.rf
  have hl := lv_entry ([.ref (a 0), .int (nI m), .int key]) (n := 4) (Nat.le_of_ble_eq_true rfl)
  rw [lg_entry_eq]
  generalize (lg_sl ([.ref (a 0), .int (nI m), .int key]) ++ List.replicate (4 - (lg_sl ([.ref (a 0), .int (nI m), .int key])).length) Slot.unset).toArray = ls at hl ⊢
  have hl : lv_has ls 4 [(0, .ref (a 0)), (1, .int (nI m)), (2, .int key)] := hl
  refine lv_aload_n hx hb d_Mod_distance_0 rfl (lv_at hl 0 rfl) ?_
  refine lv_iload_n hx hb d_Mod_distance_1 rfl (lv_at hl 1 rfl) ?_
  refine lv_iload_n hx hb d_Mod_distance_2 rfl (lv_at hl 2 rfl) ?_
  refine km_find_no X hK hP hD hS hl.1 (m := m) (key := key) hm hc hfd (Nat.le_of_ble_eq_true rfl) ⟨Nat.zero_le _, Nat.zero_le _⟩ ⟨Nat.le_of_ble_eq_true rfl, Nat.le_of_ble_eq_true rfl⟩ d_Mod_distance_3 (fun H locs hP hD hS => ?_)
  refine lv_istore_n (lv' := [(3, .int (-1)), (0, .ref (a 0)), (1, .int (nI m)), (2, .int key)]) hx hb d_Mod_distance_6 rfl hl (by decide) rfl (fun ls hl => ?_)
  refine lv_iload_n hx hb d_Mod_distance_7 rfl (lv_at hl 0 rfl) ?_
  refine lv_iconst (v := -1) hx hb d_Mod_distance_8 (by decide) ?_
  refine lvF_icmp_ne (tgt := 16) hx hb d_Mod_distance_9 (by decide) (rfl) ?_
  refine lv_iconst (v := 0) hx hb d_Mod_distance_12 (by decide) ?_
  refine lv_goto (tgt := 22) hx hb d_Mod_distance_13 (by decide) ?_
  exact W.iret (v := 0) hx hb hr (fun t ht hW => ⟨rfl, by rw [ht]; exact hP, hS.F ht⟩) hS.2.2 d_Mod_distance_22
set_option maxHeartbeats 4000000 in
set_option maxRecDepth 100000 in
/-- distance -/
theorem c_Mod_distance_bad (l : Launch) (D : va_G) (ca a : Nat → Nat) (z : Int32) (F : BT) (K V : IT) (P B : Nat → Nat) (S C : IT) (N : Nat) (HK HV : IT) (OF : BT) (OK OV : IT) (mm : Int32) (hm : mm < 0 ∨ nI 3 ≤ mm) (key : Int32)  : Met l y_Mod_distance w_Mod_distance (rmD 3 0 0) (va_Pc [.ref (a 0), .int mm, .int key] (hb_W D mCl (wM ca a z F K V P B S C N HK HV OF OK OV) (tyM ca))) (hq_W (some (.int 0)) D mCl (wM ca a 1 F K V P B S C N HK HV OF OK OV) (hA (wM ca a z F K V P B S C N HK HV OF OK OV))) 0 0 (hA (wM ca a z F K V P B S C N HK HV OF OK OV)) := by
  refine Met.ofW (cc := b_Mod_distance) (maxL := 4) (ret := some .int) (by decide) rfl ?_
  intro p e s m0 args below meth c0 s₁ B0 hml hv
  obtain ⟨rfl, hP, hK, hD0⟩ := hv
  have hx := B0.exec
  have hb := B0.bytes
  have hr := B0.returns
  have hts := atoms_spec (ws := w_Mod_distance) B0.pre
  have hown : s.vm.findClass R_Mod = some m0.cls := findClass_of_methodNamed B0.named
  have hlocks := B0.notSynchronized
  have hwA : ∀ w ∈ wsA, w.before ([.ref (a 0), .int mm, .int key] : List Value).toArray s = true := fun w h => hts w (List.mem_cons_of_mem _ h)
  have X : CallFix p m0 c0 b_Mod_distance 4 s ([.ref (a 0), .int mm, .int key] : List Value).toArray wsA R_Mod := ⟨hx, hb, hml, hown, hwA⟩
  have hD := hA_D hD0
  have hS : va_S (hA (wM ca a z F K V P B S C N HK HV OF OK OV)) s.heap s.heap [] := va_S.rf
  have hl := lv_entry ([.ref (a 0), .int mm, .int key]) (n := 4) (Nat.le_of_ble_eq_true rfl)
  rw [lg_entry_eq]
  generalize (lg_sl ([.ref (a 0), .int mm, .int key]) ++ List.replicate (4 - (lg_sl ([.ref (a 0), .int mm, .int key])).length) Slot.unset).toArray = ls at hl ⊢
  have hl : lv_has ls 4 [(0, .ref (a 0)), (1, .int mm), (2, .int key)] := hl
  refine lv_aload_n hx hb d_Mod_distance_0 rfl (lv_at hl 0 rfl) ?_
  refine lv_iload_n hx hb d_Mod_distance_1 rfl (lv_at hl 1 rfl) ?_
  refine lv_iload_n hx hb d_Mod_distance_2 rfl (lv_at hl 2 rfl) ?_
  refine km_find_bad X hK hP hD hS hl.1 (mm := mm) (key := key) hm (Nat.le_of_ble_eq_true rfl) ⟨Nat.zero_le _, Nat.zero_le _⟩ ⟨Nat.le_of_ble_eq_true rfl, Nat.le_of_ble_eq_true rfl⟩ d_Mod_distance_3 (fun H locs hP hD hS => ?_)
  refine lv_istore_n (lv' := [(3, .int (-1)), (0, .ref (a 0)), (1, .int mm), (2, .int key)]) hx hb d_Mod_distance_6 rfl hl (by decide) rfl (fun ls hl => ?_)
  refine lv_iload_n hx hb d_Mod_distance_7 rfl (lv_at hl 0 rfl) ?_
  refine lv_iconst (v := -1) hx hb d_Mod_distance_8 (by decide) ?_
  refine lvF_icmp_ne (tgt := 16) hx hb d_Mod_distance_9 (by decide) (rfl) ?_
  refine lv_iconst (v := 0) hx hb d_Mod_distance_12 (by decide) ?_
  refine lv_goto (tgt := 22) hx hb d_Mod_distance_13 (by decide) ?_
  exact W.iret (v := 0) hx hb hr (fun t ht hW => ⟨rfl, by rw [ht]; exact hP, hS.F ht⟩) hS.2.2 d_Mod_distance_22
set_option maxHeartbeats 4000000 in
set_option maxRecDepth 100000 in
/-- has -/
theorem c_Mod_has (l : Launch) (D : va_G) (ca a : Nat → Nat) (z : Int32) (F : BT) (K V : IT) (P B : Nat → Nat) (S C : IT) (N : Nat) (HK HV : IT) (OF : BT) (OK OV : IT) (m : Nat) (hm : m < 3) (hc : pw (P m)) (key : Int32)  : Met l y_Mod_has w_Mod_has (rmD 3 0 0) (va_Pc [.ref (a 0), .int (nI m), .int key] (hb_W D mCl (wM ca a z F K V P B S C N HK HV OF OK OV) (tyM ca))) (hq_W (some (.int (bI (plF F K (128 * m) key (P m)).isSome))) D mCl (wM ca a 0 F K V P B S C N HK HV OF OK OV) (hA (wM ca a z F K V P B S C N HK HV OF OK OV))) 0 0 (hA (wM ca a z F K V P B S C N HK HV OF OK OV)) := by
  refine Met.ofW (cc := b_Mod_has) (maxL := 3) (ret := some .boolean) (by decide) rfl ?_
  intro p e s m0 args below meth c0 s₁ B0 hml hv
  obtain ⟨rfl, hP, hK, hD0⟩ := hv
  have hx := B0.exec
  have hb := B0.bytes
  have hr := B0.returns
  have hts := atoms_spec (ws := w_Mod_has) B0.pre
  have hown : s.vm.findClass R_Mod = some m0.cls := findClass_of_methodNamed B0.named
  have hlocks := B0.notSynchronized
  have hwA : ∀ w ∈ wsA, w.before ([.ref (a 0), .int (nI m), .int key] : List Value).toArray s = true := fun w h => hts w (List.mem_cons_of_mem _ h)
  have X : CallFix p m0 c0 b_Mod_has 3 s ([.ref (a 0), .int (nI m), .int key] : List Value).toArray wsA R_Mod := ⟨hx, hb, hml, hown, hwA⟩
  have hD := hA_D hD0
  have hS : va_S (hA (wM ca a z F K V P B S C N HK HV OF OK OV)) s.heap s.heap [] := va_S.rf
  have hl := lv_entry ([.ref (a 0), .int (nI m), .int key]) (n := 3) (Nat.le_of_ble_eq_true rfl)
  rw [lg_entry_eq]
  generalize (lg_sl ([.ref (a 0), .int (nI m), .int key]) ++ List.replicate (3 - (lg_sl ([.ref (a 0), .int (nI m), .int key])).length) Slot.unset).toArray = ls at hl ⊢
  have hl : lv_has ls 3 [(0, .ref (a 0)), (1, .int (nI m)), (2, .int key)] := hl
  have hp9 := pw_le hc
  refine lv_aload_n hx hb d_Mod_has_0 rfl (lv_at hl 0 rfl) ?_
  refine lv_iload_n hx hb d_Mod_has_1 rfl (lv_at hl 1 rfl) ?_
  refine km_isMap X hK hP hD hS hl.1 (m := m) hm (Nat.le_of_ble_eq_true rfl) ⟨Nat.zero_le _, Nat.zero_le _⟩ ⟨Nat.le_of_ble_eq_true rfl, Nat.le_of_ble_eq_true rfl⟩ d_Mod_has_2 (fun H locs hP hD hS => ?_)
  refine lvF_if_eq (tgt := 22) hx hb d_Mod_has_5 (by decide) (by decide) ?_
  refine lv_aload_n hx hb d_Mod_has_8 rfl (lv_at hl 0 rfl) ?_
  refine lv_iload_n hx hb d_Mod_has_9 rfl (lv_at hl 1 rfl) ?_
  refine lv_iload_n hx hb d_Mod_has_10 rfl (lv_at hl 2 rfl) ?_
  refine km_placeOf X hK hP hl.1 (m := m) (key := key) hm hp9 (Nat.le_of_ble_eq_true rfl) ⟨Nat.zero_le _, Nat.zero_le _⟩ ⟨Nat.le_of_ble_eq_true rfl, Nat.le_of_ble_eq_true rfl⟩ d_Mod_has_11 ?_
  cases hfd : plF F K (128 * m) key (P m) with
  | none =>
    refine lv_tope (y := -1) rfl ?_
    refine lv_iconst (v := -1) hx hb d_Mod_has_14 (by decide) ?_
    refine lvT_icmp_eq (tgt := 22) hx hb d_Mod_has_15 (by decide) (rfl) ?_
    refine lv_iconst (v := 0) hx hb d_Mod_has_22 (by decide) ?_
    exact W.zret (v := 0) hx hb hr rfl (fun t ht hW => ⟨rfl, by rw [ht]; exact hP, hS.F ht⟩) hS.2.2 d_Mod_has_23
  | some k =>
    have hkl := plF_lt _ _ hfd
    refine lv_tope (y := nI k) rfl ?_
    refine lv_iconst (v := -1) hx hb d_Mod_has_14 (by decide) ?_
    refine lvF_icmp_eq (tgt := 22) hx hb d_Mod_has_15 (by decide) (nI_m1 (by omega)) ?_
    refine lv_iconst (v := 1) hx hb d_Mod_has_18 (by decide) ?_
    refine lv_goto (tgt := 23) hx hb d_Mod_has_19 (by decide) ?_
    exact W.zret (v := 1) hx hb hr rfl (fun t ht hW => ⟨rfl, by rw [ht]; exact hP, hS.F ht⟩) hS.2.2 d_Mod_has_23
set_option maxHeartbeats 4000000 in
set_option maxRecDepth 100000 in
/-- has -/
theorem c_Mod_has_bad (l : Launch) (D : va_G) (ca a : Nat → Nat) (z : Int32) (F : BT) (K V : IT) (P B : Nat → Nat) (S C : IT) (N : Nat) (HK HV : IT) (OF : BT) (OK OV : IT) (mm : Int32) (hm : mm < 0 ∨ nI 3 ≤ mm) (key : Int32)  : Met l y_Mod_has w_Mod_has (rmD 3 0 0) (va_Pc [.ref (a 0), .int mm, .int key] (hb_W D mCl (wM ca a z F K V P B S C N HK HV OF OK OV) (tyM ca))) (hq_W (some (.int 0)) D mCl (wM ca a 1 F K V P B S C N HK HV OF OK OV) (hA (wM ca a z F K V P B S C N HK HV OF OK OV))) 0 0 (hA (wM ca a z F K V P B S C N HK HV OF OK OV)) := by
  refine Met.ofW (cc := b_Mod_has) (maxL := 3) (ret := some .boolean) (by decide) rfl ?_
  intro p e s m0 args below meth c0 s₁ B0 hml hv
  obtain ⟨rfl, hP, hK, hD0⟩ := hv
  have hx := B0.exec
  have hb := B0.bytes
  have hr := B0.returns
  have hts := atoms_spec (ws := w_Mod_has) B0.pre
  have hown : s.vm.findClass R_Mod = some m0.cls := findClass_of_methodNamed B0.named
  have hlocks := B0.notSynchronized
  have hwA : ∀ w ∈ wsA, w.before ([.ref (a 0), .int mm, .int key] : List Value).toArray s = true := fun w h => hts w (List.mem_cons_of_mem _ h)
  have X : CallFix p m0 c0 b_Mod_has 3 s ([.ref (a 0), .int mm, .int key] : List Value).toArray wsA R_Mod := ⟨hx, hb, hml, hown, hwA⟩
  have hD := hA_D hD0
  have hS : va_S (hA (wM ca a z F K V P B S C N HK HV OF OK OV)) s.heap s.heap [] := va_S.rf
  have hl := lv_entry ([.ref (a 0), .int mm, .int key]) (n := 3) (Nat.le_of_ble_eq_true rfl)
  rw [lg_entry_eq]
  generalize (lg_sl ([.ref (a 0), .int mm, .int key]) ++ List.replicate (3 - (lg_sl ([.ref (a 0), .int mm, .int key])).length) Slot.unset).toArray = ls at hl ⊢
  have hl : lv_has ls 3 [(0, .ref (a 0)), (1, .int mm), (2, .int key)] := hl
  refine lv_aload_n hx hb d_Mod_has_0 rfl (lv_at hl 0 rfl) ?_
  refine lv_iload_n hx hb d_Mod_has_1 rfl (lv_at hl 1 rfl) ?_
  refine km_isMap_bad X hK hP hD hS hl.1 (mm := mm) hm (Nat.le_of_ble_eq_true rfl) ⟨Nat.zero_le _, Nat.zero_le _⟩ ⟨Nat.le_of_ble_eq_true rfl, Nat.le_of_ble_eq_true rfl⟩ d_Mod_has_2 (fun H locs hP hD hS => ?_)
  refine lvT_if_eq (tgt := 22) hx hb d_Mod_has_5 (by decide) (rfl) ?_
  refine lv_iconst (v := 0) hx hb d_Mod_has_22 (by decide) ?_
  exact W.zret (v := 0) hx hb hr rfl (fun t ht hW => ⟨rfl, by rw [ht]; exact hP, hS.F ht⟩) hS.2.2 d_Mod_has_23
set_option maxHeartbeats 4000000 in
set_option maxRecDepth 100000 in
/-- size -/
theorem c_Mod_size (l : Launch) (D : va_G) (ca a : Nat → Nat) (z : Int32) (F : BT) (K V : IT) (P B : Nat → Nat) (S C : IT) (N : Nat) (HK HV : IT) (OF : BT) (OK OV : IT) (m : Nat) (hm : m < 3) (hc : pw (P m))  : Met l y_Mod_size w_Mod_size (rmD 3 0 0) (va_Pc [.ref (a 0), .int (nI m)] (hb_W D mCl (wM ca a z F K V P B S C N HK HV OF OK OV) (tyM ca))) (hq_W (some (.int (nI (cnt F (128 * m) (P m))))) D mCl (wM ca a 0 F K V P B S C N HK HV OF OK OV) (hA (wM ca a z F K V P B S C N HK HV OF OK OV))) 0 0 (hA (wM ca a z F K V P B S C N HK HV OF OK OV)) := by
  refine Met.ofW (cc := b_Mod_size) (maxL := 2) (ret := some .int) (by decide) rfl ?_
  intro p e s m0 args below meth c0 s₁ B0 hml hv
  obtain ⟨rfl, hP, hK, hD0⟩ := hv
  have hx := B0.exec
  have hb := B0.bytes
  have hr := B0.returns
  have hts := atoms_spec (ws := w_Mod_size) B0.pre
  have hown : s.vm.findClass R_Mod = some m0.cls := findClass_of_methodNamed B0.named
  have hlocks := B0.notSynchronized
  have hwA : ∀ w ∈ wsA, w.before ([.ref (a 0), .int (nI m)] : List Value).toArray s = true := fun w h => hts w (List.mem_cons_of_mem _ h)
  have X : CallFix p m0 c0 b_Mod_size 2 s ([.ref (a 0), .int (nI m)] : List Value).toArray wsA R_Mod := ⟨hx, hb, hml, hown, hwA⟩
  have hD := hA_D hD0
  have hS : va_S (hA (wM ca a z F K V P B S C N HK HV OF OK OV)) s.heap s.heap [] := va_S.rf
  have hl := lv_entry ([.ref (a 0), .int (nI m)]) (n := 2) (Nat.le_of_ble_eq_true rfl)
  rw [lg_entry_eq]
  generalize (lg_sl ([.ref (a 0), .int (nI m)]) ++ List.replicate (2 - (lg_sl ([.ref (a 0), .int (nI m)])).length) Slot.unset).toArray = ls at hl ⊢
  have hl : lv_has ls 2 [(0, .ref (a 0)), (1, .int (nI m))] := hl
  have hp9 := pw_le hc
  refine lv_aload_n hx hb d_Mod_size_0 rfl (lv_at hl 0 rfl) ?_
  refine lv_iload_n hx hb d_Mod_size_1 rfl (lv_at hl 1 rfl) ?_
  refine km_isMap X hK hP hD hS hl.1 (m := m) hm (Nat.le_of_ble_eq_true rfl) ⟨Nat.zero_le _, Nat.zero_le _⟩ ⟨Nat.le_of_ble_eq_true rfl, Nat.le_of_ble_eq_true rfl⟩ d_Mod_size_2 (fun H locs hP hD hS => ?_)
  refine lvF_if_eq (tgt := 16) hx hb d_Mod_size_5 (by decide) (by decide) ?_
  refine lv_aload_n hx hb d_Mod_size_8 rfl (lv_at hl 0 rfl) ?_
  refine lv_iload_n hx hb d_Mod_size_9 rfl (lv_at hl 1 rfl) ?_
  refine km_sizeOf X hK hP hl.1 (m := m) hm hp9 (Nat.le_of_ble_eq_true rfl) ⟨Nat.zero_le _, Nat.zero_le _⟩ ⟨Nat.le_of_ble_eq_true rfl, Nat.le_of_ble_eq_true rfl⟩ d_Mod_size_10 ?_
  refine lv_goto (tgt := 17) hx hb d_Mod_size_13 (by decide) ?_
  exact W.iret (v := nI (cnt F (128 * m) (P m))) hx hb hr (fun t ht hW => ⟨rfl, by rw [ht]; exact hP, hS.F ht⟩) hS.2.2 d_Mod_size_17
set_option maxHeartbeats 4000000 in
set_option maxRecDepth 100000 in
/-- size -/
theorem c_Mod_size_bad (l : Launch) (D : va_G) (ca a : Nat → Nat) (z : Int32) (F : BT) (K V : IT) (P B : Nat → Nat) (S C : IT) (N : Nat) (HK HV : IT) (OF : BT) (OK OV : IT) (mm : Int32) (hm : mm < 0 ∨ nI 3 ≤ mm)  : Met l y_Mod_size w_Mod_size (rmD 3 0 0) (va_Pc [.ref (a 0), .int mm] (hb_W D mCl (wM ca a z F K V P B S C N HK HV OF OK OV) (tyM ca))) (hq_W (some (.int 0)) D mCl (wM ca a 1 F K V P B S C N HK HV OF OK OV) (hA (wM ca a z F K V P B S C N HK HV OF OK OV))) 0 0 (hA (wM ca a z F K V P B S C N HK HV OF OK OV)) := by
  refine Met.ofW (cc := b_Mod_size) (maxL := 2) (ret := some .int) (by decide) rfl ?_
  intro p e s m0 args below meth c0 s₁ B0 hml hv
  obtain ⟨rfl, hP, hK, hD0⟩ := hv
  have hx := B0.exec
  have hb := B0.bytes
  have hr := B0.returns
  have hts := atoms_spec (ws := w_Mod_size) B0.pre
  have hown : s.vm.findClass R_Mod = some m0.cls := findClass_of_methodNamed B0.named
  have hlocks := B0.notSynchronized
  have hwA : ∀ w ∈ wsA, w.before ([.ref (a 0), .int mm] : List Value).toArray s = true := fun w h => hts w (List.mem_cons_of_mem _ h)
  have X : CallFix p m0 c0 b_Mod_size 2 s ([.ref (a 0), .int mm] : List Value).toArray wsA R_Mod := ⟨hx, hb, hml, hown, hwA⟩
  have hD := hA_D hD0
  have hS : va_S (hA (wM ca a z F K V P B S C N HK HV OF OK OV)) s.heap s.heap [] := va_S.rf
  have hl := lv_entry ([.ref (a 0), .int mm]) (n := 2) (Nat.le_of_ble_eq_true rfl)
  rw [lg_entry_eq]
  generalize (lg_sl ([.ref (a 0), .int mm]) ++ List.replicate (2 - (lg_sl ([.ref (a 0), .int mm])).length) Slot.unset).toArray = ls at hl ⊢
  have hl : lv_has ls 2 [(0, .ref (a 0)), (1, .int mm)] := hl
  refine lv_aload_n hx hb d_Mod_size_0 rfl (lv_at hl 0 rfl) ?_
  refine lv_iload_n hx hb d_Mod_size_1 rfl (lv_at hl 1 rfl) ?_
  refine km_isMap_bad X hK hP hD hS hl.1 (mm := mm) hm (Nat.le_of_ble_eq_true rfl) ⟨Nat.zero_le _, Nat.zero_le _⟩ ⟨Nat.le_of_ble_eq_true rfl, Nat.le_of_ble_eq_true rfl⟩ d_Mod_size_2 (fun H locs hP hD hS => ?_)
  refine lvT_if_eq (tgt := 16) hx hb d_Mod_size_5 (by decide) (rfl) ?_
  refine lv_iconst (v := 0) hx hb d_Mod_size_16 (by decide) ?_
  exact W.iret (v := 0) hx hb hr (fun t ht hW => ⟨rfl, by rw [ht]; exact hP, hS.F ht⟩) hS.2.2 d_Mod_size_17
set_option maxHeartbeats 4000000 in
set_option maxRecDepth 100000 in
/-- clear -/
theorem c_Mod_clear (l : Launch) (D : va_G) (ca a : Nat → Nat) (z : Int32) (F : BT) (K V : IT) (P B : Nat → Nat) (S C : IT) (N : Nat) (HK HV : IT) (OF : BT) (OK OV : IT) (m : Nat) (hm : m < 3) (hc : pw (P m))  : Met l y_Mod_clear w_Mod_clear (rmD 3 0 0) (va_Pc [.ref (a 0), .int (nI m)] (hb_W D mCl (wM ca a z F K V P B S C N HK HV OF OK OV) (tyM ca))) (hq_W (some (.int (nI (cnt F (128 * m) (P m))))) D mCl (wM ca a 0 (clr F (128 * m) 128) K V (va_up P m 8) B S C N HK HV OF OK OV) (hA (wM ca a z F K V P B S C N HK HV OF OK OV))) 0 0 (hA (wM ca a z F K V P B S C N HK HV OF OK OV)) := by
  refine Met.ofW (cc := b_Mod_clear) (maxL := 3) (ret := some .int) (by decide) rfl ?_
  intro p e s m0 args below meth c0 s₁ B0 hml hv
  obtain ⟨rfl, hP, hK, hD0⟩ := hv
  have hx := B0.exec
  have hb := B0.bytes
  have hr := B0.returns
  have hts := atoms_spec (ws := w_Mod_clear) B0.pre
  have hown : s.vm.findClass R_Mod = some m0.cls := findClass_of_methodNamed B0.named
  have hlocks := B0.notSynchronized
  have hwA : ∀ w ∈ wsA, w.before ([.ref (a 0), .int (nI m)] : List Value).toArray s = true := fun w h => hts w (List.mem_cons_of_mem _ h)
  have X : CallFix p m0 c0 b_Mod_clear 3 s ([.ref (a 0), .int (nI m)] : List Value).toArray wsA R_Mod := ⟨hx, hb, hml, hown, hwA⟩
  have hD := hA_D hD0
  have hS : va_S (hA (wM ca a z F K V P B S C N HK HV OF OK OV)) s.heap s.heap [] := va_S.rf
  have hl := lv_entry ([.ref (a 0), .int (nI m)]) (n := 3) (Nat.le_of_ble_eq_true rfl)
  rw [lg_entry_eq]
  generalize (lg_sl ([.ref (a 0), .int (nI m)]) ++ List.replicate (3 - (lg_sl ([.ref (a 0), .int (nI m)])).length) Slot.unset).toArray = ls at hl ⊢
  have hl : lv_has ls 3 [(0, .ref (a 0)), (1, .int (nI m))] := hl
  have hp9 := pw_le hc
  refine lv_aload_n hx hb d_Mod_clear_0 rfl (lv_at hl 0 rfl) ?_
  refine lv_iload_n hx hb d_Mod_clear_1 rfl (lv_at hl 1 rfl) ?_
  refine km_isMap X hK hP hD hS hl.1 (m := m) hm (Nat.le_of_ble_eq_true rfl) ⟨Nat.zero_le _, Nat.zero_le _⟩ ⟨Nat.le_of_ble_eq_true rfl, Nat.le_of_ble_eq_true rfl⟩ d_Mod_clear_2 (fun H locs hP hD hS => ?_)
  refine lvT_if_ne (tgt := 10) hx hb d_Mod_clear_5 (by decide) (by decide) ?_
  refine lv_aload_n hx hb d_Mod_clear_10 rfl (lv_at hl 0 rfl) ?_
  refine lv_iload_n hx hb d_Mod_clear_11 rfl (lv_at hl 1 rfl) ?_
  refine km_sizeOf X hK hP hl.1 (m := m) hm hp9 (Nat.le_of_ble_eq_true rfl) ⟨Nat.zero_le _, Nat.zero_le _⟩ ⟨Nat.le_of_ble_eq_true rfl, Nat.le_of_ble_eq_true rfl⟩ d_Mod_clear_12 ?_
  refine lv_istore_n (lv' := [(2, .int (nI (cnt F (128 * m) (P m)))), (0, .ref (a 0)), (1, .int (nI m))]) hx hb d_Mod_clear_15 rfl hl (by decide) rfl (fun ls hl => ?_)
  refine lv_aload_n hx hb d_Mod_clear_16 rfl (lv_at hl 1 rfl) ?_
  refine lv_iload_n hx hb d_Mod_clear_17 rfl (lv_at hl 2 rfl) ?_
  refine km_empty X hK hP hD hS hl.1 (m := m) hm (Nat.le_of_ble_eq_true rfl) ⟨Nat.zero_le _, Nat.zero_le _⟩ ⟨Nat.le_of_ble_eq_true rfl, Nat.le_of_ble_eq_true rfl⟩ d_Mod_clear_18 (fun H locs hP hD hS => ?_)
  refine lv_aload_n hx hb d_Mod_clear_21 rfl (lv_at hl 1 rfl) ?_
  refine mg_capacity X hK hP d_Mod_clear_22 ?_
  refine lv_iload_n hx hb d_Mod_clear_25 rfl (lv_at hl 2 rfl) ?_
  refine lv_bipush (v := 8) hx hb d_Mod_clear_26 (by decide) ?_
  refine ms_P X hK hP hD hS (i := m) (x := 8) (by omega) d_Mod_clear_28 (fun H locs hP hD hS => ?_)
  refine lv_iload_n hx hb d_Mod_clear_29 rfl (lv_at hl 0 rfl) ?_
  exact W.iret (v := nI (cnt F (128 * m) (P m))) hx hb hr (fun t ht hW => ⟨rfl, by rw [ht]; exact hP, hS.F ht⟩) hS.2.2 d_Mod_clear_30
set_option maxHeartbeats 4000000 in
set_option maxRecDepth 100000 in
/-- clear -/
theorem c_Mod_clear_bad (l : Launch) (D : va_G) (ca a : Nat → Nat) (z : Int32) (F : BT) (K V : IT) (P B : Nat → Nat) (S C : IT) (N : Nat) (HK HV : IT) (OF : BT) (OK OV : IT) (mm : Int32) (hm : mm < 0 ∨ nI 3 ≤ mm)  : Met l y_Mod_clear w_Mod_clear (rmD 3 0 0) (va_Pc [.ref (a 0), .int mm] (hb_W D mCl (wM ca a z F K V P B S C N HK HV OF OK OV) (tyM ca))) (hq_W (some (.int 0)) D mCl (wM ca a 1 F K V P B S C N HK HV OF OK OV) (hA (wM ca a z F K V P B S C N HK HV OF OK OV))) 0 0 (hA (wM ca a z F K V P B S C N HK HV OF OK OV)) := by
  refine Met.ofW (cc := b_Mod_clear) (maxL := 3) (ret := some .int) (by decide) rfl ?_
  intro p e s m0 args below meth c0 s₁ B0 hml hv
  obtain ⟨rfl, hP, hK, hD0⟩ := hv
  have hx := B0.exec
  have hb := B0.bytes
  have hr := B0.returns
  have hts := atoms_spec (ws := w_Mod_clear) B0.pre
  have hown : s.vm.findClass R_Mod = some m0.cls := findClass_of_methodNamed B0.named
  have hlocks := B0.notSynchronized
  have hwA : ∀ w ∈ wsA, w.before ([.ref (a 0), .int mm] : List Value).toArray s = true := fun w h => hts w (List.mem_cons_of_mem _ h)
  have X : CallFix p m0 c0 b_Mod_clear 3 s ([.ref (a 0), .int mm] : List Value).toArray wsA R_Mod := ⟨hx, hb, hml, hown, hwA⟩
  have hD := hA_D hD0
  have hS : va_S (hA (wM ca a z F K V P B S C N HK HV OF OK OV)) s.heap s.heap [] := va_S.rf
  have hl := lv_entry ([.ref (a 0), .int mm]) (n := 3) (Nat.le_of_ble_eq_true rfl)
  rw [lg_entry_eq]
  generalize (lg_sl ([.ref (a 0), .int mm]) ++ List.replicate (3 - (lg_sl ([.ref (a 0), .int mm])).length) Slot.unset).toArray = ls at hl ⊢
  have hl : lv_has ls 3 [(0, .ref (a 0)), (1, .int mm)] := hl
  refine lv_aload_n hx hb d_Mod_clear_0 rfl (lv_at hl 0 rfl) ?_
  refine lv_iload_n hx hb d_Mod_clear_1 rfl (lv_at hl 1 rfl) ?_
  refine km_isMap_bad X hK hP hD hS hl.1 (mm := mm) hm (Nat.le_of_ble_eq_true rfl) ⟨Nat.zero_le _, Nat.zero_le _⟩ ⟨Nat.le_of_ble_eq_true rfl, Nat.le_of_ble_eq_true rfl⟩ d_Mod_clear_2 (fun H locs hP hD hS => ?_)
  refine lvF_if_ne (tgt := 10) hx hb d_Mod_clear_5 (by decide) (rfl) ?_
  refine lv_iconst (v := 0) hx hb d_Mod_clear_8 (by decide) ?_
  exact W.iret (v := 0) hx hb hr (fun t ht hW => ⟨rfl, by rw [ht]; exact hP, hS.F ht⟩) hS.2.2 d_Mod_clear_9
set_option maxHeartbeats 4000000 in
set_option maxRecDepth 100000 in
/-- about -/
theorem c_Mod_about_0 (l : Launch) (D : va_G) (ca a : Nat → Nat) (z : Int32) (F : BT) (K V : IT) (P B : Nat → Nat) (S C : IT) (N : Nat) (HK HV : IT) (OF : BT) (OK OV : IT) (m : Nat) (hm : m < 3)  : Met l y_Mod_about w_Mod_about (rmD 3 0 0) (va_Pc [.ref (a 0), .int (nI m), .int 0] (hb_W D mCl (wM ca a z F K V P B S C N HK HV OF OK OV) (tyM ca))) (hq_W (some (.int (nI (P m)))) D mCl (wM ca a 0 F K V P B S C N HK HV OF OK OV) (hA (wM ca a z F K V P B S C N HK HV OF OK OV))) 0 0 (hA (wM ca a z F K V P B S C N HK HV OF OK OV)) := by
  refine Met.ofW (cc := b_Mod_about) (maxL := 3) (ret := some .int) (by decide) rfl ?_
  intro p e s m0 args below meth c0 s₁ B0 hml hv
  obtain ⟨rfl, hP, hK, hD0⟩ := hv
  have hx := B0.exec
  have hb := B0.bytes
  have hr := B0.returns
  have hts := atoms_spec (ws := w_Mod_about) B0.pre
  have hown : s.vm.findClass R_Mod = some m0.cls := findClass_of_methodNamed B0.named
  have hlocks := B0.notSynchronized
  have hwA : ∀ w ∈ wsA, w.before ([.ref (a 0), .int (nI m), .int 0] : List Value).toArray s = true := fun w h => hts w (List.mem_cons_of_mem _ h)
  have X : CallFix p m0 c0 b_Mod_about 3 s ([.ref (a 0), .int (nI m), .int 0] : List Value).toArray wsA R_Mod := ⟨hx, hb, hml, hown, hwA⟩
  have hD := hA_D hD0
  have hS : va_S (hA (wM ca a z F K V P B S C N HK HV OF OK OV)) s.heap s.heap [] := va_S.rf
  have hl := lv_entry ([.ref (a 0), .int (nI m), .int 0]) (n := 3) (Nat.le_of_ble_eq_true rfl)
  rw [lg_entry_eq]
  generalize (lg_sl ([.ref (a 0), .int (nI m), .int 0]) ++ List.replicate (3 - (lg_sl ([.ref (a 0), .int (nI m), .int 0])).length) Slot.unset).toArray = ls at hl ⊢
  have hl : lv_has ls 3 [(0, .ref (a 0)), (1, .int (nI m)), (2, .int 0)] := hl
  refine lv_aload_n hx hb d_Mod_about_0 rfl (lv_at hl 0 rfl) ?_
  refine lv_iload_n hx hb d_Mod_about_1 rfl (lv_at hl 1 rfl) ?_
  refine km_isMap X hK hP hD hS hl.1 (m := m) hm (Nat.le_of_ble_eq_true rfl) ⟨Nat.zero_le _, Nat.zero_le _⟩ ⟨Nat.le_of_ble_eq_true rfl, Nat.le_of_ble_eq_true rfl⟩ d_Mod_about_2 (fun H locs hP hD hS => ?_)
  refine lvT_if_ne (tgt := 10) hx hb d_Mod_about_5 (by decide) (by decide) ?_
  refine lv_aload_n hx hb d_Mod_about_10 rfl (lv_at hl 0 rfl) ?_
  refine lv_iload_n hx hb d_Mod_about_11 rfl (lv_at hl 2 rfl) ?_
  refine lv_iconst (v := 0) hx hb d_Mod_about_12 (by decide) ?_
  refine lv_iconst (v := 2) hx hb d_Mod_about_13 (by decide) ?_
  refine km_within X hK hl.1 (x := 0) (lo := 0) (hi := 2) (Nat.le_of_ble_eq_true rfl) ⟨Nat.zero_le _, Nat.zero_le _⟩ ⟨Nat.le_of_ble_eq_true rfl, Nat.le_of_ble_eq_true rfl⟩ d_Mod_about_14 ?_
  refine lv_tope (y := 1) (wn_t (m := 0) (c := 3) (by decide) (by decide)) ?_
  refine lvF_if_eq (tgt := 24) hx hb d_Mod_about_17 (by decide) (by decide) ?_
  refine lv_iconst (v := 0) hx hb d_Mod_about_20 (by decide) ?_
  refine lv_goto (tgt := 25) hx hb d_Mod_about_21 (by decide) ?_
  refine mp_code X hK hP hD hS (x := 0) d_Mod_about_25 (fun H locs hP hD hS => ?_)
  refine lv_aload_n hx hb d_Mod_about_28 rfl (lv_at hl 0 rfl) ?_
  refine mg_code X hK hP d_Mod_about_29 ?_
  refine lvT_if_le (tgt := 39) hx hb d_Mod_about_32 (by decide) (by decide) ?_
  refine lv_iload_n hx hb d_Mod_about_39 rfl (lv_at hl 2 rfl) ?_
  refine lvF_if_ne (tgt := 52) hx hb d_Mod_about_40 (by decide) (rfl) ?_
  refine lv_aload_n hx hb d_Mod_about_43 rfl (lv_at hl 0 rfl) ?_
  refine mg_capacity X hK hP d_Mod_about_44 ?_
  refine lv_iload_n hx hb d_Mod_about_47 rfl (lv_at hl 1 rfl) ?_
  refine ml_P X hK hP (i := m) (by omega) d_Mod_about_48 ?_
  refine lv_goto (tgt := 72) hx hb d_Mod_about_49 (by decide) ?_
  exact W.iret (v := nI (P m)) hx hb hr (fun t ht hW => ⟨rfl, by rw [ht]; exact hP, hS.F ht⟩) hS.2.2 d_Mod_about_72
set_option maxHeartbeats 4000000 in
set_option maxRecDepth 100000 in
/-- about -/
theorem c_Mod_about_1 (l : Launch) (D : va_G) (ca a : Nat → Nat) (z : Int32) (F : BT) (K V : IT) (P B : Nat → Nat) (S C : IT) (N : Nat) (HK HV : IT) (OF : BT) (OK OV : IT) (m : Nat) (hm : m < 3)  : Met l y_Mod_about w_Mod_about (rmD 3 0 0) (va_Pc [.ref (a 0), .int (nI m), .int 1] (hb_W D mCl (wM ca a z F K V P B S C N HK HV OF OK OV) (tyM ca))) (hq_W (some (.int (nI (B m)))) D mCl (wM ca a 0 F K V P B S C N HK HV OF OK OV) (hA (wM ca a z F K V P B S C N HK HV OF OK OV))) 0 0 (hA (wM ca a z F K V P B S C N HK HV OF OK OV)) := by
  refine Met.ofW (cc := b_Mod_about) (maxL := 3) (ret := some .int) (by decide) rfl ?_
  intro p e s m0 args below meth c0 s₁ B0 hml hv
  obtain ⟨rfl, hP, hK, hD0⟩ := hv
  have hx := B0.exec
  have hb := B0.bytes
  have hr := B0.returns
  have hts := atoms_spec (ws := w_Mod_about) B0.pre
  have hown : s.vm.findClass R_Mod = some m0.cls := findClass_of_methodNamed B0.named
  have hlocks := B0.notSynchronized
  have hwA : ∀ w ∈ wsA, w.before ([.ref (a 0), .int (nI m), .int 1] : List Value).toArray s = true := fun w h => hts w (List.mem_cons_of_mem _ h)
  have X : CallFix p m0 c0 b_Mod_about 3 s ([.ref (a 0), .int (nI m), .int 1] : List Value).toArray wsA R_Mod := ⟨hx, hb, hml, hown, hwA⟩
  have hD := hA_D hD0
  have hS : va_S (hA (wM ca a z F K V P B S C N HK HV OF OK OV)) s.heap s.heap [] := va_S.rf
  have hl := lv_entry ([.ref (a 0), .int (nI m), .int 1]) (n := 3) (Nat.le_of_ble_eq_true rfl)
  rw [lg_entry_eq]
  generalize (lg_sl ([.ref (a 0), .int (nI m), .int 1]) ++ List.replicate (3 - (lg_sl ([.ref (a 0), .int (nI m), .int 1])).length) Slot.unset).toArray = ls at hl ⊢
  have hl : lv_has ls 3 [(0, .ref (a 0)), (1, .int (nI m)), (2, .int 1)] := hl
  refine lv_aload_n hx hb d_Mod_about_0 rfl (lv_at hl 0 rfl) ?_
  refine lv_iload_n hx hb d_Mod_about_1 rfl (lv_at hl 1 rfl) ?_
  refine km_isMap X hK hP hD hS hl.1 (m := m) hm (Nat.le_of_ble_eq_true rfl) ⟨Nat.zero_le _, Nat.zero_le _⟩ ⟨Nat.le_of_ble_eq_true rfl, Nat.le_of_ble_eq_true rfl⟩ d_Mod_about_2 (fun H locs hP hD hS => ?_)
  refine lvT_if_ne (tgt := 10) hx hb d_Mod_about_5 (by decide) (by decide) ?_
  refine lv_aload_n hx hb d_Mod_about_10 rfl (lv_at hl 0 rfl) ?_
  refine lv_iload_n hx hb d_Mod_about_11 rfl (lv_at hl 2 rfl) ?_
  refine lv_iconst (v := 0) hx hb d_Mod_about_12 (by decide) ?_
  refine lv_iconst (v := 2) hx hb d_Mod_about_13 (by decide) ?_
  refine km_within X hK hl.1 (x := 1) (lo := 0) (hi := 2) (Nat.le_of_ble_eq_true rfl) ⟨Nat.zero_le _, Nat.zero_le _⟩ ⟨Nat.le_of_ble_eq_true rfl, Nat.le_of_ble_eq_true rfl⟩ d_Mod_about_14 ?_
  refine lv_tope (y := 1) (wn_t (m := 1) (c := 3) (by decide) (by decide)) ?_
  refine lvF_if_eq (tgt := 24) hx hb d_Mod_about_17 (by decide) (by decide) ?_
  refine lv_iconst (v := 0) hx hb d_Mod_about_20 (by decide) ?_
  refine lv_goto (tgt := 25) hx hb d_Mod_about_21 (by decide) ?_
  refine mp_code X hK hP hD hS (x := 0) d_Mod_about_25 (fun H locs hP hD hS => ?_)
  refine lv_aload_n hx hb d_Mod_about_28 rfl (lv_at hl 0 rfl) ?_
  refine mg_code X hK hP d_Mod_about_29 ?_
  refine lvT_if_le (tgt := 39) hx hb d_Mod_about_32 (by decide) (by decide) ?_
  refine lv_iload_n hx hb d_Mod_about_39 rfl (lv_at hl 2 rfl) ?_
  refine lvT_if_ne (tgt := 52) hx hb d_Mod_about_40 (by decide) (by decide) ?_
  refine lv_iload_n hx hb d_Mod_about_52 rfl (lv_at hl 2 rfl) ?_
  refine lv_iconst (v := 1) hx hb d_Mod_about_53 (by decide) ?_
  refine lvF_icmp_ne (tgt := 66) hx hb d_Mod_about_54 (by decide) (rfl) ?_
  refine lv_aload_n hx hb d_Mod_about_57 rfl (lv_at hl 0 rfl) ?_
  refine mg_base X hK hP d_Mod_about_58 ?_
  refine lv_iload_n hx hb d_Mod_about_61 rfl (lv_at hl 1 rfl) ?_
  refine ml_B X hK hP (i := m) (by omega) d_Mod_about_62 ?_
  refine lv_goto (tgt := 72) hx hb d_Mod_about_63 (by decide) ?_
  exact W.iret (v := nI (B m)) hx hb hr (fun t ht hW => ⟨rfl, by rw [ht]; exact hP, hS.F ht⟩) hS.2.2 d_Mod_about_72
set_option maxHeartbeats 4000000 in
set_option maxRecDepth 100000 in
/-- about -/
theorem c_Mod_about_2 (l : Launch) (D : va_G) (ca a : Nat → Nat) (z : Int32) (F : BT) (K V : IT) (P B : Nat → Nat) (S C : IT) (N : Nat) (HK HV : IT) (OF : BT) (OK OV : IT) (m : Nat) (hm : m < 3)  : Met l y_Mod_about w_Mod_about (rmD 3 0 0) (va_Pc [.ref (a 0), .int (nI m), .int 2] (hb_W D mCl (wM ca a z F K V P B S C N HK HV OF OK OV) (tyM ca))) (hq_W (some (.int (S m))) D mCl (wM ca a 0 F K V P B S C N HK HV OF OK OV) (hA (wM ca a z F K V P B S C N HK HV OF OK OV))) 0 0 (hA (wM ca a z F K V P B S C N HK HV OF OK OV)) := by
  refine Met.ofW (cc := b_Mod_about) (maxL := 3) (ret := some .int) (by decide) rfl ?_
  intro p e s m0 args below meth c0 s₁ B0 hml hv
  obtain ⟨rfl, hP, hK, hD0⟩ := hv
  have hx := B0.exec
  have hb := B0.bytes
  have hr := B0.returns
  have hts := atoms_spec (ws := w_Mod_about) B0.pre
  have hown : s.vm.findClass R_Mod = some m0.cls := findClass_of_methodNamed B0.named
  have hlocks := B0.notSynchronized
  have hwA : ∀ w ∈ wsA, w.before ([.ref (a 0), .int (nI m), .int 2] : List Value).toArray s = true := fun w h => hts w (List.mem_cons_of_mem _ h)
  have X : CallFix p m0 c0 b_Mod_about 3 s ([.ref (a 0), .int (nI m), .int 2] : List Value).toArray wsA R_Mod := ⟨hx, hb, hml, hown, hwA⟩
  have hD := hA_D hD0
  have hS : va_S (hA (wM ca a z F K V P B S C N HK HV OF OK OV)) s.heap s.heap [] := va_S.rf
  have hl := lv_entry ([.ref (a 0), .int (nI m), .int 2]) (n := 3) (Nat.le_of_ble_eq_true rfl)
  rw [lg_entry_eq]
  generalize (lg_sl ([.ref (a 0), .int (nI m), .int 2]) ++ List.replicate (3 - (lg_sl ([.ref (a 0), .int (nI m), .int 2])).length) Slot.unset).toArray = ls at hl ⊢
  have hl : lv_has ls 3 [(0, .ref (a 0)), (1, .int (nI m)), (2, .int 2)] := hl
  refine lv_aload_n hx hb d_Mod_about_0 rfl (lv_at hl 0 rfl) ?_
  refine lv_iload_n hx hb d_Mod_about_1 rfl (lv_at hl 1 rfl) ?_
  refine km_isMap X hK hP hD hS hl.1 (m := m) hm (Nat.le_of_ble_eq_true rfl) ⟨Nat.zero_le _, Nat.zero_le _⟩ ⟨Nat.le_of_ble_eq_true rfl, Nat.le_of_ble_eq_true rfl⟩ d_Mod_about_2 (fun H locs hP hD hS => ?_)
  refine lvT_if_ne (tgt := 10) hx hb d_Mod_about_5 (by decide) (by decide) ?_
  refine lv_aload_n hx hb d_Mod_about_10 rfl (lv_at hl 0 rfl) ?_
  refine lv_iload_n hx hb d_Mod_about_11 rfl (lv_at hl 2 rfl) ?_
  refine lv_iconst (v := 0) hx hb d_Mod_about_12 (by decide) ?_
  refine lv_iconst (v := 2) hx hb d_Mod_about_13 (by decide) ?_
  refine km_within X hK hl.1 (x := 2) (lo := 0) (hi := 2) (Nat.le_of_ble_eq_true rfl) ⟨Nat.zero_le _, Nat.zero_le _⟩ ⟨Nat.le_of_ble_eq_true rfl, Nat.le_of_ble_eq_true rfl⟩ d_Mod_about_14 ?_
  refine lv_tope (y := 1) (wn_t (m := 2) (c := 3) (by decide) (by decide)) ?_
  refine lvF_if_eq (tgt := 24) hx hb d_Mod_about_17 (by decide) (by decide) ?_
  refine lv_iconst (v := 0) hx hb d_Mod_about_20 (by decide) ?_
  refine lv_goto (tgt := 25) hx hb d_Mod_about_21 (by decide) ?_
  refine mp_code X hK hP hD hS (x := 0) d_Mod_about_25 (fun H locs hP hD hS => ?_)
  refine lv_aload_n hx hb d_Mod_about_28 rfl (lv_at hl 0 rfl) ?_
  refine mg_code X hK hP d_Mod_about_29 ?_
  refine lvT_if_le (tgt := 39) hx hb d_Mod_about_32 (by decide) (by decide) ?_
  refine lv_iload_n hx hb d_Mod_about_39 rfl (lv_at hl 2 rfl) ?_
  refine lvT_if_ne (tgt := 52) hx hb d_Mod_about_40 (by decide) (by decide) ?_
  refine lv_iload_n hx hb d_Mod_about_52 rfl (lv_at hl 2 rfl) ?_
  refine lv_iconst (v := 1) hx hb d_Mod_about_53 (by decide) ?_
  refine lvT_icmp_ne (tgt := 66) hx hb d_Mod_about_54 (by decide) (by decide) ?_
  refine lv_aload_n hx hb d_Mod_about_66 rfl (lv_at hl 0 rfl) ?_
  refine mg_seed X hK hP d_Mod_about_67 ?_
  refine lv_iload_n hx hb d_Mod_about_70 rfl (lv_at hl 1 rfl) ?_
  refine ml_S X hK hP (i := m) (by omega) d_Mod_about_71 ?_
  exact W.iret (v := S m) hx hb hr (fun t ht hW => ⟨rfl, by rw [ht]; exact hP, hS.F ht⟩) hS.2.2 d_Mod_about_72
set_option maxHeartbeats 4000000 in
set_option maxRecDepth 100000 in
/-- about -/
theorem c_Mod_about_no (l : Launch) (D : va_G) (ca a : Nat → Nat) (z : Int32) (F : BT) (K V : IT) (P B : Nat → Nat) (S C : IT) (N : Nat) (HK HV : IT) (OF : BT) (OK OV : IT) (m : Nat) (hm : m < 3) (wh : Int32) (hw : wh < 0 ∨ nI 3 ≤ wh)  : Met l y_Mod_about w_Mod_about (rmD 3 0 0) (va_Pc [.ref (a 0), .int (nI m), .int wh] (hb_W D mCl (wM ca a z F K V P B S C N HK HV OF OK OV) (tyM ca))) (hq_W (some (.int 0)) D mCl (wM ca a 2 F K V P B S C N HK HV OF OK OV) (hA (wM ca a z F K V P B S C N HK HV OF OK OV))) 0 0 (hA (wM ca a z F K V P B S C N HK HV OF OK OV)) := by
  refine Met.ofW (cc := b_Mod_about) (maxL := 3) (ret := some .int) (by decide) rfl ?_
  intro p e s m0 args below meth c0 s₁ B0 hml hv
  obtain ⟨rfl, hP, hK, hD0⟩ := hv
  have hx := B0.exec
  have hb := B0.bytes
  have hr := B0.returns
  have hts := atoms_spec (ws := w_Mod_about) B0.pre
  have hown : s.vm.findClass R_Mod = some m0.cls := findClass_of_methodNamed B0.named
  have hlocks := B0.notSynchronized
  have hwA : ∀ w ∈ wsA, w.before ([.ref (a 0), .int (nI m), .int wh] : List Value).toArray s = true := fun w h => hts w (List.mem_cons_of_mem _ h)
  have X : CallFix p m0 c0 b_Mod_about 3 s ([.ref (a 0), .int (nI m), .int wh] : List Value).toArray wsA R_Mod := ⟨hx, hb, hml, hown, hwA⟩
  have hD := hA_D hD0
  have hS : va_S (hA (wM ca a z F K V P B S C N HK HV OF OK OV)) s.heap s.heap [] := va_S.rf
  have hl := lv_entry ([.ref (a 0), .int (nI m), .int wh]) (n := 3) (Nat.le_of_ble_eq_true rfl)
  rw [lg_entry_eq]
  generalize (lg_sl ([.ref (a 0), .int (nI m), .int wh]) ++ List.replicate (3 - (lg_sl ([.ref (a 0), .int (nI m), .int wh])).length) Slot.unset).toArray = ls at hl ⊢
  have hl : lv_has ls 3 [(0, .ref (a 0)), (1, .int (nI m)), (2, .int wh)] := hl
  refine lv_aload_n hx hb d_Mod_about_0 rfl (lv_at hl 0 rfl) ?_
  refine lv_iload_n hx hb d_Mod_about_1 rfl (lv_at hl 1 rfl) ?_
  refine km_isMap X hK hP hD hS hl.1 (m := m) hm (Nat.le_of_ble_eq_true rfl) ⟨Nat.zero_le _, Nat.zero_le _⟩ ⟨Nat.le_of_ble_eq_true rfl, Nat.le_of_ble_eq_true rfl⟩ d_Mod_about_2 (fun H locs hP hD hS => ?_)
  refine lvT_if_ne (tgt := 10) hx hb d_Mod_about_5 (by decide) (by decide) ?_
  refine lv_aload_n hx hb d_Mod_about_10 rfl (lv_at hl 0 rfl) ?_
  refine lv_iload_n hx hb d_Mod_about_11 rfl (lv_at hl 2 rfl) ?_
  refine lv_iconst (v := 0) hx hb d_Mod_about_12 (by decide) ?_
  refine lv_iconst (v := 2) hx hb d_Mod_about_13 (by decide) ?_
  refine km_within X hK hl.1 (x := wh) (lo := 0) (hi := 2) (Nat.le_of_ble_eq_true rfl) ⟨Nat.zero_le _, Nat.zero_le _⟩ ⟨Nat.le_of_ble_eq_true rfl, Nat.le_of_ble_eq_true rfl⟩ d_Mod_about_14 ?_
  refine lv_tope (y := 0) (wn_f (c := 3) (bad3 hw) (by decide) (by decide)) ?_
  refine lvT_if_eq (tgt := 24) hx hb d_Mod_about_17 (by decide) (rfl) ?_
  refine lv_iconst (v := 2) hx hb d_Mod_about_24 (by decide) ?_
  refine mp_code X hK hP hD hS (x := 2) d_Mod_about_25 (fun H locs hP hD hS => ?_)
  refine lv_aload_n hx hb d_Mod_about_28 rfl (lv_at hl 0 rfl) ?_
  refine mg_code X hK hP d_Mod_about_29 ?_
  refine lvF_if_le (tgt := 39) hx hb d_Mod_about_32 (by decide) (by decide) ?_
  refine lv_iconst (v := 0) hx hb d_Mod_about_35 (by decide) ?_
  refine lv_goto (tgt := 72) hx hb d_Mod_about_36 (by decide) ?_
  exact W.iret (v := 0) hx hb hr (fun t ht hW => ⟨rfl, by rw [ht]; exact hP, hS.F ht⟩) hS.2.2 d_Mod_about_72
set_option maxHeartbeats 4000000 in
set_option maxRecDepth 100000 in
/-- about -/
theorem c_Mod_about_bad (l : Launch) (D : va_G) (ca a : Nat → Nat) (z : Int32) (F : BT) (K V : IT) (P B : Nat → Nat) (S C : IT) (N : Nat) (HK HV : IT) (OF : BT) (OK OV : IT) (mm : Int32) (hm : mm < 0 ∨ nI 3 ≤ mm) (wh : Int32)  : Met l y_Mod_about w_Mod_about (rmD 3 0 0) (va_Pc [.ref (a 0), .int mm, .int wh] (hb_W D mCl (wM ca a z F K V P B S C N HK HV OF OK OV) (tyM ca))) (hq_W (some (.int 0)) D mCl (wM ca a 1 F K V P B S C N HK HV OF OK OV) (hA (wM ca a z F K V P B S C N HK HV OF OK OV))) 0 0 (hA (wM ca a z F K V P B S C N HK HV OF OK OV)) := by
  refine Met.ofW (cc := b_Mod_about) (maxL := 3) (ret := some .int) (by decide) rfl ?_
  intro p e s m0 args below meth c0 s₁ B0 hml hv
  obtain ⟨rfl, hP, hK, hD0⟩ := hv
  have hx := B0.exec
  have hb := B0.bytes
  have hr := B0.returns
  have hts := atoms_spec (ws := w_Mod_about) B0.pre
  have hown : s.vm.findClass R_Mod = some m0.cls := findClass_of_methodNamed B0.named
  have hlocks := B0.notSynchronized
  have hwA : ∀ w ∈ wsA, w.before ([.ref (a 0), .int mm, .int wh] : List Value).toArray s = true := fun w h => hts w (List.mem_cons_of_mem _ h)
  have X : CallFix p m0 c0 b_Mod_about 3 s ([.ref (a 0), .int mm, .int wh] : List Value).toArray wsA R_Mod := ⟨hx, hb, hml, hown, hwA⟩
  have hD := hA_D hD0
  have hS : va_S (hA (wM ca a z F K V P B S C N HK HV OF OK OV)) s.heap s.heap [] := va_S.rf
  have hl := lv_entry ([.ref (a 0), .int mm, .int wh]) (n := 3) (Nat.le_of_ble_eq_true rfl)
  rw [lg_entry_eq]
  generalize (lg_sl ([.ref (a 0), .int mm, .int wh]) ++ List.replicate (3 - (lg_sl ([.ref (a 0), .int mm, .int wh])).length) Slot.unset).toArray = ls at hl ⊢
  have hl : lv_has ls 3 [(0, .ref (a 0)), (1, .int mm), (2, .int wh)] := hl
  refine lv_aload_n hx hb d_Mod_about_0 rfl (lv_at hl 0 rfl) ?_
  refine lv_iload_n hx hb d_Mod_about_1 rfl (lv_at hl 1 rfl) ?_
  refine km_isMap_bad X hK hP hD hS hl.1 (mm := mm) hm (Nat.le_of_ble_eq_true rfl) ⟨Nat.zero_le _, Nat.zero_le _⟩ ⟨Nat.le_of_ble_eq_true rfl, Nat.le_of_ble_eq_true rfl⟩ d_Mod_about_2 (fun H locs hP hD hS => ?_)
  refine lvF_if_ne (tgt := 10) hx hb d_Mod_about_5 (by decide) (rfl) ?_
  refine lv_iconst (v := 0) hx hb d_Mod_about_8 (by decide) ?_
  exact W.iret (v := 0) hx hb hr (fun t ht hW => ⟨rfl, by rw [ht]; exact hP, hS.F ht⟩) hS.2.2 d_Mod_about_9
set_option maxHeartbeats 4000000 in
set_option maxRecDepth 100000 in
/-- home -/
theorem c_Mod_home (l : Launch) (D : va_G) (ca a : Nat → Nat) (z : Int32) (F : BT) (K V : IT) (P B : Nat → Nat) (S C : IT) (N : Nat) (HK HV : IT) (OF : BT) (OK OV : IT) (m : Nat) (hm : m < 3) (hc : pw (P m)) (key : Int32)  : Met l y_Mod_home w_Mod_home (rmD 3 0 0) (va_Pc [.ref (a 0), .int (nI m), .int key] (hb_W D mCl (wM ca a z F K V P B S C N HK HV OF OK OV) (tyM ca))) (hq_W (some (.int (nI (hom key (S m) (P m))))) D mCl (wM ca a 0 F K V P B S C N HK HV OF OK OV) (hA (wM ca a z F K V P B S C N HK HV OF OK OV))) 0 0 (hA (wM ca a z F K V P B S C N HK HV OF OK OV)) := by
  refine Met.ofW (cc := b_Mod_home) (maxL := 3) (ret := some .int) (by decide) rfl ?_
  intro p e s m0 args below meth c0 s₁ B0 hml hv
  obtain ⟨rfl, hP, hK, hD0⟩ := hv
  have hx := B0.exec
  have hb := B0.bytes
  have hr := B0.returns
  have hts := atoms_spec (ws := w_Mod_home) B0.pre
  have hown : s.vm.findClass R_Mod = some m0.cls := findClass_of_methodNamed B0.named
  have hlocks := B0.notSynchronized
  have hwA : ∀ w ∈ wsA, w.before ([.ref (a 0), .int (nI m), .int key] : List Value).toArray s = true := fun w h => hts w (List.mem_cons_of_mem _ h)
  have X : CallFix p m0 c0 b_Mod_home 3 s ([.ref (a 0), .int (nI m), .int key] : List Value).toArray wsA R_Mod := ⟨hx, hb, hml, hown, hwA⟩
  have hD := hA_D hD0
  have hS : va_S (hA (wM ca a z F K V P B S C N HK HV OF OK OV)) s.heap s.heap [] := va_S.rf
  have hl := lv_entry ([.ref (a 0), .int (nI m), .int key]) (n := 3) (Nat.le_of_ble_eq_true rfl)
  rw [lg_entry_eq]
  generalize (lg_sl ([.ref (a 0), .int (nI m), .int key]) ++ List.replicate (3 - (lg_sl ([.ref (a 0), .int (nI m), .int key])).length) Slot.unset).toArray = ls at hl ⊢
  have hl : lv_has ls 3 [(0, .ref (a 0)), (1, .int (nI m)), (2, .int key)] := hl
  refine lv_aload_n hx hb d_Mod_home_0 rfl (lv_at hl 0 rfl) ?_
  refine lv_iload_n hx hb d_Mod_home_1 rfl (lv_at hl 1 rfl) ?_
  refine km_isMap X hK hP hD hS hl.1 (m := m) hm (Nat.le_of_ble_eq_true rfl) ⟨Nat.zero_le _, Nat.zero_le _⟩ ⟨Nat.le_of_ble_eq_true rfl, Nat.le_of_ble_eq_true rfl⟩ d_Mod_home_2 (fun H locs hP hD hS => ?_)
  refine lvF_if_eq (tgt := 17) hx hb d_Mod_home_5 (by decide) (by decide) ?_
  refine lv_aload_n hx hb d_Mod_home_8 rfl (lv_at hl 0 rfl) ?_
  refine lv_iload_n hx hb d_Mod_home_9 rfl (lv_at hl 1 rfl) ?_
  refine lv_iload_n hx hb d_Mod_home_10 rfl (lv_at hl 2 rfl) ?_
  refine km_homeOf X hK hP hl.1 (m := m) (key := key) hm hc (Nat.le_of_ble_eq_true rfl) ⟨Nat.zero_le _, Nat.zero_le _⟩ ⟨Nat.le_of_ble_eq_true rfl, Nat.le_of_ble_eq_true rfl⟩ d_Mod_home_11 ?_
  refine lv_goto (tgt := 18) hx hb d_Mod_home_14 (by decide) ?_
  exact W.iret (v := nI (hom key (S m) (P m))) hx hb hr (fun t ht hW => ⟨rfl, by rw [ht]; exact hP, hS.F ht⟩) hS.2.2 d_Mod_home_18
set_option maxHeartbeats 4000000 in
set_option maxRecDepth 100000 in
/-- home -/
theorem c_Mod_home_bad (l : Launch) (D : va_G) (ca a : Nat → Nat) (z : Int32) (F : BT) (K V : IT) (P B : Nat → Nat) (S C : IT) (N : Nat) (HK HV : IT) (OF : BT) (OK OV : IT) (mm : Int32) (hm : mm < 0 ∨ nI 3 ≤ mm) (key : Int32)  : Met l y_Mod_home w_Mod_home (rmD 3 0 0) (va_Pc [.ref (a 0), .int mm, .int key] (hb_W D mCl (wM ca a z F K V P B S C N HK HV OF OK OV) (tyM ca))) (hq_W (some (.int 0)) D mCl (wM ca a 1 F K V P B S C N HK HV OF OK OV) (hA (wM ca a z F K V P B S C N HK HV OF OK OV))) 0 0 (hA (wM ca a z F K V P B S C N HK HV OF OK OV)) := by
  refine Met.ofW (cc := b_Mod_home) (maxL := 3) (ret := some .int) (by decide) rfl ?_
  intro p e s m0 args below meth c0 s₁ B0 hml hv
  obtain ⟨rfl, hP, hK, hD0⟩ := hv
  have hx := B0.exec
  have hb := B0.bytes
  have hr := B0.returns
  have hts := atoms_spec (ws := w_Mod_home) B0.pre
  have hown : s.vm.findClass R_Mod = some m0.cls := findClass_of_methodNamed B0.named
  have hlocks := B0.notSynchronized
  have hwA : ∀ w ∈ wsA, w.before ([.ref (a 0), .int mm, .int key] : List Value).toArray s = true := fun w h => hts w (List.mem_cons_of_mem _ h)
  have X : CallFix p m0 c0 b_Mod_home 3 s ([.ref (a 0), .int mm, .int key] : List Value).toArray wsA R_Mod := ⟨hx, hb, hml, hown, hwA⟩
  have hD := hA_D hD0
  have hS : va_S (hA (wM ca a z F K V P B S C N HK HV OF OK OV)) s.heap s.heap [] := va_S.rf
  have hl := lv_entry ([.ref (a 0), .int mm, .int key]) (n := 3) (Nat.le_of_ble_eq_true rfl)
  rw [lg_entry_eq]
  generalize (lg_sl ([.ref (a 0), .int mm, .int key]) ++ List.replicate (3 - (lg_sl ([.ref (a 0), .int mm, .int key])).length) Slot.unset).toArray = ls at hl ⊢
  have hl : lv_has ls 3 [(0, .ref (a 0)), (1, .int mm), (2, .int key)] := hl
  refine lv_aload_n hx hb d_Mod_home_0 rfl (lv_at hl 0 rfl) ?_
  refine lv_iload_n hx hb d_Mod_home_1 rfl (lv_at hl 1 rfl) ?_
  refine km_isMap_bad X hK hP hD hS hl.1 (mm := mm) hm (Nat.le_of_ble_eq_true rfl) ⟨Nat.zero_le _, Nat.zero_le _⟩ ⟨Nat.le_of_ble_eq_true rfl, Nat.le_of_ble_eq_true rfl⟩ d_Mod_home_2 (fun H locs hP hD hS => ?_)
  refine lvT_if_eq (tgt := 17) hx hb d_Mod_home_5 (by decide) (rfl) ?_
  refine lv_iconst (v := 0) hx hb d_Mod_home_17 (by decide) ?_
  exact W.iret (v := 0) hx hb hr (fun t ht hW => ⟨rfl, by rw [ht]; exact hP, hS.F ht⟩) hS.2.2 d_Mod_home_18
set_option maxHeartbeats 4000000 in
set_option maxRecDepth 100000 in
/-- isPlace -/
theorem c_Mod_isPlace (l : Launch) (D : va_G) (ca a : Nat → Nat) (z : Int32) (F : BT) (K V : IT) (P B : Nat → Nat) (S C : IT) (N : Nat) (HK HV : IT) (OF : BT) (OK OV : IT) (m : Nat) (hm : m < 3) (hc : pw (P m)) (h : Nat) (hh : h < P m)  : Met l y_Mod_isPlace w_Mod_isPlace (rmD 2 0 0) (va_Pc [.ref (a 0), .int (nI m), .int (nI h)] (hb_W D mCl (wM ca a z F K V P B S C N HK HV OF OK OV) (tyM ca))) (hq_W (some (.int 1)) D mCl (wM ca a 0 F K V P B S C N HK HV OF OK OV) (hA (wM ca a z F K V P B S C N HK HV OF OK OV))) 0 0 (hA (wM ca a z F K V P B S C N HK HV OF OK OV)) := by
  refine Met.ofW (cc := b_Mod_isPlace) (maxL := 3) (ret := some .boolean) (by decide) rfl ?_
  intro p e s m0 args below meth c0 s₁ B0 hml hv
  obtain ⟨rfl, hP, hK, hD0⟩ := hv
  have hx := B0.exec
  have hb := B0.bytes
  have hr := B0.returns
  have hts := atoms_spec (ws := w_Mod_isPlace) B0.pre
  have hown : s.vm.findClass R_Mod = some m0.cls := findClass_of_methodNamed B0.named
  have hlocks := B0.notSynchronized
  have hwA : ∀ w ∈ wsA, w.before ([.ref (a 0), .int (nI m), .int (nI h)] : List Value).toArray s = true := fun w h => hts w (List.mem_cons_of_mem _ h)
  have X : CallFix p m0 c0 b_Mod_isPlace 3 s ([.ref (a 0), .int (nI m), .int (nI h)] : List Value).toArray wsA R_Mod := ⟨hx, hb, hml, hown, hwA⟩
  have hD := hA_D hD0
  have hS : va_S (hA (wM ca a z F K V P B S C N HK HV OF OK OV)) s.heap s.heap [] := va_S.rf
  have hl := lv_entry ([.ref (a 0), .int (nI m), .int (nI h)]) (n := 3) (Nat.le_of_ble_eq_true rfl)
  rw [lg_entry_eq]
  generalize (lg_sl ([.ref (a 0), .int (nI m), .int (nI h)]) ++ List.replicate (3 - (lg_sl ([.ref (a 0), .int (nI m), .int (nI h)])).length) Slot.unset).toArray = ls at hl ⊢
  have hl : lv_has ls 3 [(0, .ref (a 0)), (1, .int (nI m)), (2, .int (nI h))] := hl
  have hp9 := pw_le hc
  refine lv_aload_n hx hb d_Mod_isPlace_0 rfl (lv_at hl 0 rfl) ?_
  refine lv_iload_n hx hb d_Mod_isPlace_1 rfl (lv_at hl 1 rfl) ?_
  refine km_isMap X hK hP hD hS hl.1 (m := m) hm (Nat.le_of_ble_eq_true rfl) ⟨Nat.zero_le _, Nat.zero_le _⟩ ⟨Nat.le_of_ble_eq_true rfl, Nat.le_of_ble_eq_true rfl⟩ d_Mod_isPlace_2 (fun H locs hP hD hS => ?_)
  refine lvT_if_ne (tgt := 10) hx hb d_Mod_isPlace_5 (by decide) (by decide) ?_
  refine lv_aload_n hx hb d_Mod_isPlace_10 rfl (lv_at hl 0 rfl) ?_
  refine lv_iload_n hx hb d_Mod_isPlace_11 rfl (lv_at hl 2 rfl) ?_
  refine lv_iconst (v := 0) hx hb d_Mod_isPlace_12 (by decide) ?_
  refine lv_aload_n hx hb d_Mod_isPlace_13 rfl (lv_at hl 0 rfl) ?_
  refine mg_capacity X hK hP d_Mod_isPlace_14 ?_
  refine lv_iload_n hx hb d_Mod_isPlace_17 rfl (lv_at hl 1 rfl) ?_
  refine ml_P X hK hP (i := m) (by omega) d_Mod_isPlace_18 ?_
  refine lv_iconst (v := 1) hx hb d_Mod_isPlace_19 (by decide) ?_
  refine lv_isub hx hb d_Mod_isPlace_20 ?_
  refine lv_tope (y := nI (P m - 1)) (pk_sub (a := P m) (b := 1) (pw_pos hc)) ?_
  refine km_within X hK hl.1 (x := nI h) (lo := 0) (hi := nI (P m - 1)) (Nat.le_of_ble_eq_true rfl) ⟨Nat.zero_le _, Nat.zero_le _⟩ ⟨Nat.le_of_ble_eq_true rfl, Nat.le_of_ble_eq_true rfl⟩ d_Mod_isPlace_21 ?_
  refine lv_tope (y := 1) (wn_t hh (by omega)) ?_
  refine lvF_if_eq (tgt := 31) hx hb d_Mod_isPlace_24 (by decide) (by decide) ?_
  refine lv_iconst (v := 0) hx hb d_Mod_isPlace_27 (by decide) ?_
  refine lv_goto (tgt := 32) hx hb d_Mod_isPlace_28 (by decide) ?_
  refine mp_code X hK hP hD hS (x := 0) d_Mod_isPlace_32 (fun H locs hP hD hS => ?_)
  refine lv_aload_n hx hb d_Mod_isPlace_35 rfl (lv_at hl 0 rfl) ?_
  refine mg_code X hK hP d_Mod_isPlace_36 ?_
  refine lvF_if_ne (tgt := 46) hx hb d_Mod_isPlace_39 (by decide) (rfl) ?_
  refine lv_iconst (v := 1) hx hb d_Mod_isPlace_42 (by decide) ?_
  refine lv_goto (tgt := 47) hx hb d_Mod_isPlace_43 (by decide) ?_
  exact W.zret (v := 1) hx hb hr rfl (fun t ht hW => ⟨rfl, by rw [ht]; exact hP, hS.F ht⟩) hS.2.2 d_Mod_isPlace_47
set_option maxHeartbeats 4000000 in
set_option maxRecDepth 100000 in
/-- isPlace -/
theorem c_Mod_isPlace_np (l : Launch) (D : va_G) (ca a : Nat → Nat) (z : Int32) (F : BT) (K V : IT) (P B : Nat → Nat) (S C : IT) (N : Nat) (HK HV : IT) (OF : BT) (OK OV : IT) (m : Nat) (hm : m < 3) (hc : pw (P m)) (x : Int32) (hx0 : ¬ (0 ≤ x ∧ x < nI (P m)))  : Met l y_Mod_isPlace w_Mod_isPlace (rmD 2 0 0) (va_Pc [.ref (a 0), .int (nI m), .int x] (hb_W D mCl (wM ca a z F K V P B S C N HK HV OF OK OV) (tyM ca))) (hq_W (some (.int 0)) D mCl (wM ca a 2 F K V P B S C N HK HV OF OK OV) (hA (wM ca a z F K V P B S C N HK HV OF OK OV))) 0 0 (hA (wM ca a z F K V P B S C N HK HV OF OK OV)) := by
  refine Met.ofW (cc := b_Mod_isPlace) (maxL := 3) (ret := some .boolean) (by decide) rfl ?_
  intro p e s m0 args below meth c0 s₁ B0 hml hv
  obtain ⟨rfl, hP, hK, hD0⟩ := hv
  have hx := B0.exec
  have hb := B0.bytes
  have hr := B0.returns
  have hts := atoms_spec (ws := w_Mod_isPlace) B0.pre
  have hown : s.vm.findClass R_Mod = some m0.cls := findClass_of_methodNamed B0.named
  have hlocks := B0.notSynchronized
  have hwA : ∀ w ∈ wsA, w.before ([.ref (a 0), .int (nI m), .int x] : List Value).toArray s = true := fun w h => hts w (List.mem_cons_of_mem _ h)
  have X : CallFix p m0 c0 b_Mod_isPlace 3 s ([.ref (a 0), .int (nI m), .int x] : List Value).toArray wsA R_Mod := ⟨hx, hb, hml, hown, hwA⟩
  have hD := hA_D hD0
  have hS : va_S (hA (wM ca a z F K V P B S C N HK HV OF OK OV)) s.heap s.heap [] := va_S.rf
  have hl := lv_entry ([.ref (a 0), .int (nI m), .int x]) (n := 3) (Nat.le_of_ble_eq_true rfl)
  rw [lg_entry_eq]
  generalize (lg_sl ([.ref (a 0), .int (nI m), .int x]) ++ List.replicate (3 - (lg_sl ([.ref (a 0), .int (nI m), .int x])).length) Slot.unset).toArray = ls at hl ⊢
  have hl : lv_has ls 3 [(0, .ref (a 0)), (1, .int (nI m)), (2, .int x)] := hl
  have hp9 := pw_le hc
  refine lv_aload_n hx hb d_Mod_isPlace_0 rfl (lv_at hl 0 rfl) ?_
  refine lv_iload_n hx hb d_Mod_isPlace_1 rfl (lv_at hl 1 rfl) ?_
  refine km_isMap X hK hP hD hS hl.1 (m := m) hm (Nat.le_of_ble_eq_true rfl) ⟨Nat.zero_le _, Nat.zero_le _⟩ ⟨Nat.le_of_ble_eq_true rfl, Nat.le_of_ble_eq_true rfl⟩ d_Mod_isPlace_2 (fun H locs hP hD hS => ?_)
  refine lvT_if_ne (tgt := 10) hx hb d_Mod_isPlace_5 (by decide) (by decide) ?_
  refine lv_aload_n hx hb d_Mod_isPlace_10 rfl (lv_at hl 0 rfl) ?_
  refine lv_iload_n hx hb d_Mod_isPlace_11 rfl (lv_at hl 2 rfl) ?_
  refine lv_iconst (v := 0) hx hb d_Mod_isPlace_12 (by decide) ?_
  refine lv_aload_n hx hb d_Mod_isPlace_13 rfl (lv_at hl 0 rfl) ?_
  refine mg_capacity X hK hP d_Mod_isPlace_14 ?_
  refine lv_iload_n hx hb d_Mod_isPlace_17 rfl (lv_at hl 1 rfl) ?_
  refine ml_P X hK hP (i := m) (by omega) d_Mod_isPlace_18 ?_
  refine lv_iconst (v := 1) hx hb d_Mod_isPlace_19 (by decide) ?_
  refine lv_isub hx hb d_Mod_isPlace_20 ?_
  refine lv_tope (y := nI (P m - 1)) (pk_sub (a := P m) (b := 1) (pw_pos hc)) ?_
  refine km_within X hK hl.1 (x := x) (lo := 0) (hi := nI (P m - 1)) (Nat.le_of_ble_eq_true rfl) ⟨Nat.zero_le _, Nat.zero_le _⟩ ⟨Nat.le_of_ble_eq_true rfl, Nat.le_of_ble_eq_true rfl⟩ d_Mod_isPlace_21 ?_
  refine lv_tope (y := 0) (wn_f hx0 (pw_pos hc) (by omega)) ?_
  refine lvT_if_eq (tgt := 31) hx hb d_Mod_isPlace_24 (by decide) (rfl) ?_
  refine lv_iconst (v := 2) hx hb d_Mod_isPlace_31 (by decide) ?_
  refine mp_code X hK hP hD hS (x := 2) d_Mod_isPlace_32 (fun H locs hP hD hS => ?_)
  refine lv_aload_n hx hb d_Mod_isPlace_35 rfl (lv_at hl 0 rfl) ?_
  refine mg_code X hK hP d_Mod_isPlace_36 ?_
  refine lvT_if_ne (tgt := 46) hx hb d_Mod_isPlace_39 (by decide) (by decide) ?_
  refine lv_iconst (v := 0) hx hb d_Mod_isPlace_46 (by decide) ?_
  exact W.zret (v := 0) hx hb hr rfl (fun t ht hW => ⟨rfl, by rw [ht]; exact hP, hS.F ht⟩) hS.2.2 d_Mod_isPlace_47
set_option maxHeartbeats 4000000 in
set_option maxRecDepth 100000 in
/-- isPlace -/
theorem c_Mod_isPlace_bad (l : Launch) (D : va_G) (ca a : Nat → Nat) (z : Int32) (F : BT) (K V : IT) (P B : Nat → Nat) (S C : IT) (N : Nat) (HK HV : IT) (OF : BT) (OK OV : IT) (mm : Int32) (hm : mm < 0 ∨ nI 3 ≤ mm) (x : Int32)  : Met l y_Mod_isPlace w_Mod_isPlace (rmD 2 0 0) (va_Pc [.ref (a 0), .int mm, .int x] (hb_W D mCl (wM ca a z F K V P B S C N HK HV OF OK OV) (tyM ca))) (hq_W (some (.int 0)) D mCl (wM ca a 1 F K V P B S C N HK HV OF OK OV) (hA (wM ca a z F K V P B S C N HK HV OF OK OV))) 0 0 (hA (wM ca a z F K V P B S C N HK HV OF OK OV)) := by
  refine Met.ofW (cc := b_Mod_isPlace) (maxL := 3) (ret := some .boolean) (by decide) rfl ?_
  intro p e s m0 args below meth c0 s₁ B0 hml hv
  obtain ⟨rfl, hP, hK, hD0⟩ := hv
  have hx := B0.exec
  have hb := B0.bytes
  have hr := B0.returns
  have hts := atoms_spec (ws := w_Mod_isPlace) B0.pre
  have hown : s.vm.findClass R_Mod = some m0.cls := findClass_of_methodNamed B0.named
  have hlocks := B0.notSynchronized
  have hwA : ∀ w ∈ wsA, w.before ([.ref (a 0), .int mm, .int x] : List Value).toArray s = true := fun w h => hts w (List.mem_cons_of_mem _ h)
  have X : CallFix p m0 c0 b_Mod_isPlace 3 s ([.ref (a 0), .int mm, .int x] : List Value).toArray wsA R_Mod := ⟨hx, hb, hml, hown, hwA⟩
  have hD := hA_D hD0
  have hS : va_S (hA (wM ca a z F K V P B S C N HK HV OF OK OV)) s.heap s.heap [] := va_S.rf
  have hl := lv_entry ([.ref (a 0), .int mm, .int x]) (n := 3) (Nat.le_of_ble_eq_true rfl)
  rw [lg_entry_eq]
  generalize (lg_sl ([.ref (a 0), .int mm, .int x]) ++ List.replicate (3 - (lg_sl ([.ref (a 0), .int mm, .int x])).length) Slot.unset).toArray = ls at hl ⊢
  have hl : lv_has ls 3 [(0, .ref (a 0)), (1, .int mm), (2, .int x)] := hl
  refine lv_aload_n hx hb d_Mod_isPlace_0 rfl (lv_at hl 0 rfl) ?_
  refine lv_iload_n hx hb d_Mod_isPlace_1 rfl (lv_at hl 1 rfl) ?_
  refine km_isMap_bad X hK hP hD hS hl.1 (mm := mm) hm (Nat.le_of_ble_eq_true rfl) ⟨Nat.zero_le _, Nat.zero_le _⟩ ⟨Nat.le_of_ble_eq_true rfl, Nat.le_of_ble_eq_true rfl⟩ d_Mod_isPlace_2 (fun H locs hP hD hS => ?_)
  refine lvF_if_ne (tgt := 10) hx hb d_Mod_isPlace_5 (by decide) (rfl) ?_
  refine lv_iconst (v := 0) hx hb d_Mod_isPlace_8 (by decide) ?_
  exact W.zret (v := 0) hx hb hr rfl (fun t ht hW => ⟨rfl, by rw [ht]; exact hP, hS.F ht⟩) hS.2.2 d_Mod_isPlace_9
section MKB
variable {p : Program} {l : Launch} {e : Env} {R : Room} {s : State} {m0 : MethodId} {args : Array Value} {below : List Frame} {meth : Method} {c : Code} {H : Heap} {locs : List Loc} {cells slots : Nat} {Q : State → Prop}
variable {cc : ByteArray} {pc nL : Nat} {ls : Array Slot} {rest st0 : List Value} {D : va_G} {A : Nat → Prop} {H0 : Heap} {tys : List (ClassId × FieldType)} {ca a : Nat → Nat} {z : Int32} {F : BT} {K V : IT} {P B : Nat → Nat} {S C : IT} {N : Nat} {HK HV : IT} {OF : BT} {OK OV : IT}
theorem km_isPlace (X : CallFix p m0 c cc nL s args wsA R_Mod) (hK : va_K D mCl (tyM ca) s) (hP : va_P D mCl (wM ca a z F K V P B S C N HK HV OF OK OV) H) (hD : va_D A (wM ca a z F K V P B S C N HK HV OF OK OV)) (hS : va_S A H0 H locs) (hsz : ls.size = nL) {m : Nat} (hm : m < 3) (hc : pw (P m)) {h : Nat} (hh : h < P m)  (hrm : (rest.map fun v => v.category).sum ≤ 8) (hf : cells ≤ R.cells ∧ slots ≤ R.slots) (hR : 3 ≤ R.frames ∧ 90 ≤ R.locals) (d : decode cc pc = .ok (.invokevirtual 122, 3)) (kk9 : ∀ (H1 : Heap) (locs1 : List Loc), va_P D mCl (wM ca a 0 F K V P B S C N HK HV OF OK OV) H1 → va_D A (wM ca a 0 F K V P B S C N HK HV OF OK OV) → va_S A H0 H1 locs1 → W p l e R s m0 args below meth c H1 locs1 cells slots Q (F0 m0 (pc + 3) ls (.int 1 :: rest))) : W p l e R s m0 args below meth c H locs cells slots Q (F0 m0 pc ls (.int (nI h) :: .int (nI m) :: .ref (a 0) :: rest)) :=
  hw_V (As := [.int (nI m), .int (nI h)]) (v := some (.int 1)) (C := R_Mod) X (c_Mod_isPlace l D ca a z F K V P B S C N HK HV OF OK OV m hm hc h hh) (cwV 2 X.2.2.2.2 g_Mod_isPlace rfl rfl rfl (by decide +kernel) ⟨by show 2 + 1 ≤ _; omega, by show 8 + (3 + 11) + 30 * 2 ≤ _; omega⟩) hP hK hD hS wM_a (va_recv (q0 := 0) (ci := 2) (q := (R_Mod, F_Mod, 14)) hK hP rfl rfl) rfl hsz rfl hrm hf d kk9
theorem km_isPlace_np (X : CallFix p m0 c cc nL s args wsA R_Mod) (hK : va_K D mCl (tyM ca) s) (hP : va_P D mCl (wM ca a z F K V P B S C N HK HV OF OK OV) H) (hD : va_D A (wM ca a z F K V P B S C N HK HV OF OK OV)) (hS : va_S A H0 H locs) (hsz : ls.size = nL) {m : Nat} (hm : m < 3) (hc : pw (P m)) {x : Int32} (hx0 : ¬ (0 ≤ x ∧ x < nI (P m)))  (hrm : (rest.map fun v => v.category).sum ≤ 8) (hf : cells ≤ R.cells ∧ slots ≤ R.slots) (hR : 3 ≤ R.frames ∧ 90 ≤ R.locals) (d : decode cc pc = .ok (.invokevirtual 122, 3)) (kk9 : ∀ (H1 : Heap) (locs1 : List Loc), va_P D mCl (wM ca a 2 F K V P B S C N HK HV OF OK OV) H1 → va_D A (wM ca a 2 F K V P B S C N HK HV OF OK OV) → va_S A H0 H1 locs1 → W p l e R s m0 args below meth c H1 locs1 cells slots Q (F0 m0 (pc + 3) ls (.int 0 :: rest))) : W p l e R s m0 args below meth c H locs cells slots Q (F0 m0 pc ls (.int x :: .int (nI m) :: .ref (a 0) :: rest)) :=
  hw_V (As := [.int (nI m), .int x]) (v := some (.int 0)) (C := R_Mod) X (c_Mod_isPlace_np l D ca a z F K V P B S C N HK HV OF OK OV m hm hc x hx0) (cwV 2 X.2.2.2.2 g_Mod_isPlace rfl rfl rfl (by decide +kernel) ⟨by show 2 + 1 ≤ _; omega, by show 8 + (3 + 11) + 30 * 2 ≤ _; omega⟩) hP hK hD hS wM_a (va_recv (q0 := 0) (ci := 2) (q := (R_Mod, F_Mod, 14)) hK hP rfl rfl) rfl hsz rfl hrm hf d kk9
theorem km_isPlace_bad (X : CallFix p m0 c cc nL s args wsA R_Mod) (hK : va_K D mCl (tyM ca) s) (hP : va_P D mCl (wM ca a z F K V P B S C N HK HV OF OK OV) H) (hD : va_D A (wM ca a z F K V P B S C N HK HV OF OK OV)) (hS : va_S A H0 H locs) (hsz : ls.size = nL) {mm : Int32} (hm : mm < 0 ∨ nI 3 ≤ mm) {x : Int32}  (hrm : (rest.map fun v => v.category).sum ≤ 8) (hf : cells ≤ R.cells ∧ slots ≤ R.slots) (hR : 3 ≤ R.frames ∧ 90 ≤ R.locals) (d : decode cc pc = .ok (.invokevirtual 122, 3)) (kk9 : ∀ (H1 : Heap) (locs1 : List Loc), va_P D mCl (wM ca a 1 F K V P B S C N HK HV OF OK OV) H1 → va_D A (wM ca a 1 F K V P B S C N HK HV OF OK OV) → va_S A H0 H1 locs1 → W p l e R s m0 args below meth c H1 locs1 cells slots Q (F0 m0 (pc + 3) ls (.int 0 :: rest))) : W p l e R s m0 args below meth c H locs cells slots Q (F0 m0 pc ls (.int x :: .int mm :: .ref (a 0) :: rest)) :=
  hw_V (As := [.int mm, .int x]) (v := some (.int 0)) (C := R_Mod) X (c_Mod_isPlace_bad l D ca a z F K V P B S C N HK HV OF OK OV mm hm x) (cwV 2 X.2.2.2.2 g_Mod_isPlace rfl rfl rfl (by decide +kernel) ⟨by show 2 + 1 ≤ _; omega, by show 8 + (3 + 11) + 30 * 2 ≤ _; omega⟩) hP hK hD hS wM_a (va_recv (q0 := 0) (ci := 2) (q := (R_Mod, F_Mod, 14)) hK hP rfl rfl) rfl hsz rfl hrm hf d kk9
end MKB
set_option maxHeartbeats 4000000 in
set_option maxRecDepth 100000 in
/-- bits -/
theorem c_Mod_bits (l : Launch) (D : va_G) (ca a : Nat → Nat) (z : Int32) (F : BT) (K V : IT) (P B : Nat → Nat) (S C : IT) (N : Nat) (HK HV : IT) (OF : BT) (OK OV : IT) (m : Nat) (hm : m < 3) (hc : pw (P m)) (h : Nat) (hh : h < P m)  : Met l y_Mod_bits w_Mod_bits (rmD 3 0 0) (va_Pc [.ref (a 0), .int (nI m), .int (nI h)] (hb_W D mCl (wM ca a z F K V P B S C N HK HV OF OK OV) (tyM ca))) (hq_W (some (.int (rowB (fun i => bit F K (128 * m) (P m) (S m) h i) 8))) D mCl (wM ca a 0 F K V P B S C N HK HV OF OK OV) (hA (wM ca a z F K V P B S C N HK HV OF OK OV))) 0 0 (hA (wM ca a z F K V P B S C N HK HV OF OK OV)) := by
  refine Met.ofW (cc := b_Mod_bits) (maxL := 3) (ret := some .int) (by decide) rfl ?_
  intro p e s m0 args below meth c0 s₁ B0 hml hv
  obtain ⟨rfl, hP, hK, hD0⟩ := hv
  have hx := B0.exec
  have hb := B0.bytes
  have hr := B0.returns
  have hts := atoms_spec (ws := w_Mod_bits) B0.pre
  have hown : s.vm.findClass R_Mod = some m0.cls := findClass_of_methodNamed B0.named
  have hlocks := B0.notSynchronized
  have hwA : ∀ w ∈ wsA, w.before ([.ref (a 0), .int (nI m), .int (nI h)] : List Value).toArray s = true := fun w h => hts w (List.mem_cons_of_mem _ h)
  have X : CallFix p m0 c0 b_Mod_bits 3 s ([.ref (a 0), .int (nI m), .int (nI h)] : List Value).toArray wsA R_Mod := ⟨hx, hb, hml, hown, hwA⟩
  have hD := hA_D hD0
  have hS : va_S (hA (wM ca a z F K V P B S C N HK HV OF OK OV)) s.heap s.heap [] := va_S.rf
  have hl := lv_entry ([.ref (a 0), .int (nI m), .int (nI h)]) (n := 3) (Nat.le_of_ble_eq_true rfl)
  rw [lg_entry_eq]
  generalize (lg_sl ([.ref (a 0), .int (nI m), .int (nI h)]) ++ List.replicate (3 - (lg_sl ([.ref (a 0), .int (nI m), .int (nI h)])).length) Slot.unset).toArray = ls at hl ⊢
  have hl : lv_has ls 3 [(0, .ref (a 0)), (1, .int (nI m)), (2, .int (nI h))] := hl
  refine lv_aload_n hx hb d_Mod_bits_0 rfl (lv_at hl 0 rfl) ?_
  refine lv_iload_n hx hb d_Mod_bits_1 rfl (lv_at hl 1 rfl) ?_
  refine lv_iload_n hx hb d_Mod_bits_2 rfl (lv_at hl 2 rfl) ?_
  refine km_isPlace X hK hP hD hS hl.1 (m := m) (h := h) hm hc hh (Nat.le_of_ble_eq_true rfl) ⟨Nat.zero_le _, Nat.zero_le _⟩ ⟨Nat.le_of_ble_eq_true rfl, Nat.le_of_ble_eq_true rfl⟩ d_Mod_bits_3 (fun H locs hP hD hS => ?_)
  refine lvF_if_eq (tgt := 18) hx hb d_Mod_bits_6 (by decide) (by decide) ?_
  refine lv_aload_n hx hb d_Mod_bits_9 rfl (lv_at hl 0 rfl) ?_
  refine lv_iload_n hx hb d_Mod_bits_10 rfl (lv_at hl 1 rfl) ?_
  refine lv_iload_n hx hb d_Mod_bits_11 rfl (lv_at hl 2 rfl) ?_
  refine km_bitsOf X hK hP hl.1 (m := m) (h := h) hm hc hh (Nat.le_of_ble_eq_true rfl) ⟨Nat.zero_le _, Nat.zero_le _⟩ ⟨Nat.le_of_ble_eq_true rfl, Nat.le_of_ble_eq_true rfl⟩ d_Mod_bits_12 ?_
  refine lv_goto (tgt := 19) hx hb d_Mod_bits_15 (by decide) ?_
  exact W.iret (v := rowB (fun i => bit F K (128 * m) (P m) (S m) h i) 8) hx hb hr (fun t ht hW => ⟨rfl, by rw [ht]; exact hP, hS.F ht⟩) hS.2.2 d_Mod_bits_19
set_option maxHeartbeats 4000000 in
set_option maxRecDepth 100000 in
/-- bits -/
theorem c_Mod_bits_np (l : Launch) (D : va_G) (ca a : Nat → Nat) (z : Int32) (F : BT) (K V : IT) (P B : Nat → Nat) (S C : IT) (N : Nat) (HK HV : IT) (OF : BT) (OK OV : IT) (m : Nat) (hm : m < 3) (hc : pw (P m)) (x : Int32) (hx0 : ¬ (0 ≤ x ∧ x < nI (P m)))  : Met l y_Mod_bits w_Mod_bits (rmD 3 0 0) (va_Pc [.ref (a 0), .int (nI m), .int x] (hb_W D mCl (wM ca a z F K V P B S C N HK HV OF OK OV) (tyM ca))) (hq_W (some (.int 0)) D mCl (wM ca a 2 F K V P B S C N HK HV OF OK OV) (hA (wM ca a z F K V P B S C N HK HV OF OK OV))) 0 0 (hA (wM ca a z F K V P B S C N HK HV OF OK OV)) := by
  refine Met.ofW (cc := b_Mod_bits) (maxL := 3) (ret := some .int) (by decide) rfl ?_
  intro p e s m0 args below meth c0 s₁ B0 hml hv
  obtain ⟨rfl, hP, hK, hD0⟩ := hv
  have hx := B0.exec
  have hb := B0.bytes
  have hr := B0.returns
  have hts := atoms_spec (ws := w_Mod_bits) B0.pre
  have hown : s.vm.findClass R_Mod = some m0.cls := findClass_of_methodNamed B0.named
  have hlocks := B0.notSynchronized
  have hwA : ∀ w ∈ wsA, w.before ([.ref (a 0), .int (nI m), .int x] : List Value).toArray s = true := fun w h => hts w (List.mem_cons_of_mem _ h)
  have X : CallFix p m0 c0 b_Mod_bits 3 s ([.ref (a 0), .int (nI m), .int x] : List Value).toArray wsA R_Mod := ⟨hx, hb, hml, hown, hwA⟩
  have hD := hA_D hD0
  have hS : va_S (hA (wM ca a z F K V P B S C N HK HV OF OK OV)) s.heap s.heap [] := va_S.rf
  have hl := lv_entry ([.ref (a 0), .int (nI m), .int x]) (n := 3) (Nat.le_of_ble_eq_true rfl)
  rw [lg_entry_eq]
  generalize (lg_sl ([.ref (a 0), .int (nI m), .int x]) ++ List.replicate (3 - (lg_sl ([.ref (a 0), .int (nI m), .int x])).length) Slot.unset).toArray = ls at hl ⊢
  have hl : lv_has ls 3 [(0, .ref (a 0)), (1, .int (nI m)), (2, .int x)] := hl
  refine lv_aload_n hx hb d_Mod_bits_0 rfl (lv_at hl 0 rfl) ?_
  refine lv_iload_n hx hb d_Mod_bits_1 rfl (lv_at hl 1 rfl) ?_
  refine lv_iload_n hx hb d_Mod_bits_2 rfl (lv_at hl 2 rfl) ?_
  refine km_isPlace_np X hK hP hD hS hl.1 (m := m) (x := x) hm hc hx0 (Nat.le_of_ble_eq_true rfl) ⟨Nat.zero_le _, Nat.zero_le _⟩ ⟨Nat.le_of_ble_eq_true rfl, Nat.le_of_ble_eq_true rfl⟩ d_Mod_bits_3 (fun H locs hP hD hS => ?_)
  refine lvT_if_eq (tgt := 18) hx hb d_Mod_bits_6 (by decide) (rfl) ?_
  refine lv_iconst (v := 0) hx hb d_Mod_bits_18 (by decide) ?_
  exact W.iret (v := 0) hx hb hr (fun t ht hW => ⟨rfl, by rw [ht]; exact hP, hS.F ht⟩) hS.2.2 d_Mod_bits_19
set_option maxHeartbeats 4000000 in
set_option maxRecDepth 100000 in
/-- bits -/
theorem c_Mod_bits_bad (l : Launch) (D : va_G) (ca a : Nat → Nat) (z : Int32) (F : BT) (K V : IT) (P B : Nat → Nat) (S C : IT) (N : Nat) (HK HV : IT) (OF : BT) (OK OV : IT) (mm : Int32) (hm : mm < 0 ∨ nI 3 ≤ mm) (x : Int32)  : Met l y_Mod_bits w_Mod_bits (rmD 3 0 0) (va_Pc [.ref (a 0), .int mm, .int x] (hb_W D mCl (wM ca a z F K V P B S C N HK HV OF OK OV) (tyM ca))) (hq_W (some (.int 0)) D mCl (wM ca a 1 F K V P B S C N HK HV OF OK OV) (hA (wM ca a z F K V P B S C N HK HV OF OK OV))) 0 0 (hA (wM ca a z F K V P B S C N HK HV OF OK OV)) := by
  refine Met.ofW (cc := b_Mod_bits) (maxL := 3) (ret := some .int) (by decide) rfl ?_
  intro p e s m0 args below meth c0 s₁ B0 hml hv
  obtain ⟨rfl, hP, hK, hD0⟩ := hv
  have hx := B0.exec
  have hb := B0.bytes
  have hr := B0.returns
  have hts := atoms_spec (ws := w_Mod_bits) B0.pre
  have hown : s.vm.findClass R_Mod = some m0.cls := findClass_of_methodNamed B0.named
  have hlocks := B0.notSynchronized
  have hwA : ∀ w ∈ wsA, w.before ([.ref (a 0), .int mm, .int x] : List Value).toArray s = true := fun w h => hts w (List.mem_cons_of_mem _ h)
  have X : CallFix p m0 c0 b_Mod_bits 3 s ([.ref (a 0), .int mm, .int x] : List Value).toArray wsA R_Mod := ⟨hx, hb, hml, hown, hwA⟩
  have hD := hA_D hD0
  have hS : va_S (hA (wM ca a z F K V P B S C N HK HV OF OK OV)) s.heap s.heap [] := va_S.rf
  have hl := lv_entry ([.ref (a 0), .int mm, .int x]) (n := 3) (Nat.le_of_ble_eq_true rfl)
  rw [lg_entry_eq]
  generalize (lg_sl ([.ref (a 0), .int mm, .int x]) ++ List.replicate (3 - (lg_sl ([.ref (a 0), .int mm, .int x])).length) Slot.unset).toArray = ls at hl ⊢
  have hl : lv_has ls 3 [(0, .ref (a 0)), (1, .int mm), (2, .int x)] := hl
  refine lv_aload_n hx hb d_Mod_bits_0 rfl (lv_at hl 0 rfl) ?_
  refine lv_iload_n hx hb d_Mod_bits_1 rfl (lv_at hl 1 rfl) ?_
  refine lv_iload_n hx hb d_Mod_bits_2 rfl (lv_at hl 2 rfl) ?_
  refine km_isPlace_bad X hK hP hD hS hl.1 (mm := mm) (x := x) hm (Nat.le_of_ble_eq_true rfl) ⟨Nat.zero_le _, Nat.zero_le _⟩ ⟨Nat.le_of_ble_eq_true rfl, Nat.le_of_ble_eq_true rfl⟩ d_Mod_bits_3 (fun H locs hP hD hS => ?_)
  refine lvT_if_eq (tgt := 18) hx hb d_Mod_bits_6 (by decide) (rfl) ?_
  refine lv_iconst (v := 0) hx hb d_Mod_bits_18 (by decide) ?_
  exact W.iret (v := 0) hx hb hr (fun t ht hW => ⟨rfl, by rw [ht]; exact hP, hS.F ht⟩) hS.2.2 d_Mod_bits_19
set_option maxHeartbeats 4000000 in
set_option maxRecDepth 100000 in
/-- key -/
theorem c_Mod_key (l : Launch) (D : va_G) (ca a : Nat → Nat) (z : Int32) (F : BT) (K V : IT) (P B : Nat → Nat) (S C : IT) (N : Nat) (HK HV : IT) (OF : BT) (OK OV : IT) (m : Nat) (hm : m < 3) (hc : pw (P m)) (h : Nat) (hh : h < P m) (hT : F (128 * m + h) = true)  : Met l y_Mod_key w_Mod_key (rmD 3 0 0) (va_Pc [.ref (a 0), .int (nI m), .int (nI h)] (hb_W D mCl (wM ca a z F K V P B S C N HK HV OF OK OV) (tyM ca))) (hq_W (some (.int (K (128 * m + h)))) D mCl (wM ca a 0 F K V P B S C N HK HV OF OK OV) (hA (wM ca a z F K V P B S C N HK HV OF OK OV))) 0 0 (hA (wM ca a z F K V P B S C N HK HV OF OK OV)) := by
  refine Met.ofW (cc := b_Mod_key) (maxL := 3) (ret := some .int) (by decide) rfl ?_
  intro p e s m0 args below meth c0 s₁ B0 hml hv
  obtain ⟨rfl, hP, hK, hD0⟩ := hv
  have hx := B0.exec
  have hb := B0.bytes
  have hr := B0.returns
  have hts := atoms_spec (ws := w_Mod_key) B0.pre
  have hown : s.vm.findClass R_Mod = some m0.cls := findClass_of_methodNamed B0.named
  have hlocks := B0.notSynchronized
  have hwA : ∀ w ∈ wsA, w.before ([.ref (a 0), .int (nI m), .int (nI h)] : List Value).toArray s = true := fun w h => hts w (List.mem_cons_of_mem _ h)
  have X : CallFix p m0 c0 b_Mod_key 3 s ([.ref (a 0), .int (nI m), .int (nI h)] : List Value).toArray wsA R_Mod := ⟨hx, hb, hml, hown, hwA⟩
  have hD := hA_D hD0
  have hS : va_S (hA (wM ca a z F K V P B S C N HK HV OF OK OV)) s.heap s.heap [] := va_S.rf
  have hl := lv_entry ([.ref (a 0), .int (nI m), .int (nI h)]) (n := 3) (Nat.le_of_ble_eq_true rfl)
  rw [lg_entry_eq]
  generalize (lg_sl ([.ref (a 0), .int (nI m), .int (nI h)]) ++ List.replicate (3 - (lg_sl ([.ref (a 0), .int (nI m), .int (nI h)])).length) Slot.unset).toArray = ls at hl ⊢
  have hl : lv_has ls 3 [(0, .ref (a 0)), (1, .int (nI m)), (2, .int (nI h))] := hl
  have hp9 := pw_le hc
  refine lv_aload_n hx hb d_Mod_key_0 rfl (lv_at hl 0 rfl) ?_
  refine lv_iload_n hx hb d_Mod_key_1 rfl (lv_at hl 1 rfl) ?_
  refine lv_iload_n hx hb d_Mod_key_2 rfl (lv_at hl 2 rfl) ?_
  refine km_isPlace X hK hP hD hS hl.1 (m := m) (h := h) hm hc hh (Nat.le_of_ble_eq_true rfl) ⟨Nat.zero_le _, Nat.zero_le _⟩ ⟨Nat.le_of_ble_eq_true rfl, Nat.le_of_ble_eq_true rfl⟩ d_Mod_key_3 (fun H locs hP hD hS => ?_)
  refine lvT_if_ne (tgt := 11) hx hb d_Mod_key_6 (by decide) (by decide) ?_
  refine lv_aload_n hx hb d_Mod_key_11 rfl (lv_at hl 0 rfl) ?_
  refine lv_aload_n hx hb d_Mod_key_12 rfl (lv_at hl 0 rfl) ?_
  refine mg_full X hK hP d_Mod_key_13 ?_
  refine lv_sipush (v := 128) hx hb d_Mod_key_16 (by decide) ?_
  refine lv_iload_n hx hb d_Mod_key_19 rfl (lv_at hl 1 rfl) ?_
  refine lv_imul hx hb d_Mod_key_20 ?_
  refine lv_tope (y := nI (128 * m)) (pk_mul (128) (m)) ?_
  refine lv_iload_n hx hb d_Mod_key_21 rfl (lv_at hl 2 rfl) ?_
  refine lv_iadd hx hb d_Mod_key_22 ?_
  refine lv_tope (y := nI (128 * m + h)) (nI_add (128 * m) (h)) ?_
  refine ml_F X hK hP (i := 128 * m + h) (by omega) d_Mod_key_23 ?_
  refine lvF_if_eq (tgt := 31) hx hb d_Mod_key_24 (by decide) (by rw [hT]; decide) ?_
  refine lv_iconst (v := 0) hx hb d_Mod_key_27 (by decide) ?_
  refine lv_goto (tgt := 32) hx hb d_Mod_key_28 (by decide) ?_
  refine mp_code X hK hP hD hS (x := 0) d_Mod_key_32 (fun H locs hP hD hS => ?_)
  refine lv_aload_n hx hb d_Mod_key_35 rfl (lv_at hl 0 rfl) ?_
  refine mg_code X hK hP d_Mod_key_36 ?_
  refine lvT_if_le (tgt := 46) hx hb d_Mod_key_39 (by decide) (by decide) ?_
  refine lv_aload_n hx hb d_Mod_key_46 rfl (lv_at hl 0 rfl) ?_
  refine mg_keys X hK hP d_Mod_key_47 ?_
  refine lv_sipush (v := 128) hx hb d_Mod_key_50 (by decide) ?_
  refine lv_iload_n hx hb d_Mod_key_53 rfl (lv_at hl 1 rfl) ?_
  refine lv_imul hx hb d_Mod_key_54 ?_
  refine lv_tope (y := nI (128 * m)) (pk_mul (128) (m)) ?_
  refine lv_iload_n hx hb d_Mod_key_55 rfl (lv_at hl 2 rfl) ?_
  refine lv_iadd hx hb d_Mod_key_56 ?_
  refine lv_tope (y := nI (128 * m + h)) (nI_add (128 * m) (h)) ?_
  refine ml_K X hK hP (i := 128 * m + h) (by omega) d_Mod_key_57 ?_
  exact W.iret (v := K (128 * m + h)) hx hb hr (fun t ht hW => ⟨rfl, by rw [ht]; exact hP, hS.F ht⟩) hS.2.2 d_Mod_key_58
set_option maxHeartbeats 4000000 in
set_option maxRecDepth 100000 in
/-- key -/
theorem c_Mod_key_no (l : Launch) (D : va_G) (ca a : Nat → Nat) (z : Int32) (F : BT) (K V : IT) (P B : Nat → Nat) (S C : IT) (N : Nat) (HK HV : IT) (OF : BT) (OK OV : IT) (m : Nat) (hm : m < 3) (hc : pw (P m)) (h : Nat) (hh : h < P m) (hT : F (128 * m + h) = false)  : Met l y_Mod_key w_Mod_key (rmD 3 0 0) (va_Pc [.ref (a 0), .int (nI m), .int (nI h)] (hb_W D mCl (wM ca a z F K V P B S C N HK HV OF OK OV) (tyM ca))) (hq_W (some (.int 0)) D mCl (wM ca a 3 F K V P B S C N HK HV OF OK OV) (hA (wM ca a z F K V P B S C N HK HV OF OK OV))) 0 0 (hA (wM ca a z F K V P B S C N HK HV OF OK OV)) := by
  refine Met.ofW (cc := b_Mod_key) (maxL := 3) (ret := some .int) (by decide) rfl ?_
  intro p e s m0 args below meth c0 s₁ B0 hml hv
  obtain ⟨rfl, hP, hK, hD0⟩ := hv
  have hx := B0.exec
  have hb := B0.bytes
  have hr := B0.returns
  have hts := atoms_spec (ws := w_Mod_key) B0.pre
  have hown : s.vm.findClass R_Mod = some m0.cls := findClass_of_methodNamed B0.named
  have hlocks := B0.notSynchronized
  have hwA : ∀ w ∈ wsA, w.before ([.ref (a 0), .int (nI m), .int (nI h)] : List Value).toArray s = true := fun w h => hts w (List.mem_cons_of_mem _ h)
  have X : CallFix p m0 c0 b_Mod_key 3 s ([.ref (a 0), .int (nI m), .int (nI h)] : List Value).toArray wsA R_Mod := ⟨hx, hb, hml, hown, hwA⟩
  have hD := hA_D hD0
  have hS : va_S (hA (wM ca a z F K V P B S C N HK HV OF OK OV)) s.heap s.heap [] := va_S.rf
  have hl := lv_entry ([.ref (a 0), .int (nI m), .int (nI h)]) (n := 3) (Nat.le_of_ble_eq_true rfl)
  rw [lg_entry_eq]
  generalize (lg_sl ([.ref (a 0), .int (nI m), .int (nI h)]) ++ List.replicate (3 - (lg_sl ([.ref (a 0), .int (nI m), .int (nI h)])).length) Slot.unset).toArray = ls at hl ⊢
  have hl : lv_has ls 3 [(0, .ref (a 0)), (1, .int (nI m)), (2, .int (nI h))] := hl
  have hp9 := pw_le hc
  refine lv_aload_n hx hb d_Mod_key_0 rfl (lv_at hl 0 rfl) ?_
  refine lv_iload_n hx hb d_Mod_key_1 rfl (lv_at hl 1 rfl) ?_
  refine lv_iload_n hx hb d_Mod_key_2 rfl (lv_at hl 2 rfl) ?_
  refine km_isPlace X hK hP hD hS hl.1 (m := m) (h := h) hm hc hh (Nat.le_of_ble_eq_true rfl) ⟨Nat.zero_le _, Nat.zero_le _⟩ ⟨Nat.le_of_ble_eq_true rfl, Nat.le_of_ble_eq_true rfl⟩ d_Mod_key_3 (fun H locs hP hD hS => ?_)
  refine lvT_if_ne (tgt := 11) hx hb d_Mod_key_6 (by decide) (by decide) ?_
  refine lv_aload_n hx hb d_Mod_key_11 rfl (lv_at hl 0 rfl) ?_
  refine lv_aload_n hx hb d_Mod_key_12 rfl (lv_at hl 0 rfl) ?_
  refine mg_full X hK hP d_Mod_key_13 ?_
  refine lv_sipush (v := 128) hx hb d_Mod_key_16 (by decide) ?_
  refine lv_iload_n hx hb d_Mod_key_19 rfl (lv_at hl 1 rfl) ?_
  refine lv_imul hx hb d_Mod_key_20 ?_
  refine lv_tope (y := nI (128 * m)) (pk_mul (128) (m)) ?_
  refine lv_iload_n hx hb d_Mod_key_21 rfl (lv_at hl 2 rfl) ?_
  refine lv_iadd hx hb d_Mod_key_22 ?_
  refine lv_tope (y := nI (128 * m + h)) (nI_add (128 * m) (h)) ?_
  refine ml_F X hK hP (i := 128 * m + h) (by omega) d_Mod_key_23 ?_
  refine lvT_if_eq (tgt := 31) hx hb d_Mod_key_24 (by decide) (by rw [hT]; rfl) ?_
  refine lv_iconst (v := 3) hx hb d_Mod_key_31 (by decide) ?_
  refine mp_code X hK hP hD hS (x := 3) d_Mod_key_32 (fun H locs hP hD hS => ?_)
  refine lv_aload_n hx hb d_Mod_key_35 rfl (lv_at hl 0 rfl) ?_
  refine mg_code X hK hP d_Mod_key_36 ?_
  refine lvF_if_le (tgt := 46) hx hb d_Mod_key_39 (by decide) (by decide) ?_
  refine lv_iconst (v := 0) hx hb d_Mod_key_42 (by decide) ?_
  refine lv_goto (tgt := 58) hx hb d_Mod_key_43 (by decide) ?_
  exact W.iret (v := 0) hx hb hr (fun t ht hW => ⟨rfl, by rw [ht]; exact hP, hS.F ht⟩) hS.2.2 d_Mod_key_58
set_option maxHeartbeats 4000000 in
set_option maxRecDepth 100000 in
/-- key -/
theorem c_Mod_key_np (l : Launch) (D : va_G) (ca a : Nat → Nat) (z : Int32) (F : BT) (K V : IT) (P B : Nat → Nat) (S C : IT) (N : Nat) (HK HV : IT) (OF : BT) (OK OV : IT) (m : Nat) (hm : m < 3) (hc : pw (P m)) (x : Int32) (hx0 : ¬ (0 ≤ x ∧ x < nI (P m)))  : Met l y_Mod_key w_Mod_key (rmD 3 0 0) (va_Pc [.ref (a 0), .int (nI m), .int x] (hb_W D mCl (wM ca a z F K V P B S C N HK HV OF OK OV) (tyM ca))) (hq_W (some (.int 0)) D mCl (wM ca a 2 F K V P B S C N HK HV OF OK OV) (hA (wM ca a z F K V P B S C N HK HV OF OK OV))) 0 0 (hA (wM ca a z F K V P B S C N HK HV OF OK OV)) := by
  refine Met.ofW (cc := b_Mod_key) (maxL := 3) (ret := some .int) (by decide) rfl ?_
  intro p e s m0 args below meth c0 s₁ B0 hml hv
  obtain ⟨rfl, hP, hK, hD0⟩ := hv
  have hx := B0.exec
  have hb := B0.bytes
  have hr := B0.returns
  have hts := atoms_spec (ws := w_Mod_key) B0.pre
  have hown : s.vm.findClass R_Mod = some m0.cls := findClass_of_methodNamed B0.named
  have hlocks := B0.notSynchronized
  have hwA : ∀ w ∈ wsA, w.before ([.ref (a 0), .int (nI m), .int x] : List Value).toArray s = true := fun w h => hts w (List.mem_cons_of_mem _ h)
  have X : CallFix p m0 c0 b_Mod_key 3 s ([.ref (a 0), .int (nI m), .int x] : List Value).toArray wsA R_Mod := ⟨hx, hb, hml, hown, hwA⟩
  have hD := hA_D hD0
  have hS : va_S (hA (wM ca a z F K V P B S C N HK HV OF OK OV)) s.heap s.heap [] := va_S.rf
  have hl := lv_entry ([.ref (a 0), .int (nI m), .int x]) (n := 3) (Nat.le_of_ble_eq_true rfl)
  rw [lg_entry_eq]
  generalize (lg_sl ([.ref (a 0), .int (nI m), .int x]) ++ List.replicate (3 - (lg_sl ([.ref (a 0), .int (nI m), .int x])).length) Slot.unset).toArray = ls at hl ⊢
  have hl : lv_has ls 3 [(0, .ref (a 0)), (1, .int (nI m)), (2, .int x)] := hl
  refine lv_aload_n hx hb d_Mod_key_0 rfl (lv_at hl 0 rfl) ?_
  refine lv_iload_n hx hb d_Mod_key_1 rfl (lv_at hl 1 rfl) ?_
  refine lv_iload_n hx hb d_Mod_key_2 rfl (lv_at hl 2 rfl) ?_
  refine km_isPlace_np X hK hP hD hS hl.1 (m := m) (x := x) hm hc hx0 (Nat.le_of_ble_eq_true rfl) ⟨Nat.zero_le _, Nat.zero_le _⟩ ⟨Nat.le_of_ble_eq_true rfl, Nat.le_of_ble_eq_true rfl⟩ d_Mod_key_3 (fun H locs hP hD hS => ?_)
  refine lvF_if_ne (tgt := 11) hx hb d_Mod_key_6 (by decide) (rfl) ?_
  refine lv_iconst (v := 0) hx hb d_Mod_key_9 (by decide) ?_
  exact W.iret (v := 0) hx hb hr (fun t ht hW => ⟨rfl, by rw [ht]; exact hP, hS.F ht⟩) hS.2.2 d_Mod_key_10
set_option maxHeartbeats 4000000 in
set_option maxRecDepth 100000 in
/-- key -/
theorem c_Mod_key_bad (l : Launch) (D : va_G) (ca a : Nat → Nat) (z : Int32) (F : BT) (K V : IT) (P B : Nat → Nat) (S C : IT) (N : Nat) (HK HV : IT) (OF : BT) (OK OV : IT) (mm : Int32) (hm : mm < 0 ∨ nI 3 ≤ mm) (x : Int32)  : Met l y_Mod_key w_Mod_key (rmD 3 0 0) (va_Pc [.ref (a 0), .int mm, .int x] (hb_W D mCl (wM ca a z F K V P B S C N HK HV OF OK OV) (tyM ca))) (hq_W (some (.int 0)) D mCl (wM ca a 1 F K V P B S C N HK HV OF OK OV) (hA (wM ca a z F K V P B S C N HK HV OF OK OV))) 0 0 (hA (wM ca a z F K V P B S C N HK HV OF OK OV)) := by
  refine Met.ofW (cc := b_Mod_key) (maxL := 3) (ret := some .int) (by decide) rfl ?_
  intro p e s m0 args below meth c0 s₁ B0 hml hv
  obtain ⟨rfl, hP, hK, hD0⟩ := hv
  have hx := B0.exec
  have hb := B0.bytes
  have hr := B0.returns
  have hts := atoms_spec (ws := w_Mod_key) B0.pre
  have hown : s.vm.findClass R_Mod = some m0.cls := findClass_of_methodNamed B0.named
  have hlocks := B0.notSynchronized
  have hwA : ∀ w ∈ wsA, w.before ([.ref (a 0), .int mm, .int x] : List Value).toArray s = true := fun w h => hts w (List.mem_cons_of_mem _ h)
  have X : CallFix p m0 c0 b_Mod_key 3 s ([.ref (a 0), .int mm, .int x] : List Value).toArray wsA R_Mod := ⟨hx, hb, hml, hown, hwA⟩
  have hD := hA_D hD0
  have hS : va_S (hA (wM ca a z F K V P B S C N HK HV OF OK OV)) s.heap s.heap [] := va_S.rf
  have hl := lv_entry ([.ref (a 0), .int mm, .int x]) (n := 3) (Nat.le_of_ble_eq_true rfl)
  rw [lg_entry_eq]
  generalize (lg_sl ([.ref (a 0), .int mm, .int x]) ++ List.replicate (3 - (lg_sl ([.ref (a 0), .int mm, .int x])).length) Slot.unset).toArray = ls at hl ⊢
  have hl : lv_has ls 3 [(0, .ref (a 0)), (1, .int mm), (2, .int x)] := hl
  refine lv_aload_n hx hb d_Mod_key_0 rfl (lv_at hl 0 rfl) ?_
  refine lv_iload_n hx hb d_Mod_key_1 rfl (lv_at hl 1 rfl) ?_
  refine lv_iload_n hx hb d_Mod_key_2 rfl (lv_at hl 2 rfl) ?_
  refine km_isPlace_bad X hK hP hD hS hl.1 (mm := mm) (x := x) hm (Nat.le_of_ble_eq_true rfl) ⟨Nat.zero_le _, Nat.zero_le _⟩ ⟨Nat.le_of_ble_eq_true rfl, Nat.le_of_ble_eq_true rfl⟩ d_Mod_key_3 (fun H locs hP hD hS => ?_)
  refine lvF_if_ne (tgt := 11) hx hb d_Mod_key_6 (by decide) (rfl) ?_
  refine lv_iconst (v := 0) hx hb d_Mod_key_9 (by decide) ?_
  exact W.iret (v := 0) hx hb hr (fun t ht hW => ⟨rfl, by rw [ht]; exact hP, hS.F ht⟩) hS.2.2 d_Mod_key_10
set_option maxHeartbeats 4000000 in
set_option maxRecDepth 100000 in
/-- next -/
theorem c_Mod_next_np (l : Launch) (D : va_G) (ca a : Nat → Nat) (z : Int32) (F : BT) (K V : IT) (P B : Nat → Nat) (S C : IT) (N : Nat) (HK HV : IT) (OF : BT) (OK OV : IT) (m : Nat) (hm : m < 3) (hc : pw (P m)) (x : Int32) (hx0 : ¬ (0 ≤ x ∧ x < nI (P m)))  : Met l y_Mod_next w_Mod_next (rmD 3 0 0) (va_Pc [.ref (a 0), .int (nI m), .int x] (hb_W D mCl (wM ca a z F K V P B S C N HK HV OF OK OV) (tyM ca))) (hq_W (some (.int 0)) D mCl (wM ca a 2 F K V P B S C N HK HV OF OK OV) (hA (wM ca a z F K V P B S C N HK HV OF OK OV))) 0 0 (hA (wM ca a z F K V P B S C N HK HV OF OK OV)) := by
  refine Met.ofW (cc := b_Mod_next) (maxL := 4) (ret := some .int) (by decide) rfl ?_
  intro p e s m0 args below meth c0 s₁ B0 hml hv
  obtain ⟨rfl, hP, hK, hD0⟩ := hv
  have hx := B0.exec
  have hb := B0.bytes
  have hr := B0.returns
  have hts := atoms_spec (ws := w_Mod_next) B0.pre
  have hown : s.vm.findClass R_Mod = some m0.cls := findClass_of_methodNamed B0.named
  have hlocks := B0.notSynchronized
  have hwA : ∀ w ∈ wsA, w.before ([.ref (a 0), .int (nI m), .int x] : List Value).toArray s = true := fun w h => hts w (List.mem_cons_of_mem _ h)
  have X : CallFix p m0 c0 b_Mod_next 4 s ([.ref (a 0), .int (nI m), .int x] : List Value).toArray wsA R_Mod := ⟨hx, hb, hml, hown, hwA⟩
  have hD := hA_D hD0
  have hS : va_S (hA (wM ca a z F K V P B S C N HK HV OF OK OV)) s.heap s.heap [] := va_S.rf
  have hl := lv_entry ([.ref (a 0), .int (nI m), .int x]) (n := 4) (Nat.le_of_ble_eq_true rfl)
  rw [lg_entry_eq]
  generalize (lg_sl ([.ref (a 0), .int (nI m), .int x]) ++ List.replicate (4 - (lg_sl ([.ref (a 0), .int (nI m), .int x])).length) Slot.unset).toArray = ls at hl ⊢
  have hl : lv_has ls 4 [(0, .ref (a 0)), (1, .int (nI m)), (2, .int x)] := hl
  refine lv_aload_n hx hb d_Mod_next_0 rfl (lv_at hl 0 rfl) ?_
  refine lv_iload_n hx hb d_Mod_next_1 rfl (lv_at hl 1 rfl) ?_
  refine lv_iload_n hx hb d_Mod_next_2 rfl (lv_at hl 2 rfl) ?_
  refine km_isPlace_np X hK hP hD hS hl.1 (m := m) (x := x) hm hc hx0 (Nat.le_of_ble_eq_true rfl) ⟨Nat.zero_le _, Nat.zero_le _⟩ ⟨Nat.le_of_ble_eq_true rfl, Nat.le_of_ble_eq_true rfl⟩ d_Mod_next_3 (fun H locs hP hD hS => ?_)
  refine lvF_if_ne (tgt := 11) hx hb d_Mod_next_6 (by decide) (rfl) ?_
  refine lv_iconst (v := 0) hx hb d_Mod_next_9 (by decide) ?_
  exact W.iret (v := 0) hx hb hr (fun t ht hW => ⟨rfl, by rw [ht]; exact hP, hS.F ht⟩) hS.2.2 d_Mod_next_10
set_option maxHeartbeats 4000000 in
set_option maxRecDepth 100000 in
/-- next -/
theorem c_Mod_next_bad (l : Launch) (D : va_G) (ca a : Nat → Nat) (z : Int32) (F : BT) (K V : IT) (P B : Nat → Nat) (S C : IT) (N : Nat) (HK HV : IT) (OF : BT) (OK OV : IT) (mm : Int32) (hm : mm < 0 ∨ nI 3 ≤ mm) (x : Int32)  : Met l y_Mod_next w_Mod_next (rmD 3 0 0) (va_Pc [.ref (a 0), .int mm, .int x] (hb_W D mCl (wM ca a z F K V P B S C N HK HV OF OK OV) (tyM ca))) (hq_W (some (.int 0)) D mCl (wM ca a 1 F K V P B S C N HK HV OF OK OV) (hA (wM ca a z F K V P B S C N HK HV OF OK OV))) 0 0 (hA (wM ca a z F K V P B S C N HK HV OF OK OV)) := by
  refine Met.ofW (cc := b_Mod_next) (maxL := 4) (ret := some .int) (by decide) rfl ?_
  intro p e s m0 args below meth c0 s₁ B0 hml hv
  obtain ⟨rfl, hP, hK, hD0⟩ := hv
  have hx := B0.exec
  have hb := B0.bytes
  have hr := B0.returns
  have hts := atoms_spec (ws := w_Mod_next) B0.pre
  have hown : s.vm.findClass R_Mod = some m0.cls := findClass_of_methodNamed B0.named
  have hlocks := B0.notSynchronized
  have hwA : ∀ w ∈ wsA, w.before ([.ref (a 0), .int mm, .int x] : List Value).toArray s = true := fun w h => hts w (List.mem_cons_of_mem _ h)
  have X : CallFix p m0 c0 b_Mod_next 4 s ([.ref (a 0), .int mm, .int x] : List Value).toArray wsA R_Mod := ⟨hx, hb, hml, hown, hwA⟩
  have hD := hA_D hD0
  have hS : va_S (hA (wM ca a z F K V P B S C N HK HV OF OK OV)) s.heap s.heap [] := va_S.rf
  have hl := lv_entry ([.ref (a 0), .int mm, .int x]) (n := 4) (Nat.le_of_ble_eq_true rfl)
  rw [lg_entry_eq]
  generalize (lg_sl ([.ref (a 0), .int mm, .int x]) ++ List.replicate (4 - (lg_sl ([.ref (a 0), .int mm, .int x])).length) Slot.unset).toArray = ls at hl ⊢
  have hl : lv_has ls 4 [(0, .ref (a 0)), (1, .int mm), (2, .int x)] := hl
  refine lv_aload_n hx hb d_Mod_next_0 rfl (lv_at hl 0 rfl) ?_
  refine lv_iload_n hx hb d_Mod_next_1 rfl (lv_at hl 1 rfl) ?_
  refine lv_iload_n hx hb d_Mod_next_2 rfl (lv_at hl 2 rfl) ?_
  refine km_isPlace_bad X hK hP hD hS hl.1 (mm := mm) (x := x) hm (Nat.le_of_ble_eq_true rfl) ⟨Nat.zero_le _, Nat.zero_le _⟩ ⟨Nat.le_of_ble_eq_true rfl, Nat.le_of_ble_eq_true rfl⟩ d_Mod_next_3 (fun H locs hP hD hS => ?_)
  refine lvF_if_ne (tgt := 11) hx hb d_Mod_next_6 (by decide) (rfl) ?_
  refine lv_iconst (v := 0) hx hb d_Mod_next_9 (by decide) ?_
  exact W.iret (v := 0) hx hb hr (fun t ht hW => ⟨rfl, by rw [ht]; exact hP, hS.F ht⟩) hS.2.2 d_Mod_next_10
set_option maxHeartbeats 4000000 in
set_option maxRecDepth 100000 in
/-- next -/
theorem c_Mod_next (l : Launch) (D : va_G) (ca a : Nat → Nat) (z : Int32) (F : BT) (K V : IT) (P B : Nat → Nat) (S C : IT) (N : Nat) (HK HV : IT) (OF : BT) (OK OV : IT) (m : Nat) (hm : m < 3) (hc : pw (P m)) (h : Nat) (hh : h < P m)  : Met l y_Mod_next w_Mod_next (rmD 3 0 0) (va_Pc [.ref (a 0), .int (nI m), .int (nI h)] (hb_W D mCl (wM ca a z F K V P B S C N HK HV OF OK OV) (tyM ca))) (hq_W (some (.int (oI (nxF F (128 * m) (P m) h (P m - h))))) D mCl (wM ca a 0 F K V P B S C N HK HV OF OK OV) (hA (wM ca a z F K V P B S C N HK HV OF OK OV))) 0 0 (hA (wM ca a z F K V P B S C N HK HV OF OK OV)) := by
  refine Met.ofW (cc := b_Mod_next) (maxL := 4) (ret := some .int) (by decide) rfl ?_
  intro p e s m0 args below meth c0 s₁ B0 hml hv
  obtain ⟨rfl, hP, hK, hD0⟩ := hv
  have hx := B0.exec
  have hb := B0.bytes
  have hr := B0.returns
  have hts := atoms_spec (ws := w_Mod_next) B0.pre
  have hown : s.vm.findClass R_Mod = some m0.cls := findClass_of_methodNamed B0.named
  have hlocks := B0.notSynchronized
  have hwA : ∀ w ∈ wsA, w.before ([.ref (a 0), .int (nI m), .int (nI h)] : List Value).toArray s = true := fun w h => hts w (List.mem_cons_of_mem _ h)
  have X : CallFix p m0 c0 b_Mod_next 4 s ([.ref (a 0), .int (nI m), .int (nI h)] : List Value).toArray wsA R_Mod := ⟨hx, hb, hml, hown, hwA⟩
  have hD := hA_D hD0
  have hS : va_S (hA (wM ca a z F K V P B S C N HK HV OF OK OV)) s.heap s.heap [] := va_S.rf
  have hl := lv_entry ([.ref (a 0), .int (nI m), .int (nI h)]) (n := 4) (Nat.le_of_ble_eq_true rfl)
  rw [lg_entry_eq]
  generalize (lg_sl ([.ref (a 0), .int (nI m), .int (nI h)]) ++ List.replicate (4 - (lg_sl ([.ref (a 0), .int (nI m), .int (nI h)])).length) Slot.unset).toArray = ls at hl ⊢
  have hl : lv_has ls 4 [(0, .ref (a 0)), (1, .int (nI m)), (2, .int (nI h))] := hl
  have hp9 := pw_le hc
  have loop : ∀ (n i : Nat) (ls : Array Slot) (H : Heap) (locs : List Loc), i + n = P m → nxF F (128 * m) (P m) i n = nxF F (128 * m) (P m) h (P m - h) → va_P D mCl (wM ca a 0 F K V P B S C N HK HV OF OK OV) H → va_D (hA (wM ca a z F K V P B S C N HK HV OF OK OV)) (wM ca a 0 F K V P B S C N HK HV OF OK OV) → va_S (hA (wM ca a z F K V P B S C N HK HV OF OK OV)) s.heap H locs → lv_has ls 4 [(3, .int (nI i)), (0, .ref (a 0)), (1, .int (nI m)), (2, .int (nI h))] → W p l e (headSpec w_Mod_next (rmD 3 0 0)).room s m0 ([.ref (a 0), .int (nI m), .int (nI h)] : List Value).toArray below meth c0 H locs 0 0 (MQ below (hq_W (some (.int (oI (nxF F (128 * m) (P m) h (P m - h))))) D mCl (wM ca a 0 F K V P B S C N HK HV OF OK OV) (hA (wM ca a z F K V P B S C N HK HV OF OK OV))) ([.ref (a 0), .int (nI m), .int (nI h)] : List Value).toArray s 0 0 (hA (wM ca a z F K V P B S C N HK HV OF OK OV))) (F0 m0 13 ls []) := by
    intro n
    induction n with
    | zero =>
      intro i ls H locs hi hf hP hD hS hl
      refine lv_iload_n hx hb d_Mod_next_13 rfl (lv_at hl 0 rfl) ?_
      refine lv_aload_n hx hb d_Mod_next_14 rfl (lv_at hl 1 rfl) ?_
      refine mg_capacity X hK hP d_Mod_next_15 ?_
      refine lv_iload_n hx hb d_Mod_next_18 rfl (lv_at hl 2 rfl) ?_
      refine ml_P X hK hP (i := m) (by omega) d_Mod_next_19 ?_
      refine lvT_icmp_ge (tgt := 44) hx hb d_Mod_next_20 (by decide) (nI_le (a := P m) (b := i) (by omega) (by omega)) ?_
      refine lv_iload_n hx hb d_Mod_next_44 rfl (lv_at hl 0 rfl) ?_
      refine lv_aload_n hx hb d_Mod_next_45 rfl (lv_at hl 1 rfl) ?_
      refine mg_capacity X hK hP d_Mod_next_46 ?_
      refine lv_iload_n hx hb d_Mod_next_49 rfl (lv_at hl 2 rfl) ?_
      refine ml_P X hK hP (i := m) (by omega) d_Mod_next_50 ?_
      refine lvF_icmp_ne (tgt := 58) hx hb d_Mod_next_51 (by decide) (by rw [show i = P m by omega]) ?_
      refine lv_iconst (v := -1) hx hb d_Mod_next_54 (by decide) ?_
      refine lv_goto (tgt := 59) hx hb d_Mod_next_55 (by decide) ?_
      exact W.iret (v := -1) hx hb hr (fun t ht hW => ⟨by rw [← hf]; rfl, by rw [ht]; exact hP, hS.F ht⟩) hS.2.2 d_Mod_next_59
    | succ n ih =>
      intro i ls H locs hi hf hP hD hS hl
      have him : i % P m = i := Nat.mod_eq_of_lt (by omega)
      refine lv_iload_n hx hb d_Mod_next_13 rfl (lv_at hl 0 rfl) ?_
      refine lv_aload_n hx hb d_Mod_next_14 rfl (lv_at hl 1 rfl) ?_
      refine mg_capacity X hK hP d_Mod_next_15 ?_
      refine lv_iload_n hx hb d_Mod_next_18 rfl (lv_at hl 2 rfl) ?_
      refine ml_P X hK hP (i := m) (by omega) d_Mod_next_19 ?_
      refine lvF_icmp_ge (tgt := 44) hx hb d_Mod_next_20 (by decide) (nI_ge (a := i) (b := P m) (by omega) (by omega)) ?_
      refine lv_aload_n hx hb d_Mod_next_23 rfl (lv_at hl 1 rfl) ?_
      refine mg_full X hK hP d_Mod_next_24 ?_
      refine lv_sipush (v := 128) hx hb d_Mod_next_27 (by decide) ?_
      refine lv_iload_n hx hb d_Mod_next_30 rfl (lv_at hl 2 rfl) ?_
      refine lv_imul hx hb d_Mod_next_31 ?_
      refine lv_tope (y := nI (128 * m)) (pk_mul (128) (m)) ?_
      refine lv_iload_n hx hb d_Mod_next_32 rfl (lv_at hl 0 rfl) ?_
      refine lv_iadd hx hb d_Mod_next_33 ?_
      refine lv_tope (y := nI (128 * m + i)) (nI_add (128 * m) (i)) ?_
      refine ml_F X hK hP (i := 128 * m + i) (by omega) d_Mod_next_34 ?_
      refine lv_if_ne (tgt := 44) hx hb d_Mod_next_35 (by decide) (fun h1 => ?_) (fun h1 => ?_)
      · refine lv_iload_n hx hb d_Mod_next_44 rfl (lv_at hl 0 rfl) ?_
        refine lv_aload_n hx hb d_Mod_next_45 rfl (lv_at hl 1 rfl) ?_
        refine mg_capacity X hK hP d_Mod_next_46 ?_
        refine lv_iload_n hx hb d_Mod_next_49 rfl (lv_at hl 2 rfl) ?_
        refine ml_P X hK hP (i := m) (by omega) d_Mod_next_50 ?_
        refine lvT_icmp_ne (tgt := 58) hx hb d_Mod_next_51 (by decide) (fun z => absurd ((nI_eq (by omega) (by omega)).mp z) (by omega)) ?_
        refine lv_iload_n hx hb d_Mod_next_58 rfl (lv_at hl 0 rfl) ?_
        exact W.iret (v := nI i) hx hb hr (fun t ht hW => ⟨by rw [← hf]; show _ = Outcome.returned (some (Value.int (oI (ite _ _ _)))); rw [if_pos (by rw [him]; exact bI_n0.mp h1)]; rfl, by rw [ht]; exact hP, hS.F ht⟩) hS.2.2 d_Mod_next_59
      · refine lv_iinc (k := 0) (v := nI (i + 1)) (lv' := [(3, .int (nI (i + 1))), (0, .ref (a 0)), (1, .int (nI m)), (2, .int (nI h))]) hx hb d_Mod_next_38 hl rfl (inc1 i) (by decide) rfl (fun ls hl => ?_)
        refine lv_goto (tgt := 13) hx hb d_Mod_next_41 (by decide) ?_
        exact ih (i + 1) ls H locs (by omega) (by rw [← hf]; exact (if_neg (by rw [him, bI_0.mp h1]; decide)).symm) hP hD hS hl
  refine lv_aload_n hx hb d_Mod_next_0 rfl (lv_at hl 0 rfl) ?_
  refine lv_iload_n hx hb d_Mod_next_1 rfl (lv_at hl 1 rfl) ?_
  refine lv_iload_n hx hb d_Mod_next_2 rfl (lv_at hl 2 rfl) ?_
  refine km_isPlace X hK hP hD hS hl.1 (m := m) (h := h) hm hc hh (Nat.le_of_ble_eq_true rfl) ⟨Nat.zero_le _, Nat.zero_le _⟩ ⟨Nat.le_of_ble_eq_true rfl, Nat.le_of_ble_eq_true rfl⟩ d_Mod_next_3 (fun H locs hP hD hS => ?_)
  refine lvT_if_ne (tgt := 11) hx hb d_Mod_next_6 (by decide) (by decide) ?_
  refine lv_iload_n hx hb d_Mod_next_11 rfl (lv_at hl 2 rfl) ?_
  refine lv_istore_n (lv' := [(3, .int (nI h)), (0, .ref (a 0)), (1, .int (nI m)), (2, .int (nI h))]) hx hb d_Mod_next_12 rfl hl (by decide) rfl (fun ls hl => ?_)
  exact loop (P m - h) h ls H locs (by omega) rfl hP hD hS hl
set_option maxHeartbeats 4000000 in
set_option maxRecDepth 100000 in
/-- count -/
theorem c_Mod_count (l : Launch) (D : va_G) (ca a : Nat → Nat) (z : Int32) (F : BT) (K V : IT) (P B : Nat → Nat) (S C : IT) (N : Nat) (HK HV : IT) (OF : BT) (OK OV : IT) (k : Nat) (hk : k < 3)  : Met l y_Mod_count w_Mod_count (rmD 3 0 0) (va_Pc [.ref (a 0), .int (nI k)] (hb_W D mCl (wM ca a z F K V P B S C N HK HV OF OK OV) (tyM ca))) (hq_W (some (.int (C k))) D mCl (wM ca a 0 F K V P B S C N HK HV OF OK OV) (hA (wM ca a z F K V P B S C N HK HV OF OK OV))) 0 0 (hA (wM ca a z F K V P B S C N HK HV OF OK OV)) := by
  refine Met.ofW (cc := b_Mod_count) (maxL := 2) (ret := some .int) (by decide) rfl ?_
  intro p e s m0 args below meth c0 s₁ B0 hml hv
  obtain ⟨rfl, hP, hK, hD0⟩ := hv
  have hx := B0.exec
  have hb := B0.bytes
  have hr := B0.returns
  have hts := atoms_spec (ws := w_Mod_count) B0.pre
  have hown : s.vm.findClass R_Mod = some m0.cls := findClass_of_methodNamed B0.named
  have hlocks := B0.notSynchronized
  have hwA : ∀ w ∈ wsA, w.before ([.ref (a 0), .int (nI k)] : List Value).toArray s = true := fun w h => hts w (List.mem_cons_of_mem _ h)
  have X : CallFix p m0 c0 b_Mod_count 2 s ([.ref (a 0), .int (nI k)] : List Value).toArray wsA R_Mod := ⟨hx, hb, hml, hown, hwA⟩
  have hD := hA_D hD0
  have hS : va_S (hA (wM ca a z F K V P B S C N HK HV OF OK OV)) s.heap s.heap [] := va_S.rf
  have hl := lv_entry ([.ref (a 0), .int (nI k)]) (n := 2) (Nat.le_of_ble_eq_true rfl)
  rw [lg_entry_eq]
  generalize (lg_sl ([.ref (a 0), .int (nI k)]) ++ List.replicate (2 - (lg_sl ([.ref (a 0), .int (nI k)])).length) Slot.unset).toArray = ls at hl ⊢
  have hl : lv_has ls 2 [(0, .ref (a 0)), (1, .int (nI k))] := hl
  refine lv_aload_n hx hb d_Mod_count_0 rfl (lv_at hl 0 rfl) ?_
  refine lv_iload_n hx hb d_Mod_count_1 rfl (lv_at hl 1 rfl) ?_
  refine lv_iconst (v := 0) hx hb d_Mod_count_2 (by decide) ?_
  refine lv_iconst (v := 2) hx hb d_Mod_count_3 (by decide) ?_
  refine km_within X hK hl.1 (x := nI k) (lo := 0) (hi := 2) (Nat.le_of_ble_eq_true rfl) ⟨Nat.zero_le _, Nat.zero_le _⟩ ⟨Nat.le_of_ble_eq_true rfl, Nat.le_of_ble_eq_true rfl⟩ d_Mod_count_4 ?_
  refine lv_tope (y := 1) (wn_t (c := 3) hk (by decide)) ?_
  refine lvF_if_eq (tgt := 14) hx hb d_Mod_count_7 (by decide) (by decide) ?_
  refine lv_iconst (v := 0) hx hb d_Mod_count_10 (by decide) ?_
  refine lv_goto (tgt := 15) hx hb d_Mod_count_11 (by decide) ?_
  refine mp_code X hK hP hD hS (x := 0) d_Mod_count_15 (fun H locs hP hD hS => ?_)
  refine lv_aload_n hx hb d_Mod_count_18 rfl (lv_at hl 0 rfl) ?_
  refine mg_code X hK hP d_Mod_count_19 ?_
  refine lvT_if_le (tgt := 29) hx hb d_Mod_count_22 (by decide) (by decide) ?_
  refine lv_aload_n hx hb d_Mod_count_29 rfl (lv_at hl 0 rfl) ?_
  refine mg_counts X hK hP d_Mod_count_30 ?_
  refine lv_iload_n hx hb d_Mod_count_33 rfl (lv_at hl 1 rfl) ?_
  refine ml_C X hK hP (i := k) (by omega) d_Mod_count_34 ?_
  exact W.iret (v := C k) hx hb hr (fun t ht hW => ⟨rfl, by rw [ht]; exact hP, hS.F ht⟩) hS.2.2 d_Mod_count_35
set_option maxHeartbeats 4000000 in
set_option maxRecDepth 100000 in
/-- count -/
theorem c_Mod_count_no (l : Launch) (D : va_G) (ca a : Nat → Nat) (z : Int32) (F : BT) (K V : IT) (P B : Nat → Nat) (S C : IT) (N : Nat) (HK HV : IT) (OF : BT) (OK OV : IT) (mm : Int32) (hm : mm < 0 ∨ nI 3 ≤ mm)  : Met l y_Mod_count w_Mod_count (rmD 3 0 0) (va_Pc [.ref (a 0), .int mm] (hb_W D mCl (wM ca a z F K V P B S C N HK HV OF OK OV) (tyM ca))) (hq_W (some (.int 0)) D mCl (wM ca a 1 F K V P B S C N HK HV OF OK OV) (hA (wM ca a z F K V P B S C N HK HV OF OK OV))) 0 0 (hA (wM ca a z F K V P B S C N HK HV OF OK OV)) := by
  refine Met.ofW (cc := b_Mod_count) (maxL := 2) (ret := some .int) (by decide) rfl ?_
  intro p e s m0 args below meth c0 s₁ B0 hml hv
  obtain ⟨rfl, hP, hK, hD0⟩ := hv
  have hx := B0.exec
  have hb := B0.bytes
  have hr := B0.returns
  have hts := atoms_spec (ws := w_Mod_count) B0.pre
  have hown : s.vm.findClass R_Mod = some m0.cls := findClass_of_methodNamed B0.named
  have hlocks := B0.notSynchronized
  have hwA : ∀ w ∈ wsA, w.before ([.ref (a 0), .int mm] : List Value).toArray s = true := fun w h => hts w (List.mem_cons_of_mem _ h)
  have X : CallFix p m0 c0 b_Mod_count 2 s ([.ref (a 0), .int mm] : List Value).toArray wsA R_Mod := ⟨hx, hb, hml, hown, hwA⟩
  have hD := hA_D hD0
  have hS : va_S (hA (wM ca a z F K V P B S C N HK HV OF OK OV)) s.heap s.heap [] := va_S.rf
  have hl := lv_entry ([.ref (a 0), .int mm]) (n := 2) (Nat.le_of_ble_eq_true rfl)
  rw [lg_entry_eq]
  generalize (lg_sl ([.ref (a 0), .int mm]) ++ List.replicate (2 - (lg_sl ([.ref (a 0), .int mm])).length) Slot.unset).toArray = ls at hl ⊢
  have hl : lv_has ls 2 [(0, .ref (a 0)), (1, .int mm)] := hl
  refine lv_aload_n hx hb d_Mod_count_0 rfl (lv_at hl 0 rfl) ?_
  refine lv_iload_n hx hb d_Mod_count_1 rfl (lv_at hl 1 rfl) ?_
  refine lv_iconst (v := 0) hx hb d_Mod_count_2 (by decide) ?_
  refine lv_iconst (v := 2) hx hb d_Mod_count_3 (by decide) ?_
  refine km_within X hK hl.1 (x := mm) (lo := 0) (hi := 2) (Nat.le_of_ble_eq_true rfl) ⟨Nat.zero_le _, Nat.zero_le _⟩ ⟨Nat.le_of_ble_eq_true rfl, Nat.le_of_ble_eq_true rfl⟩ d_Mod_count_4 ?_
  refine lv_tope (y := 0) (wn_f (c := 3) (bad3 hm) (by decide) (by decide)) ?_
  refine lvT_if_eq (tgt := 14) hx hb d_Mod_count_7 (by decide) (rfl) ?_
  refine lv_iconst (v := 1) hx hb d_Mod_count_14 (by decide) ?_
  refine mp_code X hK hP hD hS (x := 1) d_Mod_count_15 (fun H locs hP hD hS => ?_)
  refine lv_aload_n hx hb d_Mod_count_18 rfl (lv_at hl 0 rfl) ?_
  refine mg_code X hK hP d_Mod_count_19 ?_
  refine lvF_if_le (tgt := 29) hx hb d_Mod_count_22 (by decide) (by decide) ?_
  refine lv_iconst (v := 0) hx hb d_Mod_count_25 (by decide) ?_
  refine lv_goto (tgt := 35) hx hb d_Mod_count_26 (by decide) ?_
  exact W.iret (v := 0) hx hb hr (fun t ht hW => ⟨rfl, by rw [ht]; exact hP, hS.F ht⟩) hS.2.2 d_Mod_count_35
