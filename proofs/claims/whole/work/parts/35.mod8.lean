theorem gM_t {ca a : Nat → Nat} {z : Int32} {N : Nat} {HK HV : IT} {OF : BT} {OK OV : IT} {m c0 : Nat} {s0 : Int32} {r : Bool × HS} (h : r.1 = true) : gM ca a z N HK HV OF OK OV m c0 s0 r = wM ca a z r.2.2.2.1 r.2.1 r.2.2.1 r.2.2.2.2.2.2.1 r.2.2.2.2.2.1 r.2.2.2.2.2.2.2 r.2.2.2.2.1 N HK HV OF OK OV := if_pos h
theorem gM_f {ca a : Nat → Nat} {z : Int32} {N : Nat} {HK HV : IT} {OF : BT} {OK OV : IT} {m c0 : Nat} {s0 : Int32} {r : Bool × HS} (h : r.1 = false) : gM ca a z N HK HV OF OK OV m c0 s0 r = wM ca a z (pbB r.2.2.2.1 OF (128 * m) 128) (pbL r.2.1 OK (128 * m) 128) (pbL r.2.2.1 OV (128 * m) 128) (va_up r.2.2.2.2.2.2.1 m c0) r.2.2.2.2.2.1 (upd r.2.2.2.2.2.2.2 m s0) r.2.2.2.2.1 N HK HV OF OK OV := if_neg (by rw [h]; decide)
set_option maxHeartbeats 4000000 in
set_option maxRecDepth 100000 in
/-- put -/
theorem c_Mod_put_bad (l : Launch) (D : va_G) (ca a : Nat → Nat) (z : Int32) (F : BT) (K V : IT) (P B : Nat → Nat) (S C : IT) (N : Nat) (HK HV : IT) (OF : BT) (OK OV : IT) (mm : Int32) (hm : mm < 0 ∨ nI 3 ≤ mm) (key val : Int32)  : Met l y_Mod_put w_Mod_put (rmD 4 0 0) (va_Pc [.ref (a 0), .int mm, .int key, .int val] (hb_W D mCl (wM ca a z F K V P B S C N HK HV OF OK OV) (tyM ca))) (hq_W (some (.int 0)) D mCl (wM ca a 1 F K V P B S C N HK HV OF OK OV) (hA (wM ca a z F K V P B S C N HK HV OF OK OV))) 0 0 (hA (wM ca a z F K V P B S C N HK HV OF OK OV)) := by
  refine Met.ofW (cc := b_Mod_put) (maxL := 5) (ret := some .boolean) (by decide) rfl ?_
  intro p e s m0 args below meth c0 s₁ B0 hml hv
  obtain ⟨rfl, hP, hK, hD0⟩ := hv
  have hx := B0.exec
  have hb := B0.bytes
  have hr := B0.returns
  have hts := atoms_spec (ws := w_Mod_put) B0.pre
  have hown : s.vm.findClass R_Mod = some m0.cls := findClass_of_methodNamed B0.named
  have hlocks := B0.notSynchronized
  have hwA : ∀ w ∈ wsA, w.before ([.ref (a 0), .int mm, .int key, .int val] : List Value).toArray s = true := fun w h => hts w (List.mem_cons_of_mem _ h)
  have X : CallFix p m0 c0 b_Mod_put 5 s ([.ref (a 0), .int mm, .int key, .int val] : List Value).toArray wsA R_Mod := ⟨hx, hb, hml, hown, hwA⟩
  have hD := hA_D hD0
  have hS : va_S (hA (wM ca a z F K V P B S C N HK HV OF OK OV)) s.heap s.heap [] := va_S.rf
  have hl := lv_entry ([.ref (a 0), .int mm, .int key, .int val]) (n := 5) (Nat.le_of_ble_eq_true rfl)
  rw [lg_entry_eq]
  generalize (lg_sl ([.ref (a 0), .int mm, .int key, .int val]) ++ List.replicate (5 - (lg_sl ([.ref (a 0), .int mm, .int key, .int val])).length) Slot.unset).toArray = ls at hl ⊢
  have hl : lv_has ls 5 [(0, .ref (a 0)), (1, .int mm), (2, .int key), (3, .int val)] := hl
  refine lv_aload_n hx hb d_Mod_put_0 rfl (lv_at hl 0 rfl) ?_
  refine lv_iload_n hx hb d_Mod_put_1 rfl (lv_at hl 1 rfl) ?_
  refine km_isMap_bad X hK hP hD hS hl.1 (mm := mm) hm (Nat.le_of_ble_eq_true rfl) ⟨Nat.zero_le _, Nat.zero_le _⟩ ⟨Nat.le_of_ble_eq_true rfl, Nat.le_of_ble_eq_true rfl⟩ d_Mod_put_2 (fun H locs hP hD hS => ?_)
  refine lvF_if_ne (tgt := 10) hx hb d_Mod_put_5 (by decide) (rfl) ?_
  refine lv_iconst (v := 0) hx hb d_Mod_put_8 (by decide) ?_
  exact W.zret (v := 0) hx hb hr rfl (fun t ht hW => ⟨rfl, by rw [ht]; exact hP, hS.F ht⟩) hS.2.2 d_Mod_put_9
set_option maxHeartbeats 4000000 in
set_option maxRecDepth 100000 in
/-- put -/
theorem c_Mod_put_old (l : Launch) (D : va_G) (ca a : Nat → Nat) (z : Int32) (F : BT) (K V : IT) (P B : Nat → Nat) (S C : IT) (N : Nat) (HK HV : IT) (OF : BT) (OK OV : IT) (m : Nat) (hm : m < 3) (hc : pw (P m)) (key val : Int32) (k : Nat) (hfd : plF F K (128 * m) key (P m) = some k) : Met l y_Mod_put w_Mod_put (rmD 4 0 0) (va_Pc [.ref (a 0), .int (nI m), .int key, .int val] (hb_W D mCl (wM ca a z F K V P B S C N HK HV OF OK OV) (tyM ca))) (hq_W (some (.int 1)) D mCl (wM ca a 0 F K (upd V (128 * m + k) val) P B S C N HK HV OF OK OV) (hA (wM ca a z F K V P B S C N HK HV OF OK OV))) 0 0 (hA (wM ca a z F K V P B S C N HK HV OF OK OV)) := by
  refine Met.ofW (cc := b_Mod_put) (maxL := 5) (ret := some .boolean) (by decide) rfl ?_
  intro p e s m0 args below meth c0 s₁ B0 hml hv
  obtain ⟨rfl, hP, hK, hD0⟩ := hv
  have hx := B0.exec
  have hb := B0.bytes
  have hr := B0.returns
  have hts := atoms_spec (ws := w_Mod_put) B0.pre
  have hown : s.vm.findClass R_Mod = some m0.cls := findClass_of_methodNamed B0.named
  have hlocks := B0.notSynchronized
  have hwA : ∀ w ∈ wsA, w.before ([.ref (a 0), .int (nI m), .int key, .int val] : List Value).toArray s = true := fun w h => hts w (List.mem_cons_of_mem _ h)
  have X : CallFix p m0 c0 b_Mod_put 5 s ([.ref (a 0), .int (nI m), .int key, .int val] : List Value).toArray wsA R_Mod := ⟨hx, hb, hml, hown, hwA⟩
  have hD := hA_D hD0
  have hS : va_S (hA (wM ca a z F K V P B S C N HK HV OF OK OV)) s.heap s.heap [] := va_S.rf
  have hl := lv_entry ([.ref (a 0), .int (nI m), .int key, .int val]) (n := 5) (Nat.le_of_ble_eq_true rfl)
  rw [lg_entry_eq]
  generalize (lg_sl ([.ref (a 0), .int (nI m), .int key, .int val]) ++ List.replicate (5 - (lg_sl ([.ref (a 0), .int (nI m), .int key, .int val])).length) Slot.unset).toArray = ls at hl ⊢
  have hl : lv_has ls 5 [(0, .ref (a 0)), (1, .int (nI m)), (2, .int key), (3, .int val)] := hl
  have hp9 := pw_le hc
  have hkl := plF_lt _ _ hfd
  refine lv_aload_n hx hb d_Mod_put_0 rfl (lv_at hl 0 rfl) ?_
  refine lv_iload_n hx hb d_Mod_put_1 rfl (lv_at hl 1 rfl) ?_
  refine km_isMap X hK hP hD hS hl.1 (m := m) hm (Nat.le_of_ble_eq_true rfl) ⟨Nat.zero_le _, Nat.zero_le _⟩ ⟨Nat.le_of_ble_eq_true rfl, Nat.le_of_ble_eq_true rfl⟩ d_Mod_put_2 (fun H locs hP hD hS => ?_)
  refine lvT_if_ne (tgt := 10) hx hb d_Mod_put_5 (by decide) (by decide) ?_
  refine lv_aload_n hx hb d_Mod_put_10 rfl (lv_at hl 0 rfl) ?_
  refine lv_iload_n hx hb d_Mod_put_11 rfl (lv_at hl 1 rfl) ?_
  refine lv_iload_n hx hb d_Mod_put_12 rfl (lv_at hl 2 rfl) ?_
  refine km_placeOf X hK hP hl.1 (m := m) (key := key) hm hp9 (Nat.le_of_ble_eq_true rfl) ⟨Nat.zero_le _, Nat.zero_le _⟩ ⟨Nat.le_of_ble_eq_true rfl, Nat.le_of_ble_eq_true rfl⟩ d_Mod_put_13 ?_
  refine lv_tope (y := nI k) (by rw [hfd]; rfl) ?_
  refine lv_istore (lv' := [(4, .int (nI k)), (0, .ref (a 0)), (1, .int (nI m)), (2, .int key), (3, .int val)]) hx hb d_Mod_put_16 hl (by decide) rfl (fun ls hl => ?_)
  refine lv_iload hx hb d_Mod_put_18 (lv_at hl 0 rfl) ?_
  refine lv_iconst (v := -1) hx hb d_Mod_put_20 (by decide) ?_
  refine lvF_icmp_eq (tgt := 40) hx hb d_Mod_put_21 (by decide) (nI_m1 (by omega)) ?_
  refine lv_aload_n hx hb d_Mod_put_24 rfl (lv_at hl 1 rfl) ?_
  refine mg_values X hK hP d_Mod_put_25 ?_
  refine lv_sipush (v := 128) hx hb d_Mod_put_28 (by decide) ?_
  refine lv_iload_n hx hb d_Mod_put_31 rfl (lv_at hl 2 rfl) ?_
  refine lv_imul hx hb d_Mod_put_32 ?_
  refine lv_tope (y := nI (128 * m)) (pk_mul (128) (m)) ?_
  refine lv_iload hx hb d_Mod_put_33 (lv_at hl 0 rfl) ?_
  refine lv_iadd hx hb d_Mod_put_35 ?_
  refine lv_tope (y := nI (128 * m + k)) (nI_add (128 * m) (k)) ?_
  refine lv_iload_n hx hb d_Mod_put_36 rfl (lv_at hl 4 rfl) ?_
  refine ms_V X hK hP hD hS (i := 128 * m + k) (x := val) (by omega) d_Mod_put_37 (fun H locs hP hD hS => ?_)
  refine lv_iconst (v := 1) hx hb d_Mod_put_38 (by decide) ?_
  exact W.zret (v := 1) hx hb hr rfl (fun t ht hW => ⟨rfl, by rw [ht]; exact hP, hS.F ht⟩) hS.2.2 d_Mod_put_39
set_option maxHeartbeats 4000000 in
set_option maxRecDepth 100000 in
/-- put -/
theorem c_Mod_put_ins (l : Launch) (D : va_G) (ca a : Nat → Nat) (z : Int32) (F : BT) (K V : IT) (P B : Nat → Nat) (S C : IT) (N : Nat) (HK HV : IT) (OF : BT) (OK OV : IT) (m : Nat) (hm : m < 3) (hc : pw (P m)) (key val : Int32) (hfd : plF F K (128 * m) key (P m) = none) (hi : (ins (128 * m) (P m) (S m) key val (K, V, F, C)).1 = true) : Met l y_Mod_put w_Mod_put (rmD 4 0 0) (va_Pc [.ref (a 0), .int (nI m), .int key, .int val] (hb_W D mCl (wM ca a z F K V P B S C N HK HV OF OK OV) (tyM ca))) (hq_W (some (.int 0)) D mCl (wM ca a 0 ((ins (128 * m) (P m) (S m) key val (K, V, F, C)).2.2.2.1) ((ins (128 * m) (P m) (S m) key val (K, V, F, C)).2.1) ((ins (128 * m) (P m) (S m) key val (K, V, F, C)).2.2.1) P B S ((ins (128 * m) (P m) (S m) key val (K, V, F, C)).2.2.2.2) N HK HV OF OK OV) (hA (wM ca a z F K V P B S C N HK HV OF OK OV))) 0 0 (hA (wM ca a z F K V P B S C N HK HV OF OK OV)) := by
  refine Met.ofW (cc := b_Mod_put) (maxL := 5) (ret := some .boolean) (by decide) rfl ?_
  intro p e s m0 args below meth c0 s₁ B0 hml hv
  obtain ⟨rfl, hP, hK, hD0⟩ := hv
  have hx := B0.exec
  have hb := B0.bytes
  have hr := B0.returns
  have hts := atoms_spec (ws := w_Mod_put) B0.pre
  have hown : s.vm.findClass R_Mod = some m0.cls := findClass_of_methodNamed B0.named
  have hlocks := B0.notSynchronized
  have hwA : ∀ w ∈ wsA, w.before ([.ref (a 0), .int (nI m), .int key, .int val] : List Value).toArray s = true := fun w h => hts w (List.mem_cons_of_mem _ h)
  have X : CallFix p m0 c0 b_Mod_put 5 s ([.ref (a 0), .int (nI m), .int key, .int val] : List Value).toArray wsA R_Mod := ⟨hx, hb, hml, hown, hwA⟩
  have hD := hA_D hD0
  have hS : va_S (hA (wM ca a z F K V P B S C N HK HV OF OK OV)) s.heap s.heap [] := va_S.rf
  have hl := lv_entry ([.ref (a 0), .int (nI m), .int key, .int val]) (n := 5) (Nat.le_of_ble_eq_true rfl)
  rw [lg_entry_eq]
  generalize (lg_sl ([.ref (a 0), .int (nI m), .int key, .int val]) ++ List.replicate (5 - (lg_sl ([.ref (a 0), .int (nI m), .int key, .int val])).length) Slot.unset).toArray = ls at hl ⊢
  have hl : lv_has ls 5 [(0, .ref (a 0)), (1, .int (nI m)), (2, .int key), (3, .int val)] := hl
  have hp9 := pw_le hc
  refine lv_aload_n hx hb d_Mod_put_0 rfl (lv_at hl 0 rfl) ?_
  refine lv_iload_n hx hb d_Mod_put_1 rfl (lv_at hl 1 rfl) ?_
  refine km_isMap X hK hP hD hS hl.1 (m := m) hm (Nat.le_of_ble_eq_true rfl) ⟨Nat.zero_le _, Nat.zero_le _⟩ ⟨Nat.le_of_ble_eq_true rfl, Nat.le_of_ble_eq_true rfl⟩ d_Mod_put_2 (fun H locs hP hD hS => ?_)
  refine lvT_if_ne (tgt := 10) hx hb d_Mod_put_5 (by decide) (by decide) ?_
  refine lv_aload_n hx hb d_Mod_put_10 rfl (lv_at hl 0 rfl) ?_
  refine lv_iload_n hx hb d_Mod_put_11 rfl (lv_at hl 1 rfl) ?_
  refine lv_iload_n hx hb d_Mod_put_12 rfl (lv_at hl 2 rfl) ?_
  refine km_placeOf X hK hP hl.1 (m := m) (key := key) hm hp9 (Nat.le_of_ble_eq_true rfl) ⟨Nat.zero_le _, Nat.zero_le _⟩ ⟨Nat.le_of_ble_eq_true rfl, Nat.le_of_ble_eq_true rfl⟩ d_Mod_put_13 ?_
  refine lv_tope (y := -1) (by rw [hfd]; rfl) ?_
  refine lv_istore (lv' := [(4, .int (-1)), (0, .ref (a 0)), (1, .int (nI m)), (2, .int key), (3, .int val)]) hx hb d_Mod_put_16 hl (by decide) rfl (fun ls hl => ?_)
  refine lv_iload hx hb d_Mod_put_18 (lv_at hl 0 rfl) ?_
  refine lv_iconst (v := -1) hx hb d_Mod_put_20 (by decide) ?_
  refine lvT_icmp_eq (tgt := 40) hx hb d_Mod_put_21 (by decide) (rfl) ?_
  refine lv_aload_n hx hb d_Mod_put_40 rfl (lv_at hl 1 rfl) ?_
  refine lv_iload_n hx hb d_Mod_put_41 rfl (lv_at hl 2 rfl) ?_
  refine lv_iload_n hx hb d_Mod_put_42 rfl (lv_at hl 3 rfl) ?_
  refine lv_iload_n hx hb d_Mod_put_43 rfl (lv_at hl 4 rfl) ?_
  refine km_insert X hK hP hD hS hl.1 (m := m) (key := key) (val := val) hm hc (Nat.le_of_ble_eq_true rfl) ⟨Nat.zero_le _, Nat.zero_le _⟩ ⟨Nat.le_of_ble_eq_true rfl, Nat.le_of_ble_eq_true rfl⟩ d_Mod_put_44 (fun H locs hP hD hS => ?_)
  refine lvT_if_ne (tgt := 102) hx hb d_Mod_put_47 (by decide) (by rw [hi]; decide) ?_
  refine lv_iconst (v := 0) hx hb d_Mod_put_102 (by decide) ?_
  exact W.zret (v := 0) hx hb hr rfl (fun t ht hW => ⟨rfl, by rw [ht]; exact hP, hS.F ht⟩) hS.2.2 d_Mod_put_103
set_option maxHeartbeats 4000000 in
set_option maxRecDepth 100000 in
/-- put -/
theorem c_Mod_put_grow (l : Launch) (D : va_G) (ca a : Nat → Nat) (z : Int32) (F : BT) (K V : IT) (P B : Nat → Nat) (S C : IT) (N : Nat) (HK HV : IT) (OF : BT) (OK OV : IT) (m : Nat) (hm : m < 3) (hc : pw (P m)) (key val : Int32) (hfd : plF F K (128 * m) key (P m) = none) (I : Bool × XS) (hI : (ins (128 * m) (P m) (S m) key val (K, V, F, C)) = I) (hi : I.1 = false) (Hh : Nat × IT × IT) (hH : hld I.2.2.2.1 I.2.1 I.2.2.1 HK HV (128 * m) (P m) 128 = Hh) (R9 : Bool × HS) (hR9 : grM m (P m) (P 0 + P 1 + P 2) (Hh.1 + 1) (upd Hh.2.1 Hh.1 key) (upd Hh.2.2 Hh.1 val) P 4 1 (I.2.1, I.2.2.1, I.2.2.2.1, I.2.2.2.2, B, P, S) = R9) (hg : R9.1 = true) (hG : GI (P 0 + P 1 + P 2) (P m) m B P) : Met l y_Mod_put w_Mod_put (rmD 4 0 0) (va_Pc [.ref (a 0), .int (nI m), .int key, .int val] (hb_W D mCl (wM ca a z F K V P B S C N HK HV OF OK OV) (tyM ca))) (hq_W (some (.int 0)) D mCl (gM ca a 0 (Hh.1 + 1) (upd Hh.2.1 Hh.1 key) (upd Hh.2.2 Hh.1 val) (cpLB OF I.2.2.2.1 (128 * m) 128) (cpL OK I.2.1 (128 * m) 128) (cpL OV I.2.2.1 (128 * m) 128) m (P m) (S m) R9) (hA (wM ca a z F K V P B S C N HK HV OF OK OV))) 0 0 (hA (wM ca a z F K V P B S C N HK HV OF OK OV)) := by
  refine Met.ofW (cc := b_Mod_put) (maxL := 5) (ret := some .boolean) (by decide) rfl ?_
  intro p e s m0 args below meth c0 s₁ B0 hml hv
  obtain ⟨rfl, hP, hK, hD0⟩ := hv
  have hx := B0.exec
  have hb := B0.bytes
  have hr := B0.returns
  have hts := atoms_spec (ws := w_Mod_put) B0.pre
  have hown : s.vm.findClass R_Mod = some m0.cls := findClass_of_methodNamed B0.named
  have hlocks := B0.notSynchronized
  have hwA : ∀ w ∈ wsA, w.before ([.ref (a 0), .int (nI m), .int key, .int val] : List Value).toArray s = true := fun w h => hts w (List.mem_cons_of_mem _ h)
  have X : CallFix p m0 c0 b_Mod_put 5 s ([.ref (a 0), .int (nI m), .int key, .int val] : List Value).toArray wsA R_Mod := ⟨hx, hb, hml, hown, hwA⟩
  have hD := hA_D hD0
  have hS : va_S (hA (wM ca a z F K V P B S C N HK HV OF OK OV)) s.heap s.heap [] := va_S.rf
  have hl := lv_entry ([.ref (a 0), .int (nI m), .int key, .int val]) (n := 5) (Nat.le_of_ble_eq_true rfl)
  rw [lg_entry_eq]
  generalize (lg_sl ([.ref (a 0), .int (nI m), .int key, .int val]) ++ List.replicate (5 - (lg_sl ([.ref (a 0), .int (nI m), .int key, .int val])).length) Slot.unset).toArray = ls at hl ⊢
  have hl : lv_has ls 5 [(0, .ref (a 0)), (1, .int (nI m)), (2, .int key), (3, .int val)] := hl
  have hp9 := pw_le hc
  have hle : Hh.1 ≤ 128 := by rw [← hH]; exact hld_le 128
  refine lv_aload_n hx hb d_Mod_put_0 rfl (lv_at hl 0 rfl) ?_
  refine lv_iload_n hx hb d_Mod_put_1 rfl (lv_at hl 1 rfl) ?_
  refine km_isMap X hK hP hD hS hl.1 (m := m) hm (Nat.le_of_ble_eq_true rfl) ⟨Nat.zero_le _, Nat.zero_le _⟩ ⟨Nat.le_of_ble_eq_true rfl, Nat.le_of_ble_eq_true rfl⟩ d_Mod_put_2 (fun H locs hP hD hS => ?_)
  refine lvT_if_ne (tgt := 10) hx hb d_Mod_put_5 (by decide) (by decide) ?_
  refine lv_aload_n hx hb d_Mod_put_10 rfl (lv_at hl 0 rfl) ?_
  refine lv_iload_n hx hb d_Mod_put_11 rfl (lv_at hl 1 rfl) ?_
  refine lv_iload_n hx hb d_Mod_put_12 rfl (lv_at hl 2 rfl) ?_
  refine km_placeOf X hK hP hl.1 (m := m) (key := key) hm hp9 (Nat.le_of_ble_eq_true rfl) ⟨Nat.zero_le _, Nat.zero_le _⟩ ⟨Nat.le_of_ble_eq_true rfl, Nat.le_of_ble_eq_true rfl⟩ d_Mod_put_13 ?_
  refine lv_tope (y := -1) (by rw [hfd]; rfl) ?_
  refine lv_istore (lv' := [(4, .int (-1)), (0, .ref (a 0)), (1, .int (nI m)), (2, .int key), (3, .int val)]) hx hb d_Mod_put_16 hl (by decide) rfl (fun ls hl => ?_)
  refine lv_iload hx hb d_Mod_put_18 (lv_at hl 0 rfl) ?_
  refine lv_iconst (v := -1) hx hb d_Mod_put_20 (by decide) ?_
  refine lvT_icmp_eq (tgt := 40) hx hb d_Mod_put_21 (by decide) (rfl) ?_
  refine lv_aload_n hx hb d_Mod_put_40 rfl (lv_at hl 1 rfl) ?_
  refine lv_iload_n hx hb d_Mod_put_41 rfl (lv_at hl 2 rfl) ?_
  refine lv_iload_n hx hb d_Mod_put_42 rfl (lv_at hl 3 rfl) ?_
  refine lv_iload_n hx hb d_Mod_put_43 rfl (lv_at hl 4 rfl) ?_
  refine km_insert X hK hP hD hS hl.1 (m := m) (key := key) (val := val) hm hc (Nat.le_of_ble_eq_true rfl) ⟨Nat.zero_le _, Nat.zero_le _⟩ ⟨Nat.le_of_ble_eq_true rfl, Nat.le_of_ble_eq_true rfl⟩ d_Mod_put_44 (fun H locs hP hD hS => ?_)
  refine lv_tope (y := 0) (by rw [hI, hi]; rfl) ?_
  rw [hI] at hP hD
  refine lvF_if_ne (tgt := 102) hx hb d_Mod_put_47 (by decide) (rfl) ?_
  refine lv_aload_n hx hb d_Mod_put_50 rfl (lv_at hl 1 rfl) ?_
  refine lv_iload_n hx hb d_Mod_put_51 rfl (lv_at hl 2 rfl) ?_
  refine km_hold X hK hP hD hS hl.1 (m := m) hm hp9 (Nat.le_of_ble_eq_true rfl) ⟨Nat.zero_le _, Nat.zero_le _⟩ ⟨Nat.le_of_ble_eq_true rfl, Nat.le_of_ble_eq_true rfl⟩ d_Mod_put_52 (fun H locs hP hD hS => ?_)
  rw [hH] at hP hD
  refine lv_aload_n hx hb d_Mod_put_55 rfl (lv_at hl 1 rfl) ?_
  refine mg_heldKeys X hK hP d_Mod_put_56 ?_
  refine lv_aload_n hx hb d_Mod_put_59 rfl (lv_at hl 1 rfl) ?_
  refine mg_held X hK hP d_Mod_put_60 ?_
  refine lv_iload_n hx hb d_Mod_put_63 rfl (lv_at hl 3 rfl) ?_
  refine ms_HK X hK hP hD hS (i := Hh.1) (x := key) (by omega) d_Mod_put_64 (fun H locs hP hD hS => ?_)
  refine lv_aload_n hx hb d_Mod_put_65 rfl (lv_at hl 1 rfl) ?_
  refine mg_heldValues X hK hP d_Mod_put_66 ?_
  refine lv_aload_n hx hb d_Mod_put_69 rfl (lv_at hl 1 rfl) ?_
  refine mg_held X hK hP d_Mod_put_70 ?_
  refine lv_iload_n hx hb d_Mod_put_73 rfl (lv_at hl 4 rfl) ?_
  refine ms_HV X hK hP hD hS (i := Hh.1) (x := val) (by omega) d_Mod_put_74 (fun H locs hP hD hS => ?_)
  refine lv_aload_n hx hb d_Mod_put_75 rfl (lv_at hl 1 rfl) ?_
  refine lv_dup hx hb d_Mod_put_76 rfl ?_
  refine mg_held X hK hP d_Mod_put_77 ?_
  refine lv_iconst (v := 1) hx hb d_Mod_put_80 (by decide) ?_
  refine lv_iadd hx hb d_Mod_put_81 ?_
  refine lv_tope (y := nI (Hh.1 + 1)) (nI_add (Hh.1) (1)) ?_
  refine mp_held X hK hP hD hS (x := Hh.1 + 1) d_Mod_put_82 (fun H locs hP hD hS => ?_)
  refine lv_aload_n hx hb d_Mod_put_85 rfl (lv_at hl 1 rfl) ?_
  refine lv_aload_n hx hb d_Mod_put_86 rfl (lv_at hl 1 rfl) ?_
  refine lv_iload_n hx hb d_Mod_put_87 rfl (lv_at hl 2 rfl) ?_
  refine km_grow X hK hP hD hS hl.1 (m := m) hm hc hG (by omega) (Nat.le_of_ble_eq_true rfl) ⟨Nat.zero_le _, Nat.zero_le _⟩ ⟨Nat.le_of_ble_eq_true rfl, Nat.le_of_ble_eq_true rfl⟩ d_Mod_put_88 (fun H locs hP hD hS => ?_)
  rw [hR9] at hP hD
  refine lv_tope (y := 1) (by rw [hR9, hg]; rfl) ?_
  rw [gM_t hg] at hP hD
  refine lvF_if_eq (tgt := 98) hx hb d_Mod_put_91 (by decide) (by decide) ?_
  refine lv_iconst (v := 0) hx hb d_Mod_put_94 (by decide) ?_
  refine lv_goto (tgt := 99) hx hb d_Mod_put_95 (by decide) ?_
  refine mp_code X hK hP hD hS (x := 0) d_Mod_put_99 (fun H locs hP hD hS => ?_)
  refine lv_iconst (v := 0) hx hb d_Mod_put_102 (by decide) ?_
  exact W.zret (v := 0) hx hb hr rfl (fun t ht hW => ⟨rfl, by rw [ht, gM_t hg]; exact hP, hS.F ht⟩) hS.2.2 d_Mod_put_103
set_option maxHeartbeats 4000000 in
set_option maxRecDepth 100000 in
/-- put -/
theorem c_Mod_put_ref (l : Launch) (D : va_G) (ca a : Nat → Nat) (z : Int32) (F : BT) (K V : IT) (P B : Nat → Nat) (S C : IT) (N : Nat) (HK HV : IT) (OF : BT) (OK OV : IT) (m : Nat) (hm : m < 3) (hc : pw (P m)) (key val : Int32) (hfd : plF F K (128 * m) key (P m) = none) (I : Bool × XS) (hI : (ins (128 * m) (P m) (S m) key val (K, V, F, C)) = I) (hi : I.1 = false) (Hh : Nat × IT × IT) (hH : hld I.2.2.2.1 I.2.1 I.2.2.1 HK HV (128 * m) (P m) 128 = Hh) (R9 : Bool × HS) (hR9 : grM m (P m) (P 0 + P 1 + P 2) (Hh.1 + 1) (upd Hh.2.1 Hh.1 key) (upd Hh.2.2 Hh.1 val) P 4 1 (I.2.1, I.2.2.1, I.2.2.2.1, I.2.2.2.2, B, P, S) = R9) (hg : R9.1 = false) (hG : GI (P 0 + P 1 + P 2) (P m) m B P) : Met l y_Mod_put w_Mod_put (rmD 4 0 0) (va_Pc [.ref (a 0), .int (nI m), .int key, .int val] (hb_W D mCl (wM ca a z F K V P B S C N HK HV OF OK OV) (tyM ca))) (hq_W (some (.int 0)) D mCl (gM ca a 2 (Hh.1 + 1) (upd Hh.2.1 Hh.1 key) (upd Hh.2.2 Hh.1 val) (cpLB OF I.2.2.2.1 (128 * m) 128) (cpL OK I.2.1 (128 * m) 128) (cpL OV I.2.2.1 (128 * m) 128) m (P m) (S m) R9) (hA (wM ca a z F K V P B S C N HK HV OF OK OV))) 0 0 (hA (wM ca a z F K V P B S C N HK HV OF OK OV)) := by
  refine Met.ofW (cc := b_Mod_put) (maxL := 5) (ret := some .boolean) (by decide) rfl ?_
  intro p e s m0 args below meth c0 s₁ B0 hml hv
  obtain ⟨rfl, hP, hK, hD0⟩ := hv
  have hx := B0.exec
  have hb := B0.bytes
  have hr := B0.returns
  have hts := atoms_spec (ws := w_Mod_put) B0.pre
  have hown : s.vm.findClass R_Mod = some m0.cls := findClass_of_methodNamed B0.named
  have hlocks := B0.notSynchronized
  have hwA : ∀ w ∈ wsA, w.before ([.ref (a 0), .int (nI m), .int key, .int val] : List Value).toArray s = true := fun w h => hts w (List.mem_cons_of_mem _ h)
  have X : CallFix p m0 c0 b_Mod_put 5 s ([.ref (a 0), .int (nI m), .int key, .int val] : List Value).toArray wsA R_Mod := ⟨hx, hb, hml, hown, hwA⟩
  have hD := hA_D hD0
  have hS : va_S (hA (wM ca a z F K V P B S C N HK HV OF OK OV)) s.heap s.heap [] := va_S.rf
  have hl := lv_entry ([.ref (a 0), .int (nI m), .int key, .int val]) (n := 5) (Nat.le_of_ble_eq_true rfl)
  rw [lg_entry_eq]
  generalize (lg_sl ([.ref (a 0), .int (nI m), .int key, .int val]) ++ List.replicate (5 - (lg_sl ([.ref (a 0), .int (nI m), .int key, .int val])).length) Slot.unset).toArray = ls at hl ⊢
  have hl : lv_has ls 5 [(0, .ref (a 0)), (1, .int (nI m)), (2, .int key), (3, .int val)] := hl
  have hp9 := pw_le hc
  have hle : Hh.1 ≤ 128 := by rw [← hH]; exact hld_le 128
  refine lv_aload_n hx hb d_Mod_put_0 rfl (lv_at hl 0 rfl) ?_
  refine lv_iload_n hx hb d_Mod_put_1 rfl (lv_at hl 1 rfl) ?_
  refine km_isMap X hK hP hD hS hl.1 (m := m) hm (Nat.le_of_ble_eq_true rfl) ⟨Nat.zero_le _, Nat.zero_le _⟩ ⟨Nat.le_of_ble_eq_true rfl, Nat.le_of_ble_eq_true rfl⟩ d_Mod_put_2 (fun H locs hP hD hS => ?_)
  refine lvT_if_ne (tgt := 10) hx hb d_Mod_put_5 (by decide) (by decide) ?_
  refine lv_aload_n hx hb d_Mod_put_10 rfl (lv_at hl 0 rfl) ?_
  refine lv_iload_n hx hb d_Mod_put_11 rfl (lv_at hl 1 rfl) ?_
  refine lv_iload_n hx hb d_Mod_put_12 rfl (lv_at hl 2 rfl) ?_
  refine km_placeOf X hK hP hl.1 (m := m) (key := key) hm hp9 (Nat.le_of_ble_eq_true rfl) ⟨Nat.zero_le _, Nat.zero_le _⟩ ⟨Nat.le_of_ble_eq_true rfl, Nat.le_of_ble_eq_true rfl⟩ d_Mod_put_13 ?_
  refine lv_tope (y := -1) (by rw [hfd]; rfl) ?_
  refine lv_istore (lv' := [(4, .int (-1)), (0, .ref (a 0)), (1, .int (nI m)), (2, .int key), (3, .int val)]) hx hb d_Mod_put_16 hl (by decide) rfl (fun ls hl => ?_)
  refine lv_iload hx hb d_Mod_put_18 (lv_at hl 0 rfl) ?_
  refine lv_iconst (v := -1) hx hb d_Mod_put_20 (by decide) ?_
  refine lvT_icmp_eq (tgt := 40) hx hb d_Mod_put_21 (by decide) (rfl) ?_
  refine lv_aload_n hx hb d_Mod_put_40 rfl (lv_at hl 1 rfl) ?_
  refine lv_iload_n hx hb d_Mod_put_41 rfl (lv_at hl 2 rfl) ?_
  refine lv_iload_n hx hb d_Mod_put_42 rfl (lv_at hl 3 rfl) ?_
  refine lv_iload_n hx hb d_Mod_put_43 rfl (lv_at hl 4 rfl) ?_
  refine km_insert X hK hP hD hS hl.1 (m := m) (key := key) (val := val) hm hc (Nat.le_of_ble_eq_true rfl) ⟨Nat.zero_le _, Nat.zero_le _⟩ ⟨Nat.le_of_ble_eq_true rfl, Nat.le_of_ble_eq_true rfl⟩ d_Mod_put_44 (fun H locs hP hD hS => ?_)
  refine lv_tope (y := 0) (by rw [hI, hi]; rfl) ?_
  rw [hI] at hP hD
  refine lvF_if_ne (tgt := 102) hx hb d_Mod_put_47 (by decide) (rfl) ?_
  refine lv_aload_n hx hb d_Mod_put_50 rfl (lv_at hl 1 rfl) ?_
  refine lv_iload_n hx hb d_Mod_put_51 rfl (lv_at hl 2 rfl) ?_
  refine km_hold X hK hP hD hS hl.1 (m := m) hm hp9 (Nat.le_of_ble_eq_true rfl) ⟨Nat.zero_le _, Nat.zero_le _⟩ ⟨Nat.le_of_ble_eq_true rfl, Nat.le_of_ble_eq_true rfl⟩ d_Mod_put_52 (fun H locs hP hD hS => ?_)
  rw [hH] at hP hD
  refine lv_aload_n hx hb d_Mod_put_55 rfl (lv_at hl 1 rfl) ?_
  refine mg_heldKeys X hK hP d_Mod_put_56 ?_
  refine lv_aload_n hx hb d_Mod_put_59 rfl (lv_at hl 1 rfl) ?_
  refine mg_held X hK hP d_Mod_put_60 ?_
  refine lv_iload_n hx hb d_Mod_put_63 rfl (lv_at hl 3 rfl) ?_
  refine ms_HK X hK hP hD hS (i := Hh.1) (x := key) (by omega) d_Mod_put_64 (fun H locs hP hD hS => ?_)
  refine lv_aload_n hx hb d_Mod_put_65 rfl (lv_at hl 1 rfl) ?_
  refine mg_heldValues X hK hP d_Mod_put_66 ?_
  refine lv_aload_n hx hb d_Mod_put_69 rfl (lv_at hl 1 rfl) ?_
  refine mg_held X hK hP d_Mod_put_70 ?_
  refine lv_iload_n hx hb d_Mod_put_73 rfl (lv_at hl 4 rfl) ?_
  refine ms_HV X hK hP hD hS (i := Hh.1) (x := val) (by omega) d_Mod_put_74 (fun H locs hP hD hS => ?_)
  refine lv_aload_n hx hb d_Mod_put_75 rfl (lv_at hl 1 rfl) ?_
  refine lv_dup hx hb d_Mod_put_76 rfl ?_
  refine mg_held X hK hP d_Mod_put_77 ?_
  refine lv_iconst (v := 1) hx hb d_Mod_put_80 (by decide) ?_
  refine lv_iadd hx hb d_Mod_put_81 ?_
  refine lv_tope (y := nI (Hh.1 + 1)) (nI_add (Hh.1) (1)) ?_
  refine mp_held X hK hP hD hS (x := Hh.1 + 1) d_Mod_put_82 (fun H locs hP hD hS => ?_)
  refine lv_aload_n hx hb d_Mod_put_85 rfl (lv_at hl 1 rfl) ?_
  refine lv_aload_n hx hb d_Mod_put_86 rfl (lv_at hl 1 rfl) ?_
  refine lv_iload_n hx hb d_Mod_put_87 rfl (lv_at hl 2 rfl) ?_
  refine km_grow X hK hP hD hS hl.1 (m := m) hm hc hG (by omega) (Nat.le_of_ble_eq_true rfl) ⟨Nat.zero_le _, Nat.zero_le _⟩ ⟨Nat.le_of_ble_eq_true rfl, Nat.le_of_ble_eq_true rfl⟩ d_Mod_put_88 (fun H locs hP hD hS => ?_)
  rw [hR9] at hP hD
  refine lv_tope (y := 0) (by rw [hR9, hg]; rfl) ?_
  rw [gM_f hg] at hP hD
  refine lvT_if_eq (tgt := 98) hx hb d_Mod_put_91 (by decide) (rfl) ?_
  refine lv_iconst (v := 2) hx hb d_Mod_put_98 (by decide) ?_
  refine mp_code X hK hP hD hS (x := 2) d_Mod_put_99 (fun H locs hP hD hS => ?_)
  refine lv_iconst (v := 0) hx hb d_Mod_put_102 (by decide) ?_
  exact W.zret (v := 0) hx hb hr rfl (fun t ht hW => ⟨rfl, by rw [ht, gM_f hg]; exact hP, hS.F ht⟩) hS.2.2 d_Mod_put_103
