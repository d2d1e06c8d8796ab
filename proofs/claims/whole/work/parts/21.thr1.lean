theorem g_Hop_partOf : GoodIn wsA (wsV R_Hop 36 R_Hop y_Hop_partOf w_Hop_partOf) := gV m_109 m_111 m_0 m_40 m_112
theorem g_Hop_slotHolding : GoodIn wsA (wsV R_Hop 59 R_Hop y_Hop_slotHolding w_Hop_slotHolding) := gV m_288 m_290 m_17 m_40 m_291
theorem g_Hop_requirePlace : GoodIn wsA (wsS R_Hop 92 y_Hop_requirePlace w_Hop_requirePlace) := gS m_385 m_386 m_40 m_387
set_option maxHeartbeats 4000000 in
set_option maxRecDepth 100000 in
/-- partOf: the part of a map -/
theorem c_Hop_partOf (l : Launch) (hlt : l.stackTraces = false) (D : va_G) (ca a q : Nat → Nat) (K V : IT) (T : BT) (C : IT) (B P : Nat → Nat) (S : IT) (sa : Nat → Nat) (j : Nat) (hj : j < 3) : vx_Met l y_Hop_partOf w_Hop_partOf (rmD 6 1 6) (va_Pc [.ref (a 0), .int (nI j)] (hb_X D hCl (wH ca a q K V T C B P S) (tyH ca) sa)) (hX_Q (.inl (some (.ref (q j)))) D hCl (wH ca a q K V T C B P S) (hA (wH ca a q K V T C B P S))) (hX_X (.inl (some (.ref (q j)))) D hCl (wH ca a q K V T C B P S) (hA (wH ca a q K V T C B P S))) 1 6 (hA (wH ca a q K V T C B P S)) := by
  refine vx_ofW (cc := b_Hop_partOf) (maxL := 2) (ret := some (.object "HopArena$Part")) (by decide) rfl ?_
  intro p e s m args below meth c0 s₁ B0 hml hnt hv
  obtain ⟨rfl, hP, hK, hD0, hF, hZ⟩ := hv
  have hx := B0.exec
  have hb := B0.bytes
  have hr := B0.returns
  have hts := atoms_spec (ws := w_Hop_partOf) B0.pre
  have hown : s.vm.findClass R_Hop = some m.cls := findClass_of_methodNamed B0.named
  have hlocks := B0.notSynchronized
  have hwA : ∀ w ∈ wsA, w.before ([.ref (a 0), .int (nI j)] : List Value).toArray s = true := fun w h => hts w (List.mem_cons_of_mem _ h)
  have X : CallFix p m c0 b_Hop_partOf 2 s ([.ref (a 0), .int (nI j)] : List Value).toArray wsA R_Hop := ⟨hx, hb, hml, hown, hwA⟩
  have hD := hA_D hD0
  have hS : va_S (hA (wH ca a q K V T C B P S)) s.heap s.heap [] := va_S.rf
  have hl := lv_entry ([.ref (a 0), .int (nI j)]) (n := 2) (Nat.le_of_ble_eq_true rfl)
  rw [lg_entry_eq]
  generalize (lg_sl ([.ref (a 0), .int (nI j)]) ++ List.replicate (2 - (lg_sl ([.ref (a 0), .int (nI j)])).length) Slot.unset).toArray = ls at hl ⊢
  have hl : lv_has ls 2 [(0, .ref (a 0)), (1, .int (nI j))] := hl
  refine lv_iload_n hx hb d_Hop_partOf_0 rfl (lv_at hl 1 rfl) ?_
  refine lvF_if_lt (tgt := 9) hx hb d_Hop_partOf_1 (by decide) (nI_pos (by omega)) ?_
  refine lv_iload_n hx hb d_Hop_partOf_4 rfl (lv_at hl 1 rfl) ?_
  refine lv_iconst (v := 3) hx hb d_Hop_partOf_5 (by decide) ?_
  refine lvT_icmp_lt (tgt := 19) hx hb d_Hop_partOf_6 (by decide) (nI_lt (a := j) (b := 3) (by omega) (by omega)) ?_
  refine lv_aload_n hx hb d_Hop_partOf_19 rfl (lv_at hl 0 rfl) ?_
  refine hg_parts X hK hP d_Hop_partOf_20 ?_
  refine lv_iload_n hx hb d_Hop_partOf_23 rfl (lv_at hl 1 rfl) ?_
  refine hl_P X hK hP (i := j) (hj) d_Hop_partOf_24 ?_
  refine W.widen (k := 1) (n := 6) (Nat.le_of_ble_eq_true rfl) (Nat.le_of_ble_eq_true rfl) ?_
  exact vx_ret (W.aret (v := .ref (q j)) hx hb hr (Or.inl ⟨_, rfl⟩) (Or.inr ⟨_, rfl⟩) (fun t ht hW => ⟨_, rfl, rfl, by rw [ht]; exact hP, hS.F ht⟩) hS.2.2 d_Hop_partOf_25)
set_option maxHeartbeats 4000000 in
set_option maxRecDepth 100000 in
/-- partOf: there is no such map -/
theorem c_Hop_partOf_bad (l : Launch) (hlt : l.stackTraces = false) (D : va_G) (ca a q : Nat → Nat) (K V : IT) (T : BT) (C : IT) (B P : Nat → Nat) (S : IT) (sa : Nat → Nat) (mm : Int32) (hm : mm < 0 ∨ nI 3 ≤ mm) : vx_Met l y_Hop_partOf w_Hop_partOf (rmD 6 1 6) (va_Pc [.ref (a 0), .int mm] (hb_X D hCl (wH ca a q K V T C B P S) (tyH ca) sa)) (hX_Q (.inr "java/lang/IndexOutOfBoundsException") D hCl (wH ca a q K V T C B P S) (hA (wH ca a q K V T C B P S))) (hX_X (.inr "java/lang/IndexOutOfBoundsException") D hCl (wH ca a q K V T C B P S) (hA (wH ca a q K V T C B P S))) 1 6 (hA (wH ca a q K V T C B P S)) := by
  refine vx_ofW (cc := b_Hop_partOf) (maxL := 2) (ret := some (.object "HopArena$Part")) (by decide) rfl ?_
  intro p e s m args below meth c0 s₁ B0 hml hnt hv
  obtain ⟨rfl, hP, hK, hD0, hF, hZ⟩ := hv
  have hx := B0.exec
  have hb := B0.bytes
  have hr := B0.returns
  have hts := atoms_spec (ws := w_Hop_partOf) B0.pre
  have hown : s.vm.findClass R_Hop = some m.cls := findClass_of_methodNamed B0.named
  have hlocks := B0.notSynchronized
  have hwA : ∀ w ∈ wsA, w.before ([.ref (a 0), .int mm] : List Value).toArray s = true := fun w h => hts w (List.mem_cons_of_mem _ h)
  have X : CallFix p m c0 b_Hop_partOf 2 s ([.ref (a 0), .int mm] : List Value).toArray wsA R_Hop := ⟨hx, hb, hml, hown, hwA⟩
  have hD := hA_D hD0
  have hS : va_S (hA (wH ca a q K V T C B P S)) s.heap s.heap [] := va_S.rf
  have hl := lv_entry ([.ref (a 0), .int mm]) (n := 2) (Nat.le_of_ble_eq_true rfl)
  rw [lg_entry_eq]
  generalize (lg_sl ([.ref (a 0), .int mm]) ++ List.replicate (2 - (lg_sl ([.ref (a 0), .int mm])).length) Slot.unset).toArray = ls at hl ⊢
  have hl : lv_has ls 2 [(0, .ref (a 0)), (1, .int mm)] := hl
  refine lv_iload_n hx hb d_Hop_partOf_0 rfl (lv_at hl 1 rfl) ?_
  refine lv_if_lt (tgt := 9) hx hb d_Hop_partOf_1 (by decide) (fun h1 => ?_) (fun h1 => ?_)
  · exact hX_throw (k := 0) (text := "no such map") X hlt hF hZ hP hS hl.1 by7_0 by7_1 by7_2 by7_5 (by decide) m_113 m_46 (by decide +kernel) at_IOOBE ot_IOOBE d_Hop_partOf_9 d_Hop_partOf_12 d_Hop_partOf_13 d_Hop_partOf_15 d_Hop_partOf_18 hnt ⟨Nat.le_of_ble_eq_true rfl, Nat.le_of_ble_eq_true rfl⟩ (Nat.le_of_ble_eq_true rfl) (Nat.le_of_ble_eq_true rfl) (Nat.le_of_ble_eq_true rfl) hlocks rfl (Nat.le_of_ble_eq_true rfl) (Nat.le_of_ble_eq_true rfl)
  · refine lv_iload_n hx hb d_Hop_partOf_4 rfl (lv_at hl 1 rfl) ?_
    refine lv_iconst (v := 3) hx hb d_Hop_partOf_5 (by decide) ?_
    refine lvF_icmp_lt (tgt := 19) hx hb d_Hop_partOf_6 (by decide) (Int32.not_lt.mpr (hm.resolve_left h1)) ?_
    exact hX_throw (k := 0) (text := "no such map") X hlt hF hZ hP hS hl.1 by7_0 by7_1 by7_2 by7_5 (by decide) m_113 m_46 (by decide +kernel) at_IOOBE ot_IOOBE d_Hop_partOf_9 d_Hop_partOf_12 d_Hop_partOf_13 d_Hop_partOf_15 d_Hop_partOf_18 hnt ⟨Nat.le_of_ble_eq_true rfl, Nat.le_of_ble_eq_true rfl⟩ (Nat.le_of_ble_eq_true rfl) (Nat.le_of_ble_eq_true rfl) (Nat.le_of_ble_eq_true rfl) hlocks rfl (Nat.le_of_ble_eq_true rfl) (Nat.le_of_ble_eq_true rfl)
set_option maxHeartbeats 4000000 in
set_option maxRecDepth 100000 in
/-- slotHolding: the slot of a key -/
theorem c_Hop_slotHolding (l : Launch) (hlt : l.stackTraces = false) (D : va_G) (ca a q : Nat → Nat) (K V : IT) (T : BT) (C : IT) (B P : Nat → Nat) (S : IT) (sa : Nat → Nat) (j : Nat) (key : Int32) (hj : j < 4) (hc : pw (P j)) (hbd : B j + P j ≤ 256) (k : Nat) (hk : k < 256) (hfd : fnd T K (B j) (P j) (hom key (S j) (P j)) key 0 8 = some k) : vx_Met l y_Hop_slotHolding w_Hop_slotHolding (rmD 6 1 6) (va_Pc [.ref (a 0), .ref (q j), .int key] (hb_X D hCl (wH ca a q K V T C B P S) (tyH ca) sa)) (hX_Q (.inl (some (.int (nI k)))) D hCl (wH ca a q K V T C B P S) (hA (wH ca a q K V T C B P S))) (hX_X (.inl (some (.int (nI k)))) D hCl (wH ca a q K V T C B P S) (hA (wH ca a q K V T C B P S))) 1 6 (hA (wH ca a q K V T C B P S)) := by
  refine vx_ofW (cc := b_Hop_slotHolding) (maxL := 4) (ret := some .int) (by decide) rfl ?_
  intro p e s m args below meth c0 s₁ B0 hml hnt hv
  obtain ⟨rfl, hP, hK, hD0, hF, hZ⟩ := hv
  have hx := B0.exec
  have hb := B0.bytes
  have hr := B0.returns
  have hts := atoms_spec (ws := w_Hop_slotHolding) B0.pre
  have hown : s.vm.findClass R_Hop = some m.cls := findClass_of_methodNamed B0.named
  have hlocks := B0.notSynchronized
  have hwA : ∀ w ∈ wsA, w.before ([.ref (a 0), .ref (q j), .int key] : List Value).toArray s = true := fun w h => hts w (List.mem_cons_of_mem _ h)
  have X : CallFix p m c0 b_Hop_slotHolding 4 s ([.ref (a 0), .ref (q j), .int key] : List Value).toArray wsA R_Hop := ⟨hx, hb, hml, hown, hwA⟩
  have hD := hA_D hD0
  have hS : va_S (hA (wH ca a q K V T C B P S)) s.heap s.heap [] := va_S.rf
  have hl := lv_entry ([.ref (a 0), .ref (q j), .int key]) (n := 4) (Nat.le_of_ble_eq_true rfl)
  rw [lg_entry_eq]
  generalize (lg_sl ([.ref (a 0), .ref (q j), .int key]) ++ List.replicate (4 - (lg_sl ([.ref (a 0), .ref (q j), .int key])).length) Slot.unset).toArray = ls at hl ⊢
  have hl : lv_has ls 4 [(0, .ref (a 0)), (1, .ref (q j)), (2, .int key)] := hl
  refine lv_aload_n hx hb d_Hop_slotHolding_0 rfl (lv_at hl 0 rfl) ?_
  refine lv_aload_n hx hb d_Hop_slotHolding_1 rfl (lv_at hl 1 rfl) ?_
  refine lv_iload_n hx hb d_Hop_slotHolding_2 rfl (lv_at hl 2 rfl) ?_
  refine k_slotOrNone X hK hP hl.1 hj hc hbd (Nat.le_of_ble_eq_true rfl) ⟨Nat.le_of_ble_eq_true rfl, Nat.le_of_ble_eq_true rfl⟩ ⟨Nat.le_of_ble_eq_true rfl, Nat.le_of_ble_eq_true rfl⟩ d_Hop_slotHolding_3 ?_
  rw [hfd]
  refine lv_tope (y := nI k) rfl ?_
  refine lv_istore_n (lv' := [(3, .int (nI k)), (0, .ref (a 0)), (1, .ref (q j)), (2, .int key)]) hx hb d_Hop_slotHolding_6 rfl hl (by decide) rfl (fun ls hl => ?_)
  refine lv_iload_n hx hb d_Hop_slotHolding_7 rfl (lv_at hl 0 rfl) ?_
  refine lv_iconst (v := -1) hx hb d_Hop_slotHolding_8 (by decide) ?_
  refine lvT_icmp_ne (tgt := 22) hx hb d_Hop_slotHolding_9 (by decide) (nI_m1 (by omega)) ?_
  refine lv_iload_n hx hb d_Hop_slotHolding_22 rfl (lv_at hl 0 rfl) ?_
  refine W.widen (k := 1) (n := 6) (Nat.le_of_ble_eq_true rfl) (Nat.le_of_ble_eq_true rfl) ?_
  exact vx_ret (W.iret (v := nI k) hx hb hr (fun t ht hW => ⟨_, rfl, rfl, by rw [ht]; exact hP, hS.F ht⟩) hS.2.2 d_Hop_slotHolding_23)
set_option maxHeartbeats 4000000 in
set_option maxRecDepth 100000 in
/-- slotHolding: the key is not there -/
theorem c_Hop_slotHolding_bad (l : Launch) (hlt : l.stackTraces = false) (D : va_G) (ca a q : Nat → Nat) (K V : IT) (T : BT) (C : IT) (B P : Nat → Nat) (S : IT) (sa : Nat → Nat) (j : Nat) (key : Int32) (hj : j < 4) (hc : pw (P j)) (hbd : B j + P j ≤ 256) (hfd : fnd T K (B j) (P j) (hom key (S j) (P j)) key 0 8 = none) : vx_Met l y_Hop_slotHolding w_Hop_slotHolding (rmD 6 1 6) (va_Pc [.ref (a 0), .ref (q j), .int key] (hb_X D hCl (wH ca a q K V T C B P S) (tyH ca) sa)) (hX_Q (.inr "java/util/NoSuchElementException") D hCl (wH ca a q K V T C B P S) (hA (wH ca a q K V T C B P S))) (hX_X (.inr "java/util/NoSuchElementException") D hCl (wH ca a q K V T C B P S) (hA (wH ca a q K V T C B P S))) 1 6 (hA (wH ca a q K V T C B P S)) := by
  refine vx_ofW (cc := b_Hop_slotHolding) (maxL := 4) (ret := some .int) (by decide) rfl ?_
  intro p e s m args below meth c0 s₁ B0 hml hnt hv
  obtain ⟨rfl, hP, hK, hD0, hF, hZ⟩ := hv
  have hx := B0.exec
  have hb := B0.bytes
  have hr := B0.returns
  have hts := atoms_spec (ws := w_Hop_slotHolding) B0.pre
  have hown : s.vm.findClass R_Hop = some m.cls := findClass_of_methodNamed B0.named
  have hlocks := B0.notSynchronized
  have hwA : ∀ w ∈ wsA, w.before ([.ref (a 0), .ref (q j), .int key] : List Value).toArray s = true := fun w h => hts w (List.mem_cons_of_mem _ h)
  have X : CallFix p m c0 b_Hop_slotHolding 4 s ([.ref (a 0), .ref (q j), .int key] : List Value).toArray wsA R_Hop := ⟨hx, hb, hml, hown, hwA⟩
  have hD := hA_D hD0
  have hS : va_S (hA (wH ca a q K V T C B P S)) s.heap s.heap [] := va_S.rf
  have hl := lv_entry ([.ref (a 0), .ref (q j), .int key]) (n := 4) (Nat.le_of_ble_eq_true rfl)
  rw [lg_entry_eq]
  generalize (lg_sl ([.ref (a 0), .ref (q j), .int key]) ++ List.replicate (4 - (lg_sl ([.ref (a 0), .ref (q j), .int key])).length) Slot.unset).toArray = ls at hl ⊢
  have hl : lv_has ls 4 [(0, .ref (a 0)), (1, .ref (q j)), (2, .int key)] := hl
  refine lv_aload_n hx hb d_Hop_slotHolding_0 rfl (lv_at hl 0 rfl) ?_
  refine lv_aload_n hx hb d_Hop_slotHolding_1 rfl (lv_at hl 1 rfl) ?_
  refine lv_iload_n hx hb d_Hop_slotHolding_2 rfl (lv_at hl 2 rfl) ?_
  refine k_slotOrNone X hK hP hl.1 hj hc hbd (Nat.le_of_ble_eq_true rfl) ⟨Nat.le_of_ble_eq_true rfl, Nat.le_of_ble_eq_true rfl⟩ ⟨Nat.le_of_ble_eq_true rfl, Nat.le_of_ble_eq_true rfl⟩ d_Hop_slotHolding_3 ?_
  rw [hfd]
  refine lv_tope (y := -1) rfl ?_
  refine lv_istore_n (lv' := [(3, .int (-1)), (0, .ref (a 0)), (1, .ref (q j)), (2, .int key)]) hx hb d_Hop_slotHolding_6 rfl hl (by decide) rfl (fun ls hl => ?_)
  refine lv_iload_n hx hb d_Hop_slotHolding_7 rfl (lv_at hl 0 rfl) ?_
  refine lv_iconst (v := -1) hx hb d_Hop_slotHolding_8 (by decide) ?_
  refine lvF_icmp_ne (tgt := 22) hx hb d_Hop_slotHolding_9 (by decide) (rfl) ?_
  exact hX_throw (k := 2) (text := "the key is not there") X hlt hF hZ hP hS hl.1 by13_0 by13_1 by13_2 by13_5 (by decide) m_292 m_49 (by decide +kernel) at_NSE ot_NSE d_Hop_slotHolding_12 d_Hop_slotHolding_15 d_Hop_slotHolding_16 d_Hop_slotHolding_18 d_Hop_slotHolding_21 hnt ⟨Nat.le_of_ble_eq_true rfl, Nat.le_of_ble_eq_true rfl⟩ (Nat.le_of_ble_eq_true rfl) (Nat.le_of_ble_eq_true rfl) (Nat.le_of_ble_eq_true rfl) hlocks rfl (Nat.le_of_ble_eq_true rfl) (Nat.le_of_ble_eq_true rfl)
set_option maxHeartbeats 4000000 in
set_option maxRecDepth 100000 in
/-- requirePlace -/
theorem c_Hop_requirePlace (l : Launch) (hlt : l.stackTraces = false) (D : va_G) (ca a q : Nat → Nat) (K V : IT) (T : BT) (C : IT) (B P : Nat → Nat) (S : IT) (sa : Nat → Nat) (j : Nat) (x : Int32) (hj : j < 4) (hcp : P j < 2 ^ 31) (hx0 : 0 ≤ x ∧ x < nI (P j)) : vx_Met l y_Hop_requirePlace w_Hop_requirePlace (rmD 6 1 6) (va_Pc [.ref (q j), .int x] (hb_X D hCl (wH ca a q K V T C B P S) (tyH ca) sa)) (hX_Q (.inl none) D hCl (wH ca a q K V T C B P S) (hA (wH ca a q K V T C B P S))) (hX_X (.inl none) D hCl (wH ca a q K V T C B P S) (hA (wH ca a q K V T C B P S))) 1 6 (hA (wH ca a q K V T C B P S)) := by
  refine vx_ofW (cc := b_Hop_requirePlace) (maxL := 2) (ret := none) (by decide) rfl ?_
  intro p e s m args below meth c0 s₁ B0 hml hnt hv
  obtain ⟨rfl, hP, hK, hD0, hF, hZ⟩ := hv
  have hx := B0.exec
  have hb := B0.bytes
  have hr := B0.returns
  have hts := atoms_spec (ws := w_Hop_requirePlace) B0.pre
  have hown : s.vm.findClass R_Hop = some m.cls := findClass_of_methodNamed B0.named
  have hlocks := B0.notSynchronized
  have hwA : ∀ w ∈ wsA, w.before ([.ref (q j), .int x] : List Value).toArray s = true := fun w h => hts w (List.mem_cons_of_mem _ h)
  have X : CallFix p m c0 b_Hop_requirePlace 2 s ([.ref (q j), .int x] : List Value).toArray wsA R_Hop := ⟨hx, hb, hml, hown, hwA⟩
  have hD := hA_D hD0
  have hS : va_S (hA (wH ca a q K V T C B P S)) s.heap s.heap [] := va_S.rf
  have hl := lv_entry ([.ref (q j), .int x]) (n := 2) (Nat.le_of_ble_eq_true rfl)
  rw [lg_entry_eq]
  generalize (lg_sl ([.ref (q j), .int x]) ++ List.replicate (2 - (lg_sl ([.ref (q j), .int x])).length) Slot.unset).toArray = ls at hl ⊢
  have hl : lv_has ls 2 [(0, .ref (q j)), (1, .int x)] := hl
  refine lv_aload_n hx hb d_Hop_requirePlace_0 rfl (lv_at hl 0 rfl) ?_
  refine lv_iload_n hx hb d_Hop_requirePlace_1 rfl (lv_at hl 1 rfl) ?_
  refine k_isPlace X hK hP hl.1 hcp hj (Nat.le_of_ble_eq_true rfl) ⟨Nat.le_of_ble_eq_true rfl, Nat.le_of_ble_eq_true rfl⟩ ⟨Nat.le_of_ble_eq_true rfl, Nat.le_of_ble_eq_true rfl⟩ d_Hop_requirePlace_2 ?_
  refine lvT_if_ne (tgt := 18) hx hb d_Hop_requirePlace_5 (by decide) (bI_n0.mpr (decide_eq_true hx0)) ?_
  refine W.widen (k := 1) (n := 6) (Nat.le_of_ble_eq_true rfl) (Nat.le_of_ble_eq_true rfl) ?_
  exact vx_ret (W.vret hx hb hr (fun t ht hW => ⟨_, rfl, rfl, by rw [ht]; exact hP, hS.F ht⟩) hS.2.2 d_Hop_requirePlace_18)
set_option maxHeartbeats 4000000 in
set_option maxRecDepth 100000 in
/-- requirePlace: there is no such place -/
theorem c_Hop_requirePlace_bad (l : Launch) (hlt : l.stackTraces = false) (D : va_G) (ca a q : Nat → Nat) (K V : IT) (T : BT) (C : IT) (B P : Nat → Nat) (S : IT) (sa : Nat → Nat) (j : Nat) (x : Int32) (hj : j < 4) (hcp : P j < 2 ^ 31) (hx0 : ¬ (0 ≤ x ∧ x < nI (P j))) : vx_Met l y_Hop_requirePlace w_Hop_requirePlace (rmD 6 1 6) (va_Pc [.ref (q j), .int x] (hb_X D hCl (wH ca a q K V T C B P S) (tyH ca) sa)) (hX_Q (.inr "java/lang/IllegalArgumentException") D hCl (wH ca a q K V T C B P S) (hA (wH ca a q K V T C B P S))) (hX_X (.inr "java/lang/IllegalArgumentException") D hCl (wH ca a q K V T C B P S) (hA (wH ca a q K V T C B P S))) 1 6 (hA (wH ca a q K V T C B P S)) := by
  refine vx_ofW (cc := b_Hop_requirePlace) (maxL := 2) (ret := none) (by decide) rfl ?_
  intro p e s m args below meth c0 s₁ B0 hml hnt hv
  obtain ⟨rfl, hP, hK, hD0, hF, hZ⟩ := hv
  have hx := B0.exec
  have hb := B0.bytes
  have hr := B0.returns
  have hts := atoms_spec (ws := w_Hop_requirePlace) B0.pre
  have hown : s.vm.findClass R_Hop = some m.cls := findClass_of_methodNamed B0.named
  have hlocks := B0.notSynchronized
  have hwA : ∀ w ∈ wsA, w.before ([.ref (q j), .int x] : List Value).toArray s = true := fun w h => hts w (List.mem_cons_of_mem _ h)
  have X : CallFix p m c0 b_Hop_requirePlace 2 s ([.ref (q j), .int x] : List Value).toArray wsA R_Hop := ⟨hx, hb, hml, hown, hwA⟩
  have hD := hA_D hD0
  have hS : va_S (hA (wH ca a q K V T C B P S)) s.heap s.heap [] := va_S.rf
  have hl := lv_entry ([.ref (q j), .int x]) (n := 2) (Nat.le_of_ble_eq_true rfl)
  rw [lg_entry_eq]
  generalize (lg_sl ([.ref (q j), .int x]) ++ List.replicate (2 - (lg_sl ([.ref (q j), .int x])).length) Slot.unset).toArray = ls at hl ⊢
  have hl : lv_has ls 2 [(0, .ref (q j)), (1, .int x)] := hl
  refine lv_aload_n hx hb d_Hop_requirePlace_0 rfl (lv_at hl 0 rfl) ?_
  refine lv_iload_n hx hb d_Hop_requirePlace_1 rfl (lv_at hl 1 rfl) ?_
  refine k_isPlace X hK hP hl.1 hcp hj (Nat.le_of_ble_eq_true rfl) ⟨Nat.le_of_ble_eq_true rfl, Nat.le_of_ble_eq_true rfl⟩ ⟨Nat.le_of_ble_eq_true rfl, Nat.le_of_ble_eq_true rfl⟩ d_Hop_requirePlace_2 ?_
  refine lvF_if_ne (tgt := 18) hx hb d_Hop_requirePlace_5 (by decide) (bI_0.mpr (decide_eq_false hx0)) ?_
  exact hX_throw (k := 4) (text := "no such place") X hlt hF hZ hP hS hl.1 by7_0 by7_1 by7_2 by7_5 (by decide) m_348 m_50 (by decide +kernel) at_IAE ot_IAE d_Hop_requirePlace_8 d_Hop_requirePlace_11 d_Hop_requirePlace_12 d_Hop_requirePlace_14 d_Hop_requirePlace_17 hnt ⟨Nat.le_of_ble_eq_true rfl, Nat.le_of_ble_eq_true rfl⟩ (Nat.le_of_ble_eq_true rfl) (Nat.le_of_ble_eq_true rfl) (Nat.le_of_ble_eq_true rfl) hlocks rfl (Nat.le_of_ble_eq_true rfl) (Nat.le_of_ble_eq_true rfl)
section HKT
variable {p : Program} {l : Launch} {e : Env} {R : Room} {s : State} {m : MethodId} {args : Array Value} {below : List Frame} {meth : Method} {c : Code} {H : Heap} {locs : List Loc} {cells slots : Nat} {Q : State → Prop}
variable {cc : ByteArray} {pc nL : Nat} {ls : Array Slot} {rest st0 : List Value} {D : va_G} {A : Nat → Prop} {H0 : Heap} {ca a q : Nat → Nat} {K V : IT} {T : BT} {C : IT} {B P : Nat → Nat} {S : IT} {sa : Nat → Nat}
theorem k_partOf (X : CallFix p m c cc nL s args wsA R_Hop) (hlt : l.stackTraces = false) (hK : va_K D hCl (tyH ca) s) (hP : va_P D hCl (wH ca a q K V T C B P S) H) (hD : va_D A (wH ca a q K V T C B P S)) (hS : va_S A s.heap H locs) (hF : xF sa s) (hZ : xZ A s s.heap) (hsz : ls.size = nL) {j : Nat} (hj : j < 3) (hrm : (rest.map fun v => v.category).sum ≤ 8) (hf : cells + 1 ≤ R.cells ∧ slots + 6 ≤ R.slots) (hR : 7 ≤ R.frames ∧ 210 ≤ R.locals) (d : decode cc pc = .ok (.invokevirtual 36, 3)) (k : ∀ (H1 : Heap) (locs1 : List Loc), va_P D hCl (wH ca a q K V T C B P S) H1 → va_D A (wH ca a q K V T C B P S) → va_S A s.heap H1 locs1 → W p l e R s m args below meth c H1 locs1 (cells + 1) (slots + 6) Q (F0 m (pc + 3) ls (.ref (q j) :: rest))) : W p l e R s m args below meth c H locs cells slots Q (F0 m pc ls (.int (nI j) :: .ref (a 0) :: rest)) :=
  hX_V (As := [.int (nI j)]) (C := R_Hop) X (c_Hop_partOf l hlt D ca a q K V T C B P S sa j hj) (cwV 1 X.2.2.2.2 g_Hop_partOf rfl rfl rfl (by decide +kernel) ⟨by show 6 + 1 ≤ _; omega, by show 8 + (2 + 11) + 30 * 6 ≤ _; omega⟩) hP hK hD (va_Das hD wH_a) hS hF hZ (va_recv (q0 := 0) (ci := 0) (q := (R_Hop, F_Hop, 6)) hK hP rfl rfl) rfl hsz rfl hrm hf d (fun E ce q9 H1 locs1 h _ _ _ _ _ _ => nomatch h) (fun v H1 locs1 h h1 h2 h3 => by cases h; exact k H1 locs1 h1 h2 h3)
theorem k_partOf_bad (X : CallFix p m c cc nL s args wsA R_Hop) (hlt : l.stackTraces = false) (hK : va_K D hCl (tyH ca) s) (hP : va_P D hCl (wH ca a q K V T C B P S) H) (hD : va_D (hA (wH ca a q K V T C B P S)) (wH ca a q K V T C B P S)) (hS : va_S (hA (wH ca a q K V T C B P S)) s.heap H locs) (hF : xF sa s) (hZ : xZ (hA (wH ca a q K V T C B P S)) s s.heap) (hsz : ls.size = nL) {mm : Int32} (hm : mm < 0 ∨ nI 3 ≤ mm) (hrm : (rest.map fun v => v.category).sum ≤ 8) (hf : cells + 1 ≤ R.cells ∧ slots + 6 ≤ R.slots) (hR : 7 ≤ R.frames ∧ 210 ≤ R.locals) (d : decode cc pc = .ok (.invokevirtual 36, 3)) (hnt : ∀ x ∈ c.exceptionTable.toList, False) (hlocks : meth.locks = false) {mc ms : Nat} (hc : cells + 1 ≤ mc) (hs : slots + 6 ≤ ms) : W p l e R s m args below meth c H locs cells slots (vx_MQ below (hX_Q (.inr "java/lang/IndexOutOfBoundsException") D hCl (wH ca a q K V T C B P S) (hA (wH ca a q K V T C B P S))) (hX_X (.inr "java/lang/IndexOutOfBoundsException") D hCl (wH ca a q K V T C B P S) (hA (wH ca a q K V T C B P S))) args s mc ms (hA (wH ca a q K V T C B P S))) (F0 m pc ls (.int mm :: .ref (a 0) :: rest)) :=
  hX_V (As := [.int mm]) (C := R_Hop) X (c_Hop_partOf_bad l hlt D ca a q K V T C B P S sa mm hm) (cwV 1 X.2.2.2.2 g_Hop_partOf rfl rfl rfl (by decide +kernel) ⟨by show 6 + 1 ≤ _; omega, by show 8 + (2 + 11) + 30 * 6 ≤ _; omega⟩) hP hK hD (va_Das hD wH_a) hS hF hZ (va_recv (q0 := 0) (ci := 0) (q := (R_Hop, F_Hop, 6)) hK hP rfl rfl) rfl hsz rfl hrm hf d (fun E ce q9 H1 locs1 h h1 h2 h3 h4 h5 h6 => hX_out hnt hlocks h h1 h3 h4 h5 h6 hc hs) (fun v H1 locs1 h _ _ _ => nomatch h)
theorem k_slotHolding (X : CallFix p m c cc nL s args wsA R_Hop) (hlt : l.stackTraces = false) (hK : va_K D hCl (tyH ca) s) (hP : va_P D hCl (wH ca a q K V T C B P S) H) (hD : va_D A (wH ca a q K V T C B P S)) (hS : va_S A s.heap H locs) (hF : xF sa s) (hZ : xZ A s s.heap) (hsz : ls.size = nL) {j : Nat} {key : Int32} (hj : j < 4) (hc9 : pw (P j)) (hbd : B j + P j ≤ 256) {k0 : Nat} (hk0 : k0 < 256) (hfd : fnd T K (B j) (P j) (hom key (S j) (P j)) key 0 8 = some k0) (hrm : (rest.map fun v => v.category).sum ≤ 8) (hf : cells + 1 ≤ R.cells ∧ slots + 6 ≤ R.slots) (hR : 7 ≤ R.frames ∧ 210 ≤ R.locals) (d : decode cc pc = .ok (.invokevirtual 59, 3)) (k : ∀ (H1 : Heap) (locs1 : List Loc), va_P D hCl (wH ca a q K V T C B P S) H1 → va_D A (wH ca a q K V T C B P S) → va_S A s.heap H1 locs1 → W p l e R s m args below meth c H1 locs1 (cells + 1) (slots + 6) Q (F0 m (pc + 3) ls (.int (nI k0) :: rest))) : W p l e R s m args below meth c H locs cells slots Q (F0 m pc ls (.int key :: .ref (q j) :: .ref (a 0) :: rest)) :=
  hX_V (As := [.ref (q j), .int key]) (C := R_Hop) X (c_Hop_slotHolding l hlt D ca a q K V T C B P S sa j key hj hc9 hbd k0 hk0 hfd) (cwV 2 X.2.2.2.2 g_Hop_slotHolding rfl rfl rfl (by decide +kernel) ⟨by show 6 + 1 ≤ _; omega, by show 8 + (4 + 11) + 30 * 6 ≤ _; omega⟩) hP hK hD (va_Das hD wH_a) hS hF hZ (va_recv (q0 := 0) (ci := 0) (q := (R_Hop, F_Hop, 6)) hK hP rfl rfl) rfl hsz rfl hrm hf d (fun E ce q9 H1 locs1 h _ _ _ _ _ _ => nomatch h) (fun v H1 locs1 h h1 h2 h3 => by cases h; exact k H1 locs1 h1 h2 h3)
theorem k_slotHolding_bad (X : CallFix p m c cc nL s args wsA R_Hop) (hlt : l.stackTraces = false) (hK : va_K D hCl (tyH ca) s) (hP : va_P D hCl (wH ca a q K V T C B P S) H) (hD : va_D (hA (wH ca a q K V T C B P S)) (wH ca a q K V T C B P S)) (hS : va_S (hA (wH ca a q K V T C B P S)) s.heap H locs) (hF : xF sa s) (hZ : xZ (hA (wH ca a q K V T C B P S)) s s.heap) (hsz : ls.size = nL) {j : Nat} {key : Int32} (hj : j < 4) (hc9 : pw (P j)) (hbd : B j + P j ≤ 256) (hfd : fnd T K (B j) (P j) (hom key (S j) (P j)) key 0 8 = none) (hrm : (rest.map fun v => v.category).sum ≤ 8) (hf : cells + 1 ≤ R.cells ∧ slots + 6 ≤ R.slots) (hR : 7 ≤ R.frames ∧ 210 ≤ R.locals) (d : decode cc pc = .ok (.invokevirtual 59, 3)) (hnt : ∀ x ∈ c.exceptionTable.toList, False) (hlocks : meth.locks = false) {mc ms : Nat} (hc : cells + 1 ≤ mc) (hs : slots + 6 ≤ ms) : W p l e R s m args below meth c H locs cells slots (vx_MQ below (hX_Q (.inr "java/util/NoSuchElementException") D hCl (wH ca a q K V T C B P S) (hA (wH ca a q K V T C B P S))) (hX_X (.inr "java/util/NoSuchElementException") D hCl (wH ca a q K V T C B P S) (hA (wH ca a q K V T C B P S))) args s mc ms (hA (wH ca a q K V T C B P S))) (F0 m pc ls (.int key :: .ref (q j) :: .ref (a 0) :: rest)) :=
  hX_V (As := [.ref (q j), .int key]) (C := R_Hop) X (c_Hop_slotHolding_bad l hlt D ca a q K V T C B P S sa j key hj hc9 hbd hfd) (cwV 2 X.2.2.2.2 g_Hop_slotHolding rfl rfl rfl (by decide +kernel) ⟨by show 6 + 1 ≤ _; omega, by show 8 + (4 + 11) + 30 * 6 ≤ _; omega⟩) hP hK hD (va_Das hD wH_a) hS hF hZ (va_recv (q0 := 0) (ci := 0) (q := (R_Hop, F_Hop, 6)) hK hP rfl rfl) rfl hsz rfl hrm hf d (fun E ce q9 H1 locs1 h h1 h2 h3 h4 h5 h6 => hX_out hnt hlocks h h1 h3 h4 h5 h6 hc hs) (fun v H1 locs1 h _ _ _ => nomatch h)
theorem k_requirePlace (X : CallFix p m c cc nL s args wsA R_Hop) (hlt : l.stackTraces = false) (hK : va_K D hCl (tyH ca) s) (hP : va_P D hCl (wH ca a q K V T C B P S) H) (hD : va_D A (wH ca a q K V T C B P S)) (hS : va_S A s.heap H locs) (hF : xF sa s) (hZ : xZ A s s.heap) (hsz : ls.size = nL) {j : Nat} {x : Int32} (hj : j < 4) (hcp : P j < 2 ^ 31) (hx0 : 0 ≤ x ∧ x < nI (P j)) (hrm : (rest.map fun v => v.category).sum ≤ 8) (hf : cells + 1 ≤ R.cells ∧ slots + 6 ≤ R.slots) (hR : 7 ≤ R.frames ∧ 210 ≤ R.locals) (d : decode cc pc = .ok (.invokestatic 92, 3)) (k : ∀ (H1 : Heap) (locs1 : List Loc), va_P D hCl (wH ca a q K V T C B P S) H1 → va_D A (wH ca a q K V T C B P S) → va_S A s.heap H1 locs1 → W p l e R s m args below meth c H1 locs1 (cells + 1) (slots + 6) Q (F0 m (pc + 3) ls (rest))) : W p l e R s m args below meth c H locs cells slots Q (F0 m pc ls (.int x :: .ref (q j) :: rest)) :=
  hX_S (As := [.ref (q j), .int x]) X (c_Hop_requirePlace l hlt D ca a q K V T C B P S sa j x hj hcp hx0) (cwS 2 X.2.2.2.2 g_Hop_requirePlace rfl rfl rfl (by decide +kernel) ⟨by show 6 + 1 ≤ _; omega, by show 8 + (2 + 11) + 30 * 6 ≤ _; omega⟩) hP hK hD (va_Das hD wH_a) hS hF hZ rfl hsz rfl hrm hf d (fun E ce q9 H1 locs1 h _ _ _ _ _ _ => nomatch h) (fun v H1 locs1 h h1 h2 h3 => by cases h; exact k H1 locs1 h1 h2 h3)
theorem k_requirePlace_bad (X : CallFix p m c cc nL s args wsA R_Hop) (hlt : l.stackTraces = false) (hK : va_K D hCl (tyH ca) s) (hP : va_P D hCl (wH ca a q K V T C B P S) H) (hD : va_D (hA (wH ca a q K V T C B P S)) (wH ca a q K V T C B P S)) (hS : va_S (hA (wH ca a q K V T C B P S)) s.heap H locs) (hF : xF sa s) (hZ : xZ (hA (wH ca a q K V T C B P S)) s s.heap) (hsz : ls.size = nL) {j : Nat} {x : Int32} (hj : j < 4) (hcp : P j < 2 ^ 31) (hx0 : ¬ (0 ≤ x ∧ x < nI (P j))) (hrm : (rest.map fun v => v.category).sum ≤ 8) (hf : cells + 1 ≤ R.cells ∧ slots + 6 ≤ R.slots) (hR : 7 ≤ R.frames ∧ 210 ≤ R.locals) (d : decode cc pc = .ok (.invokestatic 92, 3)) (hnt : ∀ x ∈ c.exceptionTable.toList, False) (hlocks : meth.locks = false) {mc ms : Nat} (hc : cells + 1 ≤ mc) (hs : slots + 6 ≤ ms) : W p l e R s m args below meth c H locs cells slots (vx_MQ below (hX_Q (.inr "java/lang/IllegalArgumentException") D hCl (wH ca a q K V T C B P S) (hA (wH ca a q K V T C B P S))) (hX_X (.inr "java/lang/IllegalArgumentException") D hCl (wH ca a q K V T C B P S) (hA (wH ca a q K V T C B P S))) args s mc ms (hA (wH ca a q K V T C B P S))) (F0 m pc ls (.int x :: .ref (q j) :: rest)) :=
  hX_S (As := [.ref (q j), .int x]) X (c_Hop_requirePlace_bad l hlt D ca a q K V T C B P S sa j x hj hcp hx0) (cwS 2 X.2.2.2.2 g_Hop_requirePlace rfl rfl rfl (by decide +kernel) ⟨by show 6 + 1 ≤ _; omega, by show 8 + (2 + 11) + 30 * 6 ≤ _; omega⟩) hP hK hD (va_Das hD wH_a) hS hF hZ rfl hsz rfl hrm hf d (fun E ce q9 H1 locs1 h h1 h2 h3 h4 h5 h6 => hX_out hnt hlocks h h1 h3 h4 h5 h6 hc hs) (fun v H1 locs1 h _ _ _ => nomatch h)
end HKT
