set_option maxHeartbeats 4000000 in
set_option maxRecDepth 100000 in
/-- sumOfCapacities -/
theorem c_Hop_sumOfCapacities (l : Launch) (D : va_G) (ca a q : Nat → Nat) (K V : IT) (T : BT) (C : IT) (B P : Nat → Nat) (S : IT)  : Met l y_Hop_sumOfCapacities w_Hop_sumOfCapacities (rmD 0 0 0) (va_Pc [.ref (a 0)] (hb_R D hCl (wH ca a q K V T C B P S) (tyH ca))) (hq_R (some (.int (nI (P 0 + P 1 + P 2))))) 0 0 hq_no := by
  refine Met.ofW (cc := b_Hop_sumOfCapacities) (maxL := 3) (ret := some .int) (by decide) rfl ?_
  intro p e s m args below meth c0 s₁ B0 hml hv
  obtain ⟨rfl, hP, hK⟩ := hv
  have hx := B0.exec
  have hb := B0.bytes
  have hr := B0.returns
  have hts := atoms_spec (ws := w_Hop_sumOfCapacities) B0.pre
  have hown : s.vm.findClass R_Hop = some m.cls := findClass_of_methodNamed B0.named
  have hlocks := B0.notSynchronized
  have hwA : ∀ w ∈ wsA, w.before ([.ref (a 0)] : List Value).toArray s = true := fun w h => hts w (List.mem_cons_of_mem _ h)
  have X : CallFix p m c0 b_Hop_sumOfCapacities 3 s ([.ref (a 0)] : List Value).toArray wsA R_Hop := ⟨hx, hb, hml, hown, hwA⟩
  have hl := lv_entry ([.ref (a 0)]) (n := 3) (Nat.le_of_ble_eq_true rfl)
  rw [lg_entry_eq]
  generalize (lg_sl ([.ref (a 0)]) ++ List.replicate (3 - (lg_sl ([.ref (a 0)])).length) Slot.unset).toArray = ls at hl ⊢
  have hl : lv_has ls 3 [(0, .ref (a 0))] := hl
  refine lv_iconst (v := 0) hx hb d_Hop_sumOfCapacities_0 (by decide) ?_
  refine lv_istore_n (lv' := [(1, .int 0), (0, .ref (a 0))]) hx hb d_Hop_sumOfCapacities_1 rfl hl (by decide) rfl (fun ls hl => ?_)
  refine lv_iconst (v := 0) hx hb d_Hop_sumOfCapacities_2 (by decide) ?_
  refine lv_istore_n (lv' := [(2, .int 0), (1, .int 0), (0, .ref (a 0))]) hx hb d_Hop_sumOfCapacities_3 rfl hl (by decide) rfl (fun ls hl => ?_)
  refine lv_iload_n hx hb d_Hop_sumOfCapacities_4 rfl (lv_at hl 0 rfl) ?_
  refine lv_iconst (v := 3) hx hb d_Hop_sumOfCapacities_5 (by decide) ?_
  refine lvF_icmp_ge (tgt := 27) hx hb d_Hop_sumOfCapacities_6 (by decide) (by decide) ?_
  refine lv_iload_n hx hb d_Hop_sumOfCapacities_9 rfl (lv_at hl 1 rfl) ?_
  refine lv_aload_n hx hb d_Hop_sumOfCapacities_10 rfl (lv_at hl 2 rfl) ?_
  refine hg_parts X hK hP d_Hop_sumOfCapacities_11 ?_
  refine lv_iload_n hx hb d_Hop_sumOfCapacities_14 rfl (lv_at hl 0 rfl) ?_
  refine hl_P X hK hP (i := 0) (by decide) d_Hop_sumOfCapacities_15 ?_
  refine hg_capacity X hK hP (by decide) d_Hop_sumOfCapacities_16 ?_
  refine lv_iadd hx hb d_Hop_sumOfCapacities_19 ?_
  refine lv_tope (y := nI (P 0)) (Int32.zero_add _) ?_
  refine lv_istore_n (lv' := [(1, .int (nI (P 0))), (2, .int 0), (0, .ref (a 0))]) hx hb d_Hop_sumOfCapacities_20 rfl hl (by decide) rfl (fun ls hl => ?_)
  refine lv_iinc (k := 1) (v := 1) (lv' := [(2, .int 1), (1, .int (nI (P 0))), (0, .ref (a 0))]) hx hb d_Hop_sumOfCapacities_21 hl rfl (by decide) (by decide) rfl (fun ls hl => ?_)
  refine lv_goto (tgt := 4) hx hb d_Hop_sumOfCapacities_24 (by decide) ?_
  refine lv_iload_n hx hb d_Hop_sumOfCapacities_4 rfl (lv_at hl 0 rfl) ?_
  refine lv_iconst (v := 3) hx hb d_Hop_sumOfCapacities_5 (by decide) ?_
  refine lvF_icmp_ge (tgt := 27) hx hb d_Hop_sumOfCapacities_6 (by decide) (by decide) ?_
  refine lv_iload_n hx hb d_Hop_sumOfCapacities_9 rfl (lv_at hl 1 rfl) ?_
  refine lv_aload_n hx hb d_Hop_sumOfCapacities_10 rfl (lv_at hl 2 rfl) ?_
  refine hg_parts X hK hP d_Hop_sumOfCapacities_11 ?_
  refine lv_iload_n hx hb d_Hop_sumOfCapacities_14 rfl (lv_at hl 0 rfl) ?_
  refine hl_P X hK hP (i := 1) (by decide) d_Hop_sumOfCapacities_15 ?_
  refine hg_capacity X hK hP (by decide) d_Hop_sumOfCapacities_16 ?_
  refine lv_iadd hx hb d_Hop_sumOfCapacities_19 ?_
  refine lv_tope (y := nI (P 0 + P 1)) (nI_add _ _) ?_
  refine lv_istore_n (lv' := [(1, .int (nI (P 0 + P 1))), (2, .int 1), (0, .ref (a 0))]) hx hb d_Hop_sumOfCapacities_20 rfl hl (by decide) rfl (fun ls hl => ?_)
  refine lv_iinc (k := 1) (v := 2) (lv' := [(2, .int 2), (1, .int (nI (P 0 + P 1))), (0, .ref (a 0))]) hx hb d_Hop_sumOfCapacities_21 hl rfl (by decide) (by decide) rfl (fun ls hl => ?_)
  refine lv_goto (tgt := 4) hx hb d_Hop_sumOfCapacities_24 (by decide) ?_
  refine lv_iload_n hx hb d_Hop_sumOfCapacities_4 rfl (lv_at hl 0 rfl) ?_
  refine lv_iconst (v := 3) hx hb d_Hop_sumOfCapacities_5 (by decide) ?_
  refine lvF_icmp_ge (tgt := 27) hx hb d_Hop_sumOfCapacities_6 (by decide) (by decide) ?_
  refine lv_iload_n hx hb d_Hop_sumOfCapacities_9 rfl (lv_at hl 1 rfl) ?_
  refine lv_aload_n hx hb d_Hop_sumOfCapacities_10 rfl (lv_at hl 2 rfl) ?_
  refine hg_parts X hK hP d_Hop_sumOfCapacities_11 ?_
  refine lv_iload_n hx hb d_Hop_sumOfCapacities_14 rfl (lv_at hl 0 rfl) ?_
  refine hl_P X hK hP (i := 2) (by decide) d_Hop_sumOfCapacities_15 ?_
  refine hg_capacity X hK hP (by decide) d_Hop_sumOfCapacities_16 ?_
  refine lv_iadd hx hb d_Hop_sumOfCapacities_19 ?_
  refine lv_tope (y := nI (P 0 + P 1 + P 2)) (nI_add _ _) ?_
  refine lv_istore_n (lv' := [(1, .int (nI (P 0 + P 1 + P 2))), (2, .int 2), (0, .ref (a 0))]) hx hb d_Hop_sumOfCapacities_20 rfl hl (by decide) rfl (fun ls hl => ?_)
  refine lv_iinc (k := 1) (v := 3) (lv' := [(2, .int 3), (1, .int (nI (P 0 + P 1 + P 2))), (0, .ref (a 0))]) hx hb d_Hop_sumOfCapacities_21 hl rfl (by decide) (by decide) rfl (fun ls hl => ?_)
  refine lv_goto (tgt := 4) hx hb d_Hop_sumOfCapacities_24 (by decide) ?_
  refine lv_iload_n hx hb d_Hop_sumOfCapacities_4 rfl (lv_at hl 0 rfl) ?_
  refine lv_iconst (v := 3) hx hb d_Hop_sumOfCapacities_5 (by decide) ?_
  refine lvT_icmp_ge (tgt := 27) hx hb d_Hop_sumOfCapacities_6 (by decide) (by decide) ?_
  refine lv_iload_n hx hb d_Hop_sumOfCapacities_27 rfl (lv_at hl 1 rfl) ?_
  exact W.iret (v := nI (P 0 + P 1 + P 2)) hx hb hr (fun t ht hW => ⟨rfl, ht⟩) hq_nl d_Hop_sumOfCapacities_28
set_option maxHeartbeats 4000000 in
set_option maxRecDepth 100000 in
/-- lastEnd -/
theorem c_Hop_lastEnd (l : Launch) (D : va_G) (ca a q : Nat → Nat) (K V : IT) (T : BT) (C : IT) (B P : Nat → Nat) (S : IT) (hb0 : B 0 + P 0 ≤ 256) (hb1 : B 1 + P 1 ≤ 256) (hb2 : B 2 + P 2 ≤ 256)  : Met l y_Hop_lastEnd w_Hop_lastEnd (rmD 1 0 0) (va_Pc [.ref (a 0)] (hb_R D hCl (wH ca a q K V T C B P S) (tyH ca))) (hq_R (some (.int (nI (lastE B P))))) 0 0 hq_no := by
  refine Met.ofW (cc := b_Hop_lastEnd) (maxL := 3) (ret := some .int) (by decide) rfl ?_
  intro p e s m args below meth c0 s₁ B0 hml hv
  obtain ⟨rfl, hP, hK⟩ := hv
  have hx := B0.exec
  have hb := B0.bytes
  have hr := B0.returns
  have hts := atoms_spec (ws := w_Hop_lastEnd) B0.pre
  have hown : s.vm.findClass R_Hop = some m.cls := findClass_of_methodNamed B0.named
  have hlocks := B0.notSynchronized
  have hwA : ∀ w ∈ wsA, w.before ([.ref (a 0)] : List Value).toArray s = true := fun w h => hts w (List.mem_cons_of_mem _ h)
  have X : CallFix p m c0 b_Hop_lastEnd 3 s ([.ref (a 0)] : List Value).toArray wsA R_Hop := ⟨hx, hb, hml, hown, hwA⟩
  have hl := lv_entry ([.ref (a 0)]) (n := 3) (Nat.le_of_ble_eq_true rfl)
  rw [lg_entry_eq]
  generalize (lg_sl ([.ref (a 0)]) ++ List.replicate (3 - (lg_sl ([.ref (a 0)])).length) Slot.unset).toArray = ls at hl ⊢
  have hl : lv_has ls 3 [(0, .ref (a 0))] := hl
  refine lv_iconst (v := 0) hx hb d_Hop_lastEnd_0 (by decide) ?_
  refine lv_istore_n (lv' := [(1, .int 0), (0, .ref (a 0))]) hx hb d_Hop_lastEnd_1 rfl hl (by decide) rfl (fun ls hl => ?_)
  refine lv_iconst (v := 0) hx hb d_Hop_lastEnd_2 (by decide) ?_
  refine lv_istore_n (lv' := [(2, .int 0), (1, .int 0), (0, .ref (a 0))]) hx hb d_Hop_lastEnd_3 rfl hl (by decide) rfl (fun ls hl => ?_)
  refine lv_iload_n hx hb d_Hop_lastEnd_4 rfl (lv_at hl 0 rfl) ?_
  refine lv_iconst (v := 3) hx hb d_Hop_lastEnd_5 (by decide) ?_
  refine lvF_icmp_ge (tgt := 29) hx hb d_Hop_lastEnd_6 (by decide) (by decide) ?_
  refine lv_iload_n hx hb d_Hop_lastEnd_9 rfl (lv_at hl 1 rfl) ?_
  refine lv_aload_n hx hb d_Hop_lastEnd_10 rfl (lv_at hl 2 rfl) ?_
  refine hg_parts X hK hP d_Hop_lastEnd_11 ?_
  refine lv_iload_n hx hb d_Hop_lastEnd_14 rfl (lv_at hl 0 rfl) ?_
  refine hl_P X hK hP (i := 0) (by decide) d_Hop_lastEnd_15 ?_
  refine k_end X hK hP hl.1 (by decide) (Nat.le_of_ble_eq_true rfl) ⟨Nat.zero_le _, Nat.zero_le _⟩ ⟨Nat.le_of_ble_eq_true rfl, Nat.le_of_ble_eq_true rfl⟩ d_Hop_lastEnd_16 ?_
  refine va_mmax hx hb (hml.trans hl.1.symm) hown (hwA (.methodLink R_Hop 155 Lib.Math.max.name) m_241) (hwA (.static Lib.Math.max.name) m_242) (hwA (.initialized "java/lang/Math") m_47) (hwA (.code Lib.Math.max.name Lib.Math.max.code 2 (some .int)) mx_code) (Nat.le_of_ble_eq_true rfl) (Nat.le_of_ble_eq_true rfl) (Nat.zero_le _) (Nat.zero_le _) d_Hop_lastEnd_19 ?_
  refine lv_tope (y := nI (max (0) (B 0 + P 0))) (mxI (a := 0) (b := B 0 + P 0) (by omega) (by omega)) ?_
  refine lv_istore_n (lv' := [(1, .int (nI (max (0) (B 0 + P 0)))), (2, .int 0), (0, .ref (a 0))]) hx hb d_Hop_lastEnd_22 rfl hl (by decide) rfl (fun ls hl => ?_)
  refine lv_iinc (k := 1) (v := 1) (lv' := [(2, .int 1), (1, .int (nI (max (0) (B 0 + P 0)))), (0, .ref (a 0))]) hx hb d_Hop_lastEnd_23 hl rfl (by decide) (by decide) rfl (fun ls hl => ?_)
  refine lv_goto (tgt := 4) hx hb d_Hop_lastEnd_26 (by decide) ?_
  refine lv_iload_n hx hb d_Hop_lastEnd_4 rfl (lv_at hl 0 rfl) ?_
  refine lv_iconst (v := 3) hx hb d_Hop_lastEnd_5 (by decide) ?_
  refine lvF_icmp_ge (tgt := 29) hx hb d_Hop_lastEnd_6 (by decide) (by decide) ?_
  refine lv_iload_n hx hb d_Hop_lastEnd_9 rfl (lv_at hl 1 rfl) ?_
  refine lv_aload_n hx hb d_Hop_lastEnd_10 rfl (lv_at hl 2 rfl) ?_
  refine hg_parts X hK hP d_Hop_lastEnd_11 ?_
  refine lv_iload_n hx hb d_Hop_lastEnd_14 rfl (lv_at hl 0 rfl) ?_
  refine hl_P X hK hP (i := 1) (by decide) d_Hop_lastEnd_15 ?_
  refine k_end X hK hP hl.1 (by decide) (Nat.le_of_ble_eq_true rfl) ⟨Nat.zero_le _, Nat.zero_le _⟩ ⟨Nat.le_of_ble_eq_true rfl, Nat.le_of_ble_eq_true rfl⟩ d_Hop_lastEnd_16 ?_
  refine va_mmax hx hb (hml.trans hl.1.symm) hown (hwA (.methodLink R_Hop 155 Lib.Math.max.name) m_241) (hwA (.static Lib.Math.max.name) m_242) (hwA (.initialized "java/lang/Math") m_47) (hwA (.code Lib.Math.max.name Lib.Math.max.code 2 (some .int)) mx_code) (Nat.le_of_ble_eq_true rfl) (Nat.le_of_ble_eq_true rfl) (Nat.zero_le _) (Nat.zero_le _) d_Hop_lastEnd_19 ?_
  refine lv_tope (y := nI (max (max (0) (B 0 + P 0)) (B 1 + P 1))) (mxI (a := max (0) (B 0 + P 0)) (b := B 1 + P 1) (by omega) (by omega)) ?_
  refine lv_istore_n (lv' := [(1, .int (nI (max (max (0) (B 0 + P 0)) (B 1 + P 1)))), (2, .int 1), (0, .ref (a 0))]) hx hb d_Hop_lastEnd_22 rfl hl (by decide) rfl (fun ls hl => ?_)
  refine lv_iinc (k := 1) (v := 2) (lv' := [(2, .int 2), (1, .int (nI (max (max (0) (B 0 + P 0)) (B 1 + P 1)))), (0, .ref (a 0))]) hx hb d_Hop_lastEnd_23 hl rfl (by decide) (by decide) rfl (fun ls hl => ?_)
  refine lv_goto (tgt := 4) hx hb d_Hop_lastEnd_26 (by decide) ?_
  refine lv_iload_n hx hb d_Hop_lastEnd_4 rfl (lv_at hl 0 rfl) ?_
  refine lv_iconst (v := 3) hx hb d_Hop_lastEnd_5 (by decide) ?_
  refine lvF_icmp_ge (tgt := 29) hx hb d_Hop_lastEnd_6 (by decide) (by decide) ?_
  refine lv_iload_n hx hb d_Hop_lastEnd_9 rfl (lv_at hl 1 rfl) ?_
  refine lv_aload_n hx hb d_Hop_lastEnd_10 rfl (lv_at hl 2 rfl) ?_
  refine hg_parts X hK hP d_Hop_lastEnd_11 ?_
  refine lv_iload_n hx hb d_Hop_lastEnd_14 rfl (lv_at hl 0 rfl) ?_
  refine hl_P X hK hP (i := 2) (by decide) d_Hop_lastEnd_15 ?_
  refine k_end X hK hP hl.1 (by decide) (Nat.le_of_ble_eq_true rfl) ⟨Nat.zero_le _, Nat.zero_le _⟩ ⟨Nat.le_of_ble_eq_true rfl, Nat.le_of_ble_eq_true rfl⟩ d_Hop_lastEnd_16 ?_
  refine va_mmax hx hb (hml.trans hl.1.symm) hown (hwA (.methodLink R_Hop 155 Lib.Math.max.name) m_241) (hwA (.static Lib.Math.max.name) m_242) (hwA (.initialized "java/lang/Math") m_47) (hwA (.code Lib.Math.max.name Lib.Math.max.code 2 (some .int)) mx_code) (Nat.le_of_ble_eq_true rfl) (Nat.le_of_ble_eq_true rfl) (Nat.zero_le _) (Nat.zero_le _) d_Hop_lastEnd_19 ?_
  refine lv_tope (y := nI (max (max (max (0) (B 0 + P 0)) (B 1 + P 1)) (B 2 + P 2))) (mxI (a := max (max (0) (B 0 + P 0)) (B 1 + P 1)) (b := B 2 + P 2) (by omega) (by omega)) ?_
  refine lv_istore_n (lv' := [(1, .int (nI (max (max (max (0) (B 0 + P 0)) (B 1 + P 1)) (B 2 + P 2)))), (2, .int 2), (0, .ref (a 0))]) hx hb d_Hop_lastEnd_22 rfl hl (by decide) rfl (fun ls hl => ?_)
  refine lv_iinc (k := 1) (v := 3) (lv' := [(2, .int 3), (1, .int (nI (max (max (max (0) (B 0 + P 0)) (B 1 + P 1)) (B 2 + P 2)))), (0, .ref (a 0))]) hx hb d_Hop_lastEnd_23 hl rfl (by decide) (by decide) rfl (fun ls hl => ?_)
  refine lv_goto (tgt := 4) hx hb d_Hop_lastEnd_26 (by decide) ?_
  refine lv_iload_n hx hb d_Hop_lastEnd_4 rfl (lv_at hl 0 rfl) ?_
  refine lv_iconst (v := 3) hx hb d_Hop_lastEnd_5 (by decide) ?_
  refine lvT_icmp_ge (tgt := 29) hx hb d_Hop_lastEnd_6 (by decide) (by decide) ?_
  refine lv_iload_n hx hb d_Hop_lastEnd_29 rfl (lv_at hl 1 rfl) ?_
  exact W.iret (v := nI (lastE B P)) hx hb hr (fun t ht hW => ⟨rfl, ht⟩) hq_nl d_Hop_lastEnd_30
set_option maxHeartbeats 4000000 in
set_option maxRecDepth 100000 in
/-- lowestFrom -/
theorem c_Hop_lowestFrom (l : Launch) (D : va_G) (ca a q : Nat → Nat) (K V : IT) (T : BT) (C : IT) (B P : Nat → Nat) (S : IT) (f : Nat) (hf : f < 65536) (hb0 : B 0 + P 0 ≤ 256) (hb1 : B 1 + P 1 ≤ 256) (hb2 : B 2 + P 2 ≤ 256)  : Met l y_Hop_lowestFrom w_Hop_lowestFrom (rmD 0 0 0) (va_Pc [.ref (a 0), .int (nI f)] (hb_R D hCl (wH ca a q K V T C B P S) (tyH ca))) (hq_R (some (rQ q (lowS B f 3)))) 0 0 hq_no := by
  refine Met.ofW (cc := b_Hop_lowestFrom) (maxL := 5) (ret := some (.object "HopArena$Part")) (by decide) rfl ?_
  intro p e s m args below meth c0 s₁ B0 hml hv
  obtain ⟨rfl, hP, hK⟩ := hv
  have hx := B0.exec
  have hb := B0.bytes
  have hr := B0.returns
  have hts := atoms_spec (ws := w_Hop_lowestFrom) B0.pre
  have hown : s.vm.findClass R_Hop = some m.cls := findClass_of_methodNamed B0.named
  have hlocks := B0.notSynchronized
  have hwA : ∀ w ∈ wsA, w.before ([.ref (a 0), .int (nI f)] : List Value).toArray s = true := fun w h => hts w (List.mem_cons_of_mem _ h)
  have X : CallFix p m c0 b_Hop_lowestFrom 5 s ([.ref (a 0), .int (nI f)] : List Value).toArray wsA R_Hop := ⟨hx, hb, hml, hown, hwA⟩
  have hl := lv_entry ([.ref (a 0), .int (nI f)]) (n := 5) (Nat.le_of_ble_eq_true rfl)
  rw [lg_entry_eq]
  generalize (lg_sl ([.ref (a 0), .int (nI f)]) ++ List.replicate (5 - (lg_sl ([.ref (a 0), .int (nI f)])).length) Slot.unset).toArray = ls at hl ⊢
  have hl : lv_has ls 5 [(0, .ref (a 0)), (1, .int (nI f))] := hl
  refine lv_null hx hb d_Hop_lowestFrom_0 ?_
  refine lv_astore_nN (lv' := [(2, .null), (0, .ref (a 0)), (1, .int (nI f))]) hx hb d_Hop_lowestFrom_1 rfl hl (by decide) rfl (fun ls hl => ?_)
  refine lv_iconst (v := 0) hx hb d_Hop_lowestFrom_2 (by decide) ?_
  refine lv_istore_n (lv' := [(3, .int 0), (2, .null), (0, .ref (a 0)), (1, .int (nI f))]) hx hb d_Hop_lowestFrom_3 rfl hl (by decide) rfl (fun ls hl => ?_)
  refine lv_iload_n hx hb d_Hop_lowestFrom_4 rfl (lv_at hl 0 rfl) ?_
  refine lv_iconst (v := 3) hx hb d_Hop_lowestFrom_5 (by decide) ?_
  refine lvF_icmp_ge (tgt := 51) hx hb d_Hop_lowestFrom_6 (by decide) (by decide) ?_
  refine lv_aload_n hx hb d_Hop_lowestFrom_9 rfl (lv_at hl 2 rfl) ?_
  refine hg_parts X hK hP d_Hop_lowestFrom_10 ?_
  refine lv_iload_n hx hb d_Hop_lowestFrom_13 rfl (lv_at hl 0 rfl) ?_
  refine hl_P X hK hP (i := 0) (by decide) d_Hop_lowestFrom_14 ?_
  refine lv_astore (lv' := [(4, .ref (q 0)), (3, .int 0), (2, .null), (0, .ref (a 0)), (1, .int (nI f))]) hx hb d_Hop_lowestFrom_15 hl (by decide) rfl (fun ls hl => ?_)
  refine lv_aload hx hb d_Hop_lowestFrom_17 (lv_at hl 0 rfl) ?_
  refine hg_base X hK hP (by decide) d_Hop_lowestFrom_19 ?_
  refine lv_iload_n hx hb d_Hop_lowestFrom_22 rfl (lv_at hl 4 rfl) ?_
  refine lv_icmp_lt (tgt := 45) hx hb d_Hop_lowestFrom_23 (by decide) (fun g0 => ?_) (fun g0 => ?_)
  · have e0 := lowS_n (B := B) (f := f) (i := 0) (r := none) rfl (fun z => absurd ((nI_ltI (by omega) (by omega)).mp g0) (by omega))
    refine lv_iinc (k := 1) (v := 1) (lv' := [(3, .int 1), (4, .ref (q 0)), (2, .null), (0, .ref (a 0)), (1, .int (nI f))]) hx hb d_Hop_lowestFrom_45 hl rfl (by decide) (by decide) rfl (fun ls hl => ?_)
    refine lv_goto (tgt := 4) hx hb d_Hop_lowestFrom_48 (by decide) ?_
    refine lv_iload_n hx hb d_Hop_lowestFrom_4 rfl (lv_at hl 0 rfl) ?_
    refine lv_iconst (v := 3) hx hb d_Hop_lowestFrom_5 (by decide) ?_
    refine lvF_icmp_ge (tgt := 51) hx hb d_Hop_lowestFrom_6 (by decide) (by decide) ?_
    refine lv_aload_n hx hb d_Hop_lowestFrom_9 rfl (lv_at hl 3 rfl) ?_
    refine hg_parts X hK hP d_Hop_lowestFrom_10 ?_
    refine lv_iload_n hx hb d_Hop_lowestFrom_13 rfl (lv_at hl 0 rfl) ?_
    refine hl_P X hK hP (i := 1) (by decide) d_Hop_lowestFrom_14 ?_
    refine lv_astore (lv' := [(4, .ref (q 1)), (3, .int 1), (2, .null), (0, .ref (a 0)), (1, .int (nI f))]) hx hb d_Hop_lowestFrom_15 hl (by decide) rfl (fun ls hl => ?_)
    refine lv_aload hx hb d_Hop_lowestFrom_17 (lv_at hl 0 rfl) ?_
    refine hg_base X hK hP (by decide) d_Hop_lowestFrom_19 ?_
    refine lv_iload_n hx hb d_Hop_lowestFrom_22 rfl (lv_at hl 4 rfl) ?_
    refine lv_icmp_lt (tgt := 45) hx hb d_Hop_lowestFrom_23 (by decide) (fun g1 => ?_) (fun g1 => ?_)
    · have e1 := lowS_n (B := B) (f := f) (i := 1) (r := none) e0 (fun z => absurd ((nI_ltI (by omega) (by omega)).mp g1) (by omega))
      refine lv_iinc (k := 1) (v := 2) (lv' := [(3, .int 2), (4, .ref (q 1)), (2, .null), (0, .ref (a 0)), (1, .int (nI f))]) hx hb d_Hop_lowestFrom_45 hl rfl (by decide) (by decide) rfl (fun ls hl => ?_)
      refine lv_goto (tgt := 4) hx hb d_Hop_lowestFrom_48 (by decide) ?_
      refine lv_iload_n hx hb d_Hop_lowestFrom_4 rfl (lv_at hl 0 rfl) ?_
      refine lv_iconst (v := 3) hx hb d_Hop_lowestFrom_5 (by decide) ?_
      refine lvF_icmp_ge (tgt := 51) hx hb d_Hop_lowestFrom_6 (by decide) (by decide) ?_
      refine lv_aload_n hx hb d_Hop_lowestFrom_9 rfl (lv_at hl 3 rfl) ?_
      refine hg_parts X hK hP d_Hop_lowestFrom_10 ?_
      refine lv_iload_n hx hb d_Hop_lowestFrom_13 rfl (lv_at hl 0 rfl) ?_
      refine hl_P X hK hP (i := 2) (by decide) d_Hop_lowestFrom_14 ?_
      refine lv_astore (lv' := [(4, .ref (q 2)), (3, .int 2), (2, .null), (0, .ref (a 0)), (1, .int (nI f))]) hx hb d_Hop_lowestFrom_15 hl (by decide) rfl (fun ls hl => ?_)
      refine lv_aload hx hb d_Hop_lowestFrom_17 (lv_at hl 0 rfl) ?_
      refine hg_base X hK hP (by decide) d_Hop_lowestFrom_19 ?_
      refine lv_iload_n hx hb d_Hop_lowestFrom_22 rfl (lv_at hl 4 rfl) ?_
      refine lv_icmp_lt (tgt := 45) hx hb d_Hop_lowestFrom_23 (by decide) (fun g2 => ?_) (fun g2 => ?_)
      · have e2 := lowS_n (B := B) (f := f) (i := 2) (r := none) e1 (fun z => absurd ((nI_ltI (by omega) (by omega)).mp g2) (by omega))
        refine lv_iinc (k := 1) (v := 3) (lv' := [(3, .int 3), (4, .ref (q 2)), (2, .null), (0, .ref (a 0)), (1, .int (nI f))]) hx hb d_Hop_lowestFrom_45 hl rfl (by decide) (by decide) rfl (fun ls hl => ?_)
        refine lv_goto (tgt := 4) hx hb d_Hop_lowestFrom_48 (by decide) ?_
        refine lv_iload_n hx hb d_Hop_lowestFrom_4 rfl (lv_at hl 0 rfl) ?_
        refine lv_iconst (v := 3) hx hb d_Hop_lowestFrom_5 (by decide) ?_
        refine lvT_icmp_ge (tgt := 51) hx hb d_Hop_lowestFrom_6 (by decide) (by decide) ?_
        refine lv_aload_nN hx hb d_Hop_lowestFrom_51 rfl (lv_at hl 2 rfl) ?_
        exact W.aret (v := .null) hx hb hr (Or.inl ⟨_, rfl⟩) (Or.inl rfl) (fun t ht hW => ⟨by rw [show lowS B f 3 = _ from e2]; rfl, ht⟩) hq_nl d_Hop_lowestFrom_52
      · have u2 : f ≤ B 2 := Nat.not_lt.mp (fun z => g2 ((nI_ltI (by omega) (by omega)).mpr z))
        have e2 := lowS_0 (B := B) (f := f) (i := 2) e1 u2
        refine lv_aload_nN hx hb d_Hop_lowestFrom_26 rfl (lv_at hl 2 rfl) ?_
        refine lv_ifnullN (tgt := 42) hx hb d_Hop_lowestFrom_27 (by decide) ?_
        refine lv_aload hx hb d_Hop_lowestFrom_42 (lv_at hl 0 rfl) ?_
        refine lv_astore_n (lv' := [(2, .ref (q 2)), (4, .ref (q 2)), (3, .int 2), (0, .ref (a 0)), (1, .int (nI f))]) hx hb d_Hop_lowestFrom_44 rfl hl (by decide) rfl (fun ls hl => ?_)
        refine lv_iinc (k := 2) (v := 3) (lv' := [(3, .int 3), (2, .ref (q 2)), (4, .ref (q 2)), (0, .ref (a 0)), (1, .int (nI f))]) hx hb d_Hop_lowestFrom_45 hl rfl (by decide) (by decide) rfl (fun ls hl => ?_)
        refine lv_goto (tgt := 4) hx hb d_Hop_lowestFrom_48 (by decide) ?_
        refine lv_iload_n hx hb d_Hop_lowestFrom_4 rfl (lv_at hl 0 rfl) ?_
        refine lv_iconst (v := 3) hx hb d_Hop_lowestFrom_5 (by decide) ?_
        refine lvT_icmp_ge (tgt := 51) hx hb d_Hop_lowestFrom_6 (by decide) (by decide) ?_
        refine lv_aload_n hx hb d_Hop_lowestFrom_51 rfl (lv_at hl 1 rfl) ?_
        exact W.aret (v := .ref (q 2)) hx hb hr (Or.inl ⟨_, rfl⟩) (Or.inr ⟨_, rfl⟩) (fun t ht hW => ⟨by rw [show lowS B f 3 = _ from e2]; rfl, ht⟩) hq_nl d_Hop_lowestFrom_52
    · have u1 : f ≤ B 1 := Nat.not_lt.mp (fun z => g1 ((nI_ltI (by omega) (by omega)).mpr z))
      have e1 := lowS_0 (B := B) (f := f) (i := 1) e0 u1
      refine lv_aload_nN hx hb d_Hop_lowestFrom_26 rfl (lv_at hl 2 rfl) ?_
      refine lv_ifnullN (tgt := 42) hx hb d_Hop_lowestFrom_27 (by decide) ?_
      refine lv_aload hx hb d_Hop_lowestFrom_42 (lv_at hl 0 rfl) ?_
      refine lv_astore_n (lv' := [(2, .ref (q 1)), (4, .ref (q 1)), (3, .int 1), (0, .ref (a 0)), (1, .int (nI f))]) hx hb d_Hop_lowestFrom_44 rfl hl (by decide) rfl (fun ls hl => ?_)
      refine lv_iinc (k := 2) (v := 2) (lv' := [(3, .int 2), (2, .ref (q 1)), (4, .ref (q 1)), (0, .ref (a 0)), (1, .int (nI f))]) hx hb d_Hop_lowestFrom_45 hl rfl (by decide) (by decide) rfl (fun ls hl => ?_)
      refine lv_goto (tgt := 4) hx hb d_Hop_lowestFrom_48 (by decide) ?_
      refine lv_iload_n hx hb d_Hop_lowestFrom_4 rfl (lv_at hl 0 rfl) ?_
      refine lv_iconst (v := 3) hx hb d_Hop_lowestFrom_5 (by decide) ?_
      refine lvF_icmp_ge (tgt := 51) hx hb d_Hop_lowestFrom_6 (by decide) (by decide) ?_
      refine lv_aload_n hx hb d_Hop_lowestFrom_9 rfl (lv_at hl 3 rfl) ?_
      refine hg_parts X hK hP d_Hop_lowestFrom_10 ?_
      refine lv_iload_n hx hb d_Hop_lowestFrom_13 rfl (lv_at hl 0 rfl) ?_
      refine hl_P X hK hP (i := 2) (by decide) d_Hop_lowestFrom_14 ?_
      refine lv_astore (lv' := [(4, .ref (q 2)), (3, .int 2), (2, .ref (q 1)), (0, .ref (a 0)), (1, .int (nI f))]) hx hb d_Hop_lowestFrom_15 hl (by decide) rfl (fun ls hl => ?_)
      refine lv_aload hx hb d_Hop_lowestFrom_17 (lv_at hl 0 rfl) ?_
      refine hg_base X hK hP (by decide) d_Hop_lowestFrom_19 ?_
      refine lv_iload_n hx hb d_Hop_lowestFrom_22 rfl (lv_at hl 4 rfl) ?_
      refine lv_icmp_lt (tgt := 45) hx hb d_Hop_lowestFrom_23 (by decide) (fun g2 => ?_) (fun g2 => ?_)
      · have e2 := lowS_n (B := B) (f := f) (i := 2) (r := (some 1)) e1 (fun z => absurd ((nI_ltI (by omega) (by omega)).mp g2) (by omega))
        refine lv_iinc (k := 1) (v := 3) (lv' := [(3, .int 3), (4, .ref (q 2)), (2, .ref (q 1)), (0, .ref (a 0)), (1, .int (nI f))]) hx hb d_Hop_lowestFrom_45 hl rfl (by decide) (by decide) rfl (fun ls hl => ?_)
        refine lv_goto (tgt := 4) hx hb d_Hop_lowestFrom_48 (by decide) ?_
        refine lv_iload_n hx hb d_Hop_lowestFrom_4 rfl (lv_at hl 0 rfl) ?_
        refine lv_iconst (v := 3) hx hb d_Hop_lowestFrom_5 (by decide) ?_
        refine lvT_icmp_ge (tgt := 51) hx hb d_Hop_lowestFrom_6 (by decide) (by decide) ?_
        refine lv_aload_n hx hb d_Hop_lowestFrom_51 rfl (lv_at hl 2 rfl) ?_
        exact W.aret (v := .ref (q 1)) hx hb hr (Or.inl ⟨_, rfl⟩) (Or.inr ⟨_, rfl⟩) (fun t ht hW => ⟨by rw [show lowS B f 3 = _ from e2]; rfl, ht⟩) hq_nl d_Hop_lowestFrom_52
      · have u2 : f ≤ B 2 := Nat.not_lt.mp (fun z => g2 ((nI_ltI (by omega) (by omega)).mpr z))
        refine lv_aload_n hx hb d_Hop_lowestFrom_26 rfl (lv_at hl 2 rfl) ?_
        refine lv_ifnull hx hb d_Hop_lowestFrom_27 ?_
        refine lv_aload hx hb d_Hop_lowestFrom_30 (lv_at hl 0 rfl) ?_
        refine hg_base X hK hP (by decide) d_Hop_lowestFrom_32 ?_
        refine lv_aload_n hx hb d_Hop_lowestFrom_35 rfl (lv_at hl 2 rfl) ?_
        refine hg_base X hK hP (by decide) d_Hop_lowestFrom_36 ?_
        refine lv_icmp_ge (tgt := 45) hx hb d_Hop_lowestFrom_39 (by decide) (fun v2 => ?_) (fun v2 => ?_)
        · have e2 := lowS_k (B := B) (f := f) (i := 2) (j := 1) e1 (fun z => absurd ((nI_leI (by omega) (by omega)).mp v2) (by omega))
          refine lv_iinc (k := 1) (v := 3) (lv' := [(3, .int 3), (4, .ref (q 2)), (2, .ref (q 1)), (0, .ref (a 0)), (1, .int (nI f))]) hx hb d_Hop_lowestFrom_45 hl rfl (by decide) (by decide) rfl (fun ls hl => ?_)
          refine lv_goto (tgt := 4) hx hb d_Hop_lowestFrom_48 (by decide) ?_
          refine lv_iload_n hx hb d_Hop_lowestFrom_4 rfl (lv_at hl 0 rfl) ?_
          refine lv_iconst (v := 3) hx hb d_Hop_lowestFrom_5 (by decide) ?_
          refine lvT_icmp_ge (tgt := 51) hx hb d_Hop_lowestFrom_6 (by decide) (by decide) ?_
          refine lv_aload_n hx hb d_Hop_lowestFrom_51 rfl (lv_at hl 2 rfl) ?_
          exact W.aret (v := .ref (q 1)) hx hb hr (Or.inl ⟨_, rfl⟩) (Or.inr ⟨_, rfl⟩) (fun t ht hW => ⟨by rw [show lowS B f 3 = _ from e2]; rfl, ht⟩) hq_nl d_Hop_lowestFrom_52
        · have e2 := lowS_s (B := B) (f := f) (i := 2) (j := 1) e1 u2 (Nat.not_le.mp (fun z => v2 ((nI_leI (by omega) (by omega)).mpr z)))
          refine lv_aload hx hb d_Hop_lowestFrom_42 (lv_at hl 0 rfl) ?_
          refine lv_astore_n (lv' := [(2, .ref (q 2)), (4, .ref (q 2)), (3, .int 2), (0, .ref (a 0)), (1, .int (nI f))]) hx hb d_Hop_lowestFrom_44 rfl hl (by decide) rfl (fun ls hl => ?_)
          refine lv_iinc (k := 2) (v := 3) (lv' := [(3, .int 3), (2, .ref (q 2)), (4, .ref (q 2)), (0, .ref (a 0)), (1, .int (nI f))]) hx hb d_Hop_lowestFrom_45 hl rfl (by decide) (by decide) rfl (fun ls hl => ?_)
          refine lv_goto (tgt := 4) hx hb d_Hop_lowestFrom_48 (by decide) ?_
          refine lv_iload_n hx hb d_Hop_lowestFrom_4 rfl (lv_at hl 0 rfl) ?_
          refine lv_iconst (v := 3) hx hb d_Hop_lowestFrom_5 (by decide) ?_
          refine lvT_icmp_ge (tgt := 51) hx hb d_Hop_lowestFrom_6 (by decide) (by decide) ?_
          refine lv_aload_n hx hb d_Hop_lowestFrom_51 rfl (lv_at hl 1 rfl) ?_
          exact W.aret (v := .ref (q 2)) hx hb hr (Or.inl ⟨_, rfl⟩) (Or.inr ⟨_, rfl⟩) (fun t ht hW => ⟨by rw [show lowS B f 3 = _ from e2]; rfl, ht⟩) hq_nl d_Hop_lowestFrom_52
  · have u0 : f ≤ B 0 := Nat.not_lt.mp (fun z => g0 ((nI_ltI (by omega) (by omega)).mpr z))
    have e0 := lowS_0 (B := B) (f := f) (i := 0) rfl u0
    refine lv_aload_nN hx hb d_Hop_lowestFrom_26 rfl (lv_at hl 2 rfl) ?_
    refine lv_ifnullN (tgt := 42) hx hb d_Hop_lowestFrom_27 (by decide) ?_
    refine lv_aload hx hb d_Hop_lowestFrom_42 (lv_at hl 0 rfl) ?_
    refine lv_astore_n (lv' := [(2, .ref (q 0)), (4, .ref (q 0)), (3, .int 0), (0, .ref (a 0)), (1, .int (nI f))]) hx hb d_Hop_lowestFrom_44 rfl hl (by decide) rfl (fun ls hl => ?_)
    refine lv_iinc (k := 2) (v := 1) (lv' := [(3, .int 1), (2, .ref (q 0)), (4, .ref (q 0)), (0, .ref (a 0)), (1, .int (nI f))]) hx hb d_Hop_lowestFrom_45 hl rfl (by decide) (by decide) rfl (fun ls hl => ?_)
    refine lv_goto (tgt := 4) hx hb d_Hop_lowestFrom_48 (by decide) ?_
    refine lv_iload_n hx hb d_Hop_lowestFrom_4 rfl (lv_at hl 0 rfl) ?_
    refine lv_iconst (v := 3) hx hb d_Hop_lowestFrom_5 (by decide) ?_
    refine lvF_icmp_ge (tgt := 51) hx hb d_Hop_lowestFrom_6 (by decide) (by decide) ?_
    refine lv_aload_n hx hb d_Hop_lowestFrom_9 rfl (lv_at hl 3 rfl) ?_
    refine hg_parts X hK hP d_Hop_lowestFrom_10 ?_
    refine lv_iload_n hx hb d_Hop_lowestFrom_13 rfl (lv_at hl 0 rfl) ?_
    refine hl_P X hK hP (i := 1) (by decide) d_Hop_lowestFrom_14 ?_
    refine lv_astore (lv' := [(4, .ref (q 1)), (3, .int 1), (2, .ref (q 0)), (0, .ref (a 0)), (1, .int (nI f))]) hx hb d_Hop_lowestFrom_15 hl (by decide) rfl (fun ls hl => ?_)
    refine lv_aload hx hb d_Hop_lowestFrom_17 (lv_at hl 0 rfl) ?_
    refine hg_base X hK hP (by decide) d_Hop_lowestFrom_19 ?_
    refine lv_iload_n hx hb d_Hop_lowestFrom_22 rfl (lv_at hl 4 rfl) ?_
    refine lv_icmp_lt (tgt := 45) hx hb d_Hop_lowestFrom_23 (by decide) (fun g1 => ?_) (fun g1 => ?_)
    · have e1 := lowS_n (B := B) (f := f) (i := 1) (r := (some 0)) e0 (fun z => absurd ((nI_ltI (by omega) (by omega)).mp g1) (by omega))
      refine lv_iinc (k := 1) (v := 2) (lv' := [(3, .int 2), (4, .ref (q 1)), (2, .ref (q 0)), (0, .ref (a 0)), (1, .int (nI f))]) hx hb d_Hop_lowestFrom_45 hl rfl (by decide) (by decide) rfl (fun ls hl => ?_)
      refine lv_goto (tgt := 4) hx hb d_Hop_lowestFrom_48 (by decide) ?_
      refine lv_iload_n hx hb d_Hop_lowestFrom_4 rfl (lv_at hl 0 rfl) ?_
      refine lv_iconst (v := 3) hx hb d_Hop_lowestFrom_5 (by decide) ?_
      refine lvF_icmp_ge (tgt := 51) hx hb d_Hop_lowestFrom_6 (by decide) (by decide) ?_
      refine lv_aload_n hx hb d_Hop_lowestFrom_9 rfl (lv_at hl 3 rfl) ?_
      refine hg_parts X hK hP d_Hop_lowestFrom_10 ?_
      refine lv_iload_n hx hb d_Hop_lowestFrom_13 rfl (lv_at hl 0 rfl) ?_
      refine hl_P X hK hP (i := 2) (by decide) d_Hop_lowestFrom_14 ?_
      refine lv_astore (lv' := [(4, .ref (q 2)), (3, .int 2), (2, .ref (q 0)), (0, .ref (a 0)), (1, .int (nI f))]) hx hb d_Hop_lowestFrom_15 hl (by decide) rfl (fun ls hl => ?_)
      refine lv_aload hx hb d_Hop_lowestFrom_17 (lv_at hl 0 rfl) ?_
      refine hg_base X hK hP (by decide) d_Hop_lowestFrom_19 ?_
      refine lv_iload_n hx hb d_Hop_lowestFrom_22 rfl (lv_at hl 4 rfl) ?_
      refine lv_icmp_lt (tgt := 45) hx hb d_Hop_lowestFrom_23 (by decide) (fun g2 => ?_) (fun g2 => ?_)
      · have e2 := lowS_n (B := B) (f := f) (i := 2) (r := (some 0)) e1 (fun z => absurd ((nI_ltI (by omega) (by omega)).mp g2) (by omega))
        refine lv_iinc (k := 1) (v := 3) (lv' := [(3, .int 3), (4, .ref (q 2)), (2, .ref (q 0)), (0, .ref (a 0)), (1, .int (nI f))]) hx hb d_Hop_lowestFrom_45 hl rfl (by decide) (by decide) rfl (fun ls hl => ?_)
        refine lv_goto (tgt := 4) hx hb d_Hop_lowestFrom_48 (by decide) ?_
        refine lv_iload_n hx hb d_Hop_lowestFrom_4 rfl (lv_at hl 0 rfl) ?_
        refine lv_iconst (v := 3) hx hb d_Hop_lowestFrom_5 (by decide) ?_
        refine lvT_icmp_ge (tgt := 51) hx hb d_Hop_lowestFrom_6 (by decide) (by decide) ?_
        refine lv_aload_n hx hb d_Hop_lowestFrom_51 rfl (lv_at hl 2 rfl) ?_
        exact W.aret (v := .ref (q 0)) hx hb hr (Or.inl ⟨_, rfl⟩) (Or.inr ⟨_, rfl⟩) (fun t ht hW => ⟨by rw [show lowS B f 3 = _ from e2]; rfl, ht⟩) hq_nl d_Hop_lowestFrom_52
      · have u2 : f ≤ B 2 := Nat.not_lt.mp (fun z => g2 ((nI_ltI (by omega) (by omega)).mpr z))
        refine lv_aload_n hx hb d_Hop_lowestFrom_26 rfl (lv_at hl 2 rfl) ?_
        refine lv_ifnull hx hb d_Hop_lowestFrom_27 ?_
        refine lv_aload hx hb d_Hop_lowestFrom_30 (lv_at hl 0 rfl) ?_
        refine hg_base X hK hP (by decide) d_Hop_lowestFrom_32 ?_
        refine lv_aload_n hx hb d_Hop_lowestFrom_35 rfl (lv_at hl 2 rfl) ?_
        refine hg_base X hK hP (by decide) d_Hop_lowestFrom_36 ?_
        refine lv_icmp_ge (tgt := 45) hx hb d_Hop_lowestFrom_39 (by decide) (fun v2 => ?_) (fun v2 => ?_)
        · have e2 := lowS_k (B := B) (f := f) (i := 2) (j := 0) e1 (fun z => absurd ((nI_leI (by omega) (by omega)).mp v2) (by omega))
          refine lv_iinc (k := 1) (v := 3) (lv' := [(3, .int 3), (4, .ref (q 2)), (2, .ref (q 0)), (0, .ref (a 0)), (1, .int (nI f))]) hx hb d_Hop_lowestFrom_45 hl rfl (by decide) (by decide) rfl (fun ls hl => ?_)
          refine lv_goto (tgt := 4) hx hb d_Hop_lowestFrom_48 (by decide) ?_
          refine lv_iload_n hx hb d_Hop_lowestFrom_4 rfl (lv_at hl 0 rfl) ?_
          refine lv_iconst (v := 3) hx hb d_Hop_lowestFrom_5 (by decide) ?_
          refine lvT_icmp_ge (tgt := 51) hx hb d_Hop_lowestFrom_6 (by decide) (by decide) ?_
          refine lv_aload_n hx hb d_Hop_lowestFrom_51 rfl (lv_at hl 2 rfl) ?_
          exact W.aret (v := .ref (q 0)) hx hb hr (Or.inl ⟨_, rfl⟩) (Or.inr ⟨_, rfl⟩) (fun t ht hW => ⟨by rw [show lowS B f 3 = _ from e2]; rfl, ht⟩) hq_nl d_Hop_lowestFrom_52
        · have e2 := lowS_s (B := B) (f := f) (i := 2) (j := 0) e1 u2 (Nat.not_le.mp (fun z => v2 ((nI_leI (by omega) (by omega)).mpr z)))
          refine lv_aload hx hb d_Hop_lowestFrom_42 (lv_at hl 0 rfl) ?_
          refine lv_astore_n (lv' := [(2, .ref (q 2)), (4, .ref (q 2)), (3, .int 2), (0, .ref (a 0)), (1, .int (nI f))]) hx hb d_Hop_lowestFrom_44 rfl hl (by decide) rfl (fun ls hl => ?_)
          refine lv_iinc (k := 2) (v := 3) (lv' := [(3, .int 3), (2, .ref (q 2)), (4, .ref (q 2)), (0, .ref (a 0)), (1, .int (nI f))]) hx hb d_Hop_lowestFrom_45 hl rfl (by decide) (by decide) rfl (fun ls hl => ?_)
          refine lv_goto (tgt := 4) hx hb d_Hop_lowestFrom_48 (by decide) ?_
          refine lv_iload_n hx hb d_Hop_lowestFrom_4 rfl (lv_at hl 0 rfl) ?_
          refine lv_iconst (v := 3) hx hb d_Hop_lowestFrom_5 (by decide) ?_
          refine lvT_icmp_ge (tgt := 51) hx hb d_Hop_lowestFrom_6 (by decide) (by decide) ?_
          refine lv_aload_n hx hb d_Hop_lowestFrom_51 rfl (lv_at hl 1 rfl) ?_
          exact W.aret (v := .ref (q 2)) hx hb hr (Or.inl ⟨_, rfl⟩) (Or.inr ⟨_, rfl⟩) (fun t ht hW => ⟨by rw [show lowS B f 3 = _ from e2]; rfl, ht⟩) hq_nl d_Hop_lowestFrom_52
    · have u1 : f ≤ B 1 := Nat.not_lt.mp (fun z => g1 ((nI_ltI (by omega) (by omega)).mpr z))
      refine lv_aload_n hx hb d_Hop_lowestFrom_26 rfl (lv_at hl 2 rfl) ?_
      refine lv_ifnull hx hb d_Hop_lowestFrom_27 ?_
      refine lv_aload hx hb d_Hop_lowestFrom_30 (lv_at hl 0 rfl) ?_
      refine hg_base X hK hP (by decide) d_Hop_lowestFrom_32 ?_
      refine lv_aload_n hx hb d_Hop_lowestFrom_35 rfl (lv_at hl 2 rfl) ?_
      refine hg_base X hK hP (by decide) d_Hop_lowestFrom_36 ?_
      refine lv_icmp_ge (tgt := 45) hx hb d_Hop_lowestFrom_39 (by decide) (fun v1 => ?_) (fun v1 => ?_)
      · have e1 := lowS_k (B := B) (f := f) (i := 1) (j := 0) e0 (fun z => absurd ((nI_leI (by omega) (by omega)).mp v1) (by omega))
        refine lv_iinc (k := 1) (v := 2) (lv' := [(3, .int 2), (4, .ref (q 1)), (2, .ref (q 0)), (0, .ref (a 0)), (1, .int (nI f))]) hx hb d_Hop_lowestFrom_45 hl rfl (by decide) (by decide) rfl (fun ls hl => ?_)
        refine lv_goto (tgt := 4) hx hb d_Hop_lowestFrom_48 (by decide) ?_
        refine lv_iload_n hx hb d_Hop_lowestFrom_4 rfl (lv_at hl 0 rfl) ?_
        refine lv_iconst (v := 3) hx hb d_Hop_lowestFrom_5 (by decide) ?_
        refine lvF_icmp_ge (tgt := 51) hx hb d_Hop_lowestFrom_6 (by decide) (by decide) ?_
        refine lv_aload_n hx hb d_Hop_lowestFrom_9 rfl (lv_at hl 3 rfl) ?_
        refine hg_parts X hK hP d_Hop_lowestFrom_10 ?_
        refine lv_iload_n hx hb d_Hop_lowestFrom_13 rfl (lv_at hl 0 rfl) ?_
        refine hl_P X hK hP (i := 2) (by decide) d_Hop_lowestFrom_14 ?_
        refine lv_astore (lv' := [(4, .ref (q 2)), (3, .int 2), (2, .ref (q 0)), (0, .ref (a 0)), (1, .int (nI f))]) hx hb d_Hop_lowestFrom_15 hl (by decide) rfl (fun ls hl => ?_)
        refine lv_aload hx hb d_Hop_lowestFrom_17 (lv_at hl 0 rfl) ?_
        refine hg_base X hK hP (by decide) d_Hop_lowestFrom_19 ?_
        refine lv_iload_n hx hb d_Hop_lowestFrom_22 rfl (lv_at hl 4 rfl) ?_
        refine lv_icmp_lt (tgt := 45) hx hb d_Hop_lowestFrom_23 (by decide) (fun g2 => ?_) (fun g2 => ?_)
        · have e2 := lowS_n (B := B) (f := f) (i := 2) (r := (some 0)) e1 (fun z => absurd ((nI_ltI (by omega) (by omega)).mp g2) (by omega))
          refine lv_iinc (k := 1) (v := 3) (lv' := [(3, .int 3), (4, .ref (q 2)), (2, .ref (q 0)), (0, .ref (a 0)), (1, .int (nI f))]) hx hb d_Hop_lowestFrom_45 hl rfl (by decide) (by decide) rfl (fun ls hl => ?_)
          refine lv_goto (tgt := 4) hx hb d_Hop_lowestFrom_48 (by decide) ?_
          refine lv_iload_n hx hb d_Hop_lowestFrom_4 rfl (lv_at hl 0 rfl) ?_
          refine lv_iconst (v := 3) hx hb d_Hop_lowestFrom_5 (by decide) ?_
          refine lvT_icmp_ge (tgt := 51) hx hb d_Hop_lowestFrom_6 (by decide) (by decide) ?_
          refine lv_aload_n hx hb d_Hop_lowestFrom_51 rfl (lv_at hl 2 rfl) ?_
          exact W.aret (v := .ref (q 0)) hx hb hr (Or.inl ⟨_, rfl⟩) (Or.inr ⟨_, rfl⟩) (fun t ht hW => ⟨by rw [show lowS B f 3 = _ from e2]; rfl, ht⟩) hq_nl d_Hop_lowestFrom_52
        · have u2 : f ≤ B 2 := Nat.not_lt.mp (fun z => g2 ((nI_ltI (by omega) (by omega)).mpr z))
          refine lv_aload_n hx hb d_Hop_lowestFrom_26 rfl (lv_at hl 2 rfl) ?_
          refine lv_ifnull hx hb d_Hop_lowestFrom_27 ?_
          refine lv_aload hx hb d_Hop_lowestFrom_30 (lv_at hl 0 rfl) ?_
          refine hg_base X hK hP (by decide) d_Hop_lowestFrom_32 ?_
          refine lv_aload_n hx hb d_Hop_lowestFrom_35 rfl (lv_at hl 2 rfl) ?_
          refine hg_base X hK hP (by decide) d_Hop_lowestFrom_36 ?_
          refine lv_icmp_ge (tgt := 45) hx hb d_Hop_lowestFrom_39 (by decide) (fun v2 => ?_) (fun v2 => ?_)
          · have e2 := lowS_k (B := B) (f := f) (i := 2) (j := 0) e1 (fun z => absurd ((nI_leI (by omega) (by omega)).mp v2) (by omega))
            refine lv_iinc (k := 1) (v := 3) (lv' := [(3, .int 3), (4, .ref (q 2)), (2, .ref (q 0)), (0, .ref (a 0)), (1, .int (nI f))]) hx hb d_Hop_lowestFrom_45 hl rfl (by decide) (by decide) rfl (fun ls hl => ?_)
            refine lv_goto (tgt := 4) hx hb d_Hop_lowestFrom_48 (by decide) ?_
            refine lv_iload_n hx hb d_Hop_lowestFrom_4 rfl (lv_at hl 0 rfl) ?_
            refine lv_iconst (v := 3) hx hb d_Hop_lowestFrom_5 (by decide) ?_
            refine lvT_icmp_ge (tgt := 51) hx hb d_Hop_lowestFrom_6 (by decide) (by decide) ?_
            refine lv_aload_n hx hb d_Hop_lowestFrom_51 rfl (lv_at hl 2 rfl) ?_
            exact W.aret (v := .ref (q 0)) hx hb hr (Or.inl ⟨_, rfl⟩) (Or.inr ⟨_, rfl⟩) (fun t ht hW => ⟨by rw [show lowS B f 3 = _ from e2]; rfl, ht⟩) hq_nl d_Hop_lowestFrom_52
          · have e2 := lowS_s (B := B) (f := f) (i := 2) (j := 0) e1 u2 (Nat.not_le.mp (fun z => v2 ((nI_leI (by omega) (by omega)).mpr z)))
            refine lv_aload hx hb d_Hop_lowestFrom_42 (lv_at hl 0 rfl) ?_
            refine lv_astore_n (lv' := [(2, .ref (q 2)), (4, .ref (q 2)), (3, .int 2), (0, .ref (a 0)), (1, .int (nI f))]) hx hb d_Hop_lowestFrom_44 rfl hl (by decide) rfl (fun ls hl => ?_)
            refine lv_iinc (k := 2) (v := 3) (lv' := [(3, .int 3), (2, .ref (q 2)), (4, .ref (q 2)), (0, .ref (a 0)), (1, .int (nI f))]) hx hb d_Hop_lowestFrom_45 hl rfl (by decide) (by decide) rfl (fun ls hl => ?_)
            refine lv_goto (tgt := 4) hx hb d_Hop_lowestFrom_48 (by decide) ?_
            refine lv_iload_n hx hb d_Hop_lowestFrom_4 rfl (lv_at hl 0 rfl) ?_
            refine lv_iconst (v := 3) hx hb d_Hop_lowestFrom_5 (by decide) ?_
            refine lvT_icmp_ge (tgt := 51) hx hb d_Hop_lowestFrom_6 (by decide) (by decide) ?_
            refine lv_aload_n hx hb d_Hop_lowestFrom_51 rfl (lv_at hl 1 rfl) ?_
            exact W.aret (v := .ref (q 2)) hx hb hr (Or.inl ⟨_, rfl⟩) (Or.inr ⟨_, rfl⟩) (fun t ht hW => ⟨by rw [show lowS B f 3 = _ from e2]; rfl, ht⟩) hq_nl d_Hop_lowestFrom_52
      · have e1 := lowS_s (B := B) (f := f) (i := 1) (j := 0) e0 u1 (Nat.not_le.mp (fun z => v1 ((nI_leI (by omega) (by omega)).mpr z)))
        refine lv_aload hx hb d_Hop_lowestFrom_42 (lv_at hl 0 rfl) ?_
        refine lv_astore_n (lv' := [(2, .ref (q 1)), (4, .ref (q 1)), (3, .int 1), (0, .ref (a 0)), (1, .int (nI f))]) hx hb d_Hop_lowestFrom_44 rfl hl (by decide) rfl (fun ls hl => ?_)
        refine lv_iinc (k := 2) (v := 2) (lv' := [(3, .int 2), (2, .ref (q 1)), (4, .ref (q 1)), (0, .ref (a 0)), (1, .int (nI f))]) hx hb d_Hop_lowestFrom_45 hl rfl (by decide) (by decide) rfl (fun ls hl => ?_)
        refine lv_goto (tgt := 4) hx hb d_Hop_lowestFrom_48 (by decide) ?_
        refine lv_iload_n hx hb d_Hop_lowestFrom_4 rfl (lv_at hl 0 rfl) ?_
        refine lv_iconst (v := 3) hx hb d_Hop_lowestFrom_5 (by decide) ?_
        refine lvF_icmp_ge (tgt := 51) hx hb d_Hop_lowestFrom_6 (by decide) (by decide) ?_
        refine lv_aload_n hx hb d_Hop_lowestFrom_9 rfl (lv_at hl 3 rfl) ?_
        refine hg_parts X hK hP d_Hop_lowestFrom_10 ?_
        refine lv_iload_n hx hb d_Hop_lowestFrom_13 rfl (lv_at hl 0 rfl) ?_
        refine hl_P X hK hP (i := 2) (by decide) d_Hop_lowestFrom_14 ?_
        refine lv_astore (lv' := [(4, .ref (q 2)), (3, .int 2), (2, .ref (q 1)), (0, .ref (a 0)), (1, .int (nI f))]) hx hb d_Hop_lowestFrom_15 hl (by decide) rfl (fun ls hl => ?_)
        refine lv_aload hx hb d_Hop_lowestFrom_17 (lv_at hl 0 rfl) ?_
        refine hg_base X hK hP (by decide) d_Hop_lowestFrom_19 ?_
        refine lv_iload_n hx hb d_Hop_lowestFrom_22 rfl (lv_at hl 4 rfl) ?_
        refine lv_icmp_lt (tgt := 45) hx hb d_Hop_lowestFrom_23 (by decide) (fun g2 => ?_) (fun g2 => ?_)
        · have e2 := lowS_n (B := B) (f := f) (i := 2) (r := (some 1)) e1 (fun z => absurd ((nI_ltI (by omega) (by omega)).mp g2) (by omega))
          refine lv_iinc (k := 1) (v := 3) (lv' := [(3, .int 3), (4, .ref (q 2)), (2, .ref (q 1)), (0, .ref (a 0)), (1, .int (nI f))]) hx hb d_Hop_lowestFrom_45 hl rfl (by decide) (by decide) rfl (fun ls hl => ?_)
          refine lv_goto (tgt := 4) hx hb d_Hop_lowestFrom_48 (by decide) ?_
          refine lv_iload_n hx hb d_Hop_lowestFrom_4 rfl (lv_at hl 0 rfl) ?_
          refine lv_iconst (v := 3) hx hb d_Hop_lowestFrom_5 (by decide) ?_
          refine lvT_icmp_ge (tgt := 51) hx hb d_Hop_lowestFrom_6 (by decide) (by decide) ?_
          refine lv_aload_n hx hb d_Hop_lowestFrom_51 rfl (lv_at hl 2 rfl) ?_
          exact W.aret (v := .ref (q 1)) hx hb hr (Or.inl ⟨_, rfl⟩) (Or.inr ⟨_, rfl⟩) (fun t ht hW => ⟨by rw [show lowS B f 3 = _ from e2]; rfl, ht⟩) hq_nl d_Hop_lowestFrom_52
        · have u2 : f ≤ B 2 := Nat.not_lt.mp (fun z => g2 ((nI_ltI (by omega) (by omega)).mpr z))
          refine lv_aload_n hx hb d_Hop_lowestFrom_26 rfl (lv_at hl 2 rfl) ?_
          refine lv_ifnull hx hb d_Hop_lowestFrom_27 ?_
          refine lv_aload hx hb d_Hop_lowestFrom_30 (lv_at hl 0 rfl) ?_
          refine hg_base X hK hP (by decide) d_Hop_lowestFrom_32 ?_
          refine lv_aload_n hx hb d_Hop_lowestFrom_35 rfl (lv_at hl 2 rfl) ?_
          refine hg_base X hK hP (by decide) d_Hop_lowestFrom_36 ?_
          refine lv_icmp_ge (tgt := 45) hx hb d_Hop_lowestFrom_39 (by decide) (fun v2 => ?_) (fun v2 => ?_)
          · have e2 := lowS_k (B := B) (f := f) (i := 2) (j := 1) e1 (fun z => absurd ((nI_leI (by omega) (by omega)).mp v2) (by omega))
            refine lv_iinc (k := 1) (v := 3) (lv' := [(3, .int 3), (4, .ref (q 2)), (2, .ref (q 1)), (0, .ref (a 0)), (1, .int (nI f))]) hx hb d_Hop_lowestFrom_45 hl rfl (by decide) (by decide) rfl (fun ls hl => ?_)
            refine lv_goto (tgt := 4) hx hb d_Hop_lowestFrom_48 (by decide) ?_
            refine lv_iload_n hx hb d_Hop_lowestFrom_4 rfl (lv_at hl 0 rfl) ?_
            refine lv_iconst (v := 3) hx hb d_Hop_lowestFrom_5 (by decide) ?_
            refine lvT_icmp_ge (tgt := 51) hx hb d_Hop_lowestFrom_6 (by decide) (by decide) ?_
            refine lv_aload_n hx hb d_Hop_lowestFrom_51 rfl (lv_at hl 2 rfl) ?_
            exact W.aret (v := .ref (q 1)) hx hb hr (Or.inl ⟨_, rfl⟩) (Or.inr ⟨_, rfl⟩) (fun t ht hW => ⟨by rw [show lowS B f 3 = _ from e2]; rfl, ht⟩) hq_nl d_Hop_lowestFrom_52
          · have e2 := lowS_s (B := B) (f := f) (i := 2) (j := 1) e1 u2 (Nat.not_le.mp (fun z => v2 ((nI_leI (by omega) (by omega)).mpr z)))
            refine lv_aload hx hb d_Hop_lowestFrom_42 (lv_at hl 0 rfl) ?_
            refine lv_astore_n (lv' := [(2, .ref (q 2)), (4, .ref (q 2)), (3, .int 2), (0, .ref (a 0)), (1, .int (nI f))]) hx hb d_Hop_lowestFrom_44 rfl hl (by decide) rfl (fun ls hl => ?_)
            refine lv_iinc (k := 2) (v := 3) (lv' := [(3, .int 3), (2, .ref (q 2)), (4, .ref (q 2)), (0, .ref (a 0)), (1, .int (nI f))]) hx hb d_Hop_lowestFrom_45 hl rfl (by decide) (by decide) rfl (fun ls hl => ?_)
            refine lv_goto (tgt := 4) hx hb d_Hop_lowestFrom_48 (by decide) ?_
            refine lv_iload_n hx hb d_Hop_lowestFrom_4 rfl (lv_at hl 0 rfl) ?_
            refine lv_iconst (v := 3) hx hb d_Hop_lowestFrom_5 (by decide) ?_
            refine lvT_icmp_ge (tgt := 51) hx hb d_Hop_lowestFrom_6 (by decide) (by decide) ?_
            refine lv_aload_n hx hb d_Hop_lowestFrom_51 rfl (lv_at hl 1 rfl) ?_
            exact W.aret (v := .ref (q 2)) hx hb hr (Or.inl ⟨_, rfl⟩) (Or.inr ⟨_, rfl⟩) (fun t ht hW => ⟨by rw [show lowS B f 3 = _ from e2]; rfl, ht⟩) hq_nl d_Hop_lowestFrom_52
set_option maxHeartbeats 4000000 in
set_option maxRecDepth 100000 in
/-- moveDown: a part comes to f -/
theorem c_Hop_moveDown (l : Launch) (D : va_G) (ca a q : Nat → Nat) (K V : IT) (T : BT) (C : IT) (B P : Nat → Nat) (S : IT) (j : Nat) (hj : j < 4) (f : Nat) (hbd : B j + P j ≤ 256) (hf : f ≤ B j) : Met l y_Hop_moveDown w_Hop_moveDown (rmD 1 0 0) (va_Pc [.ref (a 0), .ref (q j), .int (nI f)] (hb_W D hCl (wH ca a q K V T C B P S) (tyH ca))) (hq_W (none) D hCl (wH ca a q (cpyI K (B j) f (P j)) (cpyI V (B j) f (P j)) (cpyB T (B j) f (P j)) C (va_up B j f) P S) (hA (wH ca a q K V T C B P S))) 0 0 (hA (wH ca a q K V T C B P S)) := by
  refine Met.ofW (cc := b_Hop_moveDown) (maxL := 4) (ret := none) (by decide) rfl ?_
  intro p e s m args below meth c0 s₁ B0 hml hv
  obtain ⟨rfl, hP, hK, hD0⟩ := hv
  have hx := B0.exec
  have hb := B0.bytes
  have hr := B0.returns
  have hts := atoms_spec (ws := w_Hop_moveDown) B0.pre
  have hown : s.vm.findClass R_Hop = some m.cls := findClass_of_methodNamed B0.named
  have hlocks := B0.notSynchronized
  have hwA : ∀ w ∈ wsA, w.before ([.ref (a 0), .ref (q j), .int (nI f)] : List Value).toArray s = true := fun w h => hts w (List.mem_cons_of_mem _ h)
  have X : CallFix p m c0 b_Hop_moveDown 4 s ([.ref (a 0), .ref (q j), .int (nI f)] : List Value).toArray wsA R_Hop := ⟨hx, hb, hml, hown, hwA⟩
  have hD := hA_D hD0
  have hS : va_S (hA (wH ca a q K V T C B P S)) s.heap s.heap [] := va_S.rf
  have hl := lv_entry ([.ref (a 0), .ref (q j), .int (nI f)]) (n := 4) (Nat.le_of_ble_eq_true rfl)
  rw [lg_entry_eq]
  generalize (lg_sl ([.ref (a 0), .ref (q j), .int (nI f)]) ++ List.replicate (4 - (lg_sl ([.ref (a 0), .ref (q j), .int (nI f)])).length) Slot.unset).toArray = ls at hl ⊢
  have hl : lv_has ls 4 [(0, .ref (a 0)), (1, .ref (q j)), (2, .int (nI f))] := hl
  have loop : ∀ (n i : Nat) (ls : Array Slot) (H : Heap) (locs : List Loc), i + n = P j → va_P D hCl (wH ca a q (cpyI K (B j) f i) (cpyI V (B j) f i) (cpyB T (B j) f i) C B P S) H → va_D (hA (wH ca a q K V T C B P S)) (wH ca a q (cpyI K (B j) f i) (cpyI V (B j) f i) (cpyB T (B j) f i) C B P S) → va_S (hA (wH ca a q K V T C B P S)) s.heap H locs → lv_has ls 4 [(3, .int (nI i)), (0, .ref (a 0)), (1, .ref (q j)), (2, .int (nI f))] → W p l e (headSpec w_Hop_moveDown (rmD 1 0 0)).room s m ([.ref (a 0), .ref (q j), .int (nI f)] : List Value).toArray below meth c0 H locs 0 0 (MQ below (hq_W (none) D hCl (wH ca a q (cpyI K (B j) f (P j)) (cpyI V (B j) f (P j)) (cpyB T (B j) f (P j)) C (va_up B j f) P S) (hA (wH ca a q K V T C B P S))) ([.ref (a 0), .ref (q j), .int (nI f)] : List Value).toArray s 0 0 (hA (wH ca a q K V T C B P S))) (F0 m 2 ls []) := by
    intro n
    induction n with
    | zero =>
      intro i ls H locs hi hP hD hS hl
      have hiP : i = P j := by omega
      refine lv_iload_n hx hb d_Hop_moveDown_2 rfl (lv_at hl 0 rfl) ?_
      refine lv_aload_n hx hb d_Hop_moveDown_3 rfl (lv_at hl 2 rfl) ?_
      refine hg_capacity X hK hP hj d_Hop_moveDown_4 ?_
      refine lvT_icmp_ge (tgt := 29) hx hb d_Hop_moveDown_7 (by decide) (nI_le (a := P j) (b := i) (by omega) (by omega)) ?_
      rw [hiP] at hP hD
      refine lv_aload_n hx hb d_Hop_moveDown_29 rfl (lv_at hl 2 rfl) ?_
      refine lv_iload_n hx hb d_Hop_moveDown_30 rfl (lv_at hl 3 rfl) ?_
      refine hp_base X hK hP hD hS (x := f) hj d_Hop_moveDown_31 (fun H locs hP hD hS => ?_)
      exact W.vret hx hb hr (fun t ht hW => ⟨rfl, by rw [ht]; exact hP, hS.F ht⟩) hS.2.2 d_Hop_moveDown_34
    | succ n ih =>
      intro i ls H locs hi hP hD hS hl
      refine lv_iload_n hx hb d_Hop_moveDown_2 rfl (lv_at hl 0 rfl) ?_
      refine lv_aload_n hx hb d_Hop_moveDown_3 rfl (lv_at hl 2 rfl) ?_
      refine hg_capacity X hK hP hj d_Hop_moveDown_4 ?_
      refine lvF_icmp_ge (tgt := 29) hx hb d_Hop_moveDown_7 (by decide) (nI_ge (a := i) (b := P j) (by omega) (by omega)) ?_
      refine lv_aload_n hx hb d_Hop_moveDown_10 rfl (lv_at hl 1 rfl) ?_
      refine lv_aload_n hx hb d_Hop_moveDown_11 rfl (lv_at hl 2 rfl) ?_
      refine hg_base X hK hP hj d_Hop_moveDown_12 ?_
      refine lv_iload_n hx hb d_Hop_moveDown_15 rfl (lv_at hl 0 rfl) ?_
      refine lv_iadd hx hb d_Hop_moveDown_16 ?_
      refine lv_tope (y := nI (B j + i)) (nI_add _ _) ?_
      refine lv_iload_n hx hb d_Hop_moveDown_17 rfl (lv_at hl 3 rfl) ?_
      refine lv_iload_n hx hb d_Hop_moveDown_18 rfl (lv_at hl 0 rfl) ?_
      refine lv_iadd hx hb d_Hop_moveDown_19 ?_
      refine lv_tope (y := nI (f + i)) (nI_add _ _) ?_
      refine k_copySlot X hK hP hD hS hl.1 (g := B j + i) (f := f + i) (by omega) (by omega) (Nat.le_of_ble_eq_true rfl) ⟨Nat.zero_le _, Nat.zero_le _⟩ ⟨Nat.le_of_ble_eq_true rfl, Nat.le_of_ble_eq_true rfl⟩ d_Hop_moveDown_20 (fun H locs hP hD hS => ?_)
      refine lv_iinc (k := 0) (v := nI (i + 1)) (lv' := [(3, .int (nI (i + 1))), (0, .ref (a 0)), (1, .ref (q j)), (2, .int (nI f))]) hx hb d_Hop_moveDown_23 hl rfl (inc1 i) (by decide) rfl (fun ls hl => ?_)
      refine lv_goto (tgt := 2) hx hb d_Hop_moveDown_26 (by decide) ?_
      exact ih (i + 1) ls H locs (by omega) hP hD hS hl
  refine lv_iconst (v := 0) hx hb d_Hop_moveDown_0 (by decide) ?_
  refine lv_istore_n (lv' := [(3, .int 0), (0, .ref (a 0)), (1, .ref (q j)), (2, .int (nI f))]) hx hb d_Hop_moveDown_1 rfl hl (by decide) rfl (fun ls hl => ?_)
  exact loop (P j) 0 ls s.heap [] (by omega) hP hD hS hl
