set_option maxHeartbeats 4000000 in
set_option maxRecDepth 100000 in
/-- slotOrNone -/
theorem c_Hop_slotOrNone (l : Launch) (D : va_G) (ca a q : Nat → Nat) (K V : IT) (T : BT) (C : IT) (B P : Nat → Nat) (S : IT) (j : Nat) (key : Int32) (hj : j < 4) (hc : pw (P j)) (hbd : B j + P j ≤ 256) : Met l y_Hop_slotOrNone w_Hop_slotOrNone (rmD 1 0 0) (va_Pc [.ref (a 0), .ref (q j), .int key] (hb_R D hCl (wH ca a q K V T C B P S) (tyH ca))) (hq_R (some (.int (oI (fnd T K (B j) (P j) (hom key (S j) (P j)) key 0 8))))) 0 0 hq_no := by
  refine Met.ofW (cc := b_Hop_slotOrNone) (maxL := 6) (ret := some .int) (by decide) rfl ?_
  intro p e s m args below meth c0 s₁ B0 hml hv
  obtain ⟨rfl, hP, hK⟩ := hv
  have hx := B0.exec
  have hb := B0.bytes
  have hr := B0.returns
  have hts := atoms_spec (ws := w_Hop_slotOrNone) B0.pre
  have hown : s.vm.findClass R_Hop = some m.cls := findClass_of_methodNamed B0.named
  have hlocks := B0.notSynchronized
  have hwA : ∀ w ∈ wsA, w.before ([.ref (a 0), .ref (q j), .int key] : List Value).toArray s = true := fun w h => hts w (List.mem_cons_of_mem _ h)
  have X : CallFix p m c0 b_Hop_slotOrNone 6 s ([.ref (a 0), .ref (q j), .int key] : List Value).toArray wsA R_Hop := ⟨hx, hb, hml, hown, hwA⟩
  have hl := lv_entry ([.ref (a 0), .ref (q j), .int key]) (n := 6) (Nat.le_of_ble_eq_true rfl)
  rw [lg_entry_eq]
  generalize (lg_sl ([.ref (a 0), .ref (q j), .int key]) ++ List.replicate (6 - (lg_sl ([.ref (a 0), .ref (q j), .int key])).length) Slot.unset).toArray = ls at hl ⊢
  have hl : lv_has ls 6 [(0, .ref (a 0)), (1, .ref (q j)), (2, .int key)] := hl
  have loop : ∀ (n i : Nat) (ls : Array Slot), i + n = 8 → fnd T K (B j) (P j) (hom key (S j) (P j)) key i n = fnd T K (B j) (P j) (hom key (S j) (P j)) key 0 8 → lv_has ls 6 [(4, .int (nI i)), (3, .int (nI (hom key (S j) (P j)))), (0, .ref (a 0)), (1, .ref (q j)), (2, .int key)] → W p l e (headSpec w_Hop_slotOrNone (rmD 1 0 0)).room s m ([.ref (a 0), .ref (q j), .int key] : List Value).toArray below meth c0 s.heap [] 0 0 (MQ below (hq_R (some (.int (oI (fnd T K (B j) (P j) (hom key (S j) (P j)) key 0 8))))) ([.ref (a 0), .ref (q j), .int key] : List Value).toArray s 0 0 hq_no) (F0 m 9 ls []) := by
    intro n
    induction n with
    | zero =>
      intro i ls hi hf hl
      have hi8 : i = 8 := by omega
      refine lv_iload hx hb d_Hop_slotOrNone_9 (lv_at hl 0 rfl) ?_
      refine lv_bipush (v := 8) hx hb d_Hop_slotOrNone_11 (by decide) ?_
      refine lvT_icmp_ge (tgt := 56) hx hb d_Hop_slotOrNone_13 (by decide) (nI_le (a := 8) (b := i) (by omega) (by omega)) ?_
      refine lv_iconst (v := -1) hx hb d_Hop_slotOrNone_56 (by decide) ?_
      exact W.iret (v := -1) hx hb hr (fun t ht hW => ⟨by rw [← hf]; rfl, ht⟩) hq_nl d_Hop_slotOrNone_57
    | succ n ih =>
      intro i ls hi hf hl
      refine lv_iload hx hb d_Hop_slotOrNone_9 (lv_at hl 0 rfl) ?_
      refine lv_bipush (v := 8) hx hb d_Hop_slotOrNone_11 (by decide) ?_
      refine lvF_icmp_ge (tgt := 56) hx hb d_Hop_slotOrNone_13 (by decide) (nI_ge (a := i) (b := 8) (by omega) (by omega)) ?_
      refine lv_aload_n hx hb d_Hop_slotOrNone_16 rfl (lv_at hl 3 rfl) ?_
      refine lv_iload_n hx hb d_Hop_slotOrNone_17 rfl (lv_at hl 1 rfl) ?_
      refine lv_iload hx hb d_Hop_slotOrNone_18 (lv_at hl 0 rfl) ?_
      refine lv_iadd hx hb d_Hop_slotOrNone_20 ?_
      refine lv_tope (y := nI (hom key (S j) (P j) + i)) (nI_add _ _) ?_
      refine k_slotOf X hK hP hl.1 (x := hom key (S j) (P j) + i) hc (by have := hom_lt (key := key) (s := S j) hc; have := pw_le hc; omega) hj (Nat.le_of_ble_eq_true rfl) ⟨Nat.zero_le _, Nat.zero_le _⟩ ⟨Nat.le_of_ble_eq_true rfl, Nat.le_of_ble_eq_true rfl⟩ d_Hop_slotOrNone_21 ?_
      refine lv_istore (lv' := [(5, .int (nI (B j + (hom key (S j) (P j) + i) % P j))), (4, .int (nI i)), (3, .int (nI (hom key (S j) (P j)))), (0, .ref (a 0)), (1, .ref (q j)), (2, .int key)]) hx hb d_Hop_slotOrNone_24 hl (by decide) rfl (fun ls hl => ?_)
      refine lv_aload_n hx hb d_Hop_slotOrNone_26 rfl (lv_at hl 3 rfl) ?_
      refine hg_taken X hK hP d_Hop_slotOrNone_27 ?_
      refine lv_iload hx hb d_Hop_slotOrNone_30 (lv_at hl 0 rfl) ?_
      refine hl_T X hK hP (i := B j + (hom key (S j) (P j) + i) % P j) (sl_lt hc hbd) d_Hop_slotOrNone_32 ?_
      refine lv_if_eq (tgt := 50) hx hb d_Hop_slotOrNone_33 (by decide) (fun h1 => ?_) (fun h1 => ?_)
      · refine lv_iinc (k := 1) (v := nI (i + 1)) (lv' := [(4, .int (nI (i + 1))), (5, .int (nI (B j + (hom key (S j) (P j) + i) % P j))), (3, .int (nI (hom key (S j) (P j)))), (0, .ref (a 0)), (1, .ref (q j)), (2, .int key)]) hx hb d_Hop_slotOrNone_50 hl rfl (inc1 i) (by decide) rfl (fun ls hl => ?_)
        refine lv_goto (tgt := 9) hx hb d_Hop_slotOrNone_53 (by decide) ?_
        exact ih (i + 1) ls (by omega) (by rw [← hf]; exact (if_neg (fun z => by rw [bI_0.mp h1] at z; exact absurd z.1 (by decide))).symm) (lv_sub hl [0, 2, 3, 4, 5] rfl)
      · refine lv_aload_n hx hb d_Hop_slotOrNone_36 rfl (lv_at hl 3 rfl) ?_
        refine hg_keys X hK hP d_Hop_slotOrNone_37 ?_
        refine lv_iload hx hb d_Hop_slotOrNone_40 (lv_at hl 0 rfl) ?_
        refine hl_K X hK hP (i := B j + (hom key (S j) (P j) + i) % P j) (sl_lt hc hbd) d_Hop_slotOrNone_42 ?_
        refine lv_iload_n hx hb d_Hop_slotOrNone_43 rfl (lv_at hl 5 rfl) ?_
        refine lv_icmp_ne (tgt := 50) hx hb d_Hop_slotOrNone_44 (by decide) (fun h2 => ?_) (fun h2 => ?_)
        · refine lv_iinc (k := 1) (v := nI (i + 1)) (lv' := [(4, .int (nI (i + 1))), (5, .int (nI (B j + (hom key (S j) (P j) + i) % P j))), (3, .int (nI (hom key (S j) (P j)))), (0, .ref (a 0)), (1, .ref (q j)), (2, .int key)]) hx hb d_Hop_slotOrNone_50 hl rfl (inc1 i) (by decide) rfl (fun ls hl => ?_)
          refine lv_goto (tgt := 9) hx hb d_Hop_slotOrNone_53 (by decide) ?_
          exact ih (i + 1) ls (by omega) (by rw [← hf]; exact (if_neg (fun z => h2 z.2)).symm) (lv_sub hl [0, 2, 3, 4, 5] rfl)
        · refine lv_iload hx hb d_Hop_slotOrNone_47 (lv_at hl 0 rfl) ?_
          exact W.iret (v := nI (B j + (hom key (S j) (P j) + i) % P j)) hx hb hr (fun t ht hW => ⟨by rw [← hf]; show _ = Outcome.returned (some (Value.int (oI (ite _ _ _)))); rw [if_pos ⟨bI_n0.mp h1, h2⟩]; rfl, ht⟩) hq_nl d_Hop_slotOrNone_49
  refine lv_aload_n hx hb d_Hop_slotOrNone_0 rfl (lv_at hl 1 rfl) ?_
  refine lv_iload_n hx hb d_Hop_slotOrNone_1 rfl (lv_at hl 2 rfl) ?_
  refine k_homeOf X hK hP hl.1 hc hj (Nat.le_of_ble_eq_true rfl) ⟨Nat.zero_le _, Nat.zero_le _⟩ ⟨Nat.le_of_ble_eq_true rfl, Nat.le_of_ble_eq_true rfl⟩ d_Hop_slotOrNone_2 ?_
  refine lv_istore_n (lv' := [(3, .int (nI (hom (key) (S j) (P j)))), (0, .ref (a 0)), (1, .ref (q j)), (2, .int key)]) hx hb d_Hop_slotOrNone_5 rfl hl (by decide) rfl (fun ls hl => ?_)
  refine lv_iconst (v := 0) hx hb d_Hop_slotOrNone_6 (by decide) ?_
  refine lv_istore (lv' := [(4, .int 0), (3, .int (nI (hom (key) (S j) (P j)))), (0, .ref (a 0)), (1, .ref (q j)), (2, .int key)]) hx hb d_Hop_slotOrNone_7 hl (by decide) rfl (fun ls hl => ?_)
  exact loop 8 0 ls rfl rfl (lv_sub hl [0, 1, 2, 3, 4] rfl)
set_option maxHeartbeats 4000000 in
set_option maxRecDepth 100000 in
/-- keysIn: how many of its places hold a key -/
theorem c_Hop_keysIn (l : Launch) (D : va_G) (ca a q : Nat → Nat) (K V : IT) (T : BT) (C : IT) (B P : Nat → Nat) (S : IT) (j : Nat) (hj : j < 4) (hbd : B j + P j ≤ 256) : Met l y_Hop_keysIn w_Hop_keysIn (rmD 1 0 0) (va_Pc [.ref (a 0), .ref (q j)] (hb_R D hCl (wH ca a q K V T C B P S) (tyH ca))) (hq_R (some (.int (nI (cnt T (B j) (P j)))))) 0 0 hq_no := by
  refine Met.ofW (cc := b_Hop_keysIn) (maxL := 4) (ret := some .int) (by decide) rfl ?_
  intro p e s m args below meth c0 s₁ B0 hml hv
  obtain ⟨rfl, hP, hK⟩ := hv
  have hx := B0.exec
  have hb := B0.bytes
  have hr := B0.returns
  have hts := atoms_spec (ws := w_Hop_keysIn) B0.pre
  have hown : s.vm.findClass R_Hop = some m.cls := findClass_of_methodNamed B0.named
  have hlocks := B0.notSynchronized
  have hwA : ∀ w ∈ wsA, w.before ([.ref (a 0), .ref (q j)] : List Value).toArray s = true := fun w h => hts w (List.mem_cons_of_mem _ h)
  have X : CallFix p m c0 b_Hop_keysIn 4 s ([.ref (a 0), .ref (q j)] : List Value).toArray wsA R_Hop := ⟨hx, hb, hml, hown, hwA⟩
  have hl := lv_entry ([.ref (a 0), .ref (q j)]) (n := 4) (Nat.le_of_ble_eq_true rfl)
  rw [lg_entry_eq]
  generalize (lg_sl ([.ref (a 0), .ref (q j)]) ++ List.replicate (4 - (lg_sl ([.ref (a 0), .ref (q j)])).length) Slot.unset).toArray = ls at hl ⊢
  have hl : lv_has ls 4 [(0, .ref (a 0)), (1, .ref (q j))] := hl
  have loop : ∀ (n i : Nat) (ls : Array Slot), i + n = P j → lv_has ls 4 [(3, .int (nI (B j + i))), (2, .int (nI (cnt T (B j) i))), (0, .ref (a 0)), (1, .ref (q j))] → W p l e (headSpec w_Hop_keysIn (rmD 1 0 0)).room s m ([.ref (a 0), .ref (q j)] : List Value).toArray below meth c0 s.heap [] 0 0 (MQ below (hq_R (some (.int (nI (cnt T (B j) (P j)))))) ([.ref (a 0), .ref (q j)] : List Value).toArray s 0 0 hq_no) (F0 m 7 ls []) := by
    intro n
    induction n with
    | zero =>
      intro i ls hi hl
      have hiP : i = P j := by omega
      refine lv_iload_n hx hb d_Hop_keysIn_7 rfl (lv_at hl 0 rfl) ?_
      refine lv_aload_n hx hb d_Hop_keysIn_8 rfl (lv_at hl 3 rfl) ?_
      refine k_end X hK hP hl.1 hj (Nat.le_of_ble_eq_true rfl) ⟨Nat.zero_le _, Nat.zero_le _⟩ ⟨Nat.le_of_ble_eq_true rfl, Nat.le_of_ble_eq_true rfl⟩ d_Hop_keysIn_9 ?_
      refine lvT_icmp_ge (tgt := 33) hx hb d_Hop_keysIn_12 (by decide) (nI_le (a := B j + P j) (b := B j + i) (by omega) (by omega)) ?_
      refine lv_iload_n hx hb d_Hop_keysIn_33 rfl (lv_at hl 1 rfl) ?_
      exact W.iret (v := nI (cnt T (B j) i)) hx hb hr (fun t ht hW => ⟨by rw [hiP], ht⟩) hq_nl d_Hop_keysIn_34
    | succ n ih =>
      intro i ls hi hl
      refine lv_iload_n hx hb d_Hop_keysIn_7 rfl (lv_at hl 0 rfl) ?_
      refine lv_aload_n hx hb d_Hop_keysIn_8 rfl (lv_at hl 3 rfl) ?_
      refine k_end X hK hP hl.1 hj (Nat.le_of_ble_eq_true rfl) ⟨Nat.zero_le _, Nat.zero_le _⟩ ⟨Nat.le_of_ble_eq_true rfl, Nat.le_of_ble_eq_true rfl⟩ d_Hop_keysIn_9 ?_
      refine lvF_icmp_ge (tgt := 33) hx hb d_Hop_keysIn_12 (by decide) (nI_ge (a := B j + i) (b := B j + P j) (by omega) (by omega)) ?_
      refine lv_aload_n hx hb d_Hop_keysIn_15 rfl (lv_at hl 2 rfl) ?_
      refine hg_taken X hK hP d_Hop_keysIn_16 ?_
      refine lv_iload_n hx hb d_Hop_keysIn_19 rfl (lv_at hl 0 rfl) ?_
      refine hl_T X hK hP (i := B j + i) (by omega) d_Hop_keysIn_20 ?_
      refine lv_if_eq (tgt := 27) hx hb d_Hop_keysIn_21 (by decide) (fun h1 => ?_) (fun h1 => ?_)
      · have e1 : cnt T (B j) (i + 1) = cnt T (B j) i := if_neg (by rw [bI_0.mp h1]; decide)
        refine lv_iinc (k := 0) (v := nI (B j + i + 1)) (lv' := [(3, .int (nI (B j + i + 1))), (2, .int (nI (cnt T (B j) i))), (0, .ref (a 0)), (1, .ref (q j))]) hx hb d_Hop_keysIn_27 hl rfl (inc1 (B j + i)) (by decide) rfl (fun ls hl => ?_)
        refine lv_goto (tgt := 7) hx hb d_Hop_keysIn_30 (by decide) ?_
        exact ih (i + 1) ls (by omega) (by rw [e1]; exact hl)
      · have e1 : cnt T (B j) (i + 1) = cnt T (B j) i + 1 := if_pos (bI_n0.mp h1)
        refine lv_iinc (k := 1) (v := nI (cnt T (B j) i + 1)) (lv' := [(2, .int (nI (cnt T (B j) i + 1))), (3, .int (nI (B j + i))), (0, .ref (a 0)), (1, .ref (q j))]) hx hb d_Hop_keysIn_24 hl rfl (inc1 _) (by decide) rfl (fun ls hl => ?_)
        refine lv_iinc (k := 1) (v := nI (B j + i + 1)) (lv' := [(3, .int (nI (B j + i + 1))), (2, .int (nI (cnt T (B j) i + 1))), (0, .ref (a 0)), (1, .ref (q j))]) hx hb d_Hop_keysIn_27 hl rfl (inc1 (B j + i)) (by decide) rfl (fun ls hl => ?_)
        refine lv_goto (tgt := 7) hx hb d_Hop_keysIn_30 (by decide) ?_
        exact ih (i + 1) ls (by omega) (by rw [e1]; exact lv_sub hl [0, 1, 2, 3] rfl)
  refine lv_iconst (v := 0) hx hb d_Hop_keysIn_0 (by decide) ?_
  refine lv_istore_n (lv' := [(2, .int 0), (0, .ref (a 0)), (1, .ref (q j))]) hx hb d_Hop_keysIn_1 rfl hl (by decide) rfl (fun ls hl => ?_)
  refine lv_aload_n hx hb d_Hop_keysIn_2 rfl (lv_at hl 2 rfl) ?_
  refine hg_base X hK hP hj d_Hop_keysIn_3 ?_
  refine lv_istore_n (lv' := [(3, .int (nI (B j))), (2, .int 0), (0, .ref (a 0)), (1, .ref (q j))]) hx hb d_Hop_keysIn_6 rfl hl (by decide) rfl (fun ls hl => ?_)
  exact loop (P j) 0 ls (by omega) (lv_sub hl [0, 1, 2, 3] rfl)
set_option maxHeartbeats 4000000 in
set_option maxRecDepth 100000 in
/-- isBitSet -/
theorem c_Hop_isBitSet (l : Launch) (D : va_G) (ca a q : Nat → Nat) (K V : IT) (T : BT) (C : IT) (B P : Nat → Nat) (S : IT) (j : Nat) (hj : j < 4) (h i : Nat) (hc : pw (P j)) (hbd : B j + P j ≤ 256) (hh : h < 65536) (hi : i < 65536) : Met l y_Hop_isBitSet w_Hop_isBitSet (rmD 1 0 0) (va_Pc [.ref (a 0), .ref (q j), .int (nI h), .int (nI i)] (hb_R D hCl (wH ca a q K V T C B P S) (tyH ca))) (hq_R (some (.int (bI (bit T K (B j) (P j) (S j) h i))))) 0 0 hq_no := by
  refine Met.ofW (cc := b_Hop_isBitSet) (maxL := 5) (ret := some .boolean) (by decide) rfl ?_
  intro p e s m args below meth c0 s₁ B0 hml hv
  obtain ⟨rfl, hP, hK⟩ := hv
  have hx := B0.exec
  have hb := B0.bytes
  have hr := B0.returns
  have hts := atoms_spec (ws := w_Hop_isBitSet) B0.pre
  have hown : s.vm.findClass R_Hop = some m.cls := findClass_of_methodNamed B0.named
  have hlocks := B0.notSynchronized
  have hwA : ∀ w ∈ wsA, w.before ([.ref (a 0), .ref (q j), .int (nI h), .int (nI i)] : List Value).toArray s = true := fun w h => hts w (List.mem_cons_of_mem _ h)
  have X : CallFix p m c0 b_Hop_isBitSet 5 s ([.ref (a 0), .ref (q j), .int (nI h), .int (nI i)] : List Value).toArray wsA R_Hop := ⟨hx, hb, hml, hown, hwA⟩
  have hl := lv_entry ([.ref (a 0), .ref (q j), .int (nI h), .int (nI i)]) (n := 5) (Nat.le_of_ble_eq_true rfl)
  rw [lg_entry_eq]
  generalize (lg_sl ([.ref (a 0), .ref (q j), .int (nI h), .int (nI i)]) ++ List.replicate (5 - (lg_sl ([.ref (a 0), .ref (q j), .int (nI h), .int (nI i)])).length) Slot.unset).toArray = ls at hl ⊢
  have hl : lv_has ls 5 [(0, .ref (a 0)), (1, .ref (q j)), (2, .int (nI h)), (3, .int (nI i))] := hl
  refine lv_aload_n hx hb d_Hop_isBitSet_0 rfl (lv_at hl 1 rfl) ?_
  refine lv_iload_n hx hb d_Hop_isBitSet_1 rfl (lv_at hl 2 rfl) ?_
  refine lv_iload_n hx hb d_Hop_isBitSet_2 rfl (lv_at hl 3 rfl) ?_
  refine lv_iadd hx hb d_Hop_isBitSet_3 ?_
  refine lv_tope (y := nI (h + i)) (nI_add _ _) ?_
  refine k_slotOf X hK hP hl.1 (x := h + i) hc (by omega) hj (Nat.le_of_ble_eq_true rfl) ⟨Nat.zero_le _, Nat.zero_le _⟩ ⟨Nat.le_of_ble_eq_true rfl, Nat.le_of_ble_eq_true rfl⟩ d_Hop_isBitSet_4 ?_
  refine lv_istore (lv' := [(4, .int (nI (B j + (h + i) % P j))), (0, .ref (a 0)), (1, .ref (q j)), (2, .int (nI h)), (3, .int (nI i))]) hx hb d_Hop_isBitSet_7 hl (by decide) rfl (fun ls hl => ?_)
  refine lv_aload_n hx hb d_Hop_isBitSet_9 rfl (lv_at hl 1 rfl) ?_
  refine hg_taken X hK hP d_Hop_isBitSet_10 ?_
  refine lv_iload hx hb d_Hop_isBitSet_13 (lv_at hl 0 rfl) ?_
  refine hl_T X hK hP (i := B j + (h + i) % P j) (sl_lt hc hbd) d_Hop_isBitSet_15 ?_
  refine lv_if_eq (tgt := 38) hx hb d_Hop_isBitSet_16 (by decide) (fun h1 => ?_) (fun h1 => ?_)
  · refine lv_iconst (v := 0) hx hb d_Hop_isBitSet_38 (by decide) ?_
    exact W.zret (v := 0) hx hb hr rfl (fun t ht hW => ⟨by unfold bit; rw [bI_0.mp h1]; rfl, ht⟩) hq_nl d_Hop_isBitSet_39
  · refine lv_aload_n hx hb d_Hop_isBitSet_19 rfl (lv_at hl 2 rfl) ?_
    refine lv_aload_n hx hb d_Hop_isBitSet_20 rfl (lv_at hl 1 rfl) ?_
    refine hg_keys X hK hP d_Hop_isBitSet_21 ?_
    refine lv_iload hx hb d_Hop_isBitSet_24 (lv_at hl 0 rfl) ?_
    refine hl_K X hK hP (i := B j + (h + i) % P j) (sl_lt hc hbd) d_Hop_isBitSet_26 ?_
    refine k_homeOf X hK hP hl.1 hc hj (Nat.le_of_ble_eq_true rfl) ⟨Nat.zero_le _, Nat.zero_le _⟩ ⟨Nat.le_of_ble_eq_true rfl, Nat.le_of_ble_eq_true rfl⟩ d_Hop_isBitSet_27 ?_
    refine lv_iload_n hx hb d_Hop_isBitSet_30 rfl (lv_at hl 3 rfl) ?_
    refine lv_icmp_ne (tgt := 38) hx hb d_Hop_isBitSet_31 (by decide) (fun h2 => ?_) (fun h2 => ?_)
    · refine lv_iconst (v := 0) hx hb d_Hop_isBitSet_38 (by decide) ?_
      exact W.zret (v := 0) hx hb hr rfl (fun t ht hW => ⟨by unfold bit; rw [bI_n0.mp h1, decide_eq_false (fun z => h2 ((nI_eq (by have := hom_lt (key := K (B j + (h + i) % P j)) (s := S j) hc; have := pw_le hc; omega) (by omega)).mpr z))]; rfl, ht⟩) hq_nl d_Hop_isBitSet_39
    · refine lv_iconst (v := 1) hx hb d_Hop_isBitSet_34 (by decide) ?_
      refine lv_goto (tgt := 39) hx hb d_Hop_isBitSet_35 (by decide) ?_
      exact W.zret (v := 1) hx hb hr rfl (fun t ht hW => ⟨by unfold bit; rw [bI_n0.mp h1, decide_eq_true ((nI_eq (by have := hom_lt (key := K (B j + (h + i) % P j)) (s := S j) hc; have := pw_le hc; omega) (by omega)).mp (h2))]; rfl, ht⟩) hq_nl d_Hop_isBitSet_39
set_option maxHeartbeats 4000000 in
set_option maxRecDepth 100000 in
/-- stepsToFree -/
theorem c_Hop_stepsToFree (l : Launch) (D : va_G) (ca a q : Nat → Nat) (K V : IT) (T : BT) (C : IT) (B P : Nat → Nat) (S : IT) (j : Nat) (hj : j < 4) (h : Nat) (hc : pw (P j)) (hbd : B j + P j ≤ 256) (hh : h < 65536) : Met l y_Hop_stepsToFree w_Hop_stepsToFree (rmD 1 0 0) (va_Pc [.ref (a 0), .ref (q j), .int (nI h)] (hb_R D hCl (wH ca a q K V T C B P S) (tyH ca))) (hq_R (some (.int (oI (stp T (B j) (P j) h 0 (P j)))))) 0 0 hq_no := by
  refine Met.ofW (cc := b_Hop_stepsToFree) (maxL := 4) (ret := some .int) (by decide) rfl ?_
  intro p e s m args below meth c0 s₁ B0 hml hv
  obtain ⟨rfl, hP, hK⟩ := hv
  have hx := B0.exec
  have hb := B0.bytes
  have hr := B0.returns
  have hts := atoms_spec (ws := w_Hop_stepsToFree) B0.pre
  have hown : s.vm.findClass R_Hop = some m.cls := findClass_of_methodNamed B0.named
  have hlocks := B0.notSynchronized
  have hwA : ∀ w ∈ wsA, w.before ([.ref (a 0), .ref (q j), .int (nI h)] : List Value).toArray s = true := fun w h => hts w (List.mem_cons_of_mem _ h)
  have X : CallFix p m c0 b_Hop_stepsToFree 4 s ([.ref (a 0), .ref (q j), .int (nI h)] : List Value).toArray wsA R_Hop := ⟨hx, hb, hml, hown, hwA⟩
  have hl := lv_entry ([.ref (a 0), .ref (q j), .int (nI h)]) (n := 4) (Nat.le_of_ble_eq_true rfl)
  rw [lg_entry_eq]
  generalize (lg_sl ([.ref (a 0), .ref (q j), .int (nI h)]) ++ List.replicate (4 - (lg_sl ([.ref (a 0), .ref (q j), .int (nI h)])).length) Slot.unset).toArray = ls at hl ⊢
  have hl : lv_has ls 4 [(0, .ref (a 0)), (1, .ref (q j)), (2, .int (nI h))] := hl
  have hP8 := pw_le hc
  have loop : ∀ (n i : Nat) (ls : Array Slot), i + n = P j → stp T (B j) (P j) h i n = stp T (B j) (P j) h 0 (P j) → lv_has ls 4 [(3, .int (nI i)), (0, .ref (a 0)), (1, .ref (q j)), (2, .int (nI h))] → W p l e (headSpec w_Hop_stepsToFree (rmD 1 0 0)).room s m ([.ref (a 0), .ref (q j), .int (nI h)] : List Value).toArray below meth c0 s.heap [] 0 0 (MQ below (hq_R (some (.int (oI (stp T (B j) (P j) h 0 (P j)))))) ([.ref (a 0), .ref (q j), .int (nI h)] : List Value).toArray s 0 0 hq_no) (F0 m 2 ls []) := by
    intro n
    induction n with
    | zero =>
      intro i ls hi hf hl
      refine lv_iload_n hx hb d_Hop_stepsToFree_2 rfl (lv_at hl 0 rfl) ?_
      refine lv_aload_n hx hb d_Hop_stepsToFree_3 rfl (lv_at hl 2 rfl) ?_
      refine hg_capacity X hK hP hj d_Hop_stepsToFree_4 ?_
      refine lvT_icmp_ge (tgt := 33) hx hb d_Hop_stepsToFree_7 (by decide) (nI_le (a := P j) (b := i) (by omega) (by omega)) ?_
      refine lv_iconst (v := -1) hx hb d_Hop_stepsToFree_33 (by decide) ?_
      exact W.iret (v := -1) hx hb hr (fun t ht hW => ⟨by rw [← hf]; rfl, ht⟩) hq_nl d_Hop_stepsToFree_34
    | succ n ih =>
      intro i ls hi hf hl
      refine lv_iload_n hx hb d_Hop_stepsToFree_2 rfl (lv_at hl 0 rfl) ?_
      refine lv_aload_n hx hb d_Hop_stepsToFree_3 rfl (lv_at hl 2 rfl) ?_
      refine hg_capacity X hK hP hj d_Hop_stepsToFree_4 ?_
      refine lvF_icmp_ge (tgt := 33) hx hb d_Hop_stepsToFree_7 (by decide) (nI_ge (a := i) (b := P j) (by omega) (by omega)) ?_
      refine lv_aload_n hx hb d_Hop_stepsToFree_10 rfl (lv_at hl 1 rfl) ?_
      refine hg_taken X hK hP d_Hop_stepsToFree_11 ?_
      refine lv_aload_n hx hb d_Hop_stepsToFree_14 rfl (lv_at hl 2 rfl) ?_
      refine lv_iload_n hx hb d_Hop_stepsToFree_15 rfl (lv_at hl 3 rfl) ?_
      refine lv_iload_n hx hb d_Hop_stepsToFree_16 rfl (lv_at hl 0 rfl) ?_
      refine lv_iadd hx hb d_Hop_stepsToFree_17 ?_
      refine lv_tope (y := nI (h + i)) (nI_add _ _) ?_
      refine k_slotOf X hK hP hl.1 (x := h + i) hc (by omega) hj (Nat.le_of_ble_eq_true rfl) ⟨Nat.zero_le _, Nat.zero_le _⟩ ⟨Nat.le_of_ble_eq_true rfl, Nat.le_of_ble_eq_true rfl⟩ d_Hop_stepsToFree_18 ?_
      refine hl_T X hK hP (i := B j + (h + i) % P j) (sl_lt hc hbd) d_Hop_stepsToFree_21 ?_
      refine lv_if_ne (tgt := 27) hx hb d_Hop_stepsToFree_22 (by decide) (fun h1 => ?_) (fun h1 => ?_)
      · refine lv_iinc (k := 0) (v := nI (i + 1)) (lv' := [(3, .int (nI (i + 1))), (0, .ref (a 0)), (1, .ref (q j)), (2, .int (nI h))]) hx hb d_Hop_stepsToFree_27 hl rfl (inc1 i) (by decide) rfl (fun ls hl => ?_)
        refine lv_goto (tgt := 2) hx hb d_Hop_stepsToFree_30 (by decide) ?_
        exact ih (i + 1) ls (by omega) (by rw [← hf]; exact (if_neg (by rw [bI_n0.mp h1]; decide)).symm) hl
      · refine lv_iload_n hx hb d_Hop_stepsToFree_25 rfl (lv_at hl 0 rfl) ?_
        exact W.iret (v := nI i) hx hb hr (fun t ht hW => ⟨by rw [← hf]; show _ = Outcome.returned (some (Value.int (oI (ite _ _ _)))); rw [if_pos (bI_0.mp (h1))]; rfl, ht⟩) hq_nl d_Hop_stepsToFree_26
  refine lv_iconst (v := 0) hx hb d_Hop_stepsToFree_0 (by decide) ?_
  refine lv_istore_n (lv' := [(3, .int 0), (0, .ref (a 0)), (1, .ref (q j)), (2, .int (nI h))]) hx hb d_Hop_stepsToFree_1 rfl hl (by decide) rfl (fun ls hl => ?_)
  exact loop (P j) 0 ls (by omega) rfl hl
