set_option maxHeartbeats 4000000 in
set_option maxRecDepth 100000 in
/-- insert -/
theorem c_Hop_insert (l : Launch) (D : va_G) (ca a q : Nat → Nat) (K V : IT) (T : BT) (C : IT) (B P : Nat → Nat) (S : IT) (j : Nat) (hj : j < 4) (key val : Int32) (hc : pw (P j)) (hbd : B j + P j ≤ 256) : Met l y_Hop_insert w_Hop_insert (rmD 3 0 0) (va_Pc [.ref (a 0), .ref (q j), .int key, .int val] (hb_W D hCl (wH ca a q K V T C B P S) (tyH ca))) (hq_W (some (.int (bI (ins (B j) (P j) (S j) key val (K, V, T, C)).1))) D hCl (wH ca a q (ins (B j) (P j) (S j) key val (K, V, T, C)).2.1 (ins (B j) (P j) (S j) key val (K, V, T, C)).2.2.1 (ins (B j) (P j) (S j) key val (K, V, T, C)).2.2.2.1 (ins (B j) (P j) (S j) key val (K, V, T, C)).2.2.2.2 B P S) (hA (wH ca a q K V T C B P S))) 0 0 (hA (wH ca a q K V T C B P S)) := by
  refine Met.ofW (cc := b_Hop_insert) (maxL := 8) (ret := some .boolean) (by decide) rfl ?_
  intro p e s m args below meth c0 s₁ B0 hml hv
  obtain ⟨rfl, hP, hK, hD0⟩ := hv
  have hx := B0.exec
  have hb := B0.bytes
  have hr := B0.returns
  have hts := atoms_spec (ws := w_Hop_insert) B0.pre
  have hown : s.vm.findClass R_Hop = some m.cls := findClass_of_methodNamed B0.named
  have hlocks := B0.notSynchronized
  have hwA : ∀ w ∈ wsA, w.before ([.ref (a 0), .ref (q j), .int key, .int val] : List Value).toArray s = true := fun w h => hts w (List.mem_cons_of_mem _ h)
  have X : CallFix p m c0 b_Hop_insert 8 s ([.ref (a 0), .ref (q j), .int key, .int val] : List Value).toArray wsA R_Hop := ⟨hx, hb, hml, hown, hwA⟩
  have hD := hA_D hD0
  have hS : va_S (hA (wH ca a q K V T C B P S)) s.heap s.heap [] := va_S.rf
  have hl := lv_entry ([.ref (a 0), .ref (q j), .int key, .int val]) (n := 8) (Nat.le_of_ble_eq_true rfl)
  rw [lg_entry_eq]
  generalize (lg_sl ([.ref (a 0), .ref (q j), .int key, .int val]) ++ List.replicate (8 - (lg_sl ([.ref (a 0), .ref (q j), .int key, .int val])).length) Slot.unset).toArray = ls at hl ⊢
  have hl : lv_has ls 8 [(0, .ref (a 0)), (1, .ref (q j)), (2, .int key), (3, .int val)] := hl
  have hP8 := pw_le hc
  have hP0 := pw_pos hc
  have hh := hom_lt (key := key) (s := S j) hc
  have loop : ∀ (n i b : Nat) (ls : Array Slot) (H : Heap) (locs : List Loc) (K' V' : IT) (T' : BT) (C' : IT), i + n = P j → b < P j → inL (B j) (P j) (S j) (hom key (S j) (P j)) key val n b (K', V', T', C') = (ins (B j) (P j) (S j) key val (K, V, T, C)) → va_P D hCl (wH ca a q K' V' T' C' B P S) H → va_D (hA (wH ca a q K V T C B P S)) (wH ca a q K' V' T' C' B P S) → va_S (hA (wH ca a q K V T C B P S)) s.heap H locs → lv_has ls 8 [(6, .int (nI i)), (5, .int (nI b)), (4, .int (nI (hom key (S j) (P j)))), (0, .ref (a 0)), (1, .ref (q j)), (2, .int key), (3, .int val)] → W p l e (headSpec w_Hop_insert (rmD 3 0 0)).room s m ([.ref (a 0), .ref (q j), .int key, .int val] : List Value).toArray below meth c0 H locs 0 0 (MQ below (hq_W (some (.int (bI (ins (B j) (P j) (S j) key val (K, V, T, C)).1))) D hCl (wH ca a q (ins (B j) (P j) (S j) key val (K, V, T, C)).2.1 (ins (B j) (P j) (S j) key val (K, V, T, C)).2.2.1 (ins (B j) (P j) (S j) key val (K, V, T, C)).2.2.2.1 (ins (B j) (P j) (S j) key val (K, V, T, C)).2.2.2.2 B P S) (hA (wH ca a q K V T C B P S))) ([.ref (a 0), .ref (q j), .int key, .int val] : List Value).toArray s 0 0 (hA (wH ca a q K V T C B P S))) (F0 m 27 ls []) := by
    intro n
    induction n with
    | zero =>
      intro i b ls H locs K' V' T' C' hi hbl hR hP hD hS hl
      refine lv_iload hx hb d_Hop_insert_27 (lv_at hl 0 rfl) ?_
      refine lv_aload_n hx hb d_Hop_insert_29 rfl (lv_at hl 4 rfl) ?_
      refine hg_capacity X hK hP hj d_Hop_insert_30 ?_
      refine lvT_icmp_ge (tgt := 75) hx hb d_Hop_insert_33 (by decide) (nI_le (a := P j) (b := i) (by omega) (by omega)) ?_
      refine lv_aload_n hx hb d_Hop_insert_75 rfl (lv_at hl 4 rfl) ?_
      refine lv_iload hx hb d_Hop_insert_76 (lv_at hl 2 rfl) ?_
      refine lv_iload hx hb d_Hop_insert_78 (lv_at hl 1 rfl) ?_
      refine lv_iadd hx hb d_Hop_insert_80 ?_
      refine lv_tope (y := nI (hom key (S j) (P j) + b)) (nI_add _ _) ?_
      refine k_slotOf X hK hP hl.1 (x := hom key (S j) (P j) + b) hc (by omega) hj (Nat.le_of_ble_eq_true rfl) ⟨Nat.zero_le _, Nat.zero_le _⟩ ⟨Nat.le_of_ble_eq_true rfl, Nat.le_of_ble_eq_true rfl⟩ d_Hop_insert_81 ?_
      refine lv_istore (lv' := [(6, .int (nI (B j + (hom key (S j) (P j) + b) % P j))), (5, .int (nI b)), (4, .int (nI (hom key (S j) (P j)))), (0, .ref (a 0)), (1, .ref (q j)), (2, .int key), (3, .int val)]) hx hb d_Hop_insert_84 hl (by decide) rfl (fun ls hl => ?_)
      refine lv_aload_n hx hb d_Hop_insert_86 rfl (lv_at hl 3 rfl) ?_
      refine hg_keys X hK hP d_Hop_insert_87 ?_
      refine lv_iload hx hb d_Hop_insert_90 (lv_at hl 0 rfl) ?_
      refine lv_iload_n hx hb d_Hop_insert_92 rfl (lv_at hl 5 rfl) ?_
      refine hs_K X hK hP hD hS (i := B j + (hom key (S j) (P j) + b) % P j) (x := key) (sl_lt hc hbd) d_Hop_insert_93 (fun H locs hP hD hS => ?_)
      refine lv_aload_n hx hb d_Hop_insert_94 rfl (lv_at hl 3 rfl) ?_
      refine hg_values X hK hP d_Hop_insert_95 ?_
      refine lv_iload hx hb d_Hop_insert_98 (lv_at hl 0 rfl) ?_
      refine lv_iload_n hx hb d_Hop_insert_100 rfl (lv_at hl 6 rfl) ?_
      refine hs_V X hK hP hD hS (i := B j + (hom key (S j) (P j) + b) % P j) (x := val) (sl_lt hc hbd) d_Hop_insert_101 (fun H locs hP hD hS => ?_)
      refine lv_aload_n hx hb d_Hop_insert_102 rfl (lv_at hl 3 rfl) ?_
      refine hg_taken X hK hP d_Hop_insert_103 ?_
      refine lv_iload hx hb d_Hop_insert_106 (lv_at hl 0 rfl) ?_
      refine lv_iconst (v := 1) hx hb d_Hop_insert_108 (by decide) ?_
      refine hs_T X hK hP hD hS (i := B j + (hom key (S j) (P j) + b) % P j) (x := true) (sl_lt hc hbd) d_Hop_insert_109 (fun H locs hP hD hS => ?_)
      refine lv_iconst (v := 1) hx hb d_Hop_insert_110 (by decide) ?_
      have hR1 : (ins (B j) (P j) (S j) key val (K, V, T, C)) = (true, upd K' (B j + (hom key (S j) (P j) + b) % P j) key, upd V' (B j + (hom key (S j) (P j) + b) % P j) val, va_up T' (B j + (hom key (S j) (P j) + b) % P j) true, C') := hR.symm
      exact W.zret (v := 1) hx hb hr rfl (fun t ht hW => ⟨by rw [hR1]; rfl, by rw [ht, hR1]; exact hP, hS.F ht⟩) hS.2.2 d_Hop_insert_111
    | succ n ih =>
      intro i b ls H locs K' V' T' C' hi hbl hR hP hD hS hl
      refine lv_iload hx hb d_Hop_insert_27 (lv_at hl 0 rfl) ?_
      refine lv_aload_n hx hb d_Hop_insert_29 rfl (lv_at hl 4 rfl) ?_
      refine hg_capacity X hK hP hj d_Hop_insert_30 ?_
      refine lvF_icmp_ge (tgt := 75) hx hb d_Hop_insert_33 (by decide) (nI_ge (a := i) (b := P j) (by omega) (by omega)) ?_
      refine lv_iload hx hb d_Hop_insert_36 (lv_at hl 1 rfl) ?_
      refine lv_bipush (v := 8) hx hb d_Hop_insert_38 (by decide) ?_
      refine lv_icmp_lt (tgt := 75) hx hb d_Hop_insert_40 (by decide) (fun h1 => ?_) (fun h1 => ?_)
      · have hb8 : b < 8 := (nI_ltI (a := b) (b := 8) (by omega) (by omega)).mp h1
        refine lv_aload_n hx hb d_Hop_insert_75 rfl (lv_at hl 4 rfl) ?_
        refine lv_iload hx hb d_Hop_insert_76 (lv_at hl 2 rfl) ?_
        refine lv_iload hx hb d_Hop_insert_78 (lv_at hl 1 rfl) ?_
        refine lv_iadd hx hb d_Hop_insert_80 ?_
        refine lv_tope (y := nI (hom key (S j) (P j) + b)) (nI_add _ _) ?_
        refine k_slotOf X hK hP hl.1 (x := hom key (S j) (P j) + b) hc (by omega) hj (Nat.le_of_ble_eq_true rfl) ⟨Nat.zero_le _, Nat.zero_le _⟩ ⟨Nat.le_of_ble_eq_true rfl, Nat.le_of_ble_eq_true rfl⟩ d_Hop_insert_81 ?_
        refine lv_istore (lv' := [(6, .int (nI (B j + (hom key (S j) (P j) + b) % P j))), (5, .int (nI b)), (4, .int (nI (hom key (S j) (P j)))), (0, .ref (a 0)), (1, .ref (q j)), (2, .int key), (3, .int val)]) hx hb d_Hop_insert_84 hl (by decide) rfl (fun ls hl => ?_)
        refine lv_aload_n hx hb d_Hop_insert_86 rfl (lv_at hl 3 rfl) ?_
        refine hg_keys X hK hP d_Hop_insert_87 ?_
        refine lv_iload hx hb d_Hop_insert_90 (lv_at hl 0 rfl) ?_
        refine lv_iload_n hx hb d_Hop_insert_92 rfl (lv_at hl 5 rfl) ?_
        refine hs_K X hK hP hD hS (i := B j + (hom key (S j) (P j) + b) % P j) (x := key) (sl_lt hc hbd) d_Hop_insert_93 (fun H locs hP hD hS => ?_)
        refine lv_aload_n hx hb d_Hop_insert_94 rfl (lv_at hl 3 rfl) ?_
        refine hg_values X hK hP d_Hop_insert_95 ?_
        refine lv_iload hx hb d_Hop_insert_98 (lv_at hl 0 rfl) ?_
        refine lv_iload_n hx hb d_Hop_insert_100 rfl (lv_at hl 6 rfl) ?_
        refine hs_V X hK hP hD hS (i := B j + (hom key (S j) (P j) + b) % P j) (x := val) (sl_lt hc hbd) d_Hop_insert_101 (fun H locs hP hD hS => ?_)
        refine lv_aload_n hx hb d_Hop_insert_102 rfl (lv_at hl 3 rfl) ?_
        refine hg_taken X hK hP d_Hop_insert_103 ?_
        refine lv_iload hx hb d_Hop_insert_106 (lv_at hl 0 rfl) ?_
        refine lv_iconst (v := 1) hx hb d_Hop_insert_108 (by decide) ?_
        refine hs_T X hK hP hD hS (i := B j + (hom key (S j) (P j) + b) % P j) (x := true) (sl_lt hc hbd) d_Hop_insert_109 (fun H locs hP hD hS => ?_)
        refine lv_iconst (v := 1) hx hb d_Hop_insert_110 (by decide) ?_
        have hR1 : (ins (B j) (P j) (S j) key val (K, V, T, C)) = (true, upd K' (B j + (hom key (S j) (P j) + b) % P j) key, upd V' (B j + (hom key (S j) (P j) + b) % P j) val, va_up T' (B j + (hom key (S j) (P j) + b) % P j) true, C') := hR.symm.trans (inL_p hb8)
        exact W.zret (v := 1) hx hb hr rfl (fun t ht hW => ⟨by rw [hR1]; rfl, by rw [ht, hR1]; exact hP, hS.F ht⟩) hS.2.2 d_Hop_insert_111
      · have hb8 : ¬ b < 8 := fun z => h1 ((nI_ltI (a := b) (b := 8) (by omega) (by omega)).mpr z)
        refine lv_aload_n hx hb d_Hop_insert_43 rfl (lv_at hl 3 rfl) ?_
        refine lv_aload_n hx hb d_Hop_insert_44 rfl (lv_at hl 4 rfl) ?_
        refine lv_iload hx hb d_Hop_insert_45 (lv_at hl 2 rfl) ?_
        refine lv_iload hx hb d_Hop_insert_47 (lv_at hl 1 rfl) ?_
        refine lv_iadd hx hb d_Hop_insert_49 ?_
        refine lv_tope (y := nI (hom key (S j) (P j) + b)) (nI_add _ _) ?_
        refine k_hopNearer X hK hP hD hS hl.1 (f := hom key (S j) (P j) + b) hj hc hbd (by omega) (by omega) (Nat.le_of_ble_eq_true rfl) ⟨Nat.zero_le _, Nat.zero_le _⟩ ⟨Nat.le_of_ble_eq_true rfl, Nat.le_of_ble_eq_true rfl⟩ d_Hop_insert_50 (fun H locs hP hD hS => ?_)
        cases hq : hpD T' K' (B j) (P j) (S j) (hom key (S j) (P j) + b) 7 with
        | none =>
          rw [hq] at hP hD
          refine lv_tope (y := 0) rfl ?_
          refine lv_istore (lv' := [(7, .int 0), (6, .int (nI i)), (5, .int (nI b)), (4, .int (nI (hom key (S j) (P j)))), (0, .ref (a 0)), (1, .ref (q j)), (2, .int key), (3, .int val)]) hx hb d_Hop_insert_53 hl (by decide) rfl (fun ls hl => ?_)
          refine lv_iload hx hb d_Hop_insert_55 (lv_at hl 0 rfl) ?_
          refine lvF_if_ne (tgt := 62) hx hb d_Hop_insert_57 (by decide) (by decide) ?_
          refine lv_iconst (v := 0) hx hb d_Hop_insert_60 (by decide) ?_
          have hR1 : (ins (B j) (P j) (S j) key val (K, V, T, C)) = (false, K', V', T', C') := hR.symm.trans (inL_n (X := (K', V', T', C')) hb8 hq)
          exact W.zret (v := 0) hx hb hr rfl (fun t ht hW => ⟨by rw [hR1]; rfl, by rw [ht, hR1]; exact hP, hS.F ht⟩) hS.2.2 d_Hop_insert_61
        | some x =>
          obtain ⟨d, i1⟩ := x
          rw [hq] at hP hD
          have hdi := hpD_lt _ _ _ hq
          refine lv_tope (y := nI (d - i1)) rfl ?_
          refine lv_istore (lv' := [(7, .int (nI (d - i1))), (6, .int (nI i)), (5, .int (nI b)), (4, .int (nI (hom key (S j) (P j)))), (0, .ref (a 0)), (1, .ref (q j)), (2, .int key), (3, .int val)]) hx hb d_Hop_insert_53 hl (by decide) rfl (fun ls hl => ?_)
          refine lv_iload hx hb d_Hop_insert_55 (lv_at hl 0 rfl) ?_
          refine lvT_if_ne (tgt := 62) hx hb d_Hop_insert_57 (by decide) (nI_ne0 (by omega) (by omega)) ?_
          refine lv_iload hx hb d_Hop_insert_62 (lv_at hl 2 rfl) ?_
          refine lv_iload hx hb d_Hop_insert_64 (lv_at hl 0 rfl) ?_
          refine lv_isub hx hb d_Hop_insert_66 ?_
          refine lv_tope (y := nI (b - (d - i1))) (pk_sub (by omega)) ?_
          refine lv_istore (lv' := [(5, .int (nI (b - (d - i1)))), (7, .int (nI (d - i1))), (6, .int (nI i)), (4, .int (nI (hom key (S j) (P j)))), (0, .ref (a 0)), (1, .ref (q j)), (2, .int key), (3, .int val)]) hx hb d_Hop_insert_67 hl (by decide) rfl (fun ls hl => ?_)
          refine lv_iinc (k := 2) (v := nI (i + 1)) (lv' := [(6, .int (nI (i + 1))), (5, .int (nI (b - (d - i1)))), (7, .int (nI (d - i1))), (4, .int (nI (hom key (S j) (P j)))), (0, .ref (a 0)), (1, .ref (q j)), (2, .int key), (3, .int val)]) hx hb d_Hop_insert_69 hl rfl (inc1 i) (by decide) rfl (fun ls hl => ?_)
          refine lv_goto (tgt := 27) hx hb d_Hop_insert_72 (by decide) ?_
          exact ih (i + 1) (b - (d - i1)) ls H locs _ _ _ _ (by omega) (by omega) ((inL_s (X := (K', V', T', C')) hb8 hq).symm.trans hR) hP hD hS (lv_sub hl [0, 1, 3, 4, 5, 6, 7] rfl)
  refine lv_aload_n hx hb d_Hop_insert_0 rfl (lv_at hl 1 rfl) ?_
  refine lv_iload_n hx hb d_Hop_insert_1 rfl (lv_at hl 2 rfl) ?_
  refine k_homeOf X hK hP hl.1 hc hj (Nat.le_of_ble_eq_true rfl) ⟨Nat.zero_le _, Nat.zero_le _⟩ ⟨Nat.le_of_ble_eq_true rfl, Nat.le_of_ble_eq_true rfl⟩ d_Hop_insert_2 ?_
  refine lv_istore (lv' := [(4, .int (nI (hom (key) (S j) (P j)))), (0, .ref (a 0)), (1, .ref (q j)), (2, .int key), (3, .int val)]) hx hb d_Hop_insert_5 hl (by decide) rfl (fun ls hl => ?_)
  refine lv_aload_n hx hb d_Hop_insert_7 rfl (lv_at hl 1 rfl) ?_
  refine lv_aload_n hx hb d_Hop_insert_8 rfl (lv_at hl 2 rfl) ?_
  refine lv_iload hx hb d_Hop_insert_9 (lv_at hl 0 rfl) ?_
  refine k_stepsToFree X hK hP hl.1 (h := hom (key) (S j) (P j)) hj hc hbd (by omega) (Nat.le_of_ble_eq_true rfl) ⟨Nat.zero_le _, Nat.zero_le _⟩ ⟨Nat.le_of_ble_eq_true rfl, Nat.le_of_ble_eq_true rfl⟩ d_Hop_insert_11 ?_
  cases hst : stp T (B j) (P j) (hom key (S j) (P j)) 0 (P j) with
  | none =>
    refine lv_tope (y := -1) rfl ?_
    refine lv_istore (lv' := [(5, .int (-1)), (4, .int (nI (hom (key) (S j) (P j)))), (0, .ref (a 0)), (1, .ref (q j)), (2, .int key), (3, .int val)]) hx hb d_Hop_insert_14 hl (by decide) rfl (fun ls hl => ?_)
    refine lv_iload hx hb d_Hop_insert_16 (lv_at hl 0 rfl) ?_
    refine lv_iconst (v := -1) hx hb d_Hop_insert_18 (by decide) ?_
    refine lvF_icmp_ne (tgt := 24) hx hb d_Hop_insert_19 (by decide) (by decide) ?_
    refine lv_iconst (v := 0) hx hb d_Hop_insert_22 (by decide) ?_
    have hR1 : (ins (B j) (P j) (S j) key val (K, V, T, C)) = (false, K, V, T, C) := ins_n (X := (K, V, T, C)) hst
    exact W.zret (v := 0) hx hb hr rfl (fun t ht hW => ⟨by rw [hR1]; rfl, by rw [ht, hR1]; exact hP, hS.F ht⟩) hS.2.2 d_Hop_insert_23
  | some b1 =>
    have hb1 := stp_lt _ _ _ hst
    refine lv_tope (y := nI b1) rfl ?_
    refine lv_istore (lv' := [(5, .int (nI b1)), (4, .int (nI (hom (key) (S j) (P j)))), (0, .ref (a 0)), (1, .ref (q j)), (2, .int key), (3, .int val)]) hx hb d_Hop_insert_14 hl (by decide) rfl (fun ls hl => ?_)
    refine lv_iload hx hb d_Hop_insert_16 (lv_at hl 0 rfl) ?_
    refine lv_iconst (v := -1) hx hb d_Hop_insert_18 (by decide) ?_
    refine lvT_icmp_ne (tgt := 24) hx hb d_Hop_insert_19 (by decide) (nI_m1 (by omega)) ?_
    refine lv_iconst (v := 0) hx hb d_Hop_insert_24 (by decide) ?_
    refine lv_istore (lv' := [(6, .int 0), (5, .int (nI b1)), (4, .int (nI (hom (key) (S j) (P j)))), (0, .ref (a 0)), (1, .ref (q j)), (2, .int key), (3, .int val)]) hx hb d_Hop_insert_25 hl (by decide) rfl (fun ls hl => ?_)
    exact loop (P j) 0 b1 ls s.heap [] K V T C (by omega) (by omega) (ins_s (X := (K, V, T, C)) hst).symm hP hD hS hl
section HKB
variable {p : Program} {l : Launch} {e : Env} {R : Room} {s : State} {m : MethodId} {args : Array Value} {below : List Frame} {meth : Method} {c : Code} {H : Heap} {locs : List Loc} {cells slots : Nat} {Q : State → Prop}
variable {cc : ByteArray} {pc nL : Nat} {ls : Array Slot} {rest st0 : List Value} {D : va_G} {A : Nat → Prop} {H0 : Heap} {ca a q : Nat → Nat} {K V : IT} {T : BT} {C : IT} {B P : Nat → Nat} {S : IT}
theorem k_insert (X : CallFix p m c cc nL s args wsA R_Hop) (hK : va_K D hCl (tyH ca) s) (hP : va_P D hCl (wH ca a q K V T C B P S) H) (hD : va_D A (wH ca a q K V T C B P S)) (hS : va_S A H0 H locs) (hsz : ls.size = nL) {j : Nat} {key val : Int32} (hj : j < 4) (hc : pw (P j)) (hbd : B j + P j ≤ 256) (hrm : (rest.map fun v => v.category).sum ≤ 8) (hf : cells ≤ R.cells ∧ slots ≤ R.slots) (hR : 4 ≤ R.frames ∧ 120 ≤ R.locals) (d : decode cc pc = .ok (.invokevirtual 44, 3)) (k : ∀ (H1 : Heap) (locs1 : List Loc), va_P D hCl (wH ca a q (ins (B j) (P j) (S j) key val (K, V, T, C)).2.1 (ins (B j) (P j) (S j) key val (K, V, T, C)).2.2.1 (ins (B j) (P j) (S j) key val (K, V, T, C)).2.2.2.1 (ins (B j) (P j) (S j) key val (K, V, T, C)).2.2.2.2 B P S) H1 → va_D A (wH ca a q (ins (B j) (P j) (S j) key val (K, V, T, C)).2.1 (ins (B j) (P j) (S j) key val (K, V, T, C)).2.2.1 (ins (B j) (P j) (S j) key val (K, V, T, C)).2.2.2.1 (ins (B j) (P j) (S j) key val (K, V, T, C)).2.2.2.2 B P S) → va_S A H0 H1 locs1 → W p l e R s m args below meth c H1 locs1 cells slots Q (F0 m (pc + 3) ls (.int (bI (ins (B j) (P j) (S j) key val (K, V, T, C)).1) :: rest))) : W p l e R s m args below meth c H locs cells slots Q (F0 m pc ls (.int val :: .int key :: .ref (q j) :: .ref (a 0) :: rest)) :=
  hw_V (As := [.ref (q j), .int key, .int val]) (v := some (.int (bI (ins (B j) (P j) (S j) key val (K, V, T, C)).1))) (C := R_Hop) X (c_Hop_insert l D ca a q K V T C B P S j hj key val hc hbd) (cwV 3 X.2.2.2.2 g_Hop_insert rfl rfl rfl (by decide +kernel) ⟨by show 3 + 1 ≤ _; omega, by show 8 + (8 + 11) + 30 * 3 ≤ _; omega⟩) hP hK hD hS wH_a (va_recv (q0 := 0) (ci := 0) (q := (R_Hop, F_Hop, 6)) hK hP rfl rfl) rfl hsz rfl hrm hf d k
end HKB
